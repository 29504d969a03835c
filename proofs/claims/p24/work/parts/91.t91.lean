/-! small rules -/
/-! what holds of the reference's numbers at all times -/
section RG
variable {M : Nat} {I J : Nat → Nat → Int32}
def eC9 (M x j : Nat) : Prop := eC M x j ∨ (x = M ∧ j = 61) ∨ x = M + 39
def fr9 (M : Nat) (I J : Nat → Nat → Int32) : Prop := ∀ x j, eC9 M x j → J x j = I x j
def mG9 (M : Nat) (I J : Nat → Nat → Int32) : Prop := mR M J ∧ fr9 M I J
theorem sG_hasDraft9 (h : mG9 M I J) {v : Int32} : mG9 M I (a_ui J M 12 v) := ⟨sR_hasDraft h.1, fun x j hx => by rw [ui_ap, if_neg (by unfold eC9 eC at hx; omega)]; exact h.2 x j hx⟩
theorem sG_draftGroup9 (h : mG9 M I J) {v : Int32} (hv : (0) ≤ v ∧ v ≤ 9) : mG9 M I (a_ui J M 13 v) := ⟨sR_draftGroup h.1 hv, fun x j hx => by rw [ui_ap, if_neg (by unfold eC9 eC at hx; omega)]; exact h.2 x j hx⟩
theorem sG_draftLand9 (h : mG9 M I J) {v : Int32} : mG9 M I (a_ui J M 14 v) := ⟨sR_draftLand h.1, fun x j hx => by rw [ui_ap, if_neg (by unfold eC9 eC at hx; omega)]; exact h.2 x j hx⟩
theorem sG_draftLong9 (h : mG9 M I J) {v : Int32} (hv : (0) ≤ v ∧ v ≤ 4) : mG9 M I (a_ui J M 15 v) := ⟨sR_draftLong h.1 hv, fun x j hx => by rw [ui_ap, if_neg (by unfold eC9 eC at hx; omega)]; exact h.2 x j hx⟩
theorem sG_draftWants9 (h : mG9 M I J) {v : Int32} : mG9 M I (a_ui J M 16 v) := ⟨sR_draftWants h.1, fun x j hx => by rw [ui_ap, if_neg (by unfold eC9 eC at hx; omega)]; exact h.2 x j hx⟩
theorem sG_asks9 (h : mG9 M I J) {v : Int32} (hv : (0) ≤ v ∧ v ≤ 30) : mG9 M I (a_ui J M 17 v) := ⟨sR_asks h.1 hv, fun x j hx => by rw [ui_ap, if_neg (by unfold eC9 eC at hx; omega)]; exact h.2 x j hx⟩
theorem sG_kind9 (h : mG9 M I J) {k : Nat} {v : Int32} (hv : v = 1 → 0 ≤ J (M + 16) k ∧ J (M + 16) k ≤ 29) : mG9 M I (a_ui J (M + 7) k v) := ⟨sR_kind h.1 hv, fun x j hx => by rw [ui_ap, if_neg (by unfold eC9 eC at hx; omega)]; exact h.2 x j hx⟩
theorem sG_group9 (h : mG9 M I J) {k : Nat} {v : Int32} (hv : (0) ≤ v ∧ v ≤ 9) : mG9 M I (a_ui J (M + 8) k v) := ⟨sR_group h.1 hv, fun x j hx => by rw [ui_ap, if_neg (by unfold eC9 eC at hx; omega)]; exact h.2 x j hx⟩
theorem sG_land9 (h : mG9 M I J) {k : Nat} {v : Int32} : mG9 M I (a_ui J (M + 9) k v) := ⟨sR_land h.1, fun x j hx => by rw [ui_ap, if_neg (by unfold eC9 eC at hx; omega)]; exact h.2 x j hx⟩
theorem sG_length9 (h : mG9 M I J) {k : Nat} {v : Int32} (hv : (0) ≤ v ∧ v ≤ 4) : mG9 M I (a_ui J (M + 10) k v) := ⟨sR_length h.1 hv, fun x j hx => by rw [ui_ap, if_neg (by unfold eC9 eC at hx; omega)]; exact h.2 x j hx⟩
theorem sG_wants9 (h : mG9 M I J) {k : Nat} {v : Int32} : mG9 M I (a_ui J (M + 11) k v) := ⟨sR_wants h.1, fun x j hx => by rw [ui_ap, if_neg (by unfold eC9 eC at hx; omega)]; exact h.2 x j hx⟩
theorem sG_benchSet9 (h : mG9 M I J) {k : Nat} {v : Int32} : mG9 M I (a_ui J (M + 12) k v) := ⟨sR_benchSet h.1, fun x j hx => by rw [ui_ap, if_neg (by unfold eC9 eC at hx; omega)]; exact h.2 x j hx⟩
theorem sG_modeSet9 (h : mG9 M I J) {k : Nat} {v : Int32} : mG9 M I (a_ui J (M + 13) k v) := ⟨sR_modeSet h.1, fun x j hx => by rw [ui_ap, if_neg (by unfold eC9 eC at hx; omega)]; exact h.2 x j hx⟩
theorem sG_gear9 (h : mG9 M I J) {k : Nat} {v : Int32} : mG9 M I (a_ui J (M + 14) k v) := ⟨sR_gear h.1, fun x j hx => by rw [ui_ap, if_neg (by unfold eC9 eC at hx; omega)]; exact h.2 x j hx⟩
theorem sG_danger9 (h : mG9 M I J) {k : Nat} {v : Int32} : mG9 M I (a_ui J (M + 15) k v) := ⟨sR_danger h.1, fun x j hx => by rw [ui_ap, if_neg (by unfold eC9 eC at hx; omega)]; exact h.2 x j hx⟩
theorem sG_isGone9 (h : mG9 M I J) {k : Nat} {v : Int32} : mG9 M I (a_ui J (M + 18) k v) := ⟨sR_isGone h.1, fun x j hx => by rw [ui_ap, if_neg (by unfold eC9 eC at hx; omega)]; exact h.2 x j hx⟩
theorem sG_wasOwed9 (h : mG9 M I J) {k : Nat} {v : Int32} : mG9 M I (a_ui J (M + 19) k v) := ⟨sR_wasOwed h.1, fun x j hx => by rw [ui_ap, if_neg (by unfold eC9 eC at hx; omega)]; exact h.2 x j hx⟩
theorem sG_atBench9 (h : mG9 M I J) {k : Nat} {v : Int32} (hv : (-9) ≤ v ∧ v ≤ 5) : mG9 M I (a_ui J (M + 20) k v) := ⟨sR_atBench h.1 hv, fun x j hx => by rw [ui_ap, if_neg (by unfold eC9 eC at hx; omega)]; exact h.2 x j hx⟩
theorem sG_atShift9 (h : mG9 M I J) {k : Nat} {v : Int32} (hv : (-9) ≤ v ∧ v ≤ 200) : mG9 M I (a_ui J (M + 21) k v) := ⟨sR_atShift h.1 hv, fun x j hx => by rw [ui_ap, if_neg (by unfold eC9 eC at hx; omega)]; exact h.2 x j hx⟩
theorem sG_refused9 (h : mG9 M I J) {k : Nat} {v : Int32} : mG9 M I (a_ui J (M + 23) k v) := ⟨sR_refused h.1, fun x j hx => by rw [ui_ap, if_neg (by unfold eC9 eC at hx; omega)]; exact h.2 x j hx⟩
theorem sG_marks9 (h : mG9 M I J) {k : Nat} {v : Int32} : mG9 M I (a_ui J (M + 36) k v) := ⟨sR_marks h.1, fun x j hx => by rw [ui_ap, if_neg (by unfold eC9 eC at hx; omega)]; exact h.2 x j hx⟩
theorem sG_isMarked9 (h : mG9 M I J) {k : Nat} {v : Int32} : mG9 M I (a_ui J (M + 37) k v) := ⟨sR_isMarked h.1, fun x j hx => by rw [ui_ap, if_neg (by unfold eC9 eC at hx; omega)]; exact h.2 x j hx⟩
theorem sG_doesCount9 (h : mG9 M I J) {k : Nat} {v : Int32} : mG9 M I (a_ui J (M + 38) k v) := ⟨sR_doesCount h.1, fun x j hx => by rw [ui_ap, if_neg (by unfold eC9 eC at hx; omega)]; exact h.2 x j hx⟩
theorem sG_order9 (h : mG9 M I J) {k : Nat} {v : Int32} (hv : (0) ≤ v ∧ v ≤ 29) : mG9 M I (a_ui J (M + 40) k v) := ⟨sR_order h.1 hv, fun x j hx => by rw [ui_ap, if_neg (by unfold eC9 eC at hx; omega)]; exact h.2 x j hx⟩
theorem sG_orderMany9 (h : mG9 M I J) {v : Int32} : mG9 M I (a_ui J M 64 v) := ⟨sR_orderMany h.1, fun x j hx => by rw [ui_ap, if_neg (by unfold eC9 eC at hx; omega)]; exact h.2 x j hx⟩
theorem sG_few9 (h : mG9 M I J) {k : Nat} {v : Int32} (hv : (0) ≤ v ∧ v ≤ 29) : mG9 M I (a_ui J (M + 41) k v) := ⟨sR_few h.1 hv, fun x j hx => by rw [ui_ap, if_neg (by unfold eC9 eC at hx; omega)]; exact h.2 x j hx⟩
theorem sG_fewMany9 (h : mG9 M I J) {v : Int32} : mG9 M I (a_ui J M 66 v) := ⟨sR_fewMany h.1, fun x j hx => by rw [ui_ap, if_neg (by unfold eC9 eC at hx; omega)]; exact h.2 x j hx⟩
theorem sG_wasBench9 (h : mG9 M I J) {k : Nat} {v : Int32} : mG9 M I (a_ui J (M + 45) k v) := ⟨sR_wasBench h.1, fun x j hx => by rw [ui_ap, if_neg (by unfold eC9 eC at hx; omega)]; exact h.2 x j hx⟩
theorem sG_wasShift9 (h : mG9 M I J) {k : Nat} {v : Int32} : mG9 M I (a_ui J (M + 46) k v) := ⟨sR_wasShift h.1, fun x j hx => by rw [ui_ap, if_neg (by unfold eC9 eC at hx; omega)]; exact h.2 x j hx⟩
theorem sG_isWish9 (h : mG9 M I J) {k : Nat} {v : Int32} : mG9 M I (a_ui J (M + 47) k v) := ⟨sR_isWish h.1, fun x j hx => by rw [ui_ap, if_neg (by unfold eC9 eC at hx; omega)]; exact h.2 x j hx⟩
theorem sG_ringAsk9 (h : mG9 M I J) {k : Nat} {v : Int32} : mG9 M I (a_ui J (M + 48) k v) := ⟨sR_ringAsk h.1, fun x j hx => by rw [ui_ap, if_neg (by unfold eC9 eC at hx; omega)]; exact h.2 x j hx⟩
theorem sG_ringMany9 (h : mG9 M I J) {v : Int32} : mG9 M I (a_ui J M 74 v) := ⟨sR_ringMany h.1, fun x j hx => by rw [ui_ap, if_neg (by unfold eC9 eC at hx; omega)]; exact h.2 x j hx⟩
theorem sG_oldBench9 (h : mG9 M I J) {k : Nat} {v : Int32} (hv : (-9) ≤ v ∧ v ≤ 5) : mG9 M I (a_ui J (M + 49) k v) := ⟨sR_oldBench h.1 hv, fun x j hx => by rw [ui_ap, if_neg (by unfold eC9 eC at hx; omega)]; exact h.2 x j hx⟩
theorem sG_oldShift9 (h : mG9 M I J) {k : Nat} {v : Int32} (hv : (-9) ≤ v ∧ v ≤ 200) : mG9 M I (a_ui J (M + 50) k v) := ⟨sR_oldShift h.1 hv, fun x j hx => by rw [ui_ap, if_neg (by unfold eC9 eC at hx; omega)]; exact h.2 x j hx⟩
theorem mG_C9 {I0 : Nat → Nat → Int32} (h : mG9 M I0 I) (h2 : mC M I J) : mG9 M I0 J := ⟨h2.1, fun x j hx => (h2.2 x j (by unfold eC9 eC at hx; unfold sC; omega)).trans (h.2 x j hx)⟩
end RG

/-! contracts of giving and taking back -/
section RZ
variable {d n t M : Nat} {K L : Nat → Nat} {I I0 J J0 J1 J2 : Nat → Nat → Int32} {R : Nat → Nat → Nat} {P : Option Value → AH → Prop}
def mF9 (M c : Nat) (I J : Nat → Nat → Int32) : Prop := mG9 M I J ∧ mE M c J
theorem mF_R9 {c : Nat} (h : mF9 M c I J) : mR M J := h.1.1
theorem mF_le9 {c c' : Nat} (h : mF9 M c I J) (hc : c ≤ c') : mF9 M c' I J := ⟨h.1, mE_le h.2 hc⟩
theorem mF_C9 {c : Nat} (h : mF9 M c I0 I) (hC : mC M I J) : mF9 M c I0 J := ⟨mG_C9 h.1 hC, mE_C h.2 hC⟩
theorem sF_hasDraft9 {c : Nat} (h : mF9 M c I J) {v : Int32} : mF9 M c I (a_ui J M 12 v) := ⟨sG_hasDraft9 h.1, sE_hasDraft h.2⟩
theorem sF_draftGroup9 {c : Nat} (h : mF9 M c I J) {v : Int32} (hv : (0) ≤ v ∧ v ≤ 9) : mF9 M c I (a_ui J M 13 v) := ⟨sG_draftGroup9 h.1 hv, sE_draftGroup h.2⟩
theorem sF_draftLand9 {c : Nat} (h : mF9 M c I J) {v : Int32} : mF9 M c I (a_ui J M 14 v) := ⟨sG_draftLand9 h.1, sE_draftLand h.2⟩
theorem sF_draftLong9 {c : Nat} (h : mF9 M c I J) {v : Int32} (hv : (0) ≤ v ∧ v ≤ 4) : mF9 M c I (a_ui J M 15 v) := ⟨sG_draftLong9 h.1 hv, sE_draftLong h.2⟩
theorem sF_draftWants9 {c : Nat} (h : mF9 M c I J) {v : Int32} : mF9 M c I (a_ui J M 16 v) := ⟨sG_draftWants9 h.1, sE_draftWants h.2⟩
theorem sF_group9 {c : Nat} (h : mF9 M c I J) {k : Nat} {v : Int32} (hv : (0) ≤ v ∧ v ≤ 9) : mF9 M c I (a_ui J (M + 8) k v) := ⟨sG_group9 h.1 hv, sE_group h.2⟩
theorem sF_benchSet9 {c : Nat} (h : mF9 M c I J) {k : Nat} {v : Int32} : mF9 M c I (a_ui J (M + 12) k v) := ⟨sG_benchSet9 h.1, sE_benchSet h.2⟩
theorem sF_modeSet9 {c : Nat} (h : mF9 M c I J) {k : Nat} {v : Int32} : mF9 M c I (a_ui J (M + 13) k v) := ⟨sG_modeSet9 h.1, sE_modeSet h.2⟩
theorem sF_gear9 {c : Nat} (h : mF9 M c I J) {k : Nat} {v : Int32} : mF9 M c I (a_ui J (M + 14) k v) := ⟨sG_gear9 h.1, sE_gear h.2⟩
theorem sF_danger9 {c : Nat} (h : mF9 M c I J) {k : Nat} {v : Int32} : mF9 M c I (a_ui J (M + 15) k v) := ⟨sG_danger9 h.1, sE_danger h.2⟩
theorem sF_isGone9 {c : Nat} (h : mF9 M c I J) {k : Nat} {v : Int32} : mF9 M c I (a_ui J (M + 18) k v) := ⟨sG_isGone9 h.1, sE_isGone h.2⟩
theorem sF_wasOwed9 {c : Nat} (h : mF9 M c I J) {k : Nat} {v : Int32} : mF9 M c I (a_ui J (M + 19) k v) := ⟨sG_wasOwed9 h.1, sE_wasOwed h.2⟩
theorem sF_refused9 {c : Nat} (h : mF9 M c I J) {k : Nat} {v : Int32} : mF9 M c I (a_ui J (M + 23) k v) := ⟨sG_refused9 h.1, sE_refused h.2⟩
theorem sF_marks9 {c : Nat} (h : mF9 M c I J) {k : Nat} {v : Int32} : mF9 M c I (a_ui J (M + 36) k v) := ⟨sG_marks9 h.1, sE_marks h.2⟩
theorem sF_isMarked9 {c : Nat} (h : mF9 M c I J) {k : Nat} {v : Int32} : mF9 M c I (a_ui J (M + 37) k v) := ⟨sG_isMarked9 h.1, sE_isMarked h.2⟩
theorem sF_doesCount9 {c : Nat} (h : mF9 M c I J) {k : Nat} {v : Int32} : mF9 M c I (a_ui J (M + 38) k v) := ⟨sG_doesCount9 h.1, sE_doesCount h.2⟩
theorem sF_order9 {c : Nat} (h : mF9 M c I J) {k : Nat} {v : Int32} (hv : (0) ≤ v ∧ v ≤ 29) : mF9 M c I (a_ui J (M + 40) k v) := ⟨sG_order9 h.1 hv, sE_order h.2⟩
theorem sF_orderMany9 {c : Nat} (h : mF9 M c I J) {v : Int32} : mF9 M c I (a_ui J M 64 v) := ⟨sG_orderMany9 h.1, sE_orderMany h.2⟩
theorem sF_few9 {c : Nat} (h : mF9 M c I J) {k : Nat} {v : Int32} (hv : (0) ≤ v ∧ v ≤ 29) : mF9 M c I (a_ui J (M + 41) k v) := ⟨sG_few9 h.1 hv, sE_few h.2⟩
theorem sF_fewMany9 {c : Nat} (h : mF9 M c I J) {v : Int32} : mF9 M c I (a_ui J M 66 v) := ⟨sG_fewMany9 h.1, sE_fewMany h.2⟩
theorem sF_wasBench9 {c : Nat} (h : mF9 M c I J) {k : Nat} {v : Int32} : mF9 M c I (a_ui J (M + 45) k v) := ⟨sG_wasBench9 h.1, sE_wasBench h.2⟩
theorem sF_wasShift9 {c : Nat} (h : mF9 M c I J) {k : Nat} {v : Int32} : mF9 M c I (a_ui J (M + 46) k v) := ⟨sG_wasShift9 h.1, sE_wasShift h.2⟩
theorem sF_isWish9 {c : Nat} (h : mF9 M c I J) {k : Nat} {v : Int32} : mF9 M c I (a_ui J (M + 47) k v) := ⟨sG_isWish9 h.1, sE_isWish h.2⟩
theorem sF_ringAsk9 {c : Nat} (h : mF9 M c I J) {k : Nat} {v : Int32} : mF9 M c I (a_ui J (M + 48) k v) := ⟨sG_ringAsk9 h.1, sE_ringAsk h.2⟩
theorem sF_ringMany9 {c : Nat} (h : mF9 M c I J) {v : Int32} : mF9 M c I (a_ui J M 74 v) := ⟨sG_ringMany9 h.1, sE_ringMany h.2⟩
theorem sF_oldBench9 {c : Nat} (h : mF9 M c I J) {k : Nat} {v : Int32} (hv : (-9) ≤ v ∧ v ≤ 5) : mF9 M c I (a_ui J (M + 49) k v) := ⟨sG_oldBench9 h.1 hv, sE_oldBench h.2⟩
theorem sF_oldShift9 {c : Nat} (h : mF9 M c I J) {k : Nat} {v : Int32} (hv : (-9) ≤ v ∧ v ≤ 200) : mF9 M c I (a_ui J (M + 50) k v) := ⟨sG_oldShift9 h.1 hv, sE_oldShift h.2⟩
theorem evE9 {x j : Nat} (hx : eC9 M x j) : ¬ evC M x j := by unfold eC9 eC at hx; unfold evC; omega
theorem ct_takeFrom9 (hS : m_S M K L R) {c : Nat} (hF : mF9 M c I0 I) (hc : c + 4 ≤ 84000) {a : Int32} (ha : 0 ≤ a ∧ a < 30) (hP : ∀ J, mF9 M (c + 4) I0 J → (a < I M 17 → 0 ≤ I (M + 20) a.toNatClampNeg → mF9 M c I0 J) → (∀ x j, ¬ evC M x j → ¬ (j = a.toNatClampNeg ∧ (x = (M + 20) ∨ x = (M + 21))) → J x j = I x j) → J (M + 20) a.toNatClampNeg = -9 → P none (n, t, K, L, J, R)) : a_does (d + 2) 186 [a_rf M, .int a] (n, t, K, L, I, R) P := by
  have hR := hF.1.1
  have hv := mE_ev hF.2 hR hc
  have hv0 := rg_events hR
  have hl := rg_length hR a.toNatClampNeg
  rw [a_enter1 (M := a_m186) rfl (a_cat_rf (a_cat_int a_cat_nil)) (show 2 ≤ 3 by decide)]
  show a_at _ (a_xm a_m186) 0 [some (a_rf M), some (.int a), none] [] _ _
  simp only [q186_0, q186_1, as_nil, as_i, as_r, Nat.reduceAdd, Nat.reduceLeDiff, z_eq0, z_eq1, z_or, z_em, Classical.not_not, not_false_eq_true, not_true_eq_false, true_and, and_true, false_and, and_false, and_self, true_implies, false_implies, implies_true, Option.toList_some, Option.toList_none, List.cons_append, List.nil_append, Nat.add_eq_zero_iff, a_nl_i, a_nl_r, a_nl_n, true_or, or_true, eq_self, ok_4, ok_5, ok_6, ok_7, ok_9, ok_10, ok_20, ok_21, ok_24, ok_30, ok_48, ok_50, ok_60, ok_80, ok_120, ok_180, ok_192, ok_200, ok_900, ok_1000, ok_84000]
  refine lp_takeFrom_2 hS ha hv hv0.1 (fun J hq => ?_) 0 (by decide) I (by decide) hl.1 (hq_refl hR)
  obtain ⟨q1, q2, q3, q4, q5, q6⟩ := hq
  have r1 : mR M (a_ui (a_ui J (M + 20) a.toNatClampNeg (-9)) (M + 21) a.toNatClampNeg (-9)) := sR_atShift (sR_atBench q1 (by decide)) (by decide)
  have r2 : mG9 M I0 (a_ui (a_ui J (M + 20) a.toNatClampNeg (-9)) (M + 21) a.toNatClampNeg (-9)) := ⟨r1, fun x j hx => by
    rw [ui_ap, if_neg (by unfold eC9 eC at hx; omega), ui_ap, if_neg (by unfold eC9 eC at hx; omega), q2 x j (evE9 hx)]
    exact hF.1.2 x j hx⟩
  have c1 : ∀ (x j : Nat), ¬ evC M x j → ¬ (j = a.toNatClampNeg ∧ (x = (M + 20) ∨ x = (M + 21))) → (a_ui (a_ui J (M + 20) a.toNatClampNeg (-9)) (M + 21) a.toNatClampNeg (-9)) x j = I x j := by
    intro x j h1 h2
    rw [ui_ap, if_neg (by omega), ui_ap, if_neg (by omega)]
    exact q2 x j h1
  have e1 : (J M 35).toNatClampNeg ≤ (I M 35).toNatClampNeg + 4 := cl_add hv0.1 hv0.2 hl.1 hl.2 q5.2
  have st := mE_step (c := c) (δ := 4) (J := (a_ui (a_ui J (M + 20) a.toNatClampNeg (-9)) (M + 21) a.toNatClampNeg (-9))) ha hF.2 (c1 _ _ (by unfold evC; omega) (by omega)) (fun j => c1 _ _ (by unfold evC; omega) (by omega)) (fun j hj => c1 _ _ (by unfold evC; omega) (by omega)) (fun j hj => c1 _ _ (by unfold evC; omega) (by omega)) (fun w hw => (fc_eq (I := J) (by simp [ui_ap]) (by simp [ui_ap]) (by simp [ui_ap]) (by simp [ui_ap])).mpr (q4 w hw)) (fun hb => by exact absurd hb (by simp only [ui_ap, ne_MM, ne_M0, ne_0M, Nat.reduceEqDiff, false_and, and_false, if_false, and_self, if_true]; decide)) (by simpa [ui_ap] using e1)
  refine hP _ ⟨r2, st.1⟩ (fun k1 k2 => ⟨r2, st.2 k1 k2 rfl (fun hf => ?_)⟩) c1 (by simp [ui_ap])
  have := q6 (fun i h0 h1 => hf i h0 h1)
  simpa [ui_ap] using this
theorem ct_giveTo9 (hS : m_S M K L R) {c : Nat} (hF : mF9 M c I0 I) (hc : c + 4 ≤ 84000) {a b s : Int32} (ha : 0 ≤ a ∧ a < 30) (hb : 0 ≤ b ∧ b ≤ 5) (hs : -9 ≤ s ∧ s ≤ 200) (hP : ∀ J, mF9 M (c + 4) I0 J → (∀ x j, ¬ evC M x j → ¬ sC M x j → ¬ x = (M + 22) → ¬ (j = a.toNatClampNeg ∧ (x = (M + 20) ∨ x = (M + 21))) → J x j = I x j) → J (M + 20) a.toNatClampNeg = b → P none (n, t, K, L, J, R)) : a_does (d + 11) 230 [a_rf M, .int a, .int b, .int s] (n, t, K, L, I, R) P := by
  have hR := hF.1.1
  have hv := mE_ev hF.2 hR hc
  rw [a_enter1 (M := a_m230) rfl (a_cat_rf (a_cat_int (a_cat_int (a_cat_int a_cat_nil)))) (show 4 ≤ 5 by decide)]
  show a_at _ (a_xm a_m230) 0 [some (a_rf M), some (.int a), some (.int b), some (.int s), none] [] _ _
  simp only [q230_0, q230_1, q230_2, q230_3, q230_4, m_0 hS, m_K hS, as_nil, as_i, as_r, Nat.reduceAdd, Nat.reduceLeDiff, z_eq0, z_eq1, z_or, z_em, Classical.not_not, not_false_eq_true, not_true_eq_false, true_and, and_true, false_and, and_false, and_self, true_implies, false_implies, implies_true, Option.toList_some, Option.toList_none, List.cons_append, List.nil_append, Nat.add_eq_zero_iff, a_nl_i, a_nl_r, a_nl_n, true_or, or_true, eq_self, ok_4, ok_5, ok_6, ok_7, ok_9, ok_10, ok_20, ok_21, ok_24, ok_30, ok_48, ok_50, ok_60, ok_80, ok_120, ok_180, ok_192, ok_200, ok_900, ok_1000, ok_84000]
  refine ct_putAt hS hR ha hb (fun J hm => ?_)
  simp only [q230_7, q230_8, as_nil, as_i, as_r, Nat.reduceAdd, Nat.reduceLeDiff, z_eq0, z_eq1, z_or, z_em, Classical.not_not, not_false_eq_true, not_true_eq_false, true_and, and_true, false_and, and_false, and_self, true_implies, false_implies, implies_true, Option.toList_some, Option.toList_none, List.cons_append, List.nil_append, Nat.add_eq_zero_iff, a_nl_i, a_nl_r, a_nl_n, true_or, or_true, eq_self, ok_4, ok_5, ok_6, ok_7, ok_9, ok_10, ok_20, ok_21, ok_24, ok_30, ok_48, ok_50, ok_60, ok_80, ok_120, ok_180, ok_192, ok_200, ok_900, ok_1000, ok_84000]
  have r0 : mR M (a_ui (a_ui J (M + 20) a.toNatClampNeg b) (M + 21) a.toNatClampNeg s) := sR_atShift (sR_atBench hm.1 (by grind)) hs
  have c0 : ∀ (x j : Nat), ¬ sC M x j → ¬ x = (M + 22) → ¬ (j = a.toNatClampNeg ∧ (x = (M + 20) ∨ x = (M + 21))) → (a_ui (a_ui J (M + 20) a.toNatClampNeg b) (M + 21) a.toNatClampNeg s) x j = I x j := by
    intro x j h1 h2 h3
    rw [ui_ap, if_neg (by omega), ui_ap, if_neg (by omega)]
    exact hm.2 x j h1 h2
  have b0 : (a_ui (a_ui J (M + 20) a.toNatClampNeg b) (M + 21) a.toNatClampNeg s) (M + 20) a.toNatClampNeg = b := by simp [ui_ap]
  have s0 : (a_ui (a_ui J (M + 20) a.toNatClampNeg b) (M + 21) a.toNatClampNeg s) (M + 21) a.toNatClampNeg = s := by simp [ui_ap]
  generalize (a_ui (a_ui J (M + 20) a.toNatClampNeg b) (M + 21) a.toNatClampNeg s) = J1 at r0 c0 b0 s0 ⊢
  have ev0 : J1 M 35 = I M 35 := c0 _ _ (by unfold sC; omega) (by omega) (by omega)
  have hl := rg_length r0 a.toNatClampNeg
  have hv0 := rg_events r0
  refine lp_giveTo_10 hS ha (by rw [ev0]; exact hv) hv0.1 (fun J2 hq => ?_) 0 (by decide) J1 (by decide) hl.1 (hq_refl r0)
  obtain ⟨q1, q2, q3, q4, q5, q6⟩ := hq
  have c1 : ∀ (x j : Nat), ¬ evC M x j → ¬ sC M x j → ¬ x = (M + 22) → ¬ (j = a.toNatClampNeg ∧ (x = (M + 20) ∨ x = (M + 21))) → J2 x j = I x j := fun x j h0 h1 h2 h3 => (q2 x j h0).trans (c0 x j h1 h2 h3)
  have b1 : J2 (M + 20) a.toNatClampNeg = b := (q2 _ _ (by unfold evC; omega)).trans b0
  have s1 : J2 (M + 21) a.toNatClampNeg = s := (q2 _ _ (by unfold evC; omega)).trans s0
  have l1 : J2 (M + 10) a.toNatClampNeg = J1 (M + 10) a.toNatClampNeg := q2 _ _ (by unfold evC; omega)
  have e1 : (J2 M 35).toNatClampNeg ≤ (I M 35).toNatClampNeg + 4 := by rw [← ev0]; exact cl_add hv0.1 hv0.2 hl.1 hl.2 q5.2
  have st := mE_step (c := c) (δ := 4) (J := J2) ha hF.2 (c1 _ _ (by unfold evC; omega) (by unfold sC; omega) (by omega) (by omega)) (fun j => c1 _ _ (by unfold evC; omega) (by unfold sC; omega) (by omega) (by omega)) (fun j hj => c1 _ _ (by unfold evC; omega) (by unfold sC; omega) (by omega) (by omega)) (fun j hj => c1 _ _ (by unfold evC; omega) (by unfold sC; omega) (by omega) (by omega)) (fun w hw => q4 w ((fc_eq ev0 (fun j => c0 _ _ (by unfold sC; omega) (by omega) (by omega)) (fun j => c0 _ _ (by unfold sC; omega) (by omega) (by omega)) (c0 _ _ (by unfold sC; omega) (by omega) (by omega))).mpr hw)) (fun _ i h0 h1 => by rw [l1] at h1; rw [b1, s1]; exact q3 i h0 h1) e1
  refine hP J2 ⟨⟨q1, fun x j hx => ?_⟩, st.1⟩ c1 b1
  rw [c1 x j (evE9 hx) (by unfold eC9 eC at hx; unfold sC; omega) (by unfold eC9 eC at hx; omega) (by unfold eC9 eC at hx; omega)]
  exact hF.1.2 x j hx
end RZ

/-! orders and plans -/
section SA
variable {d n t M : Nat} {K L : Nat → Nat} {I I0 J J0 J1 J2 : Nat → Nat → Int32} {R : Nat → Nat → Nat} {P : Option Value → AH → Prop}
theorem lp_findOrder_299 (hS : m_S M K L R) {c : Nat} {g a m : Int32} (ha : 0 ≤ a ∧ a < 30) (hm : m ≤ a) (hN : ∀ J p, mF9 M c I0 J → J M 64 = m + 1 → a_at (d + 3) (a_xm a_m236) 7 [some (a_rf M), some (.int g), some (.int (a + 1)), some (.int p)] [] (n, t, K, L, J, R) P) : ∀ p : Int32, 0 ≤ p → ∀ J, p ≤ m → J M 64 = m → mF9 M c I0 J → a_at (d + 3) (a_xm a_m236) 29 [some (a_rf M), some (.int g), some (.int a), some (.int p)] [] (n, t, K, L, J, R) P := by
  refine dn_ind 0 (fun p hp ih => ?_)
  intro J hpm hJ hF
  have hR := hF.1.1
  have g1 := rg_order hR
  have g2 := g1 (p - 1).toNatClampNeg
  rw [q236_29]
  repeat' first
    | with_reducible apply And.intro
    | with_reducible assumption
    | with_reducible intro _
    | with_reducible apply ih
    | with_reducible apply hN
    | with_reducible apply sF_order9
    | with_reducible apply sF_orderMany9
    | with_reducible apply ct_goesAhead hS hR
    | simp only [q236_0, q236_1, q236_2, q236_5, q236_6, q236_8, q236_9, q236_12, q236_15, q236_16, q236_17, q236_18, q236_19, q236_20, q236_21, q236_24, q236_25, q236_28, q236_30, q236_33, q236_34, q236_35, q236_36, q236_39, q236_40, q236_41, q236_42, q236_43, q236_46, q236_49, q236_50, q236_53, q236_54, q236_55, q236_58, q236_59, q236_60, q236_61, q236_62, q236_63, q236_66, q236_69, q236_70, q236_73, q236_74, q236_75, q236_76, q236_77, q236_78, q236_81, q236_82, q236_83, q236_86, q236_89, q236_92, m_0 hS, m_K hS, mR_order hS, mK_order hS, mL_order hS, as_nil, as_i, as_r, Nat.reduceAdd, Nat.reduceLeDiff, z_eq0, z_eq1, z_or, z_em, Classical.not_not, not_false_eq_true, not_true_eq_false, true_and, and_true, false_and, and_false, and_self, true_implies, false_implies, implies_true, Option.toList_some, Option.toList_none, List.cons_append, List.nil_append, Nat.add_eq_zero_iff, a_nl_i, a_nl_r, a_nl_n, true_or, or_true, eq_self, ok_4, ok_5, ok_6, ok_7, ok_9, ok_10, ok_20, ok_21, ok_24, ok_30, ok_48, ok_50, ok_60, ok_80, ok_120, ok_180, ok_192, ok_200, ok_900, ok_1000, ok_84000]
  all_goals grind [ui_ap]
theorem lp_findOrder_79 (hS : m_S M K L R) {c : Nat} {g : Int32} (hP : ∀ J, mF9 M c I0 J → (0 ≤ J M 64 ∧ J M 64 ≤ 30) → P none (n, t, K, L, J, R)) : ∀ a : Int32, a ≤ 30 → ∀ J p, 0 ≤ a → mF9 M c I0 J → (0 ≤ J M 64 ∧ J M 64 ≤ a) → a_at (d + 3) (a_xm a_m236) 7 [some (a_rf M), some (.int g), some (.int a), p] [] (n, t, K, L, J, R) P := by
  refine up_ind 30 (fun a ha ih => ?_)
  intro J p h0 hF hm
  have g1 := rg_asks hF.1.1
  rw [q236_7]
  repeat' first
    | with_reducible apply And.intro
    | with_reducible assumption
    | with_reducible intro _
    | with_reducible apply ih
    | with_reducible apply hP
    | with_reducible apply lp_findOrder_299 hS (I0 := I0) (c := c) (m := J M 64)
    | simp only [q236_0, q236_1, q236_2, q236_5, q236_6, q236_8, q236_9, q236_12, q236_15, q236_16, q236_17, q236_18, q236_19, q236_20, q236_21, q236_24, q236_25, q236_28, q236_30, q236_33, q236_34, q236_35, q236_36, q236_39, q236_40, q236_41, q236_42, q236_43, q236_46, q236_49, q236_50, q236_53, q236_54, q236_55, q236_58, q236_59, q236_60, q236_61, q236_62, q236_63, q236_66, q236_69, q236_70, q236_73, q236_74, q236_75, q236_76, q236_77, q236_78, q236_81, q236_82, q236_83, q236_86, q236_89, q236_92, m_0 hS, m_K hS, mR_order hS, mK_order hS, mL_order hS, as_nil, as_i, as_r, Nat.reduceAdd, Nat.reduceLeDiff, z_eq0, z_eq1, z_or, z_em, Classical.not_not, not_false_eq_true, not_true_eq_false, true_and, and_true, false_and, and_false, and_self, true_implies, false_implies, implies_true, Option.toList_some, Option.toList_none, List.cons_append, List.nil_append, Nat.add_eq_zero_iff, a_nl_i, a_nl_r, a_nl_n, true_or, or_true, eq_self, ok_4, ok_5, ok_6, ok_7, ok_9, ok_10, ok_20, ok_21, ok_24, ok_30, ok_48, ok_50, ok_60, ok_80, ok_120, ok_180, ok_192, ok_200, ok_900, ok_1000, ok_84000]
  all_goals grind [ui_ap]
theorem ct_findOrder9 (hS : m_S M K L R) {c : Nat} (hF : mF9 M c I0 I) {g : Int32} (hP : ∀ J, mF9 M c I0 J → (0 ≤ J M 64 ∧ J M 64 ≤ 30) → P none (n, t, K, L, J, R)) : a_does (d + 4) 236 [a_rf M, .int g] (n, t, K, L, I, R) P := by
  rw [a_enter1 (M := a_m236) rfl (a_cat_rf (a_cat_int a_cat_nil)) (show 2 ≤ 4 by decide)]
  show a_at _ (a_xm a_m236) 0 [some (a_rf M), some (.int g), none, none] [] _ _
  repeat' first
    | with_reducible apply And.intro
    | with_reducible assumption
    | with_reducible intro _
    | with_reducible apply lp_findOrder_79 hS hP
    | with_reducible apply sF_orderMany9
    | simp only [q236_0, q236_1, q236_2, q236_5, q236_6, q236_8, q236_9, q236_12, q236_15, q236_16, q236_17, q236_18, q236_19, q236_20, q236_21, q236_24, q236_25, q236_28, q236_30, q236_33, q236_34, q236_35, q236_36, q236_39, q236_40, q236_41, q236_42, q236_43, q236_46, q236_49, q236_50, q236_53, q236_54, q236_55, q236_58, q236_59, q236_60, q236_61, q236_62, q236_63, q236_66, q236_69, q236_70, q236_73, q236_74, q236_75, q236_76, q236_77, q236_78, q236_81, q236_82, q236_83, q236_86, q236_89, q236_92, m_0 hS, m_K hS, mR_order hS, mK_order hS, mL_order hS, as_nil, as_i, as_r, Nat.reduceAdd, Nat.reduceLeDiff, z_eq0, z_eq1, z_or, z_em, Classical.not_not, not_false_eq_true, not_true_eq_false, true_and, and_true, false_and, and_false, and_self, true_implies, false_implies, implies_true, Option.toList_some, Option.toList_none, List.cons_append, List.nil_append, Nat.add_eq_zero_iff, a_nl_i, a_nl_r, a_nl_n, true_or, or_true, eq_self, ok_4, ok_5, ok_6, ok_7, ok_9, ok_10, ok_20, ok_21, ok_24, ok_30, ok_48, ok_50, ok_60, ok_80, ok_120, ok_180, ok_192, ok_200, ok_900, ok_1000, ok_84000]
  all_goals grind [ui_ap]
theorem lp_giveFirst_219 (hS : m_S M K L R) {c : Nat} (hc : c + 4 ≤ 84000) {a f e o s : Int32} (ha : 0 ≤ a ∧ a < 30) (hs : 0 ≤ s ∧ s ≤ 200) (hP : ∀ v J, mF9 M (c + 4) I0 J → gv M I J → (v = 0 ∨ v = 1) → P (some (.int v)) (n, t, K, L, J, R)) (hN : ∀ J b, mF9 M c I0 J → gv M I J → a_at (d + 11) (a_xm a_m238) 3 [some (a_rf M), some (.int a), some (.int f), some (.int e), some (.int o), some (.int (s + 1)), some (.int b)] [] (n, t, K, L, J, R) P) : ∀ b : Int32, b ≤ 6 → ∀ J, 0 ≤ b → mF9 M c I0 J → gv M I J → a_at (d + 11) (a_xm a_m238) 21 [some (a_rf M), some (.int a), some (.int f), some (.int e), some (.int o), some (.int s), some (.int b)] [] (n, t, K, L, J, R) P := by
  refine up_ind 6 (fun b hb ih => ?_)
  intro J h0 hF hG
  have hR := hF.1.1
  have g1 := rg_benches hR
  rw [q238_21]
  simp only [q238_23, q238_24, q238_27, q238_30, q238_31, q238_32, q238_34, q238_36, m_0 hS, m_K hS, as_nil, as_i, as_r, Nat.reduceAdd, Nat.reduceLeDiff, z_eq0, z_eq1, z_or, z_em, Classical.not_not, not_false_eq_true, not_true_eq_false, true_and, and_true, false_and, and_false, and_self, true_implies, false_implies, implies_true, Option.toList_some, Option.toList_none, List.cons_append, List.nil_append, Nat.add_eq_zero_iff, a_nl_i, a_nl_r, a_nl_n, true_or, or_true, eq_self, ok_4, ok_5, ok_6, ok_7, ok_9, ok_10, ok_20, ok_21, ok_24, ok_30, ok_48, ok_50, ok_60, ok_80, ok_120, ok_180, ok_192, ok_200, ok_900, ok_1000, ok_84000]
  refine ⟨fun h => ?_, fun h => ?_⟩
  · simp only [q238_74, q238_77, as_nil, as_i, as_r, Nat.reduceAdd, Nat.reduceLeDiff, z_eq0, z_eq1, z_or, z_em, Classical.not_not, not_false_eq_true, not_true_eq_false, true_and, and_true, false_and, and_false, and_self, true_implies, false_implies, implies_true, Option.toList_some, Option.toList_none, List.cons_append, List.nil_append, Nat.add_eq_zero_iff, a_nl_i, a_nl_r, a_nl_n, true_or, or_true, eq_self, ok_4, ok_5, ok_6, ok_7, ok_9, ok_10, ok_20, ok_21, ok_24, ok_30, ok_48, ok_50, ok_60, ok_80, ok_120, ok_180, ok_192, ok_200, ok_900, ok_1000, ok_84000]
    exact hN J b hF hG
  · refine ct_fitOf hS (mC_refl hR) ha (by grind) (by grind) (fun v J1 c1 => ?_)
    have f1 := mF_C9 hF c1
    have r1 := f1.1.1
    have v1 := gv_C hG c1
    simp only [q238_39, q238_42, q238_44, q238_47, q238_48, q238_49, q238_50, q238_51, m_0 hS, m_K hS, as_nil, as_i, as_r, Nat.reduceAdd, Nat.reduceLeDiff, z_eq0, z_eq1, z_or, z_em, Classical.not_not, not_false_eq_true, not_true_eq_false, true_and, and_true, false_and, and_false, and_self, true_implies, false_implies, implies_true, Option.toList_some, Option.toList_none, List.cons_append, List.nil_append, Nat.add_eq_zero_iff, a_nl_i, a_nl_r, a_nl_n, true_or, or_true, eq_self, ok_4, ok_5, ok_6, ok_7, ok_9, ok_10, ok_20, ok_21, ok_24, ok_30, ok_48, ok_50, ok_60, ok_80, ok_120, ok_180, ok_192, ok_200, ok_900, ok_1000, ok_84000]
    refine ⟨fun h1 => ?_, fun h1 => ⟨fun h2 => ?_, fun h2 => ?_⟩⟩
    · simp only [q238_68, q238_71, as_nil, as_i, as_r, Nat.reduceAdd, Nat.reduceLeDiff, z_eq0, z_eq1, z_or, z_em, Classical.not_not, not_false_eq_true, not_true_eq_false, true_and, and_true, false_and, and_false, and_self, true_implies, false_implies, implies_true, Option.toList_some, Option.toList_none, List.cons_append, List.nil_append, Nat.add_eq_zero_iff, a_nl_i, a_nl_r, a_nl_n, true_or, or_true, eq_self, ok_4, ok_5, ok_6, ok_7, ok_9, ok_10, ok_20, ok_21, ok_24, ok_30, ok_48, ok_50, ok_60, ok_80, ok_120, ok_180, ok_192, ok_200, ok_900, ok_1000, ok_84000]
      exact ih (by grind) J1 (by grind) f1 v1
    · simp only [q238_57, q238_58, q238_59, q238_61, q238_63, m_0 hS, m_K hS, as_nil, as_i, as_r, Nat.reduceAdd, Nat.reduceLeDiff, z_eq0, z_eq1, z_or, z_em, Classical.not_not, not_false_eq_true, not_true_eq_false, true_and, and_true, false_and, and_false, and_self, true_implies, false_implies, implies_true, Option.toList_some, Option.toList_none, List.cons_append, List.nil_append, Nat.add_eq_zero_iff, a_nl_i, a_nl_r, a_nl_n, true_or, or_true, eq_self, ok_4, ok_5, ok_6, ok_7, ok_9, ok_10, ok_20, ok_21, ok_24, ok_30, ok_48, ok_50, ok_60, ok_80, ok_120, ok_180, ok_192, ok_200, ok_900, ok_1000, ok_84000]
      refine ct_giveTo9 hS f1 hc ha (by grind) (by grind) (fun J2 f2 w2 z2 => ?_)
      simp only [q238_66, q238_67, as_nil, as_i, as_r, Nat.reduceAdd, Nat.reduceLeDiff, z_eq0, z_eq1, z_or, z_em, Classical.not_not, not_false_eq_true, not_true_eq_false, true_and, and_true, false_and, and_false, and_self, true_implies, false_implies, implies_true, Option.toList_some, Option.toList_none, List.cons_append, List.nil_append, Nat.add_eq_zero_iff, a_nl_i, a_nl_r, a_nl_n, true_or, or_true, eq_self, ok_4, ok_5, ok_6, ok_7, ok_9, ok_10, ok_20, ok_21, ok_24, ok_30, ok_48, ok_50, ok_60, ok_80, ok_120, ok_180, ok_192, ok_200, ok_900, ok_1000, ok_84000]
      exact hP _ J2 f2 (gv_G v1 w2) (Or.inr rfl)
    · refine ct_isWithinShare hS r1 ha (fun v2 => ?_)
      simp only [q238_54, as_nil, as_i, as_r, Nat.reduceAdd, Nat.reduceLeDiff, z_eq0, z_eq1, z_or, z_em, Classical.not_not, not_false_eq_true, not_true_eq_false, true_and, and_true, false_and, and_false, and_self, true_implies, false_implies, implies_true, Option.toList_some, Option.toList_none, List.cons_append, List.nil_append, Nat.add_eq_zero_iff, a_nl_i, a_nl_r, a_nl_n, true_or, or_true, eq_self, ok_4, ok_5, ok_6, ok_7, ok_9, ok_10, ok_20, ok_21, ok_24, ok_30, ok_48, ok_50, ok_60, ok_80, ok_120, ok_180, ok_192, ok_200, ok_900, ok_1000, ok_84000]
      refine ⟨fun h3 => ?_, fun h3 => ?_⟩
      · simp only [q238_68, q238_71, as_nil, as_i, as_r, Nat.reduceAdd, Nat.reduceLeDiff, z_eq0, z_eq1, z_or, z_em, Classical.not_not, not_false_eq_true, not_true_eq_false, true_and, and_true, false_and, and_false, and_self, true_implies, false_implies, implies_true, Option.toList_some, Option.toList_none, List.cons_append, List.nil_append, Nat.add_eq_zero_iff, a_nl_i, a_nl_r, a_nl_n, true_or, or_true, eq_self, ok_4, ok_5, ok_6, ok_7, ok_9, ok_10, ok_20, ok_21, ok_24, ok_30, ok_48, ok_50, ok_60, ok_80, ok_120, ok_180, ok_192, ok_200, ok_900, ok_1000, ok_84000]
        exact ih (by grind) J1 (by grind) f1 v1
      · simp only [q238_57, q238_58, q238_59, q238_61, q238_63, m_0 hS, m_K hS, as_nil, as_i, as_r, Nat.reduceAdd, Nat.reduceLeDiff, z_eq0, z_eq1, z_or, z_em, Classical.not_not, not_false_eq_true, not_true_eq_false, true_and, and_true, false_and, and_false, and_self, true_implies, false_implies, implies_true, Option.toList_some, Option.toList_none, List.cons_append, List.nil_append, Nat.add_eq_zero_iff, a_nl_i, a_nl_r, a_nl_n, true_or, or_true, eq_self, ok_4, ok_5, ok_6, ok_7, ok_9, ok_10, ok_20, ok_21, ok_24, ok_30, ok_48, ok_50, ok_60, ok_80, ok_120, ok_180, ok_192, ok_200, ok_900, ok_1000, ok_84000]
        refine ct_giveTo9 hS f1 hc ha (by grind) (by grind) (fun J2 f2 w2 z2 => ?_)
        simp only [q238_66, q238_67, as_nil, as_i, as_r, Nat.reduceAdd, Nat.reduceLeDiff, z_eq0, z_eq1, z_or, z_em, Classical.not_not, not_false_eq_true, not_true_eq_false, true_and, and_true, false_and, and_false, and_self, true_implies, false_implies, implies_true, Option.toList_some, Option.toList_none, List.cons_append, List.nil_append, Nat.add_eq_zero_iff, a_nl_i, a_nl_r, a_nl_n, true_or, or_true, eq_self, ok_4, ok_5, ok_6, ok_7, ok_9, ok_10, ok_20, ok_21, ok_24, ok_30, ok_48, ok_50, ok_60, ok_80, ok_120, ok_180, ok_192, ok_200, ok_900, ok_1000, ok_84000]
        exact hP _ J2 f2 (gv_G v1 w2) (Or.inr rfl)
theorem lp_giveFirst_39 (hS : m_S M K L R) {c : Nat} (hc : c + 4 ≤ 84000) {a f e o : Int32} (ha : 0 ≤ a ∧ a < 30) (he : e ≤ 199) (hP : ∀ v J, mF9 M (c + 4) I0 J → gv M I J → (v = 0 ∨ v = 1) → P (some (.int v)) (n, t, K, L, J, R)) : ∀ s : Int32, s ≤ 202 → ∀ J b, 0 ≤ s → mF9 M c I0 J → gv M I J → a_at (d + 11) (a_xm a_m238) 3 [some (a_rf M), some (.int a), some (.int f), some (.int e), some (.int o), some (.int s), b] [] (n, t, K, L, J, R) P := by
  refine up_ind 202 (fun s hs ih => ?_)
  intro J b h0 hF hG
  have g1 := rg_length hF.1.1
  have hle := mF_le9 (c' := c + 4) hF (by omega)
  rw [q238_3]
  repeat' first
    | with_reducible apply And.intro
    | with_reducible assumption
    | with_reducible intro _
    | with_reducible apply ih
    | with_reducible apply hP
    | with_reducible apply lp_giveFirst_219 hS (I := I) (I0 := I0) (c := c) hc
    | simp only [q238_0, q238_1, q238_5, q238_6, q238_9, q238_10, q238_11, q238_12, q238_13, q238_14, q238_15, q238_18, q238_19, q238_23, q238_24, q238_27, q238_30, q238_31, q238_32, q238_34, q238_36, q238_39, q238_42, q238_44, q238_47, q238_48, q238_49, q238_50, q238_51, q238_54, q238_57, q238_58, q238_59, q238_61, q238_63, q238_66, q238_67, q238_68, q238_71, q238_74, q238_77, q238_80, q238_81, m_0 hS, m_K hS, mR_length hS, mK_length hS, mL_length hS, as_nil, as_i, as_r, Nat.reduceAdd, Nat.reduceLeDiff, z_eq0, z_eq1, z_or, z_em, Classical.not_not, not_false_eq_true, not_true_eq_false, true_and, and_true, false_and, and_false, and_self, true_implies, false_implies, implies_true, Option.toList_some, Option.toList_none, List.cons_append, List.nil_append, Nat.add_eq_zero_iff, a_nl_i, a_nl_r, a_nl_n, true_or, or_true, eq_self, ok_4, ok_5, ok_6, ok_7, ok_9, ok_10, ok_20, ok_21, ok_24, ok_30, ok_48, ok_50, ok_60, ok_80, ok_120, ok_180, ok_192, ok_200, ok_900, ok_1000, ok_84000]
  all_goals grind [ui_ap]
theorem ct_giveFirst9 (hS : m_S M K L R) {c : Nat} (hF : mF9 M c I0 I) (hc : c + 4 ≤ 84000) {a f e o : Int32} (ha : 0 ≤ a ∧ a < 30) (hf : 0 ≤ f ∧ f ≤ 202) (he : e ≤ 199) (hP : ∀ v J, mF9 M (c + 4) I0 J → gv M I J → (v = 0 ∨ v = 1) → P (some (.int v)) (n, t, K, L, J, R)) : a_does (d + 12) 238 [a_rf M, .int a, .int f, .int e, .int o] (n, t, K, L, I, R) P := by
  rw [a_enter1 (M := a_m238) rfl (a_cat_rf (a_cat_int (a_cat_int (a_cat_int (a_cat_int a_cat_nil))))) (show 5 ≤ 7 by decide)]
  show a_at _ (a_xm a_m238) 0 [some (a_rf M), some (.int a), some (.int f), some (.int e), some (.int o), none, none] [] _ _
  simp only [q238_0, q238_1, as_nil, as_i, as_r, Nat.reduceAdd, Nat.reduceLeDiff, z_eq0, z_eq1, z_or, z_em, Classical.not_not, not_false_eq_true, not_true_eq_false, true_and, and_true, false_and, and_false, and_self, true_implies, false_implies, implies_true, Option.toList_some, Option.toList_none, List.cons_append, List.nil_append, Nat.add_eq_zero_iff, a_nl_i, a_nl_r, a_nl_n, true_or, or_true, eq_self, ok_4, ok_5, ok_6, ok_7, ok_9, ok_10, ok_20, ok_21, ok_24, ok_30, ok_48, ok_50, ok_60, ok_80, ok_120, ok_180, ok_192, ok_200, ok_900, ok_1000, ok_84000]
  exact lp_giveFirst_39 hS hc ha he hP f hf.2 I _ hf.1 hF gv_refl
end SA

/-! public methods -/
section SB
variable {d n t M c : Nat} {K L : Nat → Nat} {I I0 J J0 J1 J2 : Nat → Nat → Int32} {R : Nat → Nat → Nat} {P : Option Value → AH → Prop}

theorem pu_draft9 (hS : m_S M K L R) (hF : mF9 M c I0 I) (hc : c + 130 ≤ 84000) {a b e w : Int32} (hP : ∀ v J, mF9 M (c + 120) I0 J → P (some (.int v)) (n, t, K, L, J, R)) : a_does (d + 16) 180 [a_rf M, .int a, .int b, .int e, .int w] (n, t, K, L, I, R) P := by
  have hR := hF.1.1
  have g3 := mC_refl hR
  have hL4 : ∀ J, mF9 M (c + 4) I0 J → mF9 M (c + 120) I0 J := fun J h => mF_le9 h (by omega)
  have hL : ∀ J, mF9 M c I0 J → mF9 M (c + 120) I0 J := fun J h => mF_le9 h (by omega)
  rw [a_enter1 (M := a_m180) rfl (a_cat_rf (a_cat_int (a_cat_int (a_cat_int (a_cat_int a_cat_nil))))) (show 5 ≤ 5 by decide)]
  show a_at _ (a_xm a_m180) 0 [some (a_rf M), some (.int a), some (.int b), some (.int e), some (.int w)] [] _ _
  repeat' first
    | with_reducible apply And.intro
    | with_reducible assumption
    | with_reducible intro _
    | with_reducible apply hP
    | with_reducible apply hL4 _ (by with_reducible assumption)
    | with_reducible apply hL
    | with_reducible apply sF_hasDraft9
    | with_reducible apply sF_draftGroup9
    | with_reducible apply sF_draftLand9
    | with_reducible apply sF_draftLong9
    | with_reducible apply sF_draftWants9
    | with_reducible apply sF_refused9
    | simp only [q180_0, q180_1, q180_2, q180_4, q180_7, q180_10, q180_11, q180_12, q180_13, q180_16, q180_19, q180_20, q180_21, q180_24, q180_25, q180_26, q180_27, q180_30, q180_32, q180_35, q180_36, q180_38, q180_41, q180_42, q180_43, q180_44, q180_47, q180_49, q180_51, q180_54, q180_55, q180_57, q180_60, q180_61, q180_62, q180_63, q180_66, q180_67, q180_68, q180_71, q180_72, q180_73, q180_76, q180_77, q180_78, q180_81, q180_82, q180_84, q180_87, q180_88, m_0 hS, m_K hS, sp_in, sp_refuse_1 hS, sp_refuse_2 hS, sp_refuse_3 hS, sp_refuse_4 hS, sp_refuse_5 hS, sp_refuse_6 hS, as_nil, as_i, as_r, Nat.reduceAdd, Nat.reduceLeDiff, z_eq0, z_eq1, z_or, z_em, Classical.not_not, not_false_eq_true, not_true_eq_false, true_and, and_true, false_and, and_false, and_self, true_implies, false_implies, implies_true, Option.toList_some, Option.toList_none, List.cons_append, List.nil_append, Nat.add_eq_zero_iff, a_nl_i, a_nl_r, a_nl_n, true_or, or_true, eq_self, ok_4, ok_5, ok_6, ok_7, ok_9, ok_10, ok_20, ok_21, ok_24, ok_30, ok_48, ok_50, ok_60, ok_80, ok_120, ok_180, ok_192, ok_200, ok_900, ok_1000, ok_84000, a_sw, ti_0, ti_1, ti_2, ti_3, ti_4, ti_5, ti_6, ti_7, ti_8, ti_9, ti_10, ti_11, ti_12, ti_13, ti_14, ti_15, ti_16, ti_17, ti_18, ti_19, ti_98, ti_99, ti_100, ti_101, ti_102, ti_103, ti_104, ti_105, ti_106, ti_107, ti_108, ti_109, ti_110, ti_111, ti_112, ti_113, ti_114, ti_115, ti_116]
  all_goals grind [ui_ap]

theorem pu_withdraw9 (hS : m_S M K L R) (hF : mF9 M c I0 I) (hc : c + 130 ≤ 84000) {a : Int32} (hP : ∀ v J, mF9 M (c + 120) I0 J → P (some (.int v)) (n, t, K, L, J, R)) : a_does (d + 16) 184 [a_rf M, .int a] (n, t, K, L, I, R) P := by
  have hR := hF.1.1
  have g3 := mC_refl hR
  have hL4 : ∀ J, mF9 M (c + 4) I0 J → mF9 M (c + 120) I0 J := fun J h => mF_le9 h (by omega)
  have hL : ∀ J, mF9 M c I0 J → mF9 M (c + 120) I0 J := fun J h => mF_le9 h (by omega)
  have g1 := rg_asks hR
  rw [a_enter1 (M := a_m184) rfl (a_cat_rf (a_cat_int a_cat_nil)) (show 2 ≤ 2 by decide)]
  show a_at _ (a_xm a_m184) 0 [some (a_rf M), some (.int a)] [] _ _
  repeat' first
    | with_reducible apply And.intro
    | with_reducible assumption
    | with_reducible intro _
    | with_reducible apply hP
    | with_reducible apply hL4 _ (by with_reducible assumption)
    | with_reducible apply hL
    | with_reducible apply sF_isGone9
    | with_reducible apply sF_refused9
    | with_reducible apply ct_takeFrom9 hS (I0 := I0) (c := c)
    | simp only [q184_0, q184_1, q184_2, q184_5, q184_8, q184_9, q184_10, q184_13, q184_14, q184_15, q184_18, q184_19, q184_20, q184_23, q184_24, q184_26, q184_29, q184_30, q184_31, q184_34, q184_35, q184_36, q184_37, q184_38, q184_39, q184_42, q184_45, q184_46, q184_47, q184_50, q184_51, m_0 hS, m_K hS, mR_isGone hS, mK_isGone hS, mL_isGone hS, sp_isAsk hS, sp_refuse_1 hS, sp_refuse_2 hS, sp_refuse_3 hS, sp_refuse_4 hS, sp_refuse_5 hS, sp_refuse_6 hS, sp_hasPlace hS, as_nil, as_i, as_r, Nat.reduceAdd, Nat.reduceLeDiff, z_eq0, z_eq1, z_or, z_em, Classical.not_not, not_false_eq_true, not_true_eq_false, true_and, and_true, false_and, and_false, and_self, true_implies, false_implies, implies_true, Option.toList_some, Option.toList_none, List.cons_append, List.nil_append, Nat.add_eq_zero_iff, a_nl_i, a_nl_r, a_nl_n, true_or, or_true, eq_self, ok_4, ok_5, ok_6, ok_7, ok_9, ok_10, ok_20, ok_21, ok_24, ok_30, ok_48, ok_50, ok_60, ok_80, ok_120, ok_180, ok_192, ok_200, ok_900, ok_1000, ok_84000, a_sw, ti_0, ti_1, ti_2, ti_3, ti_4, ti_5, ti_6, ti_7, ti_8, ti_9, ti_10, ti_11, ti_12, ti_13, ti_14, ti_15, ti_16, ti_17, ti_18, ti_19, ti_98, ti_99, ti_100, ti_101, ti_102, ti_103, ti_104, ti_105, ti_106, ti_107, ti_108, ti_109, ti_110, ti_111, ti_112, ti_113, ti_114, ti_115, ti_116]
  all_goals grind [ui_ap]

theorem pu_markOf9 (hS : m_S M K L R) (hF : mF9 M c I0 I) (hc : c + 130 ≤ 84000) {a : Int32} (hP : ∀ v J, mF9 M (c + 120) I0 J → P (some (.int v)) (n, t, K, L, J, R)) : a_does (d + 16) 216 [a_rf M, .int a] (n, t, K, L, I, R) P := by
  have hR := hF.1.1
  have g3 := mC_refl hR
  have hL4 : ∀ J, mF9 M (c + 4) I0 J → mF9 M (c + 120) I0 J := fun J h => mF_le9 h (by omega)
  have hL : ∀ J, mF9 M c I0 J → mF9 M (c + 120) I0 J := fun J h => mF_le9 h (by omega)
  have g1 := rg_asks hR
  rw [a_enter1 (M := a_m216) rfl (a_cat_rf (a_cat_int a_cat_nil)) (show 2 ≤ 2 by decide)]
  show a_at _ (a_xm a_m216) 0 [some (a_rf M), some (.int a)] [] _ _
  repeat' first
    | with_reducible apply And.intro
    | with_reducible assumption
    | with_reducible intro _
    | with_reducible apply hP
    | with_reducible apply hL4 _ (by with_reducible assumption)
    | with_reducible apply hL
    | with_reducible apply sF_refused9
    | with_reducible apply ct_markFor hS hR
    | simp only [q216_0, q216_1, q216_2, q216_5, q216_8, q216_9, q216_10, q216_13, q216_16, q216_17, q216_18, q216_21, m_0 hS, m_K hS, sp_isAsk hS, sp_refuse_1 hS, sp_refuse_2 hS, sp_refuse_3 hS, sp_refuse_4 hS, sp_refuse_5 hS, sp_refuse_6 hS, as_nil, as_i, as_r, Nat.reduceAdd, Nat.reduceLeDiff, z_eq0, z_eq1, z_or, z_em, Classical.not_not, not_false_eq_true, not_true_eq_false, true_and, and_true, false_and, and_false, and_self, true_implies, false_implies, implies_true, Option.toList_some, Option.toList_none, List.cons_append, List.nil_append, Nat.add_eq_zero_iff, a_nl_i, a_nl_r, a_nl_n, true_or, or_true, eq_self, ok_4, ok_5, ok_6, ok_7, ok_9, ok_10, ok_20, ok_21, ok_24, ok_30, ok_48, ok_50, ok_60, ok_80, ok_120, ok_180, ok_192, ok_200, ok_900, ok_1000, ok_84000, a_sw, ti_0, ti_1, ti_2, ti_3, ti_4, ti_5, ti_6, ti_7, ti_8, ti_9, ti_10, ti_11, ti_12, ti_13, ti_14, ti_15, ti_16, ti_17, ti_18, ti_19, ti_98, ti_99, ti_100, ti_101, ti_102, ti_103, ti_104, ti_105, ti_106, ti_107, ti_108, ti_109, ti_110, ti_111, ti_112, ti_113, ti_114, ti_115, ti_116]
  all_goals grind [ui_ap]

theorem pu_fit9 (hS : m_S M K L R) (hF : mF9 M c I0 I) (hc : c + 130 ≤ 84000) {a b s : Int32} (hP : ∀ v J, mF9 M (c + 120) I0 J → P (some (.int v)) (n, t, K, L, J, R)) : a_does (d + 16) 220 [a_rf M, .int a, .int b, .int s] (n, t, K, L, I, R) P := by
  have hR := hF.1.1
  have g3 := mC_refl hR
  have hL4 : ∀ J, mF9 M (c + 4) I0 J → mF9 M (c + 120) I0 J := fun J h => mF_le9 h (by omega)
  have hL : ∀ J, mF9 M c I0 J → mF9 M (c + 120) I0 J := fun J h => mF_le9 h (by omega)
  have g1 := rg_asks hR
  have g2 := rg_benches hR
  rw [a_enter1 (M := a_m220) rfl (a_cat_rf (a_cat_int (a_cat_int (a_cat_int a_cat_nil)))) (show 4 ≤ 4 by decide)]
  show a_at _ (a_xm a_m220) 0 [some (a_rf M), some (.int a), some (.int b), some (.int s)] [] _ _
  repeat' first
    | with_reducible apply And.intro
    | with_reducible assumption
    | with_reducible intro _
    | with_reducible apply hP
    | with_reducible apply hL4 _ (by with_reducible assumption)
    | with_reducible apply hL
    | with_reducible apply sF_refused9
    | with_reducible apply ct_fitOf hS g3
    | with_reducible apply mF_C9 hF
    | simp only [q220_0, q220_1, q220_2, q220_5, q220_8, q220_9, q220_10, q220_13, q220_16, q220_17, q220_20, q220_23, q220_24, q220_25, q220_26, q220_27, q220_30, q220_33, q220_34, q220_35, q220_38, m_0 hS, m_K hS, sp_isAsk hS, sp_isBench hS, sp_isShift, sp_refuse_1 hS, sp_refuse_2 hS, sp_refuse_3 hS, sp_refuse_4 hS, sp_refuse_5 hS, sp_refuse_6 hS, as_nil, as_i, as_r, Nat.reduceAdd, Nat.reduceLeDiff, z_eq0, z_eq1, z_or, z_em, Classical.not_not, not_false_eq_true, not_true_eq_false, true_and, and_true, false_and, and_false, and_self, true_implies, false_implies, implies_true, Option.toList_some, Option.toList_none, List.cons_append, List.nil_append, Nat.add_eq_zero_iff, a_nl_i, a_nl_r, a_nl_n, true_or, or_true, eq_self, ok_4, ok_5, ok_6, ok_7, ok_9, ok_10, ok_20, ok_21, ok_24, ok_30, ok_48, ok_50, ok_60, ok_80, ok_120, ok_180, ok_192, ok_200, ok_900, ok_1000, ok_84000, a_sw, ti_0, ti_1, ti_2, ti_3, ti_4, ti_5, ti_6, ti_7, ti_8, ti_9, ti_10, ti_11, ti_12, ti_13, ti_14, ti_15, ti_16, ti_17, ti_18, ti_19, ti_98, ti_99, ti_100, ti_101, ti_102, ti_103, ti_104, ti_105, ti_106, ti_107, ti_108, ti_109, ti_110, ti_111, ti_112, ti_113, ti_114, ti_115, ti_116]
  all_goals grind [ui_ap]

theorem pu_give9 (hS : m_S M K L R) (hF : mF9 M c I0 I) (hc : c + 130 ≤ 84000) {a b s : Int32} (hP : ∀ v J, mF9 M (c + 120) I0 J → P (some (.int v)) (n, t, K, L, J, R)) : a_does (d + 16) 229 [a_rf M, .int a, .int b, .int s] (n, t, K, L, I, R) P := by
  have hR := hF.1.1
  have g3 := mC_refl hR
  have hL4 : ∀ J, mF9 M (c + 4) I0 J → mF9 M (c + 120) I0 J := fun J h => mF_le9 h (by omega)
  have hL : ∀ J, mF9 M c I0 J → mF9 M (c + 120) I0 J := fun J h => mF_le9 h (by omega)
  have g1 := rg_asks hR
  have g2 := rg_benches hR
  rw [a_enter1 (M := a_m229) rfl (a_cat_rf (a_cat_int (a_cat_int (a_cat_int a_cat_nil)))) (show 4 ≤ 4 by decide)]
  show a_at _ (a_xm a_m229) 0 [some (a_rf M), some (.int a), some (.int b), some (.int s)] [] _ _
  repeat' first
    | with_reducible apply And.intro
    | with_reducible assumption
    | with_reducible intro _
    | with_reducible apply hP
    | with_reducible apply hL4 _ (by with_reducible assumption)
    | with_reducible apply hL
    | with_reducible apply sF_isGone9
    | with_reducible apply sF_refused9
    | with_reducible apply ct_fitOf hS g3
    | with_reducible apply ct_giveTo9 hS (I0 := I0) (c := c)
    | with_reducible apply mF_C9 hF
    | simp only [q229_0, q229_1, q229_2, q229_5, q229_8, q229_9, q229_10, q229_13, q229_16, q229_17, q229_20, q229_23, q229_24, q229_25, q229_28, q229_29, q229_30, q229_33, q229_34, q229_35, q229_38, q229_39, q229_40, q229_43, q229_46, q229_47, q229_48, q229_49, q229_50, q229_53, q229_56, q229_57, q229_59, q229_62, q229_63, q229_64, q229_65, q229_66, q229_67, q229_70, q229_71, m_0 hS, m_K hS, mR_isGone hS, mK_isGone hS, mL_isGone hS, sp_isAsk hS, sp_isBench hS, sp_isShift, sp_refuse_1 hS, sp_refuse_2 hS, sp_refuse_3 hS, sp_refuse_4 hS, sp_refuse_5 hS, sp_refuse_6 hS, sp_hasPlace hS, as_nil, as_i, as_r, Nat.reduceAdd, Nat.reduceLeDiff, z_eq0, z_eq1, z_or, z_em, Classical.not_not, not_false_eq_true, not_true_eq_false, true_and, and_true, false_and, and_false, and_self, true_implies, false_implies, implies_true, Option.toList_some, Option.toList_none, List.cons_append, List.nil_append, Nat.add_eq_zero_iff, a_nl_i, a_nl_r, a_nl_n, true_or, or_true, eq_self, ok_4, ok_5, ok_6, ok_7, ok_9, ok_10, ok_20, ok_21, ok_24, ok_30, ok_48, ok_50, ok_60, ok_80, ok_120, ok_180, ok_192, ok_200, ok_900, ok_1000, ok_84000, a_sw, ti_0, ti_1, ti_2, ti_3, ti_4, ti_5, ti_6, ti_7, ti_8, ti_9, ti_10, ti_11, ti_12, ti_13, ti_14, ti_15, ti_16, ti_17, ti_18, ti_19, ti_98, ti_99, ti_100, ti_101, ti_102, ti_103, ti_104, ti_105, ti_106, ti_107, ti_108, ti_109, ti_110, ti_111, ti_112, ti_113, ti_114, ti_115, ti_116]
  all_goals grind [ui_ap]

theorem pu_take9 (hS : m_S M K L R) (hF : mF9 M c I0 I) (hc : c + 130 ≤ 84000) {a : Int32} (hP : ∀ v J, mF9 M (c + 120) I0 J → P (some (.int v)) (n, t, K, L, J, R)) : a_does (d + 16) 233 [a_rf M, .int a] (n, t, K, L, I, R) P := by
  have hR := hF.1.1
  have g3 := mC_refl hR
  have hL4 : ∀ J, mF9 M (c + 4) I0 J → mF9 M (c + 120) I0 J := fun J h => mF_le9 h (by omega)
  have hL : ∀ J, mF9 M c I0 J → mF9 M (c + 120) I0 J := fun J h => mF_le9 h (by omega)
  have g1 := rg_asks hR
  rw [a_enter1 (M := a_m233) rfl (a_cat_rf (a_cat_int a_cat_nil)) (show 2 ≤ 2 by decide)]
  show a_at _ (a_xm a_m233) 0 [some (a_rf M), some (.int a)] [] _ _
  repeat' first
    | with_reducible apply And.intro
    | with_reducible assumption
    | with_reducible intro _
    | with_reducible apply hP
    | with_reducible apply hL4 _ (by with_reducible assumption)
    | with_reducible apply hL
    | with_reducible apply sF_refused9
    | with_reducible apply ct_takeFrom9 hS (I0 := I0) (c := c)
    | simp only [q233_0, q233_1, q233_2, q233_5, q233_8, q233_9, q233_10, q233_13, q233_14, q233_15, q233_16, q233_19, q233_22, q233_23, q233_24, q233_27, q233_28, q233_29, q233_32, q233_35, q233_36, q233_38, q233_41, q233_42, q233_43, q233_44, q233_47, q233_48, m_0 hS, m_K hS, mR_atShift hS, mK_atShift hS, mL_atShift hS, sp_isAsk hS, sp_refuse_1 hS, sp_refuse_2 hS, sp_refuse_3 hS, sp_refuse_4 hS, sp_refuse_5 hS, sp_refuse_6 hS, sp_hasPlace hS, sp_isBegun hS, as_nil, as_i, as_r, Nat.reduceAdd, Nat.reduceLeDiff, z_eq0, z_eq1, z_or, z_em, Classical.not_not, not_false_eq_true, not_true_eq_false, true_and, and_true, false_and, and_false, and_self, true_implies, false_implies, implies_true, Option.toList_some, Option.toList_none, List.cons_append, List.nil_append, Nat.add_eq_zero_iff, a_nl_i, a_nl_r, a_nl_n, true_or, or_true, eq_self, ok_4, ok_5, ok_6, ok_7, ok_9, ok_10, ok_20, ok_21, ok_24, ok_30, ok_48, ok_50, ok_60, ok_80, ok_120, ok_180, ok_192, ok_200, ok_900, ok_1000, ok_84000, a_sw, ti_0, ti_1, ti_2, ti_3, ti_4, ti_5, ti_6, ti_7, ti_8, ti_9, ti_10, ti_11, ti_12, ti_13, ti_14, ti_15, ti_16, ti_17, ti_18, ti_19, ti_98, ti_99, ti_100, ti_101, ti_102, ti_103, ti_104, ti_105, ti_106, ti_107, ti_108, ti_109, ti_110, ti_111, ti_112, ti_113, ti_114, ti_115, ti_116]
  all_goals grind [ui_ap]

theorem pu_why9 (hS : m_S M K L R) (hF : mF9 M c I0 I) (hc : c + 130 ≤ 84000) {a b s f e : Int32} (hP : ∀ v J, mF9 M (c + 120) I0 J → P (some (.int v)) (n, t, K, L, J, R)) : a_does (d + 16) 241 [a_rf M, .int a, .int b, .int s, .int f, .int e] (n, t, K, L, I, R) P := by
  have hR := hF.1.1
  have g3 := mC_refl hR
  have hL4 : ∀ J, mF9 M (c + 4) I0 J → mF9 M (c + 120) I0 J := fun J h => mF_le9 h (by omega)
  have hL : ∀ J, mF9 M c I0 J → mF9 M (c + 120) I0 J := fun J h => mF_le9 h (by omega)
  have g1 := rg_asks hR
  have g2 := rg_benches hR
  rw [a_enter1 (M := a_m241) rfl (a_cat_rf (a_cat_int (a_cat_int (a_cat_int (a_cat_int (a_cat_int a_cat_nil)))))) (show 6 ≤ 7 by decide)]
  show a_at _ (a_xm a_m241) 0 [some (a_rf M), some (.int a), some (.int b), some (.int s), some (.int f), some (.int e), none] [] _ _
  repeat' first
    | with_reducible apply And.intro
    | with_reducible assumption
    | with_reducible intro _
    | with_reducible apply hP
    | with_reducible apply hL4 _ (by with_reducible assumption)
    | with_reducible apply hL
    | with_reducible apply sF_refused9
    | with_reducible apply ct_fitOf hS g3
    | with_reducible apply ct_isWithinShare hS
    | with_reducible apply mC_R
    | with_reducible apply mF_C9 hF
    | simp only [q241_0, q241_1, q241_2, q241_5, q241_8, q241_9, q241_10, q241_13, q241_16, q241_18, q241_20, q241_23, q241_26, q241_27, q241_29, q241_31, q241_34, q241_37, q241_38, q241_39, q241_42, q241_43, q241_44, q241_45, q241_46, q241_47, q241_50, q241_52, q241_54, q241_57, q241_59, q241_62, q241_63, q241_64, q241_66, q241_68, q241_71, q241_74, q241_75, q241_78, q241_80, m_0 hS, m_K hS, sp_isAsk hS, sp_isBench hS, sp_isSpan, sp_in, sp_refuse_1 hS, sp_refuse_2 hS, sp_refuse_3 hS, sp_refuse_4 hS, sp_refuse_5 hS, sp_refuse_6 hS, as_nil, as_i, as_r, Nat.reduceAdd, Nat.reduceLeDiff, z_eq0, z_eq1, z_or, z_em, Classical.not_not, not_false_eq_true, not_true_eq_false, true_and, and_true, false_and, and_false, and_self, true_implies, false_implies, implies_true, Option.toList_some, Option.toList_none, List.cons_append, List.nil_append, Nat.add_eq_zero_iff, a_nl_i, a_nl_r, a_nl_n, true_or, or_true, eq_self, ok_4, ok_5, ok_6, ok_7, ok_9, ok_10, ok_20, ok_21, ok_24, ok_30, ok_48, ok_50, ok_60, ok_80, ok_120, ok_180, ok_192, ok_200, ok_900, ok_1000, ok_84000, a_sw, ti_0, ti_1, ti_2, ti_3, ti_4, ti_5, ti_6, ti_7, ti_8, ti_9, ti_10, ti_11, ti_12, ti_13, ti_14, ti_15, ti_16, ti_17, ti_18, ti_19, ti_98, ti_99, ti_100, ti_101, ti_102, ti_103, ti_104, ti_105, ti_106, ti_107, ti_108, ti_109, ti_110, ti_111, ti_112, ti_113, ti_114, ti_115, ti_116]
  all_goals grind [ui_ap]

theorem pu_danger9 (hS : m_S M K L R) (hF : mF9 M c I0 I) (hc : c + 130 ≤ 84000) {a v : Int32} (hP : ∀ v J, mF9 M (c + 120) I0 J → P (some (.int v)) (n, t, K, L, J, R)) : a_does (d + 16) 249 [a_rf M, .int a, .int v] (n, t, K, L, I, R) P := by
  have hR := hF.1.1
  have g3 := mC_refl hR
  have hL4 : ∀ J, mF9 M (c + 4) I0 J → mF9 M (c + 120) I0 J := fun J h => mF_le9 h (by omega)
  have hL : ∀ J, mF9 M c I0 J → mF9 M (c + 120) I0 J := fun J h => mF_le9 h (by omega)
  have g1 := rg_asks hR
  rw [a_enter1 (M := a_m249) rfl (a_cat_rf (a_cat_int (a_cat_int a_cat_nil))) (show 3 ≤ 3 by decide)]
  show a_at _ (a_xm a_m249) 0 [some (a_rf M), some (.int a), some (.int v)] [] _ _
  repeat' first
    | with_reducible apply And.intro
    | with_reducible assumption
    | with_reducible intro _
    | with_reducible apply hP
    | with_reducible apply hL4 _ (by with_reducible assumption)
    | with_reducible apply hL
    | with_reducible apply sF_danger9
    | with_reducible apply sF_refused9
    | with_reducible apply ct_fitsNoMore hS (I := a_ui I (M + 15) a.toNatClampNeg v)
    | with_reducible apply ct_takeFrom9 hS (I0 := I0) (c := c)
    | with_reducible apply sR_danger
    | with_reducible apply mF_C9 (sF_danger9 hF)
    | simp only [q249_0, q249_1, q249_2, q249_5, q249_8, q249_9, q249_10, q249_13, q249_14, q249_15, q249_18, q249_19, q249_21, q249_24, q249_25, q249_26, q249_28, q249_31, q249_32, q249_34, q249_37, q249_38, q249_39, q249_42, q249_43, q249_44, q249_45, q249_46, q249_47, q249_50, q249_53, q249_54, q249_55, q249_58, q249_59, q249_60, q249_61, m_0 hS, m_K hS, mR_danger hS, mK_danger hS, mL_danger hS, sp_isAsk hS, sp_refuse_1 hS, sp_refuse_2 hS, sp_refuse_3 hS, sp_refuse_4 hS, sp_refuse_5 hS, sp_refuse_6 hS, as_nil, as_i, as_r, Nat.reduceAdd, Nat.reduceLeDiff, z_eq0, z_eq1, z_or, z_em, Classical.not_not, not_false_eq_true, not_true_eq_false, true_and, and_true, false_and, and_false, and_self, true_implies, false_implies, implies_true, Option.toList_some, Option.toList_none, List.cons_append, List.nil_append, Nat.add_eq_zero_iff, a_nl_i, a_nl_r, a_nl_n, true_or, or_true, eq_self, ok_4, ok_5, ok_6, ok_7, ok_9, ok_10, ok_20, ok_21, ok_24, ok_30, ok_48, ok_50, ok_60, ok_80, ok_120, ok_180, ok_192, ok_200, ok_900, ok_1000, ok_84000, a_sw, ti_0, ti_1, ti_2, ti_3, ti_4, ti_5, ti_6, ti_7, ti_8, ti_9, ti_10, ti_11, ti_12, ti_13, ti_14, ti_15, ti_16, ti_17, ti_18, ti_19, ti_98, ti_99, ti_100, ti_101, ti_102, ti_103, ti_104, ti_105, ti_106, ti_107, ti_108, ti_109, ti_110, ti_111, ti_112, ti_113, ti_114, ti_115, ti_116]
  all_goals grind [ui_ap]

theorem pu_wish9 (hS : m_S M K L R) (hF : mF9 M c I0 I) (hc : c + 130 ≤ 84000) {a b o : Int32} (hP : ∀ v J, mF9 M (c + 120) I0 J → P (some (.int v)) (n, t, K, L, J, R)) : a_does (d + 16) 250 [a_rf M, .int a, .int b, .int o] (n, t, K, L, I, R) P := by
  have hR := hF.1.1
  have g3 := mC_refl hR
  have hL4 : ∀ J, mF9 M (c + 4) I0 J → mF9 M (c + 120) I0 J := fun J h => mF_le9 h (by omega)
  have hL : ∀ J, mF9 M c I0 J → mF9 M (c + 120) I0 J := fun J h => mF_le9 h (by omega)
  have g1 := rg_asks hR
  rw [a_enter1 (M := a_m250) rfl (a_cat_rf (a_cat_int (a_cat_int (a_cat_int a_cat_nil)))) (show 4 ≤ 5 by decide)]
  show a_at _ (a_xm a_m250) 0 [some (a_rf M), some (.int a), some (.int b), some (.int o), none] [] _ _
  repeat' first
    | with_reducible apply And.intro
    | with_reducible assumption
    | with_reducible intro _
    | with_reducible apply hP
    | with_reducible apply hL4 _ (by with_reducible assumption)
    | with_reducible apply hL
    | with_reducible apply sF_isWish9
    | with_reducible apply sF_refused9
    | simp only [q250_0, q250_1, q250_2, q250_5, q250_8, q250_9, q250_10, q250_13, q250_16, q250_17, q250_18, q250_21, q250_22, q250_23, q250_26, q250_27, q250_28, q250_31, q250_33, q250_34, q250_35, q250_36, q250_37, q250_38, q250_40, q250_41, q250_44, q250_46, q250_47, q250_48, q250_49, q250_50, q250_51, q250_52, q250_54, q250_55, q250_58, q250_59, q250_62, q250_63, m_0 hS, m_K hS, mR_isWish hS, mK_isWish hS, mL_isWish hS, sp_isAsk hS, sp_refuse_1 hS, sp_refuse_2 hS, sp_refuse_3 hS, sp_refuse_4 hS, sp_refuse_5 hS, sp_refuse_6 hS, as_nil, as_i, as_r, Nat.reduceAdd, Nat.reduceLeDiff, z_eq0, z_eq1, z_or, z_em, Classical.not_not, not_false_eq_true, not_true_eq_false, true_and, and_true, false_and, and_false, and_self, true_implies, false_implies, implies_true, Option.toList_some, Option.toList_none, List.cons_append, List.nil_append, Nat.add_eq_zero_iff, a_nl_i, a_nl_r, a_nl_n, true_or, or_true, eq_self, ok_4, ok_5, ok_6, ok_7, ok_9, ok_10, ok_20, ok_21, ok_24, ok_30, ok_48, ok_50, ok_60, ok_80, ok_120, ok_180, ok_192, ok_200, ok_900, ok_1000, ok_84000, a_sw, ti_0, ti_1, ti_2, ti_3, ti_4, ti_5, ti_6, ti_7, ti_8, ti_9, ti_10, ti_11, ti_12, ti_13, ti_14, ti_15, ti_16, ti_17, ti_18, ti_19, ti_98, ti_99, ti_100, ti_101, ti_102, ti_103, ti_104, ti_105, ti_106, ti_107, ti_108, ti_109, ti_110, ti_111, ti_112, ti_113, ti_114, ti_115, ti_116]
  all_goals grind [ui_ap]

end SB

/-! public methods 2 -/
section SC
variable {d n t M c : Nat} {K L : Nat → Nat} {I I0 J J0 J1 J2 : Nat → Nat → Int32} {R : Nat → Nat → Nat} {P : Option Value → AH → Prop}
theorem pu_mark9 (hS : m_S M K L R) (hF : mF9 M c I0 I) (hc : c + 130 ≤ 84000) {r a v : Int32} (hP : ∀ v J, mF9 M (c + 120) I0 J → P (some (.int v)) (n, t, K, L, J, R)) : a_does (d + 16) 215 [a_rf M, .int r, .int a, .int v] (n, t, K, L, I, R) P := by
  have hR := hF.1.1
  have g3 := mC_refl hR
  have hL4 : ∀ J, mF9 M (c + 4) I0 J → mF9 M (c + 120) I0 J := fun J h => mF_le9 h (by omega)
  have hL : ∀ J, mF9 M c I0 J → mF9 M (c + 120) I0 J := fun J h => mF_le9 h (by omega)
  have g1 := rg_asks hR
  have g2 := rg_group hR a.toNatClampNeg
  rw [a_enter1 (M := a_m215) rfl (a_cat_rf (a_cat_int (a_cat_int (a_cat_int a_cat_nil)))) (show 4 ≤ 6 by decide)]
  show a_at _ (a_xm a_m215) 0 [some (a_rf M), some (.int r), some (.int a), some (.int v), none, none] [] _ _
  repeat' first
    | with_reducible apply And.intro
    | with_reducible assumption
    | with_reducible intro _
    | with_reducible apply hP
    | with_reducible apply hL4 _ (by with_reducible assumption)
    | with_reducible apply hL
    | with_reducible apply sF_isMarked9
    | with_reducible apply sF_marks9
    | with_reducible apply sF_doesCount9
    | with_reducible apply sF_group9
    | with_reducible apply sF_refused9
    | with_reducible apply lp_mark_27 hS
    | simp only [q215_0, q215_1, q215_4, q215_7, q215_8, q215_9, q215_12, q215_15, q215_16, q215_17, q215_20, q215_21, q215_22, q215_24, q215_25, q215_29, q215_31, q215_34, q215_36, q215_37, q215_40, q215_42, q215_44, q215_45, q215_46, q215_47, q215_48, q215_51, q215_52, q215_55, q215_56, q215_57, q215_59, q215_62, q215_65, q215_66, q215_69, q215_71, q215_72, q215_73, q215_74, q215_75, q215_76, q215_79, q215_81, q215_82, q215_85, q215_86, q215_88, q215_91, q215_92, q215_93, q215_96, q215_97, q215_99, q215_102, q215_103, q215_104, q215_106, q215_109, q215_110, q215_112, q215_115, q215_116, q215_117, q215_120, q215_122, q215_123, q215_124, q215_125, q215_126, q215_127, q215_128, q215_129, q215_132, q215_134, q215_135, q215_136, q215_137, q215_138, q215_139, q215_140, q215_141, q215_144, q215_146, q215_147, q215_148, q215_149, q215_150, q215_151, q215_154, q215_156, q215_157, q215_158, q215_159, q215_162, q215_163, q215_164, q215_165, q215_166, q215_169, q215_170, q215_173, q215_174, q215_175, q215_176, q215_179, q215_181, q215_182, q215_183, q215_184, q215_185, q215_186, q215_189, q215_190, q215_193, q215_194, m_0 hS, m_K hS, mR_isMarked hS, mK_isMarked hS, mL_isMarked hS, mR_marks hS, mK_marks hS, mL_marks hS, mR_doesCount hS, mK_doesCount hS, mL_doesCount hS, mR_isKin hS, mK_isKin hS, mL_isKin hS, mR_group hS, mK_group hS, mL_group hS, sp_isReader, sp_isAsk hS, sp_refuse_1 hS, sp_refuse_2 hS, sp_refuse_3 hS, sp_refuse_4 hS, sp_refuse_5 hS, sp_refuse_6 hS, as_nil, as_i, as_r, Nat.reduceAdd, Nat.reduceLeDiff, z_eq0, z_eq1, z_or, z_em, Classical.not_not, not_false_eq_true, not_true_eq_false, true_and, and_true, false_and, and_false, and_self, true_implies, false_implies, implies_true, Option.toList_some, Option.toList_none, List.cons_append, List.nil_append, Nat.add_eq_zero_iff, a_nl_i, a_nl_r, a_nl_n, true_or, or_true, eq_self, ok_4, ok_5, ok_6, ok_7, ok_9, ok_10, ok_20, ok_21, ok_24, ok_30, ok_48, ok_50, ok_60, ok_80, ok_120, ok_180, ok_192, ok_200, ok_900, ok_1000, ok_84000, a_sw, ti_0, ti_1, ti_2, ti_3, ti_4, ti_5, ti_6, ti_7, ti_8, ti_9, ti_10, ti_11, ti_12, ti_13, ti_14, ti_15, ti_16, ti_17, ti_18, ti_19, ti_98, ti_99, ti_100, ti_101, ti_102, ti_103, ti_104, ti_105, ti_106, ti_107, ti_108, ti_109, ti_110, ti_111, ti_112, ti_113, ti_114, ti_115, ti_116]
  all_goals grind [ui_ap]

theorem lp_again_709 (hS : m_S M K L R) (hc : c + 130 ≤ 84000) {g om : Int32} (hom : om ≤ 30) (hP : ∀ v J, mF9 M (c + 120) I0 J → P (some (.int v)) (n, t, K, L, J, R)) : ∀ i : Int32, i ≤ 30 → ∀ J m u v, 0 ≤ i → mF9 M (c + 4 * i.toNatClampNeg) I0 J → J M 64 = om → a_at (d + 12) (a_xm a_m247) 70 [some (a_rf M), some (.int g), some (.int m), some (.int i), u, v] [] (n, t, K, L, J, R) P := by
  refine up_ind 30 (fun i hi ih => ?_)
  intro J m u v h0 hF hO
  have g1 := rg_order hF.1.1 i.toNatClampNeg
  have g2 := rg_now hF.1.1
  have g3 := div_rng g2.1 (show (0 : Int32) < 8 by decide)
  have q1 := cl_le h0 hi
  rw [q247_70]
  simp only [q247_71, q247_72, q247_75, q247_78, q247_79, q247_82, q247_83, q247_84, q247_86, q247_87, q247_89, q247_90, q247_93, q247_95, q247_96, q247_97, q247_98, q247_101, q247_102, m_0 hS, m_K hS, mR_order hS, mK_order hS, mL_order hS, as_nil, as_i, as_r, Nat.reduceAdd, Nat.reduceLeDiff, z_eq0, z_eq1, z_or, z_em, Classical.not_not, not_false_eq_true, not_true_eq_false, true_and, and_true, false_and, and_false, and_self, true_implies, false_implies, implies_true, Option.toList_some, Option.toList_none, List.cons_append, List.nil_append, Nat.add_eq_zero_iff, a_nl_i, a_nl_r, a_nl_n, true_or, or_true, eq_self, ok_4, ok_5, ok_6, ok_7, ok_9, ok_10, ok_20, ok_21, ok_24, ok_30, ok_48, ok_50, ok_60, ok_80, ok_120, ok_180, ok_192, ok_200, ok_900, ok_1000, ok_84000]
  refine ⟨fun h => ?_, fun h => ⟨by grind, ?_⟩⟩
  · simp only [q247_160, q247_161, as_nil, as_i, as_r, Nat.reduceAdd, Nat.reduceLeDiff, z_eq0, z_eq1, z_or, z_em, Classical.not_not, not_false_eq_true, not_true_eq_false, true_and, and_true, false_and, and_false, and_self, true_implies, false_implies, implies_true, Option.toList_some, Option.toList_none, List.cons_append, List.nil_append, Nat.add_eq_zero_iff, a_nl_i, a_nl_r, a_nl_n, true_or, or_true, eq_self, ok_4, ok_5, ok_6, ok_7, ok_9, ok_10, ok_20, ok_21, ok_24, ok_30, ok_48, ok_50, ok_60, ok_80, ok_120, ok_180, ok_192, ok_200, ok_900, ok_1000, ok_84000]
    exact hP _ J (mF_le9 hF (by omega))
  · have q2 : i < 30 := by grind
    have q3 : i.toNatClampNeg < 30 := (show i.toNatClampNeg < (30 : Int32).toNatClampNeg from cl_lt h0 q2)
    have q4 := cl_up h0 (show i < 100000 by grind)
    have q5 : J M 0 / 8 ≤ 200 := by
      have := ti_div g2.1 (show (0 : Int32) < 8 by decide)
      have h1 := Int32.le_iff_toInt_le.mp g2.2
      rw [Int32.le_iff_toInt_le, this]
      show (J M 0).toInt / 8 ≤ 200
      simp at h1
      omega
    try refine ⟨by decide, ?_⟩
    refine ct_giveFirst9 hS hF (by omega) (by grind) (by grind) (by decide) (fun v J2 f2 v2 z2 => ?_)
    have e1 := gv_orderMany v2
    rw [show c + 4 * i.toNatClampNeg + 4 = c + 4 * (i + 1).toNatClampNeg by omega] at f2
    repeat' first
      | with_reducible apply And.intro
      | with_reducible assumption
      | with_reducible intro _
      | with_reducible apply ih q2
      | simp only [q247_105, q247_107, q247_108, q247_110, q247_113, q247_114, q247_117, q247_119, q247_120, q247_121, q247_124, q247_126, q247_127, q247_130, q247_131, q247_134, q247_136, q247_137, q247_138, q247_141, q247_143, q247_144, q247_147, q247_148, q247_151, q247_152, q247_153, q247_154, q247_157, m_0 hS, m_K hS, mR_atBench hS, mK_atBench hS, mL_atBench hS, mR_wasBench hS, mK_wasBench hS, mL_wasBench hS, mR_atShift hS, mK_atShift hS, mL_atShift hS, mR_wasShift hS, mK_wasShift hS, mL_wasShift hS, as_nil, as_i, as_r, Nat.reduceAdd, Nat.reduceLeDiff, z_eq0, z_eq1, z_or, z_em, Classical.not_not, not_false_eq_true, not_true_eq_false, true_and, and_true, false_and, and_false, and_self, true_implies, false_implies, implies_true, Option.toList_some, Option.toList_none, List.cons_append, List.nil_append, Nat.add_eq_zero_iff, a_nl_i, a_nl_r, a_nl_n, true_or, or_true, eq_self, ok_4, ok_5, ok_6, ok_7, ok_9, ok_10, ok_20, ok_21, ok_24, ok_30, ok_48, ok_50, ok_60, ok_80, ok_120, ok_180, ok_192, ok_200, ok_900, ok_1000, ok_84000, ui_ap, ne_MM, ne_M0, ne_0M, Nat.reduceEqDiff, reduceIte, if_true, if_false]
    all_goals grind [ui_ap]
theorem lp_again_49 (hS : m_S M K L R) (hc : c + 130 ≤ 84000) (hN : ∀ J g a, mF9 M c I0 J → a_at (d + 12) (a_xm a_m247) 61 [some (a_rf M), some (.int g), some (.int a), none, none, none] [] (n, t, K, L, J, R) P) : ∀ a : Int32, a ≤ 30 → ∀ J g, 0 ≤ a → mF9 M c I0 J → a_at (d + 12) (a_xm a_m247) 4 [some (a_rf M), some (.int g), some (.int a), none, none, none] [] (n, t, K, L, J, R) P := by
  refine up_ind 30 (fun a ha ih => ?_)
  intro J g h0 hF
  have g1 := rg_asks hF.1.1
  rw [q247_4]
  simp only [q247_5, q247_6, q247_9, q247_12, q247_13, q247_14, m_0 hS, m_K hS, as_nil, as_i, as_r, Nat.reduceAdd, Nat.reduceLeDiff, z_eq0, z_eq1, z_or, z_em, Classical.not_not, not_false_eq_true, not_true_eq_false, true_and, and_true, false_and, and_false, and_self, true_implies, false_implies, implies_true, Option.toList_some, Option.toList_none, List.cons_append, List.nil_append, Nat.add_eq_zero_iff, a_nl_i, a_nl_r, a_nl_n, true_or, or_true, eq_self, ok_4, ok_5, ok_6, ok_7, ok_9, ok_10, ok_20, ok_21, ok_24, ok_30, ok_48, ok_50, ok_60, ok_80, ok_120, ok_180, ok_192, ok_200, ok_900, ok_1000, ok_84000]
  refine ⟨fun h => hN J _ _ hF, fun h => ?_⟩
  refine ct_fitsNoMore hS hF.1.1 (by grind) (fun v J1 c1 p1 => ?_)
  have f1 := mF_C9 hF c1
  have e1 := eS_asks c1
  have e2 := eS_atBench c1 a.toNatClampNeg
  simp only [q247_17, q247_20, q247_21, q247_24, q247_25, q247_26, q247_29, q247_30, q247_31, q247_32, q247_33, q247_36, q247_37, q247_38, q247_41, q247_42, q247_43, q247_44, q247_45, q247_46, m_0 hS, m_K hS, mR_wasBench hS, mK_wasBench hS, mL_wasBench hS, mR_atBench hS, mK_atBench hS, mL_atBench hS, mR_wasShift hS, mK_wasShift hS, mL_wasShift hS, mR_atShift hS, mK_atShift hS, mL_atShift hS, as_nil, as_i, as_r, Nat.reduceAdd, Nat.reduceLeDiff, z_eq0, z_eq1, z_or, z_em, Classical.not_not, not_false_eq_true, not_true_eq_false, true_and, and_true, false_and, and_false, and_self, true_implies, false_implies, implies_true, Option.toList_some, Option.toList_none, List.cons_append, List.nil_append, Nat.add_eq_zero_iff, a_nl_i, a_nl_r, a_nl_n, true_or, or_true, eq_self, ok_4, ok_5, ok_6, ok_7, ok_9, ok_10, ok_20, ok_21, ok_24, ok_30, ok_48, ok_50, ok_60, ok_80, ok_120, ok_180, ok_192, ok_200, ok_900, ok_1000, ok_84000]
  refine ⟨fun hv => ?_, fun hv => ?_⟩
  · simp only [q247_55, q247_58, as_nil, as_i, as_r, Nat.reduceAdd, Nat.reduceLeDiff, z_eq0, z_eq1, z_or, z_em, Classical.not_not, not_false_eq_true, not_true_eq_false, true_and, and_true, false_and, and_false, and_self, true_implies, false_implies, implies_true, Option.toList_some, Option.toList_none, List.cons_append, List.nil_append, Nat.add_eq_zero_iff, a_nl_i, a_nl_r, a_nl_n, true_or, or_true, eq_self, ok_4, ok_5, ok_6, ok_7, ok_9, ok_10, ok_20, ok_21, ok_24, ok_30, ok_48, ok_50, ok_60, ok_80, ok_120, ok_180, ok_192, ok_200, ok_900, ok_1000, ok_84000]
    exact ih (by grind) J1 _ (by grind) f1
  · repeat refine And.intro (by grind) ?_
    refine ct_takeFrom9 hS (sF_wasShift9 (sF_wasBench9 f1)) (by omega) (by grind) (fun J2 f2 f3 v2 z2 => ?_)
    have f4 := f3 (by simp [ui_ap]; grind) (by simp [ui_ap]; grind)
    simp only [q247_49, q247_50, q247_51, q247_52, q247_53, q247_54, q247_55, q247_58, as_nil, as_i, as_r, Nat.reduceAdd, Nat.reduceLeDiff, z_eq0, z_eq1, z_or, z_em, Classical.not_not, not_false_eq_true, not_true_eq_false, true_and, and_true, false_and, and_false, and_self, true_implies, false_implies, implies_true, Option.toList_some, Option.toList_none, List.cons_append, List.nil_append, Nat.add_eq_zero_iff, a_nl_i, a_nl_r, a_nl_n, true_or, or_true, eq_self, ok_4, ok_5, ok_6, ok_7, ok_9, ok_10, ok_20, ok_21, ok_24, ok_30, ok_48, ok_50, ok_60, ok_80, ok_120, ok_180, ok_192, ok_200, ok_900, ok_1000, ok_84000]
    exact ih (by grind) J2 _ (by grind) f4
theorem pu_again9 (hS : m_S M K L R) (hF : mF9 M c I0 I) (hc : c + 130 ≤ 84000) (hP : ∀ v J, mF9 M (c + 120) I0 J → P (some (.int v)) (n, t, K, L, J, R)) : a_does (d + 14) 247 [a_rf M] (n, t, K, L, I, R) P := by
  rw [a_enter1 (M := a_m247) rfl (a_cat_rf a_cat_nil) (show 1 ≤ 6 by decide)]
  show a_at _ (a_xm a_m247) 0 [some (a_rf M), none, none, none, none, none] [] _ _
  simp only [q247_0, q247_1, q247_2, q247_3, as_nil, as_i, as_r, Nat.reduceAdd, Nat.reduceLeDiff, z_eq0, z_eq1, z_or, z_em, Classical.not_not, not_false_eq_true, not_true_eq_false, true_and, and_true, false_and, and_false, and_self, true_implies, false_implies, implies_true, Option.toList_some, Option.toList_none, List.cons_append, List.nil_append, Nat.add_eq_zero_iff, a_nl_i, a_nl_r, a_nl_n, true_or, or_true, eq_self, ok_4, ok_5, ok_6, ok_7, ok_9, ok_10, ok_20, ok_21, ok_24, ok_30, ok_48, ok_50, ok_60, ok_80, ok_120, ok_180, ok_192, ok_200, ok_900, ok_1000, ok_84000]
  refine lp_again_49 hS hc (fun J g a f1 => ?_) 0 (by decide) I _ (by decide) hF
  simp only [q247_61, q247_62, q247_63, m_0 hS, m_K hS, as_nil, as_i, as_r, Nat.reduceAdd, Nat.reduceLeDiff, z_eq0, z_eq1, z_or, z_em, Classical.not_not, not_false_eq_true, not_true_eq_false, true_and, and_true, false_and, and_false, and_self, true_implies, false_implies, implies_true, Option.toList_some, Option.toList_none, List.cons_append, List.nil_append, Nat.add_eq_zero_iff, a_nl_i, a_nl_r, a_nl_n, true_or, or_true, eq_self, ok_4, ok_5, ok_6, ok_7, ok_9, ok_10, ok_20, ok_21, ok_24, ok_30, ok_48, ok_50, ok_60, ok_80, ok_120, ok_180, ok_192, ok_200, ok_900, ok_1000, ok_84000]
  refine ct_findOrder9 hS f1 (fun J2 f2 o2 => ?_)
  simp only [q247_66, q247_67, q247_68, q247_69, as_nil, as_i, as_r, Nat.reduceAdd, Nat.reduceLeDiff, z_eq0, z_eq1, z_or, z_em, Classical.not_not, not_false_eq_true, not_true_eq_false, true_and, and_true, false_and, and_false, and_self, true_implies, false_implies, implies_true, Option.toList_some, Option.toList_none, List.cons_append, List.nil_append, Nat.add_eq_zero_iff, a_nl_i, a_nl_r, a_nl_n, true_or, or_true, eq_self, ok_4, ok_5, ok_6, ok_7, ok_9, ok_10, ok_20, ok_21, ok_24, ok_30, ok_48, ok_50, ok_60, ok_80, ok_120, ok_180, ok_192, ok_200, ok_900, ok_1000, ok_84000]
  exact lp_again_709 hS hc o2.2 hP 0 (by decide) _ _ _ _ (by decide) (mF_le9 f2 (by omega)) rfl

end SC

/-! public methods 3 -/
section SD
variable {d n t M c : Nat} {K L : Nat → Nat} {I I0 J J0 J1 J2 : Nat → Nat → Int32} {R : Nat → Nat → Nat} {P : Option Value → AH → Prop}
theorem fr_ui9 (h : fr9 M I J) {x k : Nat} {v : Int32} (hx : ¬ eC9 M x k) : fr9 M I (a_ui J x k v) := fun y j hy => by
  rw [ui_ap, if_neg (fun q => hx (by rw [← q.1, ← q.2]; exact hy))]
  exact h y j hy
theorem ask_F9 (h : mF9 M c I0 J) {k g l m w p q r s x y : Int32} (ha : J M 17 < 30) (hg : 0 ≤ g ∧ g ≤ 9) (hm : 0 ≤ m ∧ m ≤ 4) (hx : k = 1 → 0 ≤ x ∧ x ≤ 29) : mF9 M c I0 (a_ui (a_ui (a_ui (a_ui (a_ui (a_ui (a_ui (a_ui (a_ui (a_ui (a_ui (a_ui (a_ui (a_ui (a_ui J (M + 7) (J M 17).toNatClampNeg k) (M + 8) (J M 17).toNatClampNeg g) (M + 9) (J M 17).toNatClampNeg l) (M + 10) (J M 17).toNatClampNeg m) (M + 11) (J M 17).toNatClampNeg w) (M + 20) (J M 17).toNatClampNeg (-9)) (M + 21) (J M 17).toNatClampNeg (-9)) M 17 (J M 17 + 1)) (M + 12) (J M 17).toNatClampNeg p) (M + 13) (J M 17).toNatClampNeg q) (M + 14) (J M 17).toNatClampNeg r) (M + 15) (J M 17).toNatClampNeg s) (M + 16) (J M 17).toNatClampNeg x) (M + 17) (J M 17).toNatClampNeg y) M 12 0) := by
  have hk := rg_asks h.1.1
  refine ⟨⟨ask_R h.1.1 ha hg hm hx, ?_⟩, ?_⟩
  · repeat refine fr_ui9 ?_ (by unfold eC9 eC; omega)
    exact h.1.2
  · refine mE_add h.2 ?_ ?_ ?_ ?_ ?_ ⟨hk.1, ha⟩ ?_ ?_ ?_ ?_ <;> intros <;> simp only [ui_ap, ne_MM, ne_M0, ne_0M, reduceCtorEq, Nat.reduceEqDiff, false_and, and_false, if_false, true_and, and_self, if_true] <;> (try simp_all)
theorem add_F9 (h : mF9 M c I0 J) {g l m w : Int32} (ha : J M 17 < 30) (hg : 0 ≤ g ∧ g ≤ 9) (hm : 0 ≤ m ∧ m ≤ 4) : mF9 M c I0 (a_ui (a_ui (a_ui (a_ui (a_ui (a_ui (a_ui (a_ui J (M + 7) (J M 17).toNatClampNeg 5) (M + 8) (J M 17).toNatClampNeg g) (M + 9) (J M 17).toNatClampNeg l) (M + 10) (J M 17).toNatClampNeg m) (M + 11) (J M 17).toNatClampNeg w) (M + 20) (J M 17).toNatClampNeg (-9)) (M + 21) (J M 17).toNatClampNeg (-9)) M 17 (J M 17 + 1)) := by
  have hk := rg_asks h.1.1
  refine ⟨sG_asks9 (sG_atShift9 (sG_atBench9 (sG_wants9 (sG_length9 (sG_land9 (sG_group9 (sG_kind9 h.1 (by grind)) hg)) hm)) (by decide)) (by decide)) (by grind), ?_⟩
  refine mE_add h.2 ?_ ?_ ?_ ?_ ?_ ⟨hk.1, ha⟩ ?_ ?_ ?_ ?_ <;> intros <;> simp only [ui_ap, ne_MM, ne_M0, ne_0M, reduceCtorEq, Nat.reduceEqDiff, false_and, and_false, if_false, true_and, and_self, if_true] <;> (try simp_all)
theorem pu_ask9 (hS : m_S M K L R) (hF : mF9 M c I0 I) (hc : c + 130 ≤ 84000) {k p q r s x y : Int32} (hP : ∀ v J, mF9 M (c + 120) I0 J → P (some (.int v)) (n, t, K, L, J, R)) : a_does (d + 16) 181 [a_rf M, .int k, .int p, .int q, .int r, .int s, .int x, .int y] (n, t, K, L, I, R) P := by
  have hR := hF.1.1
  have g3 := mC_refl hR
  have hL4 : ∀ J, mF9 M (c + 4) I0 J → mF9 M (c + 120) I0 J := fun J h => mF_le9 h (by omega)
  have hL : ∀ J, mF9 M c I0 J → mF9 M (c + 120) I0 J := fun J h => mF_le9 h (by omega)
  have g1 := rg_asks hR
  have g4 := rg_draftGroup hR
  have g5 := rg_draftLong hR
  rw [a_enter1 (M := a_m181) rfl (a_cat_rf (a_cat_int (a_cat_int (a_cat_int (a_cat_int (a_cat_int (a_cat_int (a_cat_int a_cat_nil)))))))) (show 8 ≤ 9 by decide)]
  show a_at _ (a_xm a_m181) 0 [some (a_rf M), some (.int k), some (.int p), some (.int q), some (.int r), some (.int s), some (.int x), some (.int y), none] [] _ _
  have h167 : I M 17 < 30 → (k = 1 → 0 ≤ x ∧ x ≤ I M 17 - 1) → a_at (d + 15) (a_xm a_m181) 167 [some (a_rf M), some (.int k), some (.int p), some (.int q), some (.int r), some (.int s), some (.int x), some (.int y), none] [] (n, t, K, L, I, R) P := by
    intro q1 q2
    simp only [q181_167, q181_168, q181_169, q181_170, q181_173, q181_174, q181_177, q181_178, q181_181, q181_182, q181_185, m_0 hS, m_K hS, as_nil, as_i, as_r, Nat.reduceAdd, Nat.reduceLeDiff, z_eq0, z_eq1, z_or, z_em, Classical.not_not, not_false_eq_true, not_true_eq_false, true_and, and_true, false_and, and_false, and_self, true_implies, false_implies, implies_true, Option.toList_some, Option.toList_none, List.cons_append, List.nil_append, Nat.add_eq_zero_iff, a_nl_i, a_nl_r, a_nl_n, true_or, or_true, eq_self, ok_4, ok_5, ok_6, ok_7, ok_9, ok_10, ok_20, ok_21, ok_24, ok_30, ok_48, ok_50, ok_60, ok_80, ok_120, ok_180, ok_192, ok_200, ok_900, ok_1000, ok_84000]
    refine sp_add hS ⟨g1.1, q1⟩ ?_
    simp only [q181_188, q181_190, q181_191, q181_194, q181_196, q181_197, q181_198, q181_199, q181_202, q181_204, q181_205, q181_206, q181_207, q181_210, q181_212, q181_214, q181_215, q181_216, q181_219, q181_221, q181_223, q181_224, q181_225, q181_228, q181_230, q181_232, q181_233, q181_234, q181_237, q181_239, q181_241, q181_242, q181_243, q181_244, q181_247, q181_249, m_0 hS, m_K hS, mR_benchSet hS, mK_benchSet hS, mL_benchSet hS, mR_modeSet hS, mK_modeSet hS, mL_modeSet hS, mR_gear hS, mK_gear hS, mL_gear hS, mR_danger hS, mK_danger hS, mL_danger hS, mR_xOf hS, mK_xOf hS, mL_xOf hS, mR_yOf hS, mK_yOf hS, mL_yOf hS, as_nil, as_i, as_r, Nat.reduceAdd, Nat.reduceLeDiff, z_eq0, z_eq1, z_or, z_em, Classical.not_not, not_false_eq_true, not_true_eq_false, true_and, and_true, false_and, and_false, and_self, true_implies, false_implies, implies_true, Option.toList_some, Option.toList_none, List.cons_append, List.nil_append, Nat.add_eq_zero_iff, a_nl_i, a_nl_r, a_nl_n, true_or, or_true, eq_self, ok_4, ok_5, ok_6, ok_7, ok_9, ok_10, ok_20, ok_21, ok_24, ok_30, ok_48, ok_50, ok_60, ok_80, ok_120, ok_180, ok_192, ok_200, ok_900, ok_1000, ok_84000]
    repeat refine And.intro (by grind) ?_
    exact hP _ _ (hL _ (ask_F9 hF q1 g4 g5 (by grind)))
  repeat' first
    | with_reducible apply And.intro
    | with_reducible assumption
    | with_reducible intro _
    | with_reducible apply hP
    | with_reducible apply hL
    | with_reducible apply sF_refused9
    | with_reducible apply h167
    | simp only [q181_0, q181_1, q181_4, q181_7, q181_8, q181_10, q181_13, q181_14, q181_15, q181_16, q181_17, q181_20, q181_23, q181_24, q181_26, q181_29, q181_30, q181_31, q181_34, q181_35, q181_38, q181_40, q181_43, q181_44, q181_45, q181_48, q181_50, q181_53, q181_54, q181_55, q181_58, q181_60, q181_63, q181_65, q181_67, q181_70, q181_71, q181_73, q181_76, q181_77, q181_78, q181_80, q181_83, q181_84, q181_86, q181_89, q181_91, q181_93, q181_96, q181_97, q181_98, q181_101, q181_103, q181_105, q181_108, q181_109, q181_110, q181_113, q181_115, q181_118, q181_121, q181_122, q181_125, q181_127, q181_130, q181_131, q181_133, q181_136, q181_137, q181_139, q181_140, q181_141, q181_144, q181_147, q181_148, q181_149, q181_152, q181_153, q181_155, q181_158, q181_161, q181_162, q181_163, q181_166, m_0 hS, m_K hS, sp_refuse_1 hS, sp_refuse_2 hS, sp_refuse_3 hS, sp_refuse_4 hS, sp_refuse_5 hS, sp_refuse_6 hS, sp_in, sp_isAsk hS, as_nil, as_i, as_r, Nat.reduceAdd, Nat.reduceLeDiff, z_eq0, z_eq1, z_or, z_em, Classical.not_not, not_false_eq_true, not_true_eq_false, true_and, and_true, false_and, and_false, and_self, true_implies, false_implies, implies_true, Option.toList_some, Option.toList_none, List.cons_append, List.nil_append, Nat.add_eq_zero_iff, a_nl_i, a_nl_r, a_nl_n, true_or, or_true, eq_self, ok_4, ok_5, ok_6, ok_7, ok_9, ok_10, ok_20, ok_21, ok_24, ok_30, ok_48, ok_50, ok_60, ok_80, ok_120, ok_180, ok_192, ok_200, ok_900, ok_1000, ok_84000]
  all_goals grind [ui_ap]
theorem pu_owe9 (hS : m_S M K L R) (hF : mF9 M c I0 I) (hc : c + 130 ≤ 84000) {a : Int32} (hP : ∀ v J, mF9 M (c + 120) I0 J → P (some (.int v)) (n, t, K, L, J, R)) : a_does (d + 16) 246 [a_rf M, .int a] (n, t, K, L, I, R) P := by
  have hR := hF.1.1
  have g3 := mC_refl hR
  have hL4 : ∀ J, mF9 M (c + 4) I0 J → mF9 M (c + 120) I0 J := fun J h => mF_le9 h (by omega)
  have hL : ∀ J, mF9 M c I0 J → mF9 M (c + 120) I0 J := fun J h => mF_le9 h (by omega)
  have g1 := rg_asks hR
  rw [a_enter1 (M := a_m246) rfl (a_cat_rf (a_cat_int a_cat_nil)) (show 2 ≤ 3 by decide)]
  show a_at _ (a_xm a_m246) 0 [some (a_rf M), some (.int a), none] [] _ _
  have h62 : ∀ J, mF9 M c I0 J → 0 ≤ a → a < 30 → ¬ J M 17 = 30 → a_at (d + 15) (a_xm a_m246) 62 [some (a_rf M), some (.int a), none] [] (n, t, K, L, J, R) P := by
    intro J hF q1 q2 q3
    have hR := hF.1.1
    have g1 := rg_asks hR
    simp only [q246_62, q246_63, q246_64, q246_65, q246_68, q246_69, q246_70, q246_71, q246_74, q246_75, q246_76, q246_77, q246_78, m_0 hS, m_K hS, mR_group hS, mK_group hS, mL_group hS, mR_land hS, mK_land hS, mL_land hS, as_nil, as_i, as_r, Nat.reduceAdd, Nat.reduceLeDiff, z_eq0, z_eq1, z_or, z_em, Classical.not_not, not_false_eq_true, not_true_eq_false, true_and, and_true, false_and, and_false, and_self, true_implies, false_implies, implies_true, Option.toList_some, Option.toList_none, List.cons_append, List.nil_append, Nat.add_eq_zero_iff, a_nl_i, a_nl_r, a_nl_n, true_or, or_true, eq_self, ok_4, ok_5, ok_6, ok_7, ok_9, ok_10, ok_20, ok_21, ok_24, ok_30, ok_48, ok_50, ok_60, ok_80, ok_120, ok_180, ok_192, ok_200, ok_900, ok_1000, ok_84000]
    repeat refine And.intro (by grind) ?_
    refine ct_owedOf hS (mC_refl hR) ⟨q1, q2⟩ (fun v J1 c1 z1 => ?_)
    have f1 := mF_C9 hF c1
    have e1 := eS_asks c1
    have e2 := rg_group hR a.toNatClampNeg
    have g6 := rg_asks f1.1.1
    simp only [q246_81, q246_82, q246_85, q246_86, q246_87, m_0 hS, m_K hS, mR_wants hS, mK_wants hS, mL_wants hS, as_nil, as_i, as_r, Nat.reduceAdd, Nat.reduceLeDiff, z_eq0, z_eq1, z_or, z_em, Classical.not_not, not_false_eq_true, not_true_eq_false, true_and, and_true, false_and, and_false, and_self, true_implies, false_implies, implies_true, Option.toList_some, Option.toList_none, List.cons_append, List.nil_append, Nat.add_eq_zero_iff, a_nl_i, a_nl_r, a_nl_n, true_or, or_true, eq_self, ok_4, ok_5, ok_6, ok_7, ok_9, ok_10, ok_20, ok_21, ok_24, ok_30, ok_48, ok_50, ok_60, ok_80, ok_120, ok_180, ok_192, ok_200, ok_900, ok_1000, ok_84000]
    repeat refine And.intro (by grind) ?_
    refine sp_add hS (by grind) ?_
    have f2 := add_F9 (l := J (M + 9) a.toNatClampNeg) (w := J1 (M + 11) a.toNatClampNeg) f1 (by grind) e2 z1
    revert f2
    generalize (a_ui (a_ui (a_ui (a_ui (a_ui (a_ui (a_ui (a_ui J1 (M + 7) (J1 M 17).toNatClampNeg 5) (M + 8) (J1 M 17).toNatClampNeg (J (M + 8) a.toNatClampNeg)) (M + 9) (J1 M 17).toNatClampNeg (J (M + 9) a.toNatClampNeg)) (M + 10) (J1 M 17).toNatClampNeg v) (M + 11) (J1 M 17).toNatClampNeg (J1 (M + 11) a.toNatClampNeg)) (M + 20) (J1 M 17).toNatClampNeg (-9)) (M + 21) (J1 M 17).toNatClampNeg (-9)) M 17 (J1 M 17 + 1)) = J2
    intro f2
    have g7 := rg_asks f2.1.1
    repeat' first
      | with_reducible apply And.intro
      | with_reducible assumption
      | with_reducible intro _
      | with_reducible apply hP
      | with_reducible apply hL
      | with_reducible apply sF_benchSet9
      | with_reducible apply sF_modeSet9
      | with_reducible apply sF_gear9
      | with_reducible apply sF_danger9
      | with_reducible apply sF_wasOwed9
      | with_reducible apply sF_refused9
      | simp only [q246_90, q246_91, q246_92, q246_95, q246_96, q246_97, q246_100, q246_101, q246_102, q246_103, q246_104, q246_107, q246_108, q246_109, q246_112, q246_113, q246_114, q246_115, q246_116, q246_119, q246_120, q246_121, q246_124, q246_125, q246_126, q246_127, q246_128, q246_131, q246_132, q246_133, q246_136, q246_137, q246_138, q246_139, q246_140, q246_143, q246_144, q246_145, q246_146, q246_147, m_0 hS, m_K hS, mR_benchSet hS, mK_benchSet hS, mL_benchSet hS, mR_modeSet hS, mK_modeSet hS, mL_modeSet hS, mR_gear hS, mK_gear hS, mL_gear hS, mR_danger hS, mK_danger hS, mL_danger hS, mR_wasOwed hS, mK_wasOwed hS, mL_wasOwed hS, as_nil, as_i, as_r, Nat.reduceAdd, Nat.reduceLeDiff, z_eq0, z_eq1, z_or, z_em, Classical.not_not, not_false_eq_true, not_true_eq_false, true_and, and_true, false_and, and_false, and_self, true_implies, false_implies, implies_true, Option.toList_some, Option.toList_none, List.cons_append, List.nil_append, Nat.add_eq_zero_iff, a_nl_i, a_nl_r, a_nl_n, true_or, or_true, eq_self, ok_4, ok_5, ok_6, ok_7, ok_9, ok_10, ok_20, ok_21, ok_24, ok_30, ok_48, ok_50, ok_60, ok_80, ok_120, ok_180, ok_192, ok_200, ok_900, ok_1000, ok_84000]
    all_goals grind [ui_ap]
  repeat' first
    | with_reducible apply And.intro
    | with_reducible assumption
    | with_reducible intro _
    | with_reducible apply hP
    | with_reducible apply hL
    | with_reducible apply sF_refused9
    | with_reducible apply h62
    | with_reducible apply ct_lossOf hS
    | with_reducible apply mF_R9
    | with_reducible apply ct_owedOf hS (mC_refl ?_)
    | with_reducible apply mF_C9 ?_ (by with_reducible assumption)
    | simp only [q246_0, q246_1, q246_2, q246_5, q246_8, q246_9, q246_10, q246_13, q246_14, q246_15, q246_18, q246_19, q246_20, q246_23, q246_24, q246_25, q246_28, q246_31, q246_32, q246_33, q246_36, q246_39, q246_40, q246_42, q246_45, q246_46, q246_47, q246_50, q246_52, q246_55, q246_56, q246_58, q246_61, m_0 hS, m_K hS, mR_wasOwed hS, mK_wasOwed hS, mL_wasOwed hS, sp_isAsk hS, sp_refuse_1 hS, sp_refuse_2 hS, sp_refuse_3 hS, sp_refuse_4 hS, sp_refuse_5 hS, sp_refuse_6 hS, as_nil, as_i, as_r, Nat.reduceAdd, Nat.reduceLeDiff, z_eq0, z_eq1, z_or, z_em, Classical.not_not, not_false_eq_true, not_true_eq_false, true_and, and_true, false_and, and_false, and_self, true_implies, false_implies, implies_true, Option.toList_some, Option.toList_none, List.cons_append, List.nil_append, Nat.add_eq_zero_iff, a_nl_i, a_nl_r, a_nl_n, true_or, or_true, eq_self, ok_4, ok_5, ok_6, ok_7, ok_9, ok_10, ok_20, ok_21, ok_24, ok_30, ok_48, ok_50, ok_60, ok_80, ok_120, ok_180, ok_192, ok_200, ok_900, ok_1000, ok_84000]
  all_goals grind [ui_ap]
end SD

/-! the best, the public method -/
section SH
variable {d n t M c : Nat} {K L : Nat → Nat} {I I0 J J0 J1 J2 : Nat → Nat → Int32} {R : Nat → Nat → Nat} {P : Option Value → AH → Prop}
theorem ct_findBest9 (hS : m_S M K L R) (hF : mF9 M c I0 I) {f e : Int32} (hf : 0 ≤ f ∧ f ≤ 199) (he : e ≤ 199) (hfe : f ≤ e) (he7 : e - f ≤ 7) (hfm : 0 ≤ I M 66 ∧ I M 66 ≤ 4) (hd : ∀ k l : Int32, 0 ≤ k → k < I M 66 → 0 ≤ l → l < I M 66 → (I (M + 41) k.toNatClampNeg).toNatClampNeg = (I (M + 41) l.toNatClampNeg).toNatClampNeg → k = l) (hu : ∀ k : Int32, 0 ≤ k → k < I M 66 → ¬ 0 ≤ I (M + 20) (I (M + 41) k.toNatClampNeg).toNatClampNeg) (hP : ∀ v J, mF9 M c I0 J → J M 66 = I M 66 → P (some (.int v)) (n, t, K, L, J, R)) : a_does (d + 11) 243 [a_rf M, .int f, .int e] (n, t, K, L, I, R) P := by
  have hR := hF.1.1
  have g1 := rg_benches hR
  have hpl : 0 ≤ (e - f + 1) * I M 6 ∧ (e - f + 1) * I M 6 ≤ 48 ∧ (I M 6 = 0 → (e - f + 1) * I M 6 = 0) := by
    generalize I M 6 = b at g1
    have : b = 0 ∨ b = 1 ∨ b = 2 ∨ b = 3 ∨ b = 4 ∨ b = 5 ∨ b = 6 := by grind
    rcases this with h | h | h | h | h | h | h <;> subst h <;> grind
  rw [a_enter1 (M := a_m243) rfl (a_cat_rf (a_cat_int (a_cat_int a_cat_nil))) (show 3 ≤ 10 by decide)]
  show a_at _ (a_xm a_m243) 0 [some (a_rf M), some (.int f), some (.int e), none, none, none, none, none, none, none] [] _ _
  simp only [q243_0, q243_1, q243_2, q243_3, q243_4, q243_5, q243_6, q243_9, q243_10, q243_11, q243_12, q243_14, q243_15, q243_17, q243_18, q243_21, q243_22, q243_23, q243_24, q243_25, q243_28, q243_29, q243_30, m_0 hS, m_K hS, mR_sumTo hS, mK_sumTo hS, mL_sumTo hS, mR_way hS, mK_way hS, mL_way hS, as_nil, as_i, as_r, Nat.reduceAdd, Nat.reduceLeDiff, z_eq0, z_eq1, z_or, z_em, Classical.not_not, not_false_eq_true, not_true_eq_false, true_and, and_true, false_and, and_false, and_self, true_implies, false_implies, implies_true, Option.toList_some, Option.toList_none, List.cons_append, List.nil_append, Nat.add_eq_zero_iff, a_nl_i, a_nl_r, a_nl_n, true_or, or_true, eq_self, ok_4, ok_5, ok_6, ok_7, ok_9, ok_10, ok_20, ok_21, ok_24, ok_30, ok_48, ok_50, ok_60, ok_80, ok_120, ok_180, ok_192, ok_200, ok_900, ok_1000, ok_84000]
  repeat refine And.intro (by grind) ?_
  generalize (e - f + 1) * I M 6 = pl at hpl
  have hb0 : bF M I (a_ui (a_ui I (M + 43) (Int32.toNatClampNeg 0) 0) (M + 42) (Int32.toNatClampNeg 0) (-1)) := bF_ui (bF_ui bF_refl (by omega)) (by omega)
  have hr0 : mR M (a_ui (a_ui I (M + 43) (Int32.toNatClampNeg 0) 0) (M + 42) (Int32.toNatClampNeg 0) (-1)) := sR_way (sR_sumTo hR)
  have hw0 : (a_ui (a_ui I (M + 43) (Int32.toNatClampNeg 0) 0) (M + 42) (Int32.toNatClampNeg 0) (-1)) (M + 42) (Int32.toNatClampNeg 0) = -1 := by simp [ui_ap]
  have hab : ∀ j, (a_ui (a_ui I (M + 43) (Int32.toNatClampNeg 0) 0) (M + 42) (Int32.toNatClampNeg 0) (-1)) (M + 20) j = I (M + 20) j := fun j => by simp [ui_ap]
  refine lp_findBest_31 hS (I := I) hf he ⟨hpl.1, hpl.2.1⟩ hpl.2.2 hfm hd (fun v J hb => ?_) _ _ _ _ _ _ _ _ (Nat.lt_succ_self _) ⟨by decide, hfm.1⟩ ⟨hr0, hb0, fun k p1 p2 p3 => ?_, fun k p1 p2 => ?_, fun k p1 p2 => ?_⟩
  · obtain ⟨b1, b2, b3, b4, b5⟩ := hb
    refine hP v J ⟨⟨b1, fun x j hx => ?_⟩, mE_fw hF.2 b2 (fun j ⟨k, p1, p2, p3⟩ p4 => ?_)⟩ (bF_fewMany b2)
    · rw [b2 x j (by unfold eC9 eC at hx; unfold sC; omega) (by unfold eC9 eC at hx; omega) (by unfold eC9 eC at hx; omega) (by unfold eC9 eC at hx; omega) (by unfold eC9 eC at hx; omega) (by unfold eC9 eC at hx; omega)]
      exact hF.1.2 x j hx
    · subst p3
      have := (b3 k p1 p2 p4).1
      grind
  · rw [hab] at p3; exact absurd p3 (hu k p1 p2)
  · have : k = 0 := by grind
    subst this
    rw [hw0]
    exact ⟨by decide, by grind⟩
  · grind
def bW9 (M c : Nat) (I0 I J : Nat → Nat → Int32) (s k : Int32) : Prop := mF9 M c I0 J ∧ k ≤ J M 17 ∧ (J M 66).toInt = (pn k.toNatClampNeg s.toInt.toNat : Nat) ∧ (∀ x : Int32, 0 ≤ x → x < J M 66 → J (M + 41) x.toNatClampNeg < k ∧ ¬ 0 ≤ J (M + 20) (J (M + 41) x.toNatClampNeg).toNatClampNeg) ∧ (∀ x y : Int32, 0 ≤ x → x < y → y < J M 66 → J (M + 41) x.toNatClampNeg < J (M + 41) y.toNatClampNeg)
theorem lp_best_999 (hS : m_S M K L R) {s f e a : Int32} (hs : 0 ≤ s) (h4 : pn 31 s.toInt.toNat ≤ 4) (hX : ∀ v J, mF9 M c I0 J → P (some (.int v)) (n, t, K, L, J, R)) (hN : ∀ J k, bW9 M c I0 I J s k → J M 66 ≤ 4 → a_at (d + 11) (a_xm a_m242) 171 [some (a_rf M), some (.int f), some (.int e), some (.int s), some (.int a), some (.int k), none, none, none] [] (n, t, K, L, J, R) P) : ∀ k : Int32, k ≤ 30 → ∀ J, 0 ≤ k → bW9 M c I0 I J s k → a_at (d + 11) (a_xm a_m242) 99 [some (a_rf M), some (.int f), some (.int e), some (.int s), some (.int a), some (.int k), none, none, none] [] (n, t, K, L, J, R) P := by
  refine up_ind 30 (fun k hk ih => ?_)
  intro J h0 hw
  obtain ⟨w1, w2, w3, w4, w5⟩ := id hw
  have hR := w1.1.1
  have g1 := rg_asks hR
  have k30 : k.toInt.toNat ≤ 30 := by
    have h1 := Int32.le_iff_toInt_le.mp h0
    have h2 := Int32.le_iff_toInt_le.mp hk
    simp at h1 h2
    omega
  have hp1 := pn_le k.toNatClampNeg 31 s.toInt.toNat (by show k.toInt.toNat ≤ 31; omega)
  have hf4 : 0 ≤ J M 66 ∧ J M 66 ≤ 4 := by
    rw [Int32.le_iff_toInt_le, Int32.le_iff_toInt_le, w3]
    have : (4 : Int32).toInt = 4 := rfl
    have : (0 : Int32).toInt = 0 := rfl
    omega
  rw [q242_99]
  simp only [q242_101, q242_102, q242_105, q242_108, q242_109, q242_111, q242_112, q242_113, q242_114, q242_115, m_0 hS, m_K hS, as_nil, as_i, as_r, Nat.reduceAdd, Nat.reduceLeDiff, z_eq0, z_eq1, z_or, z_em, Classical.not_not, not_false_eq_true, not_true_eq_false, true_and, and_true, false_and, and_false, and_self, true_implies, false_implies, implies_true, Option.toList_some, Option.toList_none, List.cons_append, List.nil_append, Nat.add_eq_zero_iff, a_nl_i, a_nl_r, a_nl_n, true_or, or_true, eq_self, ok_4, ok_5, ok_6, ok_7, ok_9, ok_10, ok_20, ok_21, ok_24, ok_30, ok_48, ok_50, ok_60, ok_80, ok_120, ok_180, ok_192, ok_200, ok_900, ok_1000, ok_84000]
  refine ⟨fun h => hN J k hw hf4.2, fun h => ?_⟩
  have hk30 : k < 30 := by grind
  have kn : k.toInt = (k.toNatClampNeg : Nat) := by
    have h1 := Int32.le_iff_toInt_le.mp h0
    simp at h1
    show k.toInt = (k.toInt.toNat : Nat)
    omega
  have kl : k.toNatClampNeg < 30 := (show k.toNatClampNeg < (30 : Int32).toNatClampNeg from cl_lt h0 hk30)
  have hbit := bit_at s hs k.toNatClampNeg kl k kn
  have hst := pn_step k.toNatClampNeg s.toInt.toNat
  have hcu := cl_up h0 (by grind)
  have hp2 := pn_le (k + 1).toNatClampNeg 31 s.toInt.toNat (by rw [hcu]; omega)
  rw [hcu] at hp2
  refine ⟨fun hb => ?_, fun hb => ?_⟩
  · have hbit2 : s.toInt.toNat / 2 ^ k.toNatClampNeg % 2 = 0 := by
      have : s.toInt.toNat / 2 ^ k.toNatClampNeg % 2 = 0 ∨ s.toInt.toNat / 2 ^ k.toNatClampNeg % 2 = 1 := by omega
      rcases this with h | h
      · exact h
      · refine absurd (Int32.toInt_inj.mp ?_) hb
        rw [hbit, h]
        rfl
    simp only [q242_165, q242_168, as_nil, as_i, as_r, Nat.reduceAdd, Nat.reduceLeDiff, z_eq0, z_eq1, z_or, z_em, Classical.not_not, not_false_eq_true, not_true_eq_false, true_and, and_true, false_and, and_false, and_self, true_implies, false_implies, implies_true, Option.toList_some, Option.toList_none, List.cons_append, List.nil_append, Nat.add_eq_zero_iff, a_nl_i, a_nl_r, a_nl_n, true_or, or_true, eq_self, ok_4, ok_5, ok_6, ok_7, ok_9, ok_10, ok_20, ok_21, ok_24, ok_30, ok_48, ok_50, ok_60, ok_80, ok_120, ok_180, ok_192, ok_200, ok_900, ok_1000, ok_84000]
    refine ih (by grind) J (by grind) ⟨w1, by grind, ?_, fun x p1 p2 => ?_, w5⟩
    · rw [hcu, hst, hbit2, w3]
      simp
    · have := w4 x p1 p2
      exact ⟨by grind, this.2⟩
  · simp only [q242_118, q242_119, q242_121, q242_124, q242_127, q242_128, q242_131, q242_133, q242_134, q242_137, q242_138, q242_140, q242_143, q242_144, q242_145, q242_148, q242_149, q242_152, q242_154, q242_155, q242_156, q242_157, q242_160, q242_161, q242_162, q242_165, q242_168, m_0 hS, m_K hS, mR_isGone hS, mK_isGone hS, mL_isGone hS, mR_few hS, mK_few hS, mL_few hS, sp_hasPlace hS, sp_refuse_1 hS, sp_refuse_2 hS, sp_refuse_3 hS, sp_refuse_4 hS, sp_refuse_5 hS, sp_refuse_6 hS, as_nil, as_i, as_r, Nat.reduceAdd, Nat.reduceLeDiff, z_eq0, z_eq1, z_or, z_em, Classical.not_not, not_false_eq_true, not_true_eq_false, true_and, and_true, false_and, and_false, and_self, true_implies, false_implies, implies_true, Option.toList_some, Option.toList_none, List.cons_append, List.nil_append, Nat.add_eq_zero_iff, a_nl_i, a_nl_r, a_nl_n, true_or, or_true, eq_self, ok_4, ok_5, ok_6, ok_7, ok_9, ok_10, ok_20, ok_21, ok_24, ok_30, ok_48, ok_50, ok_60, ok_80, ok_120, ok_180, ok_192, ok_200, ok_900, ok_1000, ok_84000, ui_ap, ne_MM, ne_M0, ne_0M, Nat.reduceEqDiff, reduceIte, if_true, if_false]
    rw [hb] at hbit
    have hbit2 : s.toInt.toNat / 2 ^ k.toNatClampNeg % 2 = 1 := by
      have : (1 : Int32).toInt = 1 := rfl
      omega
    have hf3 : J M 66 < 4 := by
      rw [Int32.lt_iff_toInt_lt, w3]
      have : (4 : Int32).toInt = 4 := rfl
      omega
    have hnx : ¬ 0 ≤ J (M + 20) k.toNatClampNeg → bW9 M c I0 I (a_ui (a_ui J (M + 41) (J M 66).toNatClampNeg k) M 66 (J M 66 + 1)) s (k + 1) := by
      intro hno
      have e1 : ∀ x : Int32, 0 ≤ x → x < J M 66 → ¬ x.toNatClampNeg = (J M 66).toNatClampNeg := fun x p1 p2 p3 => by
        have := cl_inj p1 hf4.1 p3
        grind
      refine ⟨sF_fewMany9 (sF_few9 w1 (by grind)), ?_, ?_, fun x p1 p2 => ?_, fun x y p1 p2 p3 => ?_⟩
      · simp only [ui_ap, ne_MM, ne_M0, ne_0M, Nat.reduceEqDiff, reduceIte, if_true, if_false, and_self, false_and, and_false]
        grind
      · simp only [ui_ap, ne_MM, ne_M0, ne_0M, Nat.reduceEqDiff, reduceIte, if_true, if_false, and_self, false_and, and_false]
        rw [hcu, hst, hbit2]
        exact ti_up w3 (by omega)
      · simp only [ui_ap, ne_MM, ne_M0, ne_0M, Nat.reduceEqDiff, reduceIte, if_true, if_false, and_self, false_and, and_false, true_and] at p2 ⊢
        by_cases hx : x = J M 66
        · subst hx
          rw [if_pos rfl]
          exact ⟨by grind, hno⟩
        · rw [if_neg (e1 x p1 (by grind))]
          have := w4 x p1 (by grind)
          exact ⟨by grind, this.2⟩
      · simp only [ui_ap, ne_MM, ne_M0, ne_0M, Nat.reduceEqDiff, reduceIte, if_true, if_false, and_self, false_and, and_false, true_and] at p3 ⊢
        rw [if_neg (e1 x p1 (by grind))]
        by_cases hy : y = J M 66
        · subst hy
          rw [if_pos rfl]
          exact (w4 x p1 p2).1
        · rw [if_neg (e1 y (by grind) (by grind))]
          exact w5 x y p1 p2 (by grind)
    repeat' first
      | with_reducible apply And.intro
      | with_reducible assumption
      | with_reducible intro _
      | with_reducible apply hX
      | with_reducible apply sF_refused9
      | with_reducible apply ih
      | with_reducible apply hnx
    all_goals grind [ui_ap]
theorem lp_best_1959 (hS : m_S M K L R) {s f e a z : Int32} (hF : mF9 M c I0 J) (hfm : J M 66 ≤ 4) (hP : ∀ v, P (some (.int v)) (n, t, K, L, J, R)) : ∀ i : Int32, i ≤ 4 → ∀ y u, 0 ≤ i → a_at (d + 11) (a_xm a_m242) 195 [some (a_rf M), some (.int f), some (.int e), some (.int s), some (.int a), some (.int z), some (.int y), some (.int i), u] [] (n, t, K, L, J, R) P := by
  refine up_ind 4 (fun i hi ih => ?_)
  intro y u h0
  have g1 := rg_benches hF.1.1
  have g2 := rg_bestWay hF.1.1 i.toNatClampNeg
  have g3 : J M 6 = 0 → (e - f + 1) * J M 6 = 0 := fun h => by rw [h]; exact Int32.mul_zero
  rw [q242_195]
  repeat' first
    | with_reducible apply And.intro
    | with_reducible assumption
    | with_reducible intro _
    | with_reducible apply ih
    | with_reducible apply hP
    | simp only [q242_197, q242_198, q242_201, q242_204, q242_205, q242_208, q242_210, q242_211, q242_213, q242_216, q242_217, q242_220, q242_222, q242_223, q242_224, q242_225, q242_226, q242_227, q242_228, q242_229, q242_232, q242_233, q242_236, q242_237, q242_240, q242_241, q242_243, q242_245, q242_248, q242_250, q242_251, q242_252, q242_255, q242_257, q242_258, q242_259, q242_262, q242_263, q242_264, q242_265, q242_266, q242_269, q242_271, q242_272, q242_273, q242_276, q242_277, q242_278, q242_281, q242_283, q242_285, q242_288, q242_291, q242_293, m_0 hS, m_K hS, mR_few hS, mK_few hS, mL_few hS, mR_bestWay hS, mK_bestWay hS, mL_bestWay hS, as_nil, as_i, as_r, Nat.reduceAdd, Nat.reduceLeDiff, z_eq0, z_eq1, z_or, z_em, Classical.not_not, not_false_eq_true, not_true_eq_false, true_and, and_true, false_and, and_false, and_self, true_implies, false_implies, implies_true, Option.toList_some, Option.toList_none, List.cons_append, List.nil_append, Nat.add_eq_zero_iff, a_nl_i, a_nl_r, a_nl_n, true_or, or_true, eq_self, ok_4, ok_5, ok_6, ok_7, ok_9, ok_10, ok_20, ok_21, ok_24, ok_30, ok_48, ok_50, ok_60, ok_80, ok_120, ok_180, ok_192, ok_200, ok_900, ok_1000, ok_84000]
  all_goals grind [ui_ap]
theorem pu_best9 (hS : m_S M K L R) (hF : mF9 M c I0 I) (hc : c + 130 ≤ 84000) {a b s w : Int32} (hP : ∀ v J, mF9 M (c + 120) I0 J → P (some (.int v)) (n, t, K, L, J, R)) : a_does (d + 16) 242 [a_rf M, .int a, .int b, .int s, .int w] (n, t, K, L, I, R) P := by
  have hR := hF.1.1
  have g3 := mC_refl hR
  have hL4 : ∀ J, mF9 M (c + 4) I0 J → mF9 M (c + 120) I0 J := fun J h => mF_le9 h (by omega)
  have hL : ∀ J, mF9 M c I0 J → mF9 M (c + 120) I0 J := fun J h => mF_le9 h (by omega)
  have g1 := rg_asks hR
  rw [a_enter1 (M := a_m242) rfl (a_cat_rf (a_cat_int (a_cat_int (a_cat_int (a_cat_int a_cat_nil))))) (show 5 ≤ 9 by decide)]
  show a_at _ (a_xm a_m242) 0 [some (a_rf M), some (.int a), some (.int b), some (.int s), some (.int w), none, none, none, none] [] _ _
  have h91 : (0 ≤ a ∧ a ≤ 199) → (0 ≤ b ∧ b ≤ 199) → a ≤ b → b - a ≤ 7 → 0 ≤ s → pn 31 s.toInt.toNat ≤ 4 → a_at (d + 15) (a_xm a_m242) 91 [some (a_rf M), some (.int a), some (.int b), some (.int s), some (.int w), none, none, none, none] [] (n, t, K, L, I, R) P := by
    intro q1 q2 q3 q4 q5 q6
    simp only [q242_91, q242_92, q242_93, q242_96, q242_97, m_0 hS, m_K hS, as_nil, as_i, as_r, Nat.reduceAdd, Nat.reduceLeDiff, z_eq0, z_eq1, z_or, z_em, Classical.not_not, not_false_eq_true, not_true_eq_false, true_and, and_true, false_and, and_false, and_self, true_implies, false_implies, implies_true, Option.toList_some, Option.toList_none, List.cons_append, List.nil_append, Nat.add_eq_zero_iff, a_nl_i, a_nl_r, a_nl_n, true_or, or_true, eq_self, ok_4, ok_5, ok_6, ok_7, ok_9, ok_10, ok_20, ok_21, ok_24, ok_30, ok_48, ok_50, ok_60, ok_80, ok_120, ok_180, ok_192, ok_200, ok_900, ok_1000, ok_84000]
    refine lp_best_999 (d := d + 4) hS (I := I) (c := c) (I0 := I0) q5 q6 (fun v J h => hP v J (hL J h)) (fun J k hw h4 => ?_) 0 (by decide) _ (by decide) ⟨sF_fewMany9 hF, ?_, ?_, fun x p1 p2 => ?_, fun x y p1 p2 p3 => ?_⟩
    · obtain ⟨w1, w2, w3, w4, w5⟩ := hw
      have hf0 : 0 ≤ J M 66 := by
        rw [Int32.le_iff_toInt_le, w3]
        have : (0 : Int32).toInt = 0 := rfl
        omega
      simp only [q242_171, q242_172, q242_173, q242_174, m_0 hS, m_K hS, as_nil, as_i, as_r, Nat.reduceAdd, Nat.reduceLeDiff, z_eq0, z_eq1, z_or, z_em, Classical.not_not, not_false_eq_true, not_true_eq_false, true_and, and_true, false_and, and_false, and_self, true_implies, false_implies, implies_true, Option.toList_some, Option.toList_none, List.cons_append, List.nil_append, Nat.add_eq_zero_iff, a_nl_i, a_nl_r, a_nl_n, true_or, or_true, eq_self, ok_4, ok_5, ok_6, ok_7, ok_9, ok_10, ok_20, ok_21, ok_24, ok_30, ok_48, ok_50, ok_60, ok_80, ok_120, ok_180, ok_192, ok_200, ok_900, ok_1000, ok_84000]
      refine ct_findBest9 (d := d + 4) hS (I0 := I0) (c := c) w1 q1 q2.2 q3 q4 ⟨hf0, h4⟩ (fun k l p1 p2 p3 p4 p5 => ?_) (fun k p1 p2 => (w4 k p1 p2).2) (fun v J2 f2 e2 => ?_)
      · have r1 := rg_few w1.1.1 k.toNatClampNeg
        have r2 := rg_few w1.1.1 l.toNatClampNeg
        have r3 := cl_inj r1.1 r2.1 p5
        by_cases hkl : k < l
        · have := w5 k l p1 hkl p4; grind
        · by_cases hlk : l < k
          · have := w5 l k p3 hlk p2; grind
          · grind
      · simp only [q242_177, q242_179, q242_181, q242_182, q242_185, q242_187, q242_188, q242_190, q242_192, q242_193, as_nil, as_i, as_r, Nat.reduceAdd, Nat.reduceLeDiff, z_eq0, z_eq1, z_or, z_em, Classical.not_not, not_false_eq_true, not_true_eq_false, true_and, and_true, false_and, and_false, and_self, true_implies, false_implies, implies_true, Option.toList_some, Option.toList_none, List.cons_append, List.nil_append, Nat.add_eq_zero_iff, a_nl_i, a_nl_r, a_nl_n, true_or, or_true, eq_self, ok_4, ok_5, ok_6, ok_7, ok_9, ok_10, ok_20, ok_21, ok_24, ok_30, ok_48, ok_50, ok_60, ok_80, ok_120, ok_180, ok_192, ok_200, ok_900, ok_1000, ok_84000]
        refine ⟨fun _ => ?_, fun _ => hP v J2 (hL J2 f2)⟩
        exact lp_best_1959 (d := d + 4) hS f2 (by rw [e2]; exact h4) (fun v => hP v J2 (hL J2 f2)) 0 (by decide) _ _ (by decide)
    · simp only [ui_ap, ne_MM, ne_M0, ne_0M, Nat.reduceEqDiff, reduceIte, if_true, if_false, and_self, false_and, and_false]
      exact g1.1
    · simp only [ui_ap, ne_MM, ne_M0, ne_0M, Nat.reduceEqDiff, reduceIte, if_true, if_false, and_self, false_and, and_false]
      rfl
    · simp only [ui_ap, ne_MM, ne_M0, ne_0M, Nat.reduceEqDiff, reduceIte, if_true, if_false, and_self, false_and, and_false] at p2
      grind
    · simp only [ui_ap, ne_MM, ne_M0, ne_0M, Nat.reduceEqDiff, reduceIte, if_true, if_false, and_self, false_and, and_false] at p3
      grind
  have h76 : (0 ≤ a ∧ a ≤ 199) → (0 ≤ b ∧ b ≤ 199) → a ≤ b → b - a ≤ 7 → 0 ≤ s → a_at (d + 15) (a_xm a_m242) 76 [some (a_rf M), some (.int a), some (.int b), some (.int s), some (.int w), none, none, none, none] [] (n, t, K, L, I, R) P := by
    intro q1 q2 q3 q4 q5
    simp only [q242_76, q242_77, as_nil, as_i, as_r, Nat.reduceAdd, Nat.reduceLeDiff, z_eq0, z_eq1, z_or, z_em, Classical.not_not, not_false_eq_true, not_true_eq_false, true_and, and_true, false_and, and_false, and_self, true_implies, false_implies, implies_true, Option.toList_some, Option.toList_none, List.cons_append, List.nil_append, Nat.add_eq_zero_iff, a_nl_i, a_nl_r, a_nl_n, true_or, or_true, eq_self, ok_4, ok_5, ok_6, ok_7, ok_9, ok_10, ok_20, ok_21, ok_24, ok_30, ok_48, ok_50, ok_60, ok_80, ok_120, ok_180, ok_192, ok_200, ok_900, ok_1000, ok_84000]
    refine ct_onesB q5 (fun v hv => ?_)
    simp only [q242_80, q242_81, q242_84, q242_85, q242_87, q242_90, m_0 hS, m_K hS, sp_refuse_1 hS, sp_refuse_2 hS, sp_refuse_3 hS, sp_refuse_4 hS, sp_refuse_5 hS, sp_refuse_6 hS, as_nil, as_i, as_r, Nat.reduceAdd, Nat.reduceLeDiff, z_eq0, z_eq1, z_or, z_em, Classical.not_not, not_false_eq_true, not_true_eq_false, true_and, and_true, false_and, and_false, and_self, true_implies, false_implies, implies_true, Option.toList_some, Option.toList_none, List.cons_append, List.nil_append, Nat.add_eq_zero_iff, a_nl_i, a_nl_r, a_nl_n, true_or, or_true, eq_self, ok_4, ok_5, ok_6, ok_7, ok_9, ok_10, ok_20, ok_21, ok_24, ok_30, ok_48, ok_50, ok_60, ok_80, ok_120, ok_180, ok_192, ok_200, ok_900, ok_1000, ok_84000]
    refine ⟨fun h => h91 q1 q2 q3 q4 q5 ?_, fun h => hP _ _ (hL _ (sF_refused9 hF))⟩
    have := Int32.le_iff_toInt_le.mp h
    have h4 : (4 : Int32).toInt = 4 := rfl
    omega
  repeat' first
    | with_reducible apply And.intro
    | with_reducible assumption
    | with_reducible intro _
    | with_reducible apply hP
    | with_reducible apply hL
    | with_reducible apply sF_refused9
    | with_reducible apply h76
    | simp only [q242_0, q242_1, q242_2, q242_5, q242_8, q242_9, q242_12, q242_13, q242_14, q242_15, q242_18, q242_19, q242_22, q242_23, q242_24, q242_27, q242_28, q242_30, q242_31, q242_34, q242_35, q242_37, q242_40, q242_41, q242_43, q242_46, q242_48, q242_50, q242_53, q242_54, q242_56, q242_57, q242_58, q242_59, q242_62, q242_63, q242_64, q242_67, q242_68, q242_69, q242_70, q242_71, q242_73, q242_84, q242_85, q242_87, q242_90, m_0 hS, m_K hS, sp_isSpan, sp_refuse_1 hS, sp_refuse_2 hS, sp_refuse_3 hS, sp_refuse_4 hS, sp_refuse_5 hS, sp_refuse_6 hS, as_nil, as_i, as_r, Nat.reduceAdd, Nat.reduceLeDiff, z_eq0, z_eq1, z_or, z_em, Classical.not_not, not_false_eq_true, not_true_eq_false, true_and, and_true, false_and, and_false, and_self, true_implies, false_implies, implies_true, Option.toList_some, Option.toList_none, List.cons_append, List.nil_append, Nat.add_eq_zero_iff, a_nl_i, a_nl_r, a_nl_n, true_or, or_true, eq_self, ok_4, ok_5, ok_6, ok_7, ok_9, ok_10, ok_20, ok_21, ok_24, ok_30, ok_48, ok_50, ok_60, ok_80, ok_120, ok_180, ok_192, ok_200, ok_900, ok_1000, ok_84000]
  all_goals grind [ui_ap]
end SH

/-! rings -/
section SI
variable {d n t M c : Nat} {K L : Nat → Nat} {I I0 J J0 J1 J2 : Nat → Nat → Int32} {R : Nat → Nat → Nat} {P : Option Value → AH → Prop}
theorem mF_Q9 (hF : mF9 M c I0 I) (h : rQ M I J) : mF9 M c I0 J := by
  have e : ∀ x j, ¬ sC M x j → ¬ x = (M + 22) → ¬ x = (M + 49) → ¬ x = (M + 50) → ¬ x = (M + 51) → J x j = I x j := h.2
  refine ⟨⟨h.1, fun x j hx => ?_⟩, mE_eq hF.2 ?_ ?_ ?_ ?_ ?_ ?_ ?_ ?_⟩
  · rw [e x j (by unfold eC9 eC at hx; unfold sC; omega) (by unfold eC9 eC at hx; omega) (by unfold eC9 eC at hx; omega) (by unfold eC9 eC at hx; omega) (by unfold eC9 eC at hx; omega)]
    exact hF.1.2 x j hx
  all_goals intros; exact e _ _ (by unfold sC; omega) (by omega) (by omega) (by omega) (by omega)
def fI9 (M c : Nat) (I0 : Nat → Nat → Int32) (A : Int32) (J : Nat → Nat → Int32) (i : Int32) : Prop := mF9 M c I0 J ∧ J M 17 = A ∧ (∀ k : Int32, 0 ≤ k → k < i → (0 ≤ J (M + 48) k.toNatClampNeg ∧ J (M + 48) k.toNatClampNeg < A) ∧ 0 ≤ J (M + 20) (J (M + 48) k.toNatClampNeg).toNatClampNeg) ∧ (∀ k l : Int32, 0 ≤ k → k < l → l < i → ¬ J (M + 48) k.toNatClampNeg = J (M + 48) l.toNatClampNeg)
theorem lp_findRing_299 (hS : m_S M K L R) {A m i : Int32} (h : fI9 M c I0 A J i) (hA : A ≤ 30) (hi : 0 ≤ i ∧ i ≤ 4) (hN : ∀ a, 0 ≤ a → a ≤ A → J (M + 48) i.toNatClampNeg < a → (a < A → 0 ≤ J (M + 20) a.toNatClampNeg ∧ ∀ k : Int32, 0 ≤ k → k < i → ¬ J (M + 48) k.toNatClampNeg = a) → a_at (d + 11) (a_xm a_m252) 52 [some (a_rf M), some (.int m), some (.int i), some (.int a)] [] (n, t, K, L, J, R) P) : ∀ a : Int32, a ≤ 30 → 0 ≤ a → a ≤ A → J (M + 48) i.toNatClampNeg < a → a_at (d + 11) (a_xm a_m252) 29 [some (a_rf M), some (.int m), some (.int i), some (.int a)] [] (n, t, K, L, J, R) P := by
  refine up_ind 30 (fun a ha ih => ?_)
  intro h0 haA hlt
  obtain ⟨f1, f2, f3, f4⟩ := id h
  rw [q252_29]
  simp only [q252_30, q252_31, q252_34, q252_37, q252_38, q252_39, q252_40, m_0 hS, m_K hS, as_nil, as_i, as_r, Nat.reduceAdd, Nat.reduceLeDiff, z_eq0, z_eq1, z_or, z_em, Classical.not_not, not_false_eq_true, not_true_eq_false, true_and, and_true, false_and, and_false, and_self, true_implies, false_implies, implies_true, Option.toList_some, Option.toList_none, List.cons_append, List.nil_append, Nat.add_eq_zero_iff, a_nl_i, a_nl_r, a_nl_n, true_or, or_true, eq_self, ok_4, ok_5, ok_6, ok_7, ok_9, ok_10, ok_20, ok_21, ok_24, ok_30, ok_48, ok_50, ok_60, ok_80, ok_120, ok_180, ok_192, ok_200, ok_900, ok_1000, ok_84000, f2]
  refine ⟨fun h1 => hN a h0 haA hlt (fun h2 => by grind), fun h1 => ?_⟩
  refine ct_mayBeNext (d := d + 9) hS f1.1.1 (by grind) (by grind) (fun k p1 p2 => by have := f3 k p1 p2; grind) (fun v hv => ?_)
  simp only [q252_43, q252_46, q252_49, as_nil, as_i, as_r, Nat.reduceAdd, Nat.reduceLeDiff, z_eq0, z_eq1, z_or, z_em, Classical.not_not, not_false_eq_true, not_true_eq_false, true_and, and_true, false_and, and_false, and_self, true_implies, false_implies, implies_true, Option.toList_some, Option.toList_none, List.cons_append, List.nil_append, Nat.add_eq_zero_iff, a_nl_i, a_nl_r, a_nl_n, true_or, or_true, eq_self, ok_4, ok_5, ok_6, ok_7, ok_9, ok_10, ok_20, ok_21, ok_24, ok_30, ok_48, ok_50, ok_60, ok_80, ok_120, ok_180, ok_192, ok_200, ok_900, ok_1000, ok_84000]
  refine ⟨fun h2 => hN a h0 haA hlt (fun _ => hv h2), fun h2 => ih (by grind) (by grind) (by grind) (by grind)⟩
theorem lp_findRing_169 (hS : m_S M K L R) {A m : Int32} (hA : 0 ≤ A ∧ A ≤ 30) (hm : 2 ≤ m ∧ m ≤ 5) (hN : ∀ J i a, mF9 M c I0 J → J M 17 = A → a_at (d + 11) (a_xm a_m252) 129 [some (a_rf M), some (.int m), some (.int i), a] [] (n, t, K, L, J, R) P) (hP : ∀ J, mF9 M c I0 J → J M 74 = m → (∀ k : Int32, 0 ≤ k → k < m → (0 ≤ J (M + 48) k.toNatClampNeg ∧ J (M + 48) k.toNatClampNeg ≤ 29) ∧ 0 ≤ J (M + 20) (J (M + 48) k.toNatClampNeg).toNatClampNeg) → P none (n, t, K, L, J, R)) : ∀ (z : Nat) J i a, mu A (J (M + 48)) i < z → -1 ≤ i ∧ i < m → fI9 M c I0 A J i → (0 ≤ i → -1 ≤ J (M + 48) i.toNatClampNeg ∧ J (M + 48) i.toNatClampNeg < A) → a_at (d + 11) (a_xm a_m252) 16 [some (a_rf M), some (.int m), some (.int i), a] [] (n, t, K, L, J, R) P := by
  intro z
  induction z with
  | zero => intro J i a hz; omega
  | succ z ih =>
  intro J i a hz hi h hri
  obtain ⟨f1, f2, f3, f4⟩ := id h
  rw [q252_16]
  simp only [q252_17, q252_20, q252_21, q252_24, q252_25, q252_26, q252_27, q252_28, m_0 hS, m_K hS, mR_ringAsk hS, mK_ringAsk hS, mL_ringAsk hS, as_nil, as_i, as_r, Nat.reduceAdd, Nat.reduceLeDiff, z_eq0, z_eq1, z_or, z_em, Classical.not_not, not_false_eq_true, not_true_eq_false, true_and, and_true, false_and, and_false, and_self, true_implies, false_implies, implies_true, Option.toList_some, Option.toList_none, List.cons_append, List.nil_append, Nat.add_eq_zero_iff, a_nl_i, a_nl_r, a_nl_n, true_or, or_true, eq_self, ok_4, ok_5, ok_6, ok_7, ok_9, ok_10, ok_20, ok_21, ok_24, ok_30, ok_48, ok_50, ok_60, ok_80, ok_120, ok_180, ok_192, ok_200, ok_900, ok_1000, ok_84000]
  refine ⟨fun h1 => hN J i a f1 f2, fun h1 => ?_⟩
  have h0 : 0 ≤ i := by grind
  have hi4 : i ≤ 4 := by grind
  have hr := hri h0
  have hpA : 0 ≤ A ∧ A ≤ 48 := by grind
  refine ⟨by grind, ?_⟩
  refine lp_findRing_299 hS h hA.2 ⟨h0, hi4⟩ (fun a2 p0 p1 p2 p3 => ?_) _ (by grind) (by grind) (by grind) (by grind)
  simp only [q252_52, q252_53, q252_56, q252_57, q252_58, q252_59, q252_60, q252_61, q252_64, m_0 hS, m_K hS, mR_ringAsk hS, mK_ringAsk hS, mL_ringAsk hS, as_nil, as_i, as_r, Nat.reduceAdd, Nat.reduceLeDiff, z_eq0, z_eq1, z_or, z_em, Classical.not_not, not_false_eq_true, not_true_eq_false, true_and, and_true, false_and, and_false, and_self, true_implies, false_implies, implies_true, Option.toList_some, Option.toList_none, List.cons_append, List.nil_append, Nat.add_eq_zero_iff, a_nl_i, a_nl_r, a_nl_n, true_or, or_true, eq_self, ok_4, ok_5, ok_6, ok_7, ok_9, ok_10, ok_20, ok_21, ok_24, ok_30, ok_48, ok_50, ok_60, ok_80, ok_120, ok_180, ok_192, ok_200, ok_900, ok_1000, ok_84000, ui_ap, ne_MM, ne_M0, ne_0M, Nat.reduceEqDiff, reduceIte, if_true, if_false, f2]
  refine ⟨by grind, ?_⟩
  have w1 : ∀ k : Int32, 0 ≤ k → ¬ k = i → (a_ui J (M + 48) i.toNatClampNeg a2) (M + 48) k.toNatClampNeg = J (M + 48) k.toNatClampNeg := fun k q1 q2 => by
    rw [ui_ap, if_neg (fun e => q2 (cl_inj q1 h0 e.2))]
  have w2 : (a_ui J (M + 48) i.toNatClampNeg a2) (M + 48) i.toNatClampNeg = a2 := by simp [ui_ap]
  have w3 : ∀ j, (a_ui J (M + 48) i.toNatClampNeg a2) (M + 20) j = J (M + 20) j := fun j => by simp [ui_ap]
  have w4 : (a_ui J (M + 48) i.toNatClampNeg a2) M 17 = A := by simpa [ui_ap] using f2
  have w5 : mF9 M c I0 (a_ui J (M + 48) i.toNatClampNeg a2) := sF_ringAsk9 f1
  have w6 : ∀ k : Nat, k < i.toNatClampNeg → (a_ui J (M + 48) i.toNatClampNeg a2) (M + 48) k = J (M + 48) k := fun k hk => by
    rw [ui_ap, if_neg (by omega)]
  revert w1 w2 w3 w4 w5 w6
  generalize a_ui J (M + 48) i.toNatClampNeg a2 = J1
  intro w1 w2 w3 w4 w5 w6
  refine ⟨fun hne => ?_, fun heq => ?_⟩
  · -- one more
    have q1 : a2 < A := by grind
    have q2 := p3 q1
    have f5 : fI9 M c I0 A J1 (i + 1) := by
      refine ⟨w5, w4, fun k k0 k1 => ?_, fun k l k0 k1 k2 => ?_⟩
      · by_cases hk : k = i
        · subst hk
          rw [w2, w3]
          exact ⟨⟨p0, q1⟩, q2.1⟩
        · rw [w1 k k0 hk, w3]
          exact f3 k k0 (by grind)
      · by_cases hl : l = i
        · subst hl
          rw [w2, w1 k k0 (by grind)]
          exact q2.2 k k0 k1
        · rw [w1 k k0 (by grind), w1 l (by grind) hl]
          exact f4 k l k0 k1 (by grind)
    have f6 : fI9 M c I0 A J1 i := ⟨w5, w4, fun k k0 k1 => f5.2.2.1 k k0 (by grind), fun k l k0 k1 k2 => f5.2.2.2 k l k0 k1 (by grind)⟩
    have hstay : mu A (J1 (M + 48)) i < z := Nat.lt_of_lt_of_le (mu_stay (w := J (M + 48)) h0 hi4 hpA ⟨hr.1, by rw [w2]; exact p2, by rw [w2]; exact p1⟩ w6) (by omega)
    simp only [q252_73, q252_74, q252_75, q252_76, q252_77, q252_80, q252_83, q252_84, q252_87, q252_88, q252_89, q252_90, q252_126, m_0 hS, m_K hS, mR_ringAsk hS, mK_ringAsk hS, mL_ringAsk hS, as_nil, as_i, as_r, Nat.reduceAdd, Nat.reduceLeDiff, z_eq0, z_eq1, z_or, z_em, Classical.not_not, not_false_eq_true, not_true_eq_false, true_and, and_true, false_and, and_false, and_self, true_implies, false_implies, implies_true, Option.toList_some, Option.toList_none, List.cons_append, List.nil_append, Nat.add_eq_zero_iff, a_nl_i, a_nl_r, a_nl_n, true_or, or_true, eq_self, ok_4, ok_5, ok_6, ok_7, ok_9, ok_10, ok_20, ok_21, ok_24, ok_30, ok_48, ok_50, ok_60, ok_80, ok_120, ok_180, ok_192, ok_200, ok_900, ok_1000, ok_84000]
    refine ⟨fun hfull => ?_, fun hmore => ?_⟩
    · have him : i + 1 = m := by grind
      have hz0 := f5.2.2.1 0 (by decide) (by grind)
      have z0 : (0 : Int32).toNatClampNeg = 0 := rfl
      rw [z0] at hz0
      simp only [q252_93, q252_94, q252_97, q252_99, q252_100, q252_101, q252_102, q252_105, q252_106, q252_107, q252_108, q252_109, q252_112, q252_113, q252_114, q252_126, m_0 hS, m_K hS, mR_isWish hS, mK_isWish hS, mL_isWish hS, mR_ringAsk hS, mK_ringAsk hS, mL_ringAsk hS, as_nil, as_i, as_r, Nat.reduceAdd, Nat.reduceLeDiff, z_eq0, z_eq1, z_or, z_em, Classical.not_not, not_false_eq_true, not_true_eq_false, true_and, and_true, false_and, and_false, and_self, true_implies, false_implies, implies_true, Option.toList_some, Option.toList_none, List.cons_append, List.nil_append, Nat.add_eq_zero_iff, a_nl_i, a_nl_r, a_nl_n, true_or, or_true, eq_self, ok_4, ok_5, ok_6, ok_7, ok_9, ok_10, ok_20, ok_21, ok_24, ok_30, ok_48, ok_50, ok_60, ok_80, ok_120, ok_180, ok_192, ok_200, ok_900, ok_1000, ok_84000]
      refine ⟨by grind, by grind, fun hw => ih J1 i _ hstay hi f6 (fun _ => by rw [w2]; exact ⟨by grind, q1⟩), fun hw => ?_⟩
      rw [him] at f5
      obtain ⟨f7, f8, f9, f10⟩ := id f5
      refine ct_ringFits hS w5.1.1 ⟨by grind, hm.2⟩ (fun k k0 k1 => ⟨⟨(f9 k k0 k1).1.1, by have := (f9 k k0 k1).1.2; grind⟩, (f9 k k0 k1).2⟩) (fun k l k0 k1 l0 l1 e => ?_) (fun v J3 hQ => ?_)
      · have e2 := cl_inj (f9 k k0 k1).1.1 (f9 l l0 l1).1.1 e
        by_cases hkl : k < l
        · exact absurd e2 (f10 k l k0 hkl l1)
        · by_cases hlk : l < k
          · exact absurd e2.symm (f10 l k l0 hlk k1)
          · grind
      · have f11 := mF_Q9 w5 hQ
        have e1 : J3 (M + 48) = J1 (M + 48) := by funext j; exact hQ.2 _ _ (by unfold sC; omega) (by omega) (by omega) (by omega) (by omega)
        have e2 : ∀ j, J3 (M + 20) j = J1 (M + 20) j := fun j => hQ.2 _ _ (by unfold sC; omega) (by omega) (by omega) (by omega) (by omega)
        have e3 : J3 M 17 = A := (hQ.2 _ _ (by unfold sC; omega) (by omega) (by omega) (by omega) (by omega)).trans w4
        simp only [q252_117, q252_120, q252_121, q252_122, q252_125, q252_126, m_0 hS, m_K hS, as_nil, as_i, as_r, Nat.reduceAdd, Nat.reduceLeDiff, z_eq0, z_eq1, z_or, z_em, Classical.not_not, not_false_eq_true, not_true_eq_false, true_and, and_true, false_and, and_false, and_self, true_implies, false_implies, implies_true, Option.toList_some, Option.toList_none, List.cons_append, List.nil_append, Nat.add_eq_zero_iff, a_nl_i, a_nl_r, a_nl_n, true_or, or_true, eq_self, ok_4, ok_5, ok_6, ok_7, ok_9, ok_10, ok_20, ok_21, ok_24, ok_30, ok_48, ok_50, ok_60, ok_80, ok_120, ok_180, ok_192, ok_200, ok_900, ok_1000, ok_84000]
        refine ⟨fun hv => ?_, fun hv => ?_⟩
        · refine ih J3 i _ (by rw [e1]; exact hstay) hi ⟨f11, e3, ?_, ?_⟩ (fun _ => by rw [e1, w2]; exact ⟨by grind, q1⟩)
          · rw [e1]; intro k k0 k1; rw [e2]; exact f6.2.2.1 k k0 k1
          · rw [e1]; exact f6.2.2.2
        · refine hP _ (sF_ringMany9 f11) (by simp [ui_ap]) (fun k k0 k1 => ?_)
          have := f9 k k0 k1
          simp only [ui_ap, ne_MM, ne_M0, ne_0M, Nat.reduceEqDiff, reduceIte, if_true, if_false, false_and, and_false, e1, e2]
          exact ⟨⟨this.1.1, by grind⟩, this.2⟩
    · have k1 : (i + 1).toNatClampNeg = i.toNatClampNeg + 1 := cl_up h0 (by grind)
      have x1 : ∀ k : Int32, 0 ≤ k → k < i + 1 → (a_ui J1 (M + 48) (i + 1).toNatClampNeg (-1)) (M + 48) k.toNatClampNeg = J1 (M + 48) k.toNatClampNeg := fun k q1 q2 => by
        rw [ui_ap, if_neg (fun e => by have := cl_inj q1 (by grind) e.2; grind)]
      have x2 : (a_ui J1 (M + 48) (i + 1).toNatClampNeg (-1)) (M + 48) (i + 1).toNatClampNeg = -1 := by simp [ui_ap]
      have x3 : ∀ j, (a_ui J1 (M + 48) (i + 1).toNatClampNeg (-1)) (M + 20) j = J1 (M + 20) j := fun j => by simp [ui_ap]
      have x4 : (a_ui J1 (M + 48) (i + 1).toNatClampNeg (-1)) M 17 = A := by simpa [ui_ap] using w4
      have x6 : ∀ k : Nat, k < i.toNatClampNeg → (a_ui J1 (M + 48) (i + 1).toNatClampNeg (-1)) (M + 48) k = J (M + 48) k := fun k hk => by
        rw [ui_ap, if_neg (by omega), w6 k hk]
      refine ⟨by grind, ?_⟩
      refine ih _ (i + 1) _ ?_ (by grind) ⟨sF_ringAsk9 w5, x4, fun k k0 k1 => ?_, fun k l k0 k1 k2 => ?_⟩ (fun _ => by rw [x2]; exact ⟨by decide, by grind⟩)
      · refine Nat.lt_of_lt_of_le (mu_on (w := J (M + 48)) h0 (by grind) hpA ⟨hr.1, ?_, ?_⟩ x6 x2) (by omega)
        · rw [x1 i h0 (by grind), w2]; exact p2
        · rw [x1 i h0 (by grind), w2]; exact p1
      · rw [x1 k k0 k1, x3]
        exact f5.2.2.1 k k0 k1
      · rw [x1 k k0 (by grind), x1 l (by grind) k2]
        exact f5.2.2.2 k l k0 k1 k2
  · -- none is left here
    simp only [q252_67, q252_70, q252_126, as_nil, as_i, as_r, Nat.reduceAdd, Nat.reduceLeDiff, z_eq0, z_eq1, z_or, z_em, Classical.not_not, not_false_eq_true, not_true_eq_false, true_and, and_true, false_and, and_false, and_self, true_implies, false_implies, implies_true, Option.toList_some, Option.toList_none, List.cons_append, List.nil_append, Nat.add_eq_zero_iff, a_nl_i, a_nl_r, a_nl_n, true_or, or_true, eq_self, ok_4, ok_5, ok_6, ok_7, ok_9, ok_10, ok_20, ok_21, ok_24, ok_30, ok_48, ok_50, ok_60, ok_80, ok_120, ok_180, ok_192, ok_200, ok_900, ok_1000, ok_84000]
    refine ih J1 _ _ (Nat.lt_of_lt_of_le (mu_back (w := J (M + 48)) h0 hi4 hpA ⟨hr.1, by grind⟩ w6) (by omega)) (by grind) ⟨w5, w4, fun k k0 k1 => ?_, fun k l k0 k1 k2 => ?_⟩ (fun q => ?_)
    · rw [w1 k k0 (by grind), w3]; exact f3 k k0 (by grind)
    · rw [w1 k k0 (by grind), w1 l (by grind) (by grind)]; exact f4 k l k0 k1 (by grind)
    · rw [w1 _ q (by grind)]
      have := f3 (i + (-1)) q (by grind)
      grind
theorem lp_findRing_2q9 (hS : m_S M K L R) (hP : ∀ J, mF9 M c I0 J → 0 ≤ J M 74 ∧ J M 74 ≤ 5 → (∀ k : Int32, 0 ≤ k → k < J M 74 → (0 ≤ J (M + 48) k.toNatClampNeg ∧ J (M + 48) k.toNatClampNeg ≤ 29) ∧ 0 ≤ J (M + 20) (J (M + 48) k.toNatClampNeg).toNatClampNeg) → P none (n, t, K, L, J, R)) : ∀ m : Int32, m ≤ 6 → ∀ J i a, 2 ≤ m → mF9 M c I0 J → a_at (d + 11) (a_xm a_m252) 2 [some (a_rf M), some (.int m), i, a] [] (n, t, K, L, J, R) P := by
  refine up_ind 6 (fun m hm6 ih => ?_)
  intro J i a hm hF
  have r0 := rg_asks hF.1.1
  rw [q252_2]
  simp only [q252_3, q252_4, q252_7, q252_8, q252_9, q252_10, q252_13, q252_14, q252_15, q252_135, q252_136, q252_137, q252_140, m_0 hS, m_K hS, mR_ringAsk hS, mK_ringAsk hS, mL_ringAsk hS, as_nil, as_i, as_r, Nat.reduceAdd, Nat.reduceLeDiff, z_eq0, z_eq1, z_or, z_em, Classical.not_not, not_false_eq_true, not_true_eq_false, true_and, and_true, false_and, and_false, and_self, true_implies, false_implies, implies_true, Option.toList_some, Option.toList_none, List.cons_append, List.nil_append, Nat.add_eq_zero_iff, a_nl_i, a_nl_r, a_nl_n, true_or, or_true, eq_self, ok_4, ok_5, ok_6, ok_7, ok_9, ok_10, ok_20, ok_21, ok_24, ok_30, ok_48, ok_50, ok_60, ok_80, ok_120, ok_180, ok_192, ok_200, ok_900, ok_1000, ok_84000]
  refine ⟨fun h => ?_, fun h => ⟨by grind, ?_⟩⟩
  · refine hP _ (sF_ringMany9 hF) ?_ (fun k k0 k1 => ?_)
    · simp only [ui_ap, ne_MM, ne_M0, ne_0M, Nat.reduceEqDiff, reduceIte, if_true, if_false, and_self]; decide
    · simp only [ui_ap, ne_MM, ne_M0, ne_0M, Nat.reduceEqDiff, reduceIte, if_true, if_false, and_self] at k1
      grind
  · refine lp_findRing_169 hS r0 ⟨hm, by grind⟩ (fun J2 i2 a2 hF2 e2 => ?_) (fun J2 hF2 e2 h2 => hP J2 hF2 (by rw [e2]; grind) (by rw [e2]; exact h2)) _ _ _ _ (Nat.lt_succ_self _) (by grind) ⟨sF_ringAsk9 hF, by simp [ui_ap], fun k k0 k1 => by grind, fun k l k0 k1 k2 => by grind⟩ (fun _ => ?_)
    · simp only [q252_129, q252_132, as_nil, as_i, as_r, Nat.reduceAdd, Nat.reduceLeDiff, z_eq0, z_eq1, z_or, z_em, Classical.not_not, not_false_eq_true, not_true_eq_false, true_and, and_true, false_and, and_false, and_self, true_implies, false_implies, implies_true, Option.toList_some, Option.toList_none, List.cons_append, List.nil_append, Nat.add_eq_zero_iff, a_nl_i, a_nl_r, a_nl_n, true_or, or_true, eq_self, ok_4, ok_5, ok_6, ok_7, ok_9, ok_10, ok_20, ok_21, ok_24, ok_30, ok_48, ok_50, ok_60, ok_80, ok_120, ok_180, ok_192, ok_200, ok_900, ok_1000, ok_84000]
      exact ih (by grind) J2 _ _ (by grind) hF2
    · have : (a_ui J (M + 48) (0 : Int32).toNatClampNeg (-1)) (M + 48) (0 : Int32).toNatClampNeg = -1 := by simp [ui_ap]
      rw [this]
      exact ⟨by decide, by grind⟩
theorem ct_findRing9 (hS : m_S M K L R) (hF : mF9 M c I0 I) (hP : ∀ J, mF9 M c I0 J → 0 ≤ J M 74 ∧ J M 74 ≤ 5 → (∀ k : Int32, 0 ≤ k → k < J M 74 → (0 ≤ J (M + 48) k.toNatClampNeg ∧ J (M + 48) k.toNatClampNeg ≤ 29) ∧ 0 ≤ J (M + 20) (J (M + 48) k.toNatClampNeg).toNatClampNeg) → P none (n, t, K, L, J, R)) : a_does (d + 12) 252 [a_rf M] (n, t, K, L, I, R) P := by
  rw [a_enter1 (M := a_m252) rfl (a_cat_rf a_cat_nil) (show 1 ≤ 4 by decide)]
  show a_at _ (a_xm a_m252) 0 [some (a_rf M), none, none, none] [] _ _
  simp only [q252_0, q252_1, as_nil, as_i, as_r, Nat.reduceAdd, Nat.reduceLeDiff, z_eq0, z_eq1, z_or, z_em, Classical.not_not, not_false_eq_true, not_true_eq_false, true_and, and_true, false_and, and_false, and_self, true_implies, false_implies, implies_true, Option.toList_some, Option.toList_none, List.cons_append, List.nil_append, Nat.add_eq_zero_iff, a_nl_i, a_nl_r, a_nl_n, true_or, or_true, eq_self, ok_4, ok_5, ok_6, ok_7, ok_9, ok_10, ok_20, ok_21, ok_24, ok_30, ok_48, ok_50, ok_60, ok_80, ok_120, ok_180, ok_192, ok_200, ok_900, ok_1000, ok_84000]
  exact lp_findRing_2q9 hS hP 2 (by decide) I _ _ (by decide) hF
theorem pu_ring9 (hS : m_S M K L R) (hF : mF9 M c I0 I) (hc : c + 130 ≤ 84000) {a : Int32} (hP : ∀ v J, mF9 M (c + 120) I0 J → P (some (.int v)) (n, t, K, L, J, R)) : a_does (d + 16) 251 [a_rf M, .int a] (n, t, K, L, I, R) P := by
  have hR := hF.1.1
  have g3 := mC_refl hR
  have hL4 : ∀ J, mF9 M (c + 4) I0 J → mF9 M (c + 120) I0 J := fun J h => mF_le9 h (by omega)
  have hL : ∀ J, mF9 M c I0 J → mF9 M (c + 120) I0 J := fun J h => mF_le9 h (by omega)
  rw [a_enter1 (M := a_m251) rfl (a_cat_rf (a_cat_int a_cat_nil)) (show 2 ≤ 2 by decide)]
  show a_at _ (a_xm a_m251) 0 [some (a_rf M), some (.int a)] [] _ _
  have h12 : -1 ≤ a → a_at (d + 15) (a_xm a_m251) 12 [some (a_rf M), some (.int a)] [] (n, t, K, L, I, R) P := by
    intro q
    simp only [q251_12, q251_13, m_0 hS, m_K hS, as_nil, as_i, as_r, Nat.reduceAdd, Nat.reduceLeDiff, z_eq0, z_eq1, z_or, z_em, Classical.not_not, not_false_eq_true, not_true_eq_false, true_and, and_true, false_and, and_false, and_self, true_implies, false_implies, implies_true, Option.toList_some, Option.toList_none, List.cons_append, List.nil_append, Nat.add_eq_zero_iff, a_nl_i, a_nl_r, a_nl_n, true_or, or_true, eq_self, ok_4, ok_5, ok_6, ok_7, ok_9, ok_10, ok_20, ok_21, ok_24, ok_30, ok_48, ok_50, ok_60, ok_80, ok_120, ok_180, ok_192, ok_200, ok_900, ok_1000, ok_84000]
    refine ct_findRing9 (d := d + 3) hS hF (fun J f1 f2 f3 => ?_)
    repeat' first
      | with_reducible apply And.intro
      | with_reducible assumption
      | with_reducible intro _
      | with_reducible apply hP
      | with_reducible apply hL
      | simp only [q251_16, q251_17, q251_18, q251_21, q251_22, q251_25, q251_28, q251_29, q251_30, q251_33, q251_36, q251_37, q251_40, q251_41, q251_42, q251_45, q251_47, m_0 hS, m_K hS, mR_ringAsk hS, mK_ringAsk hS, mL_ringAsk hS, as_nil, as_i, as_r, Nat.reduceAdd, Nat.reduceLeDiff, z_eq0, z_eq1, z_or, z_em, Classical.not_not, not_false_eq_true, not_true_eq_false, true_and, and_true, false_and, and_false, and_self, true_implies, false_implies, implies_true, Option.toList_some, Option.toList_none, List.cons_append, List.nil_append, Nat.add_eq_zero_iff, a_nl_i, a_nl_r, a_nl_n, true_or, or_true, eq_self, ok_4, ok_5, ok_6, ok_7, ok_9, ok_10, ok_20, ok_21, ok_24, ok_30, ok_48, ok_50, ok_60, ok_80, ok_120, ok_180, ok_192, ok_200, ok_900, ok_1000, ok_84000]
    all_goals grind [ui_ap]
  repeat' first
    | with_reducible apply And.intro
    | with_reducible assumption
    | with_reducible intro _
    | with_reducible apply hP
    | with_reducible apply hL
    | with_reducible apply sF_refused9
    | with_reducible apply h12
    | simp only [q251_0, q251_1, q251_2, q251_5, q251_6, q251_8, q251_11, m_0 hS, m_K hS, sp_refuse_1 hS, sp_refuse_2 hS, sp_refuse_3 hS, sp_refuse_4 hS, sp_refuse_5 hS, sp_refuse_6 hS, as_nil, as_i, as_r, Nat.reduceAdd, Nat.reduceLeDiff, z_eq0, z_eq1, z_or, z_em, Classical.not_not, not_false_eq_true, not_true_eq_false, true_and, and_true, false_and, and_false, and_self, true_implies, false_implies, implies_true, Option.toList_some, Option.toList_none, List.cons_append, List.nil_append, Nat.add_eq_zero_iff, a_nl_i, a_nl_r, a_nl_n, true_or, or_true, eq_self, ok_4, ok_5, ok_6, ok_7, ok_9, ok_10, ok_20, ok_21, ok_24, ok_30, ok_48, ok_50, ok_60, ok_80, ok_120, ok_180, ok_192, ok_200, ok_900, ok_1000, ok_84000]
  all_goals grind [ui_ap]
def sW9 (M c : Nat) (I0 : Nat → Nat → Int32) (m : Int32) (J : Nat → Nat → Int32) (p : Int32) : Prop := mF9 M c I0 J ∧ J M 74 = m ∧ (∀ k : Int32, 0 ≤ k → k < m → 0 ≤ J (M + 48) k.toNatClampNeg ∧ J (M + 48) k.toNatClampNeg ≤ 29) ∧ (∀ k : Int32, 0 ≤ k → k < p → 0 ≤ J (M + 49) k.toNatClampNeg)
theorem lp_swap_209 (hS : m_S M K L R) {m : Int32} (hm : 0 ≤ m ∧ m ≤ 5) (hN : ∀ J i, sW9 M c I0 m J m → a_at d (a_xm a_m255) 68 [some (a_rf M), some (.int i), none, none] [] (n, t, K, L, J, R) P) : ∀ i : Int32, i ≤ 5 → ∀ J, 0 ≤ i → i ≤ m → sW9 M c I0 m J i → (∀ k : Int32, 0 ≤ k → k < m → 0 ≤ J (M + 20) (J (M + 48) k.toNatClampNeg).toNatClampNeg) → a_at d (a_xm a_m255) 20 [some (a_rf M), some (.int i), none, none] [] (n, t, K, L, J, R) P := by
  refine up_ind 5 (fun i hi ih => ?_)
  intro J h0 him h hb
  obtain ⟨f1, f2, f3, f4⟩ := id h
  rw [q255_20]
  simp only [q255_21, q255_22, q255_25, q255_28, q255_29, q255_32, q255_33, q255_34, q255_37, q255_38, q255_41, q255_42, q255_43, q255_44, q255_45, q255_46, q255_49, q255_50, q255_51, q255_54, q255_55, q255_58, q255_59, q255_60, q255_61, q255_62, q255_65, m_0 hS, m_K hS, mR_oldBench hS, mK_oldBench hS, mL_oldBench hS, mR_atBench hS, mK_atBench hS, mL_atBench hS, mR_ringAsk hS, mK_ringAsk hS, mL_ringAsk hS, mR_oldShift hS, mK_oldShift hS, mL_oldShift hS, mR_atShift hS, mK_atShift hS, mL_atShift hS, as_nil, as_i, as_r, Nat.reduceAdd, Nat.reduceLeDiff, z_eq0, z_eq1, z_or, z_em, Classical.not_not, not_false_eq_true, not_true_eq_false, true_and, and_true, false_and, and_false, and_self, true_implies, false_implies, implies_true, Option.toList_some, Option.toList_none, List.cons_append, List.nil_append, Nat.add_eq_zero_iff, a_nl_i, a_nl_r, a_nl_n, true_or, or_true, eq_self, ok_4, ok_5, ok_6, ok_7, ok_9, ok_10, ok_20, ok_21, ok_24, ok_30, ok_48, ok_50, ok_60, ok_80, ok_120, ok_180, ok_192, ok_200, ok_900, ok_1000, ok_84000, ui_ap, ne_MM, ne_M0, ne_0M, Nat.reduceEqDiff, reduceIte, if_true, if_false, f2]
  refine ⟨fun h1 => ?_, fun h1 => ?_⟩
  · have e : i = m := by clear ih hN h hb f3 f4; grind
    subst e
    exact hN J i h
  have him2 : i < m := by clear ih hN h hb f3 f4; grind
  have q1 := f3 i h0 him2
  have q2 := hb i h0 him2
  have r1 := rg_atBench f1.1.1 (J (M + 48) i.toNatClampNeg).toNatClampNeg
  have r2 := rg_atShift f1.1.1 (J (M + 48) i.toNatClampNeg).toNatClampNeg
  repeat refine And.intro (by clear ih hN h hb f3 f4; grind) ?_
  refine ih (by clear ih hN h hb f3 f4; grind) _ (by clear ih hN h hb f3 f4; grind) (by clear ih hN h hb f3 f4; grind) ⟨sF_oldShift9 (sF_oldBench9 f1 r1) r2, by simpa [ui_ap] using f2, by simpa [ui_ap] using f3, fun k k0 k1 => ?_⟩ (by simpa [ui_ap] using hb)
  simp only [ui_ap, ne_MM, ne_M0, ne_0M, Nat.reduceEqDiff, reduceIte, if_true, if_false, and_self, false_and, and_false, true_and]
  by_cases hk : k = i
  · subst hk
    rw [if_pos rfl]
    exact q2
  · rw [if_neg (fun e => hk (cl_inj k0 h0 e))]
    exact f4 k k0 (by clear ih hN h hb f3 f4; grind)
theorem lp_swap_709 (hS : m_S M K L R) {m : Int32} (hm : 0 ≤ m ∧ m ≤ 5) (hc : c + 40 ≤ 84000) (hN : ∀ J i, sW9 M (c + 20) I0 m J m → a_at (d + 12) (a_xm a_m255) 94 [some (a_rf M), some (.int i), none, none] [] (n, t, K, L, J, R) P) : ∀ i : Int32, i ≤ 5 → ∀ J, 0 ≤ i → i ≤ m → sW9 M (c + 4 * i.toNatClampNeg) I0 m J m → a_at (d + 12) (a_xm a_m255) 70 [some (a_rf M), some (.int i), none, none] [] (n, t, K, L, J, R) P := by
  refine up_ind 5 (fun i hi ih => ?_)
  intro J h0 him h
  obtain ⟨f1, f2, f3, f4⟩ := id h
  have i5 : i.toNatClampNeg < 6 := (show i.toNatClampNeg < (6 : Int32).toNatClampNeg from cl_lt h0 (by clear ih hN h f3 f4; grind))
  rw [q255_70]
  simp only [q255_71, q255_72, q255_75, q255_78, q255_79, q255_80, q255_83, q255_84, q255_85, m_0 hS, m_K hS, mR_ringAsk hS, mK_ringAsk hS, mL_ringAsk hS, as_nil, as_i, as_r, Nat.reduceAdd, Nat.reduceLeDiff, z_eq0, z_eq1, z_or, z_em, Classical.not_not, not_false_eq_true, not_true_eq_false, true_and, and_true, false_and, and_false, and_self, true_implies, false_implies, implies_true, Option.toList_some, Option.toList_none, List.cons_append, List.nil_append, Nat.add_eq_zero_iff, a_nl_i, a_nl_r, a_nl_n, true_or, or_true, eq_self, ok_4, ok_5, ok_6, ok_7, ok_9, ok_10, ok_20, ok_21, ok_24, ok_30, ok_48, ok_50, ok_60, ok_80, ok_120, ok_180, ok_192, ok_200, ok_900, ok_1000, ok_84000, f2]
  refine ⟨fun h1 => hN J i ⟨mF_le9 f1 (by omega), f2, f3, f4⟩, fun h1 => ?_⟩
  have q1 := f3 i h0 (by clear ih hN h f3 f4; grind)
  repeat refine And.intro (by clear ih hN h f3 f4; grind) ?_
  refine ct_takeFrom9 (d := d + 10) hS (I0 := I0) f1 (by omega) ⟨q1.1, by grind⟩ (fun J2 g1 _ g3 _ => ?_)
  have e1 : ∀ j, J2 (M + 48) j = J (M + 48) j := fun j => g3 _ _ (by unfold evC; omega) (by omega)
  have e2 : ∀ j, J2 (M + 49) j = J (M + 49) j := fun j => g3 _ _ (by unfold evC; omega) (by omega)
  have e3 : J2 M 74 = m := (g3 _ _ (by unfold evC; omega) (by omega)).trans f2
  simp only [q255_88, q255_91, as_nil, as_i, as_r, Nat.reduceAdd, Nat.reduceLeDiff, z_eq0, z_eq1, z_or, z_em, Classical.not_not, not_false_eq_true, not_true_eq_false, true_and, and_true, false_and, and_false, and_self, true_implies, false_implies, implies_true, Option.toList_some, Option.toList_none, List.cons_append, List.nil_append, Nat.add_eq_zero_iff, a_nl_i, a_nl_r, a_nl_n, true_or, or_true, eq_self, ok_4, ok_5, ok_6, ok_7, ok_9, ok_10, ok_20, ok_21, ok_24, ok_30, ok_48, ok_50, ok_60, ok_80, ok_120, ok_180, ok_192, ok_200, ok_900, ok_1000, ok_84000]
  refine ih (by clear ih hN h f3 f4; grind) J2 (by clear ih hN h f3 f4; grind) (by clear ih hN h f3 f4; grind) ⟨mF_le9 g1 (by rw [cl_up h0 (by clear ih hN h f3 f4; grind)]; omega), e3, fun k k0 k1 => by rw [e1]; exact f3 k k0 k1, fun k k0 k1 => by rw [e2]; exact f4 k k0 k1⟩
theorem lp_swap_1469 (hS : m_S M K L R) {m i j : Int32} (hm : 0 ≤ m ∧ m ≤ 5) (hi : 0 ≤ i ∧ i < m) (hN : ∀ J, sW9 M c I0 m J m → a_at (d + 12) (a_xm a_m255) 175 [some (a_rf M), some (.int i), some (.int j), some (.int 30)] [] (n, t, K, L, J, R) P) : ∀ o : Int32, o ≤ 30 → ∀ J, 0 ≤ o → sW9 M c I0 m J m → a_at (d + 12) (a_xm a_m255) 146 [some (a_rf M), some (.int i), some (.int j), some (.int o)] [] (n, t, K, L, J, R) P := by
  refine up_ind 30 (fun o ho ih => ?_)
  intro J h0 h
  obtain ⟨f1, f2, f3, f4⟩ := id h
  have q1 := f3 i hi.1 hi.2
  rw [q255_146]
  simp only [q255_147, q255_149, q255_152, q255_153, q255_156, q255_158, q255_159, q255_162, q255_163, q255_164, q255_165, q255_166, q255_167, q255_168, q255_169, q255_172, m_0 hS, m_K hS, mR_isWish hS, mK_isWish hS, mL_isWish hS, mR_ringAsk hS, mK_ringAsk hS, mL_ringAsk hS, as_nil, as_i, as_r, Nat.reduceAdd, Nat.reduceLeDiff, z_eq0, z_eq1, z_or, z_em, Classical.not_not, not_false_eq_true, not_true_eq_false, true_and, and_true, false_and, and_false, and_self, true_implies, false_implies, implies_true, Option.toList_some, Option.toList_none, List.cons_append, List.nil_append, Nat.add_eq_zero_iff, a_nl_i, a_nl_r, a_nl_n, true_or, or_true, eq_self, ok_4, ok_5, ok_6, ok_7, ok_9, ok_10, ok_20, ok_21, ok_24, ok_30, ok_48, ok_50, ok_60, ok_80, ok_120, ok_180, ok_192, ok_200, ok_900, ok_1000, ok_84000]
  refine ⟨fun h1 => ?_, fun h1 => ?_⟩
  · rw [show o = 30 by clear ih hN h f3 f4; grind]; exact hN J h
  · repeat refine And.intro (by clear ih hN h f3 f4; grind) ?_
    exact ih (by clear ih hN h f3 f4; grind) _ (by clear ih hN h f3 f4; grind) ⟨sF_isWish9 f1, by simpa [ui_ap] using f2, by simpa [ui_ap] using f3, by simpa [ui_ap] using f4⟩
theorem lp_swap_969 (hS : m_S M K L R) {m : Int32} (hm : 0 ≤ m ∧ m ≤ 5) (hc : c + 40 ≤ 84000) (hP : ∀ v J, mF9 M (c + 40) I0 J → P (some (.int v)) (n, t, K, L, J, R)) : ∀ i : Int32, i ≤ 5 → ∀ J x y, 0 ≤ i → i ≤ m → sW9 M (c + 20 + 4 * i.toNatClampNeg) I0 m J m → a_at (d + 12) (a_xm a_m255) 96 [some (a_rf M), some (.int i), x, y] [] (n, t, K, L, J, R) P := by
  refine up_ind 5 (fun i hi ih => ?_)
  intro J x y h0 him h
  obtain ⟨f1, f2, f3, f4⟩ := id h
  have i5 : i.toNatClampNeg < 6 := (show i.toNatClampNeg < (6 : Int32).toNatClampNeg from cl_lt h0 (by clear ih hP h f3 f4; grind))
  have h122 : ∀ j, i < m → 0 ≤ j → j < m → a_at (d + 12) (a_xm a_m255) 122 [some (a_rf M), some (.int i), some (.int j), y] [] (n, t, K, L, J, R) P := by
    intro j q0 j0 j1
    have i5 : i.toNatClampNeg < 5 := (show i.toNatClampNeg < (5 : Int32).toNatClampNeg from cl_lt h0 (by clear ih hP h f3 f4; grind))
    have q1 := f3 i h0 q0
    have q2 := f4 j j0 j1
    have r1 := rg_oldBench f1.1.1 j.toNatClampNeg
    have r2 := rg_oldShift f1.1.1 j.toNatClampNeg
    simp only [q255_122, q255_123, q255_124, q255_127, q255_128, q255_129, q255_130, q255_133, q255_134, q255_135, q255_136, q255_139, q255_140, q255_141, m_0 hS, m_K hS, mR_ringAsk hS, mK_ringAsk hS, mL_ringAsk hS, mR_oldBench hS, mK_oldBench hS, mL_oldBench hS, mR_oldShift hS, mK_oldShift hS, mL_oldShift hS, as_nil, as_i, as_r, Nat.reduceAdd, Nat.reduceLeDiff, z_eq0, z_eq1, z_or, z_em, Classical.not_not, not_false_eq_true, not_true_eq_false, true_and, and_true, false_and, and_false, and_self, true_implies, false_implies, implies_true, Option.toList_some, Option.toList_none, List.cons_append, List.nil_append, Nat.add_eq_zero_iff, a_nl_i, a_nl_r, a_nl_n, true_or, or_true, eq_self, ok_4, ok_5, ok_6, ok_7, ok_9, ok_10, ok_20, ok_21, ok_24, ok_30, ok_48, ok_50, ok_60, ok_80, ok_120, ok_180, ok_192, ok_200, ok_900, ok_1000, ok_84000]
    repeat refine And.intro (by clear ih hP h f3 f4; grind) ?_
    refine ct_giveTo9 (d := d + 1) hS (I0 := I0) f1 (by omega) ⟨q1.1, by grind⟩ ⟨q2, r1.2⟩ r2 (fun J2 g1 g3 _ => ?_)
    have e1 : ∀ j, J2 (M + 48) j = J (M + 48) j := fun j => g3 _ _ (by unfold evC; omega) (by unfold sC; omega) (by omega) (by omega)
    have e2 : ∀ j, J2 (M + 49) j = J (M + 49) j := fun j => g3 _ _ (by unfold evC; omega) (by unfold sC; omega) (by omega) (by omega)
    have e3 : J2 M 74 = m := (g3 _ _ (by unfold evC; omega) (by unfold sC; omega) (by omega) (by omega)).trans f2
    simp only [q255_144, q255_145, as_nil, as_i, as_r, Nat.reduceAdd, Nat.reduceLeDiff, z_eq0, z_eq1, z_or, z_em, Classical.not_not, not_false_eq_true, not_true_eq_false, true_and, and_true, false_and, and_false, and_self, true_implies, false_implies, implies_true, Option.toList_some, Option.toList_none, List.cons_append, List.nil_append, Nat.add_eq_zero_iff, a_nl_i, a_nl_r, a_nl_n, true_or, or_true, eq_self, ok_4, ok_5, ok_6, ok_7, ok_9, ok_10, ok_20, ok_21, ok_24, ok_30, ok_48, ok_50, ok_60, ok_80, ok_120, ok_180, ok_192, ok_200, ok_900, ok_1000, ok_84000]
    refine lp_swap_1469 hS (c := c + 20 + 4 * (i + 1).toNatClampNeg) (I0 := I0) hm ⟨h0, q0⟩ (fun J3 h3 => ?_) 0 (by decide) J2 (by decide) ⟨mF_le9 g1 (by rw [cl_up h0 (by clear ih hP h f3 f4; grind)]; omega), e3, fun k k0 k1 => by rw [e1]; exact f3 k k0 k1, fun k k0 k1 => by rw [e2]; exact f4 k k0 k1⟩
    simp only [q255_175, q255_178, as_nil, as_i, as_r, Nat.reduceAdd, Nat.reduceLeDiff, z_eq0, z_eq1, z_or, z_em, Classical.not_not, not_false_eq_true, not_true_eq_false, true_and, and_true, false_and, and_false, and_self, true_implies, false_implies, implies_true, Option.toList_some, Option.toList_none, List.cons_append, List.nil_append, Nat.add_eq_zero_iff, a_nl_i, a_nl_r, a_nl_n, true_or, or_true, eq_self, ok_4, ok_5, ok_6, ok_7, ok_9, ok_10, ok_20, ok_21, ok_24, ok_30, ok_48, ok_50, ok_60, ok_80, ok_120, ok_180, ok_192, ok_200, ok_900, ok_1000, ok_84000]
    exact ih (by clear ih hP h f3 f4; grind) J3 _ _ (by clear ih hP h f3 f4; grind) (by clear ih hP h f3 f4; grind) h3
  rw [q255_96]
  simp only [q255_97, q255_98, q255_101, q255_104, q255_105, q255_106, q255_107, q255_108, q255_111, q255_114, q255_115, q255_116, q255_117, q255_120, q255_121, q255_181, q255_182, q255_185, m_0 hS, m_K hS, as_nil, as_i, as_r, Nat.reduceAdd, Nat.reduceLeDiff, z_eq0, z_eq1, z_or, z_em, Classical.not_not, not_false_eq_true, not_true_eq_false, true_and, and_true, false_and, and_false, and_self, true_implies, false_implies, implies_true, Option.toList_some, Option.toList_none, List.cons_append, List.nil_append, Nat.add_eq_zero_iff, a_nl_i, a_nl_r, a_nl_n, true_or, or_true, eq_self, ok_4, ok_5, ok_6, ok_7, ok_9, ok_10, ok_20, ok_21, ok_24, ok_30, ok_48, ok_50, ok_60, ok_80, ok_120, ok_180, ok_192, ok_200, ok_900, ok_1000, ok_84000, f2]
  refine ⟨fun h1 => hP _ J (mF_le9 f1 (by omega)), fun h1 => ⟨fun h2 => h122 _ (by clear ih hP h f3 f4; grind) (by decide) (by clear ih hP h f3 f4; grind), fun h2 => h122 _ (by clear ih hP h f3 f4; grind) (by clear ih hP h f3 f4; grind) (by clear ih hP h f3 f4; grind)⟩⟩
theorem pu_swap9 (hS : m_S M K L R) (hF : mF9 M c I0 I) (hc : c + 130 ≤ 84000) (hP : ∀ v J, mF9 M (c + 120) I0 J → P (some (.int v)) (n, t, K, L, J, R)) : a_does (d + 16) 255 [a_rf M] (n, t, K, L, I, R) P := by
  have hR := hF.1.1
  have g3 := mC_refl hR
  have hL4 : ∀ J, mF9 M (c + 4) I0 J → mF9 M (c + 120) I0 J := fun J h => mF_le9 h (by omega)
  have hL : ∀ J, mF9 M c I0 J → mF9 M (c + 120) I0 J := fun J h => mF_le9 h (by omega)
  rw [a_enter1 (M := a_m255) rfl (a_cat_rf a_cat_nil) (show 1 ≤ 4 by decide)]
  show a_at _ (a_xm a_m255) 0 [some (a_rf M), none, none, none] [] _ _
  simp only [q255_0, q255_1, m_0 hS, m_K hS, as_nil, as_i, as_r, Nat.reduceAdd, Nat.reduceLeDiff, z_eq0, z_eq1, z_or, z_em, Classical.not_not, not_false_eq_true, not_true_eq_false, true_and, and_true, false_and, and_false, and_self, true_implies, false_implies, implies_true, Option.toList_some, Option.toList_none, List.cons_append, List.nil_append, Nat.add_eq_zero_iff, a_nl_i, a_nl_r, a_nl_n, true_or, or_true, eq_self, ok_4, ok_5, ok_6, ok_7, ok_9, ok_10, ok_20, ok_21, ok_24, ok_30, ok_48, ok_50, ok_60, ok_80, ok_120, ok_180, ok_192, ok_200, ok_900, ok_1000, ok_84000]
  refine ct_findRing9 (d := d + 3) hS hF (fun J f1 f2 f3 => ?_)
  simp only [q255_4, q255_5, q255_8, q255_11, q255_12, q255_14, q255_17, q255_18, q255_19, m_0 hS, m_K hS, sp_refuse_1 hS, sp_refuse_2 hS, sp_refuse_3 hS, sp_refuse_4 hS, sp_refuse_5 hS, sp_refuse_6 hS, as_nil, as_i, as_r, Nat.reduceAdd, Nat.reduceLeDiff, z_eq0, z_eq1, z_or, z_em, Classical.not_not, not_false_eq_true, not_true_eq_false, true_and, and_true, false_and, and_false, and_self, true_implies, false_implies, implies_true, Option.toList_some, Option.toList_none, List.cons_append, List.nil_append, Nat.add_eq_zero_iff, a_nl_i, a_nl_r, a_nl_n, true_or, or_true, eq_self, ok_4, ok_5, ok_6, ok_7, ok_9, ok_10, ok_20, ok_21, ok_24, ok_30, ok_48, ok_50, ok_60, ok_80, ok_120, ok_180, ok_192, ok_200, ok_900, ok_1000, ok_84000]
  refine ⟨fun h1 => ?_, fun h1 => ?_⟩
  · refine lp_swap_209 hS f2 (fun J2 i2 h2 => ?_) 0 (by decide) J (by decide) f2.1 ⟨f1, rfl, fun k k0 k1 => (f3 k k0 k1).1, fun k k0 k1 => by grind⟩ (fun k k0 k1 => (f3 k k0 k1).2)
    simp only [q255_68, q255_69, as_nil, as_i, as_r, Nat.reduceAdd, Nat.reduceLeDiff, z_eq0, z_eq1, z_or, z_em, Classical.not_not, not_false_eq_true, not_true_eq_false, true_and, and_true, false_and, and_false, and_self, true_implies, false_implies, implies_true, Option.toList_some, Option.toList_none, List.cons_append, List.nil_append, Nat.add_eq_zero_iff, a_nl_i, a_nl_r, a_nl_n, true_or, or_true, eq_self, ok_4, ok_5, ok_6, ok_7, ok_9, ok_10, ok_20, ok_21, ok_24, ok_30, ok_48, ok_50, ok_60, ok_80, ok_120, ok_180, ok_192, ok_200, ok_900, ok_1000, ok_84000]
    refine lp_swap_709 (d := d + 3) (c := c) hS f2 (by omega) (fun J3 i3 h3 => ?_) 0 (by decide) J2 (by decide) f2.1 h2
    simp only [q255_94, q255_95, as_nil, as_i, as_r, Nat.reduceAdd, Nat.reduceLeDiff, z_eq0, z_eq1, z_or, z_em, Classical.not_not, not_false_eq_true, not_true_eq_false, true_and, and_true, false_and, and_false, and_self, true_implies, false_implies, implies_true, Option.toList_some, Option.toList_none, List.cons_append, List.nil_append, Nat.add_eq_zero_iff, a_nl_i, a_nl_r, a_nl_n, true_or, or_true, eq_self, ok_4, ok_5, ok_6, ok_7, ok_9, ok_10, ok_20, ok_21, ok_24, ok_30, ok_48, ok_50, ok_60, ok_80, ok_120, ok_180, ok_192, ok_200, ok_900, ok_1000, ok_84000]
    exact lp_swap_969 (d := d + 3) (c := c) hS f2 (by omega) (fun v J4 h4 => hP v J4 (mF_le9 h4 (by omega))) 0 (by decide) J3 _ _ (by decide) f2.1 h3
  · exact hP _ _ (hL _ (sF_refused9 f1))
end SI

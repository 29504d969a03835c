/-! contracts of giving and taking back -/
section RZ
variable {d n t M : Nat} {K L : Nat → Nat} {I I0 J J0 J1 J2 : Nat → Nat → Int32} {R : Nat → Nat → Nat} {P : Option Value → AH → Prop}
/-- a good successor: ranges, what only some calls may change, the row of events -/
def mF (M c : Nat) (I J : Nat → Nat → Int32) : Prop := mG M I J ∧ mE M c J
theorem mF_le {c c' : Nat} (h : mF M c I J) (hc : c ≤ c') : mF M c' I J := ⟨h.1, mE_le h.2 hc⟩
theorem mF_C {c : Nat} (h : mF M c I0 I) (hC : mC M I J) : mF M c I0 J := ⟨mG_C h.1 hC, mE_C h.2 hC⟩
theorem sE_hasDraft {c : Nat} (h : mE M c J) {v : Int32} : mE M c (a_ui J M 12 v) := mE_eq h (by simp [ui_ap]) (by simp [ui_ap]) (by simp [ui_ap]) (by simp [ui_ap]) (by simp [ui_ap]) (by simp [ui_ap]) (by simp [ui_ap]) (by simp [ui_ap])
theorem sE_draftGroup {c : Nat} (h : mE M c J) {v : Int32} : mE M c (a_ui J M 13 v) := mE_eq h (by simp [ui_ap]) (by simp [ui_ap]) (by simp [ui_ap]) (by simp [ui_ap]) (by simp [ui_ap]) (by simp [ui_ap]) (by simp [ui_ap]) (by simp [ui_ap])
theorem sE_draftLand {c : Nat} (h : mE M c J) {v : Int32} : mE M c (a_ui J M 14 v) := mE_eq h (by simp [ui_ap]) (by simp [ui_ap]) (by simp [ui_ap]) (by simp [ui_ap]) (by simp [ui_ap]) (by simp [ui_ap]) (by simp [ui_ap]) (by simp [ui_ap])
theorem sE_draftLong {c : Nat} (h : mE M c J) {v : Int32} : mE M c (a_ui J M 15 v) := mE_eq h (by simp [ui_ap]) (by simp [ui_ap]) (by simp [ui_ap]) (by simp [ui_ap]) (by simp [ui_ap]) (by simp [ui_ap]) (by simp [ui_ap]) (by simp [ui_ap])
theorem sE_draftWants {c : Nat} (h : mE M c J) {v : Int32} : mE M c (a_ui J M 16 v) := mE_eq h (by simp [ui_ap]) (by simp [ui_ap]) (by simp [ui_ap]) (by simp [ui_ap]) (by simp [ui_ap]) (by simp [ui_ap]) (by simp [ui_ap]) (by simp [ui_ap])
theorem sE_group {c : Nat} (h : mE M c J) {k : Nat} {v : Int32} : mE M c (a_ui J (M + 8) k v) := mE_eq h (by simp [ui_ap]) (by simp [ui_ap]) (by simp [ui_ap]) (by simp [ui_ap]) (by simp [ui_ap]) (by simp [ui_ap]) (by simp [ui_ap]) (by simp [ui_ap])
theorem sE_benchSet {c : Nat} (h : mE M c J) {k : Nat} {v : Int32} : mE M c (a_ui J (M + 12) k v) := mE_eq h (by simp [ui_ap]) (by simp [ui_ap]) (by simp [ui_ap]) (by simp [ui_ap]) (by simp [ui_ap]) (by simp [ui_ap]) (by simp [ui_ap]) (by simp [ui_ap])
theorem sF_benchSet {c : Nat} (h : mF M c I J) {k : Nat} {v : Int32} : mF M c I (a_ui J (M + 12) k v) := ⟨sG_benchSet h.1, sE_benchSet h.2⟩
theorem sE_modeSet {c : Nat} (h : mE M c J) {k : Nat} {v : Int32} : mE M c (a_ui J (M + 13) k v) := mE_eq h (by simp [ui_ap]) (by simp [ui_ap]) (by simp [ui_ap]) (by simp [ui_ap]) (by simp [ui_ap]) (by simp [ui_ap]) (by simp [ui_ap]) (by simp [ui_ap])
theorem sF_modeSet {c : Nat} (h : mF M c I J) {k : Nat} {v : Int32} : mF M c I (a_ui J (M + 13) k v) := ⟨sG_modeSet h.1, sE_modeSet h.2⟩
theorem sE_gear {c : Nat} (h : mE M c J) {k : Nat} {v : Int32} : mE M c (a_ui J (M + 14) k v) := mE_eq h (by simp [ui_ap]) (by simp [ui_ap]) (by simp [ui_ap]) (by simp [ui_ap]) (by simp [ui_ap]) (by simp [ui_ap]) (by simp [ui_ap]) (by simp [ui_ap])
theorem sF_gear {c : Nat} (h : mF M c I J) {k : Nat} {v : Int32} : mF M c I (a_ui J (M + 14) k v) := ⟨sG_gear h.1, sE_gear h.2⟩
theorem sE_danger {c : Nat} (h : mE M c J) {k : Nat} {v : Int32} : mE M c (a_ui J (M + 15) k v) := mE_eq h (by simp [ui_ap]) (by simp [ui_ap]) (by simp [ui_ap]) (by simp [ui_ap]) (by simp [ui_ap]) (by simp [ui_ap]) (by simp [ui_ap]) (by simp [ui_ap])
theorem sF_danger {c : Nat} (h : mF M c I J) {k : Nat} {v : Int32} : mF M c I (a_ui J (M + 15) k v) := ⟨sG_danger h.1, sE_danger h.2⟩
theorem sE_isGone {c : Nat} (h : mE M c J) {k : Nat} {v : Int32} : mE M c (a_ui J (M + 18) k v) := mE_eq h (by simp [ui_ap]) (by simp [ui_ap]) (by simp [ui_ap]) (by simp [ui_ap]) (by simp [ui_ap]) (by simp [ui_ap]) (by simp [ui_ap]) (by simp [ui_ap])
theorem sF_isGone {c : Nat} (h : mF M c I J) {k : Nat} {v : Int32} : mF M c I (a_ui J (M + 18) k v) := ⟨sG_isGone h.1, sE_isGone h.2⟩
theorem sE_wasOwed {c : Nat} (h : mE M c J) {k : Nat} {v : Int32} : mE M c (a_ui J (M + 19) k v) := mE_eq h (by simp [ui_ap]) (by simp [ui_ap]) (by simp [ui_ap]) (by simp [ui_ap]) (by simp [ui_ap]) (by simp [ui_ap]) (by simp [ui_ap]) (by simp [ui_ap])
theorem sF_wasOwed {c : Nat} (h : mF M c I J) {k : Nat} {v : Int32} : mF M c I (a_ui J (M + 19) k v) := ⟨sG_wasOwed h.1, sE_wasOwed h.2⟩
theorem sE_refused {c : Nat} (h : mE M c J) {k : Nat} {v : Int32} : mE M c (a_ui J (M + 23) k v) := mE_eq h (by simp [ui_ap]) (by simp [ui_ap]) (by simp [ui_ap]) (by simp [ui_ap]) (by simp [ui_ap]) (by simp [ui_ap]) (by simp [ui_ap]) (by simp [ui_ap])
theorem sF_refused {c : Nat} (h : mF M c I J) {k : Nat} {v : Int32} : mF M c I (a_ui J (M + 23) k v) := ⟨sG_refused h.1, sE_refused h.2⟩
theorem sE_marks {c : Nat} (h : mE M c J) {k : Nat} {v : Int32} : mE M c (a_ui J (M + 36) k v) := mE_eq h (by simp [ui_ap]) (by simp [ui_ap]) (by simp [ui_ap]) (by simp [ui_ap]) (by simp [ui_ap]) (by simp [ui_ap]) (by simp [ui_ap]) (by simp [ui_ap])
theorem sF_marks {c : Nat} (h : mF M c I J) {k : Nat} {v : Int32} : mF M c I (a_ui J (M + 36) k v) := ⟨sG_marks h.1, sE_marks h.2⟩
theorem sE_isMarked {c : Nat} (h : mE M c J) {k : Nat} {v : Int32} : mE M c (a_ui J (M + 37) k v) := mE_eq h (by simp [ui_ap]) (by simp [ui_ap]) (by simp [ui_ap]) (by simp [ui_ap]) (by simp [ui_ap]) (by simp [ui_ap]) (by simp [ui_ap]) (by simp [ui_ap])
theorem sF_isMarked {c : Nat} (h : mF M c I J) {k : Nat} {v : Int32} : mF M c I (a_ui J (M + 37) k v) := ⟨sG_isMarked h.1, sE_isMarked h.2⟩
theorem sE_doesCount {c : Nat} (h : mE M c J) {k : Nat} {v : Int32} : mE M c (a_ui J (M + 38) k v) := mE_eq h (by simp [ui_ap]) (by simp [ui_ap]) (by simp [ui_ap]) (by simp [ui_ap]) (by simp [ui_ap]) (by simp [ui_ap]) (by simp [ui_ap]) (by simp [ui_ap])
theorem sF_doesCount {c : Nat} (h : mF M c I J) {k : Nat} {v : Int32} : mF M c I (a_ui J (M + 38) k v) := ⟨sG_doesCount h.1, sE_doesCount h.2⟩
theorem sE_passedMany {c : Nat} (h : mE M c J) {v : Int32} : mE M c (a_ui J M 61 v) := mE_eq h (by simp [ui_ap]) (by simp [ui_ap]) (by simp [ui_ap]) (by simp [ui_ap]) (by simp [ui_ap]) (by simp [ui_ap]) (by simp [ui_ap]) (by simp [ui_ap])
theorem sF_passedMany {c : Nat} (h : mF M c I J) {v : Int32} (hv : (0) ≤ v ∧ v ≤ 30) : mF M c I (a_ui J M 61 v) := ⟨sG_passedMany h.1 hv, sE_passedMany h.2⟩
theorem sE_passedAsk {c : Nat} (h : mE M c J) {k : Nat} {v : Int32} : mE M c (a_ui J (M + 39) k v) := mE_eq h (by simp [ui_ap]) (by simp [ui_ap]) (by simp [ui_ap]) (by simp [ui_ap]) (by simp [ui_ap]) (by simp [ui_ap]) (by simp [ui_ap]) (by simp [ui_ap])
theorem sF_passedAsk {c : Nat} (h : mF M c I J) {k : Nat} {v : Int32} : mF M c I (a_ui J (M + 39) k v) := ⟨sG_passedAsk h.1, sE_passedAsk h.2⟩
theorem sE_order {c : Nat} (h : mE M c J) {k : Nat} {v : Int32} : mE M c (a_ui J (M + 40) k v) := mE_eq h (by simp [ui_ap]) (by simp [ui_ap]) (by simp [ui_ap]) (by simp [ui_ap]) (by simp [ui_ap]) (by simp [ui_ap]) (by simp [ui_ap]) (by simp [ui_ap])
theorem sF_order {c : Nat} (h : mF M c I J) {k : Nat} {v : Int32} (hv : (0) ≤ v ∧ v ≤ 29) : mF M c I (a_ui J (M + 40) k v) := ⟨sG_order h.1 hv, sE_order h.2⟩
theorem sE_orderMany {c : Nat} (h : mE M c J) {v : Int32} : mE M c (a_ui J M 64 v) := mE_eq h (by simp [ui_ap]) (by simp [ui_ap]) (by simp [ui_ap]) (by simp [ui_ap]) (by simp [ui_ap]) (by simp [ui_ap]) (by simp [ui_ap]) (by simp [ui_ap])
theorem sF_orderMany {c : Nat} (h : mF M c I J) {v : Int32} : mF M c I (a_ui J M 64 v) := ⟨sG_orderMany h.1, sE_orderMany h.2⟩
theorem sE_few {c : Nat} (h : mE M c J) {k : Nat} {v : Int32} : mE M c (a_ui J (M + 41) k v) := mE_eq h (by simp [ui_ap]) (by simp [ui_ap]) (by simp [ui_ap]) (by simp [ui_ap]) (by simp [ui_ap]) (by simp [ui_ap]) (by simp [ui_ap]) (by simp [ui_ap])
theorem sF_few {c : Nat} (h : mF M c I J) {k : Nat} {v : Int32} (hv : (0) ≤ v ∧ v ≤ 29) : mF M c I (a_ui J (M + 41) k v) := ⟨sG_few h.1 hv, sE_few h.2⟩
theorem sE_fewMany {c : Nat} (h : mE M c J) {v : Int32} : mE M c (a_ui J M 66 v) := mE_eq h (by simp [ui_ap]) (by simp [ui_ap]) (by simp [ui_ap]) (by simp [ui_ap]) (by simp [ui_ap]) (by simp [ui_ap]) (by simp [ui_ap]) (by simp [ui_ap])
theorem sF_fewMany {c : Nat} (h : mF M c I J) {v : Int32} : mF M c I (a_ui J M 66 v) := ⟨sG_fewMany h.1, sE_fewMany h.2⟩
theorem sE_wasBench {c : Nat} (h : mE M c J) {k : Nat} {v : Int32} : mE M c (a_ui J (M + 45) k v) := mE_eq h (by simp [ui_ap]) (by simp [ui_ap]) (by simp [ui_ap]) (by simp [ui_ap]) (by simp [ui_ap]) (by simp [ui_ap]) (by simp [ui_ap]) (by simp [ui_ap])
theorem sF_wasBench {c : Nat} (h : mF M c I J) {k : Nat} {v : Int32} : mF M c I (a_ui J (M + 45) k v) := ⟨sG_wasBench h.1, sE_wasBench h.2⟩
theorem sE_wasShift {c : Nat} (h : mE M c J) {k : Nat} {v : Int32} : mE M c (a_ui J (M + 46) k v) := mE_eq h (by simp [ui_ap]) (by simp [ui_ap]) (by simp [ui_ap]) (by simp [ui_ap]) (by simp [ui_ap]) (by simp [ui_ap]) (by simp [ui_ap]) (by simp [ui_ap])
theorem sF_wasShift {c : Nat} (h : mF M c I J) {k : Nat} {v : Int32} : mF M c I (a_ui J (M + 46) k v) := ⟨sG_wasShift h.1, sE_wasShift h.2⟩
theorem sE_isWish {c : Nat} (h : mE M c J) {k : Nat} {v : Int32} : mE M c (a_ui J (M + 47) k v) := mE_eq h (by simp [ui_ap]) (by simp [ui_ap]) (by simp [ui_ap]) (by simp [ui_ap]) (by simp [ui_ap]) (by simp [ui_ap]) (by simp [ui_ap]) (by simp [ui_ap])
theorem sF_isWish {c : Nat} (h : mF M c I J) {k : Nat} {v : Int32} : mF M c I (a_ui J (M + 47) k v) := ⟨sG_isWish h.1, sE_isWish h.2⟩
theorem sE_ringAsk {c : Nat} (h : mE M c J) {k : Nat} {v : Int32} : mE M c (a_ui J (M + 48) k v) := mE_eq h (by simp [ui_ap]) (by simp [ui_ap]) (by simp [ui_ap]) (by simp [ui_ap]) (by simp [ui_ap]) (by simp [ui_ap]) (by simp [ui_ap]) (by simp [ui_ap])
theorem sF_ringAsk {c : Nat} (h : mF M c I J) {k : Nat} {v : Int32} : mF M c I (a_ui J (M + 48) k v) := ⟨sG_ringAsk h.1, sE_ringAsk h.2⟩
theorem sE_ringMany {c : Nat} (h : mE M c J) {v : Int32} : mE M c (a_ui J M 74 v) := mE_eq h (by simp [ui_ap]) (by simp [ui_ap]) (by simp [ui_ap]) (by simp [ui_ap]) (by simp [ui_ap]) (by simp [ui_ap]) (by simp [ui_ap]) (by simp [ui_ap])
theorem sF_ringMany {c : Nat} (h : mF M c I J) {v : Int32} : mF M c I (a_ui J M 74 v) := ⟨sG_ringMany h.1, sE_ringMany h.2⟩
theorem sE_oldBench {c : Nat} (h : mE M c J) {k : Nat} {v : Int32} : mE M c (a_ui J (M + 49) k v) := mE_eq h (by simp [ui_ap]) (by simp [ui_ap]) (by simp [ui_ap]) (by simp [ui_ap]) (by simp [ui_ap]) (by simp [ui_ap]) (by simp [ui_ap]) (by simp [ui_ap])
theorem sF_oldBench {c : Nat} (h : mF M c I J) {k : Nat} {v : Int32} (hv : (-9) ≤ v ∧ v ≤ 5) : mF M c I (a_ui J (M + 49) k v) := ⟨sG_oldBench h.1 hv, sE_oldBench h.2⟩
theorem sE_oldShift {c : Nat} (h : mE M c J) {k : Nat} {v : Int32} : mE M c (a_ui J (M + 50) k v) := mE_eq h (by simp [ui_ap]) (by simp [ui_ap]) (by simp [ui_ap]) (by simp [ui_ap]) (by simp [ui_ap]) (by simp [ui_ap]) (by simp [ui_ap]) (by simp [ui_ap])
theorem sF_oldShift {c : Nat} (h : mF M c I J) {k : Nat} {v : Int32} (hv : (-9) ≤ v ∧ v ≤ 200) : mF M c I (a_ui J (M + 50) k v) := ⟨sG_oldShift h.1 hv, sE_oldShift h.2⟩
theorem evE {x j : Nat} (hx : eC M x j) : ¬ evC M x j := by unfold eC at hx; unfold evC; omega
theorem ct_takeFrom (hS : m_S M K L R) {c : Nat} (hF : mF M c I0 I) (hc : c + 4 ≤ 84000) {a : Int32} (ha : 0 ≤ a ∧ a < 30) (hP : ∀ J, mF M (c + 4) I0 J → (a < I M 17 → 0 ≤ I (M + 20) a.toNatClampNeg → mF M c I0 J) → (∀ x j, ¬ evC M x j → ¬ (j = a.toNatClampNeg ∧ (x = (M + 20) ∨ x = (M + 21))) → J x j = I x j) → J (M + 20) a.toNatClampNeg = -9 → P none (n, t, K, L, J, R)) : a_does (d + 2) 186 [a_rf M, .int a] (n, t, K, L, I, R) P := by
  have hR := hF.1.1
  have hv := mE_ev hF.2 hR hc
  have hv0 := rg_events hR
  have hl := rg_length hR a.toNatClampNeg
  rw [a_enter1 (M := a_m186) rfl (a_cat_rf (a_cat_int a_cat_nil)) (show 2 ≤ 3 by decide)]
  show a_at _ (a_xm a_m186) 0 [some (a_rf M), some (.int a), none] [] _ _
  simp only [q186_0, q186_1, as_nil, as_i, as_r, Nat.reduceAdd, Nat.reduceLeDiff, z_eq0, z_eq1, z_or, z_em, Classical.not_not, not_false_eq_true, not_true_eq_false, true_and, and_true, false_and, and_false, and_self, true_implies, false_implies, implies_true, Option.toList_some, Option.toList_none, List.cons_append, List.nil_append, Nat.add_eq_zero_iff, a_nl_i, a_nl_r, a_nl_n, true_or, or_true, eq_self, ok_4, ok_5, ok_6, ok_7, ok_9, ok_10, ok_20, ok_21, ok_24, ok_30, ok_48, ok_50, ok_60, ok_80, ok_120, ok_180, ok_192, ok_200, ok_900, ok_1000, ok_84000]
  refine lp_takeFrom_2 hS ha hv hv0.1 (fun J hq => ?_) 0 (by decide) I (by decide) hl.1 (hq_refl hR)
  obtain ⟨q1, q2, q3, q4, q5, q6⟩ := hq
  have r1 : mR M (a_ui (a_ui J (M + 20) a.toNatClampNeg (-9)) (M + 21) a.toNatClampNeg (-9)) := sR_atShift (sR_atBench q1 (by decide)) (by decide)
  have r2 : mG M I0 (a_ui (a_ui J (M + 20) a.toNatClampNeg (-9)) (M + 21) a.toNatClampNeg (-9)) := ⟨r1, fun x j hx => by
    rw [ui_ap, if_neg (by unfold eC at hx; omega), ui_ap, if_neg (by unfold eC at hx; omega), q2 x j (evE hx)]
    exact hF.1.2 x j hx⟩
  have c1 : ∀ (x j : Nat), ¬ evC M x j → ¬ (j = a.toNatClampNeg ∧ (x = (M + 20) ∨ x = (M + 21))) → (a_ui (a_ui J (M + 20) a.toNatClampNeg (-9)) (M + 21) a.toNatClampNeg (-9)) x j = I x j := by
    intro x j h1 h2
    rw [ui_ap, if_neg (by omega), ui_ap, if_neg (by omega)]
    exact q2 x j h1
  have e1 : (J M 35).toNatClampNeg ≤ (I M 35).toNatClampNeg + 4 := cl_add hv0.1 hv0.2 hl.1 hl.2 q5.2
  have st := mE_step (c := c) (δ := 4) (J := (a_ui (a_ui J (M + 20) a.toNatClampNeg (-9)) (M + 21) a.toNatClampNeg (-9))) ha hF.2 (c1 _ _ (by unfold evC; omega) (by omega)) (fun j => c1 _ _ (by unfold evC; omega) (by omega)) (fun j hj => c1 _ _ (by unfold evC; omega) (by omega)) (fun j hj => c1 _ _ (by unfold evC; omega) (by omega)) (fun w hw => (fc_eq (I := J) (by simp [ui_ap]) (by simp [ui_ap]) (by simp [ui_ap]) (by simp [ui_ap])).mpr (q4 w hw)) (fun hb => by exact absurd hb (by simp only [ui_ap, ne_MM, ne_M0, ne_0M, Nat.reduceEqDiff, false_and, and_false, if_false, and_self, if_true]; decide)) (by simpa [ui_ap] using e1)
  refine hP _ ⟨r2, st.1⟩ (fun k1 k2 => ⟨r2, st.2 k1 k2 rfl (fun hf => ?_)⟩) c1 (by simp [ui_ap])
  have := q6 (fun i h0 h1 => hf i h0 h1)
  simpa [ui_ap] using this
/-- but for the reader's cells and STANDING -/
def mS (M : Nat) (I J : Nat → Nat → Int32) : Prop := mR M J ∧ ∀ x j, ¬ sC M x j → ¬ x = (M + 22) → J x j = I x j
theorem mS_refl (hR : mR M I) : mS M I I := ⟨hR, fun _ _ _ _ => rfl⟩
theorem mS_C (h : mS M I0 I) (hC : mC M I J) : mS M I0 J := ⟨hC.1, fun x j h1 h2 => (hC.2 x j h1).trans (h.2 x j h1 h2)⟩
theorem sS_standing (h : mS M I0 J) {k : Nat} {v : Int32} : mS M I0 (a_ui J (M + 22) k v) := ⟨sR_standing h.1, fun x j h1 h2 => by rw [ui_ap, if_neg (by omega)]; exact h.2 x j h1 h2⟩
theorem lp_putAt_3 (hS : m_S M K L R) {a b s : Int32} (ha : 0 ≤ a ∧ a < 30) (hb : 0 ≤ b ∧ b ≤ 5) (hP : ∀ J, mS M I J → P none (n, t, K, L, (a_ui (a_ui J (M + 20) a.toNatClampNeg b) (M + 21) a.toNatClampNeg s), R)) : ∀ i : Int32, i ≤ 4 → ∀ J, 0 ≤ i → mS M I J → a_at (d + 9) (a_xm a_m231) 3 [some (a_rf M), some (.int a), some (.int b), some (.int s), some (.int i)] [] (n, t, K, L, J, R) P := by
  refine up_ind 4 (fun i hi ih => ?_)
  intro J h0 hm
  have g1 := rg_length hm.1
  have g2 := mC_refl hm.1
  rw [q231_3]
  repeat' first
    | with_reducible apply And.intro
    | with_reducible assumption
    | with_reducible intro _
    | with_reducible apply hP
    | with_reducible apply ih
    | with_reducible apply ct_standFor hS g2 ha hb
    | with_reducible apply sS_standing
    | with_reducible apply mS_C hm
    | simp only [q231_0, q231_1, q231_5, q231_6, q231_9, q231_10, q231_11, q231_14, q231_15, q231_18, q231_19, q231_20, q231_21, q231_23, q231_24, q231_25, q231_26, q231_27, q231_28, q231_30, q231_31, q231_34, q231_35, q231_38, q231_41, q231_42, q231_45, q231_46, q231_47, q231_48, q231_49, q231_52, q231_53, q231_54, q231_55, m_0 hS, m_K hS, mR_length hS, mK_length hS, mL_length hS, mR_standing hS, mK_standing hS, mL_standing hS, mR_atBench hS, mK_atBench hS, mL_atBench hS, mR_atShift hS, mK_atShift hS, mL_atShift hS, as_nil, as_i, as_r, Nat.reduceAdd, Nat.reduceLeDiff, z_eq0, z_eq1, z_or, z_em, Classical.not_not, not_false_eq_true, not_true_eq_false, true_and, and_true, false_and, and_false, and_self, true_implies, false_implies, implies_true, Option.toList_some, Option.toList_none, List.cons_append, List.nil_append, Nat.add_eq_zero_iff, a_nl_i, a_nl_r, a_nl_n, true_or, or_true, eq_self, ok_4, ok_5, ok_6, ok_7, ok_9, ok_10, ok_20, ok_21, ok_24, ok_30, ok_48, ok_50, ok_60, ok_80, ok_120, ok_180, ok_192, ok_200, ok_900, ok_1000, ok_84000]
  all_goals grind [ui_ap]
theorem ct_putAt (hS : m_S M K L R) (hR : mR M I) {a b s : Int32} (ha : 0 ≤ a ∧ a < 30) (hb : 0 ≤ b ∧ b ≤ 5) (hP : ∀ J, mS M I J → P none (n, t, K, L, (a_ui (a_ui J (M + 20) a.toNatClampNeg b) (M + 21) a.toNatClampNeg s), R)) : a_does (d + 10) 231 [a_rf M, .int a, .int b, .int s] (n, t, K, L, I, R) P := by
  rw [a_enter1 (M := a_m231) rfl (a_cat_rf (a_cat_int (a_cat_int (a_cat_int a_cat_nil)))) (show 4 ≤ 5 by decide)]
  show a_at _ (a_xm a_m231) 0 [some (a_rf M), some (.int a), some (.int b), some (.int s), none] [] _ _
  simp only [q231_0, q231_1, as_nil, as_i, as_r, Nat.reduceAdd, Nat.reduceLeDiff, z_eq0, z_eq1, z_or, z_em, Classical.not_not, not_false_eq_true, not_true_eq_false, true_and, and_true, false_and, and_false, and_self, true_implies, false_implies, implies_true, Option.toList_some, Option.toList_none, List.cons_append, List.nil_append, Nat.add_eq_zero_iff, a_nl_i, a_nl_r, a_nl_n, true_or, or_true, eq_self, ok_4, ok_5, ok_6, ok_7, ok_9, ok_10, ok_20, ok_21, ok_24, ok_30, ok_48, ok_50, ok_60, ok_80, ok_120, ok_180, ok_192, ok_200, ok_900, ok_1000, ok_84000]
  exact lp_putAt_3 hS ha hb hP 0 (by decide) I (by decide) (mS_refl hR)
theorem lp_giveTo_10 (hS : m_S M K L R) {a b s : Int32} (ha : 0 ≤ a ∧ a < 30) (hv : J0 M 35 ≤ 83996) (hv0 : 0 ≤ J0 M 35) (hP : ∀ J, hq M b s (J0 (M + 10) a.toNatClampNeg) J0 J → P none (n, t, K, L, J, R)) : ∀ i : Int32, i ≤ 4 → ∀ J, 0 ≤ i → i ≤ J0 (M + 10) a.toNatClampNeg → hq M b s i J0 J → a_at (d + 1) (a_xm a_m230) 10 [some (a_rf M), some (.int a), some (.int b), some (.int s), some (.int i)] [] (n, t, K, L, J, R) P := by
  refine up_ind 4 (fun i hi ih => ?_)
  intro J h0 hl hq
  have e1 : J (M + 10) a.toNatClampNeg = J0 (M + 10) a.toNatClampNeg := hq.2.1 _ _ (by unfold evC; omega)
  have g1 := rg_length hq.1
  have g2 := g1 a.toNatClampNeg
  have g3 := hq.2.2.2.2.1
  rw [q230_10]
  simp only [q230_0, q230_1, q230_2, q230_3, q230_4, q230_7, q230_8, q230_12, q230_13, q230_16, q230_17, q230_18, q230_21, q230_22, q230_23, q230_24, q230_26, q230_27, q230_28, q230_31, q230_34, q230_37, m_0 hS, m_K hS, mR_length hS, mK_length hS, mL_length hS, as_nil, as_i, as_r, Nat.reduceAdd, Nat.reduceLeDiff, z_eq0, z_eq1, z_or, z_em, Classical.not_not, not_false_eq_true, not_true_eq_false, true_and, and_true, false_and, and_false, and_self, true_implies, false_implies, implies_true, Option.toList_some, Option.toList_none, List.cons_append, List.nil_append, Nat.add_eq_zero_iff, a_nl_i, a_nl_r, a_nl_n, true_or, or_true, eq_self, ok_4, ok_5, ok_6, ok_7, ok_9, ok_10, ok_20, ok_21, ok_24, ok_30, ok_48, ok_50, ok_60, ok_80, ok_120, ok_180, ok_192, ok_200, ok_900, ok_1000, ok_84000, e1]
  refine ⟨by grind, fun h => hP J (by rw [show J0 (M + 10) a.toNatClampNeg = i by grind]; exact hq), fun h => ?_⟩
  refine ct_happened hS hq.1 (by grind) (fun J2 hp => ?_)
  simp only [q230_0, q230_1, q230_2, q230_3, q230_4, q230_7, q230_8, q230_12, q230_13, q230_16, q230_17, q230_18, q230_21, q230_22, q230_23, q230_24, q230_26, q230_27, q230_28, q230_31, q230_34, q230_37, m_0 hS, m_K hS, mR_length hS, mK_length hS, mL_length hS, as_nil, as_i, as_r, Nat.reduceAdd, Nat.reduceLeDiff, z_eq0, z_eq1, z_or, z_em, Classical.not_not, not_false_eq_true, not_true_eq_false, true_and, and_true, false_and, and_false, and_self, true_implies, false_implies, implies_true, Option.toList_some, Option.toList_none, List.cons_append, List.nil_append, Nat.add_eq_zero_iff, a_nl_i, a_nl_r, a_nl_n, true_or, or_true, eq_self, ok_4, ok_5, ok_6, ok_7, ok_9, ok_10, ok_20, ok_21, ok_24, ok_30, ok_48, ok_50, ok_60, ok_80, ok_120, ok_180, ok_192, ok_200, ok_900, ok_1000, ok_84000]
  exact ih (by grind) J2 (by grind) (by grind) (hq_step hq hp (by grind) hv hv0)
theorem ct_giveTo (hS : m_S M K L R) {c : Nat} (hF : mF M c I0 I) (hc : c + 4 ≤ 84000) {a b s : Int32} (ha : 0 ≤ a ∧ a < 30) (hb : 0 ≤ b ∧ b ≤ 5) (hs : -9 ≤ s ∧ s ≤ 200) (hP : ∀ J, mF M (c + 4) I0 J → (∀ x j, ¬ evC M x j → ¬ sC M x j → ¬ x = (M + 22) → ¬ (j = a.toNatClampNeg ∧ (x = (M + 20) ∨ x = (M + 21))) → J x j = I x j) → J (M + 20) a.toNatClampNeg = b → P none (n, t, K, L, J, R)) : a_does (d + 11) 230 [a_rf M, .int a, .int b, .int s] (n, t, K, L, I, R) P := by
  have hR := hF.1.1
  have hv := mE_ev hF.2 hR hc
  rw [a_enter1 (M := a_m230) rfl (a_cat_rf (a_cat_int (a_cat_int (a_cat_int a_cat_nil)))) (show 4 ≤ 5 by decide)]
  show a_at _ (a_xm a_m230) 0 [some (a_rf M), some (.int a), some (.int b), some (.int s), none] [] _ _
  simp only [q230_0, q230_1, q230_2, q230_3, q230_4, m_0 hS, m_K hS, as_nil, as_i, as_r, Nat.reduceAdd, Nat.reduceLeDiff, z_eq0, z_eq1, z_or, z_em, Classical.not_not, not_false_eq_true, not_true_eq_false, true_and, and_true, false_and, and_false, and_self, true_implies, false_implies, implies_true, Option.toList_some, Option.toList_none, List.cons_append, List.nil_append, Nat.add_eq_zero_iff, a_nl_i, a_nl_r, a_nl_n, true_or, or_true, eq_self, ok_4, ok_5, ok_6, ok_7, ok_9, ok_10, ok_20, ok_21, ok_24, ok_30, ok_48, ok_50, ok_60, ok_80, ok_120, ok_180, ok_192, ok_200, ok_900, ok_1000, ok_84000]
  refine ct_putAt hS hR ha hb (fun J hm => ?_)
  simp only [q230_7, q230_8, as_nil, as_i, as_r, Nat.reduceAdd, Nat.reduceLeDiff, z_eq0, z_eq1, z_or, z_em, Classical.not_not, not_false_eq_true, not_true_eq_false, true_and, and_true, false_and, and_false, and_self, true_implies, false_implies, implies_true, Option.toList_some, Option.toList_none, List.cons_append, List.nil_append, Nat.add_eq_zero_iff, a_nl_i, a_nl_r, a_nl_n, true_or, or_true, eq_self, ok_4, ok_5, ok_6, ok_7, ok_9, ok_10, ok_20, ok_21, ok_24, ok_30, ok_48, ok_50, ok_60, ok_80, ok_120, ok_180, ok_192, ok_200, ok_900, ok_1000, ok_84000]
  have r0 : mR M (a_ui (a_ui J (M + 20) a.toNatClampNeg b) (M + 21) a.toNatClampNeg s) := sR_atShift (sR_atBench hm.1 (by grind)) hs
  have c0 : ∀ (x j : Nat), ¬ sC M x j → ¬ x = (M + 22) → ¬ (j = a.toNatClampNeg ∧ (x = (M + 20) ∨ x = (M + 21))) → (a_ui (a_ui J (M + 20) a.toNatClampNeg b) (M + 21) a.toNatClampNeg s) x j = I x j := by
    intro x j h1 h2 h3
    rw [ui_ap, if_neg (by omega), ui_ap, if_neg (by omega)]
    exact hm.2 x j h1 h2
  have b0 : (a_ui (a_ui J (M + 20) a.toNatClampNeg b) (M + 21) a.toNatClampNeg s) (M + 20) a.toNatClampNeg = b := by simp [ui_ap]
  have s0 : (a_ui (a_ui J (M + 20) a.toNatClampNeg b) (M + 21) a.toNatClampNeg s) (M + 21) a.toNatClampNeg = s := by simp [ui_ap]
  generalize (a_ui (a_ui J (M + 20) a.toNatClampNeg b) (M + 21) a.toNatClampNeg s) = J1 at r0 c0 b0 s0 ⊢
  have ev0 : J1 M 35 = I M 35 := c0 _ _ (by unfold sC; omega) (by omega) (by omega)
  have hl := rg_length r0 a.toNatClampNeg
  have hv0 := rg_events r0
  refine lp_giveTo_10 hS ha (by rw [ev0]; exact hv) hv0.1 (fun J2 hq => ?_) 0 (by decide) J1 (by decide) hl.1 (hq_refl r0)
  obtain ⟨q1, q2, q3, q4, q5, q6⟩ := hq
  have c1 : ∀ (x j : Nat), ¬ evC M x j → ¬ sC M x j → ¬ x = (M + 22) → ¬ (j = a.toNatClampNeg ∧ (x = (M + 20) ∨ x = (M + 21))) → J2 x j = I x j := fun x j h0 h1 h2 h3 => (q2 x j h0).trans (c0 x j h1 h2 h3)
  have b1 : J2 (M + 20) a.toNatClampNeg = b := (q2 _ _ (by unfold evC; omega)).trans b0
  have s1 : J2 (M + 21) a.toNatClampNeg = s := (q2 _ _ (by unfold evC; omega)).trans s0
  have l1 : J2 (M + 10) a.toNatClampNeg = J1 (M + 10) a.toNatClampNeg := q2 _ _ (by unfold evC; omega)
  have e1 : (J2 M 35).toNatClampNeg ≤ (I M 35).toNatClampNeg + 4 := by rw [← ev0]; exact cl_add hv0.1 hv0.2 hl.1 hl.2 q5.2
  have st := mE_step (c := c) (δ := 4) (J := J2) ha hF.2 (c1 _ _ (by unfold evC; omega) (by unfold sC; omega) (by omega) (by omega)) (fun j => c1 _ _ (by unfold evC; omega) (by unfold sC; omega) (by omega) (by omega)) (fun j hj => c1 _ _ (by unfold evC; omega) (by unfold sC; omega) (by omega) (by omega)) (fun j hj => c1 _ _ (by unfold evC; omega) (by unfold sC; omega) (by omega) (by omega)) (fun w hw => q4 w ((fc_eq ev0 (fun j => c0 _ _ (by unfold sC; omega) (by omega) (by omega)) (fun j => c0 _ _ (by unfold sC; omega) (by omega) (by omega)) (c0 _ _ (by unfold sC; omega) (by omega) (by omega))).mpr hw)) (fun _ i h0 h1 => by rw [l1] at h1; rw [b1, s1]; exact q3 i h0 h1) e1
  refine hP J2 ⟨⟨q1, fun x j hx => ?_⟩, st.1⟩ c1 b1
  rw [c1 x j (evE hx) (by unfold eC at hx; unfold sC; omega) (by unfold eC at hx; omega) (by unfold eC at hx; omega)]
  exact hF.1.2 x j hx
end RZ

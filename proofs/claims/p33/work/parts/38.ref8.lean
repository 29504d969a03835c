/-! giving and taking back -/
section RY
variable {d n t M : Nat} {K L : Nat → Nat} {I I0 J J0 J1 J2 : Nat → Nat → Int32} {R : Nat → Nat → Nat} {P : Option Value → AH → Prop}
def sm (g : Nat → Nat) : Nat → Nat
  | 0 => 0
  | k + 1 => sm g k + g k
theorem sm_eq {g g' : Nat → Nat} : ∀ {m : Nat}, (∀ x, x < m → g' x = g x) → sm g' m = sm g m := by
  intro m
  induction m with
  | zero => intro _; rfl
  | succ m ih => intro h; show sm g' m + g' m = sm g m + g m; rw [ih (fun x hx => h x (by omega)), h m (by omega)]
theorem sm_up {g : Nat → Nat} {k v : Nat} : ∀ {m : Nat}, k < m → sm (fun x => if x = k then v else g x) m + g k = sm g m + v := by
  intro m
  induction m with
  | zero => intro h; omega
  | succ m ih =>
    intro h
    show sm _ m + (if m = k then v else g m) + g k = sm g m + g m + v
    by_cases hk : m = k
    · subst hk
      rw [if_pos rfl, sm_eq (g := g) (fun x hx => by rw [if_neg (by omega)])]
      omega
    · have := ih (by omega)
      rw [if_neg hk]
      omega
theorem fc_eq (h1 : J M 35 = I M 35) (h2 : ∀ j, J (M + 24) j = I (M + 24) j) (h3 : ∀ j, J (M + 25) j = I (M + 25) j) (h4 : J M 0 = I M 0) {w : Int32} : fc M J w ↔ fc M I w := by
  unfold fc
  simp only [h1, h2, h3, h4]
/-- all of a place was given at this hour -/
def frs (M : Nat) (J : Nat → Nat → Int32) (a : Int32) : Prop := ∀ i : Int32, 0 ≤ i → i < J (M + 10) a.toNatClampNeg → fc M J (200 * J (M + 20) a.toNatClampNeg + (J (M + 21) a.toNatClampNeg + i))
/-- what happened so far, and what the places of elder hours may cost yet -/
def mE (M c : Nat) (J : Nat → Nat → Int32) : Prop := ∃ g : Nat → Nat, (∀ a : Int32, 0 ≤ a → a < J M 17 → 0 ≤ J (M + 20) a.toNatClampNeg → frs M J a ∨ 4 ≤ g a.toNatClampNeg) ∧ (J M 35).toNatClampNeg + sm g 30 ≤ c
theorem mE_le {c c' : Nat} (h : mE M c J) (hc : c ≤ c') : mE M c' J := by
  obtain ⟨g, h1, h2⟩ := h
  exact ⟨g, h1, by omega⟩
theorem mE_ev {c : Nat} (h : mE M c J) (hR : mR M J) (hc : c + 4 ≤ 84000) : J M 35 ≤ 83996 := by
  obtain ⟨g, h1, h2⟩ := h
  have h3 := rg_events hR
  have h4 := Int32.le_iff_toInt_le.mp h3.1
  rw [Int32.le_iff_toInt_le]
  have h5 : (J M 35).toInt.toNat + sm g 30 ≤ c := h2
  simp at h4 ⊢
  omega
theorem mE_eq {c : Nat} (h : mE M c I) (h1 : J M 35 = I M 35) (h2 : ∀ j, J (M + 24) j = I (M + 24) j) (h3 : ∀ j, J (M + 25) j = I (M + 25) j) (h4 : J M 0 = I M 0) (h5 : J M 17 = I M 17) (h6 : ∀ j, J (M + 10) j = I (M + 10) j) (h7 : ∀ j, J (M + 20) j = I (M + 20) j) (h8 : ∀ j, J (M + 21) j = I (M + 21) j) : mE M c J := by
  obtain ⟨g, q1, q2⟩ := h
  refine ⟨g, ?_, by rw [h1]; exact q2⟩
  intro a ha hk hb
  rw [h5] at hk
  rw [h7] at hb
  cases q1 a ha hk hb with
  | inl q => exact Or.inl (fun i i0 i1 => by rw [h6] at i1; rw [fc_eq h1 h2 h3 h4, h7, h8]; exact q i i0 i1)
  | inr q => exact Or.inr q
theorem mE_C {c : Nat} (h : mE M c I) (hC : mC M I J) : mE M c J := mE_eq h (eS_events hC) (eS_eWhere hC) (eS_eHour hC) (eS_now hC) (eS_asks hC) (eS_length hC) (eS_atBench hC) (eS_atShift hC)
/-- one ask is at another place; it is fresh there, or has none -/
theorem mE_step {c δ : Nat} {a : Int32} (ha : 0 ≤ a ∧ a < 30) (h : mE M c I) (hk : J M 17 = I M 17) (hl : ∀ j, J (M + 10) j = I (M + 10) j) (hb : ∀ j, ¬ j = a.toNatClampNeg → J (M + 20) j = I (M + 20) j) (hs : ∀ j, ¬ j = a.toNatClampNeg → J (M + 21) j = I (M + 21) j) (hf : ∀ w, fc M I w → fc M J w) (ha' : 0 ≤ J (M + 20) a.toNatClampNeg → frs M J a) (he : (J M 35).toNatClampNeg ≤ (I M 35).toNatClampNeg + δ) : mE M (c + δ) J ∧ (a < I M 17 → 0 ≤ I (M + 20) a.toNatClampNeg → δ = 4 → (frs M I a → J M 35 = I M 35) → mE M c J) := by
  obtain ⟨g, q1, q2⟩ := h
  have hk30 : a.toNatClampNeg < 30 := (show a.toNatClampNeg < (30 : Int32).toNatClampNeg from cl_lt ha.1 ha.2)
  have hs0 := sm_up (g := g) (k := a.toNatClampNeg) (v := 0) hk30
  have hg : ∀ a1 : Int32, 0 ≤ a1 → a1 < J M 17 → 0 ≤ J (M + 20) a1.toNatClampNeg → frs M J a1 ∨ 4 ≤ (fun x => if x = a.toNatClampNeg then 0 else g x) a1.toNatClampNeg := by
    intro a1 p1 p2 p3
    by_cases hc : a1 = a
    · subst hc; exact Or.inl (ha' p3)
    · have hne : ¬ a1.toNatClampNeg = a.toNatClampNeg := fun q => hc (cl_inj p1 ha.1 q)
      rw [hk] at p2
      rw [hb _ hne] at p3
      show frs M J a1 ∨ 4 ≤ (if a1.toNatClampNeg = a.toNatClampNeg then 0 else g a1.toNatClampNeg)
      rw [if_neg hne]
      cases q1 a1 p1 p2 p3 with
      | inl q => exact Or.inl (fun i i0 i1 => by rw [hl] at i1; rw [hb _ hne, hs _ hne]; exact hf _ (q i i0 i1))
      | inr q => exact Or.inr q
  refine ⟨⟨(fun x => if x = a.toNatClampNeg then 0 else g x), hg, by omega⟩, fun p1 p2 p3 p4 => ⟨(fun x => if x = a.toNatClampNeg then 0 else g x), hg, ?_⟩⟩
  cases q1 a ha.1 p1 p2 with
  | inl q => rw [p4 q]; omega
  | inr q => omega
/-- k places of a row of SHIFTS happened -/
def hq (M : Nat) (b s k : Int32) (J0 J : Nat → Nat → Int32) : Prop := mR M J ∧ (∀ x j, ¬ evC M x j → J x j = J0 x j) ∧ (∀ i : Int32, 0 ≤ i → i < k → fc M J (200 * b + (s + i))) ∧ (∀ w, fc M J0 w → fc M J w) ∧ (J0 M 35 ≤ J M 35 ∧ J M 35 ≤ J0 M 35 + k) ∧ ((∀ i : Int32, 0 ≤ i → i < k → fc M J0 (200 * b + (s + i))) → J M 35 = J0 M 35)
theorem hq_refl (hR : mR M J) {b s : Int32} : hq M b s 0 J J := ⟨hR, fun _ _ _ => rfl, fun i h0 h1 => by grind, fun _ h => h, by grind, fun _ => rfl⟩
theorem hq_step {b s k : Int32} (h : hq M b s k J0 J) (h2 : hp M (200 * b + (s + k)) J J2) (hk : 0 ≤ k ∧ k < 4) (hv : J0 M 35 ≤ 83996) (hv0 : 0 ≤ J0 M 35) : hq M b s (k + 1) J0 J2 := by
  obtain ⟨q1, q2, q3, q4, q5, q6⟩ := h
  obtain ⟨p1, p2, p3, p4, p5, p6⟩ := h2
  have q7 : J0 M 35 ≤ J2 M 35 ∧ J2 M 35 ≤ J0 M 35 + (k + 1) := by
    clear q6 q4 q3 q2 p5 p4 p3 p2 q1 p1
    rcases p6 with p6 | p6 <;> rw [p6] <;> grind
  refine ⟨p1, fun x j hx => (p2 x j hx).trans (q2 x j hx), fun i h0 h1 => ?_, fun w hw => p4 w (q4 w hw), q7, fun hz => ?_⟩
  · by_cases hik : i = k
    · subst hik; exact p3
    · exact p4 _ (q3 i h0 (by grind))
  · rw [p5 (q4 _ (hz k hk.1 (by grind))), q6 (fun i h0 h1 => hz i h0 (by grind))]
theorem lp_takeFrom_2 (hS : m_S M K L R) {a : Int32} (ha : 0 ≤ a ∧ a < 30) (hv : J0 M 35 ≤ 83996) (hv0 : 0 ≤ J0 M 35) (hP : ∀ J, hq M (J0 (M + 20) a.toNatClampNeg) (J0 (M + 21) a.toNatClampNeg) (J0 (M + 10) a.toNatClampNeg) J0 J → P none (n, t, K, L, (a_ui (a_ui J (M + 20) a.toNatClampNeg (-9)) (M + 21) a.toNatClampNeg (-9)), R)) : ∀ i : Int32, i ≤ 4 → ∀ J, 0 ≤ i → i ≤ J0 (M + 10) a.toNatClampNeg → hq M (J0 (M + 20) a.toNatClampNeg) (J0 (M + 21) a.toNatClampNeg) i J0 J → a_at (d + 1) (a_xm a_m186) 2 [some (a_rf M), some (.int a), some (.int i)] [] (n, t, K, L, J, R) P := by
  refine up_ind 4 (fun i hi ih => ?_)
  intro J h0 hl hq
  have e1 : J (M + 10) a.toNatClampNeg = J0 (M + 10) a.toNatClampNeg := hq.2.1 _ _ (by unfold evC; omega)
  have e2 : J (M + 20) a.toNatClampNeg = J0 (M + 20) a.toNatClampNeg := hq.2.1 _ _ (by unfold evC; omega)
  have e3 : J (M + 21) a.toNatClampNeg = J0 (M + 21) a.toNatClampNeg := hq.2.1 _ _ (by unfold evC; omega)
  have g1 := rg_length hq.1
  have g2 := g1 a.toNatClampNeg
  have g3 := hq.2.2.2.2.1
  rw [q186_2]
  simp only [q186_0, q186_1, q186_3, q186_4, q186_7, q186_8, q186_9, q186_12, q186_13, q186_14, q186_17, q186_18, q186_19, q186_20, q186_23, q186_24, q186_25, q186_26, q186_27, q186_29, q186_32, q186_35, q186_38, q186_39, q186_42, q186_43, q186_45, q186_46, q186_47, q186_50, q186_51, q186_53, q186_54, m_0 hS, m_K hS, mR_length hS, mK_length hS, mL_length hS, mR_atBench hS, mK_atBench hS, mL_atBench hS, mR_atShift hS, mK_atShift hS, mL_atShift hS, as_nil, as_i, as_r, Nat.reduceAdd, Nat.reduceLeDiff, z_eq0, z_eq1, z_or, z_em, Classical.not_not, not_false_eq_true, not_true_eq_false, true_and, and_true, false_and, and_false, and_self, true_implies, false_implies, implies_true, Option.toList_some, Option.toList_none, List.cons_append, List.nil_append, Nat.add_eq_zero_iff, a_nl_i, a_nl_r, a_nl_n, true_or, or_true, eq_self, ok_4, ok_5, ok_6, ok_7, ok_9, ok_10, ok_20, ok_21, ok_24, ok_30, ok_48, ok_50, ok_60, ok_80, ok_120, ok_180, ok_192, ok_200, ok_900, ok_1000, ok_84000, e1, e2, e3]
  refine ⟨by grind, fun h => ⟨by grind, by grind, hP J (by rw [show J0 (M + 10) a.toNatClampNeg = i by grind]; exact hq)⟩, fun h => ⟨by grind, by grind, ?_⟩⟩
  refine ct_happened hS hq.1 (by grind) (fun J2 hp => ?_)
  simp only [q186_0, q186_1, q186_3, q186_4, q186_7, q186_8, q186_9, q186_12, q186_13, q186_14, q186_17, q186_18, q186_19, q186_20, q186_23, q186_24, q186_25, q186_26, q186_27, q186_29, q186_32, q186_35, q186_38, q186_39, q186_42, q186_43, q186_45, q186_46, q186_47, q186_50, q186_51, q186_53, q186_54, m_0 hS, m_K hS, mR_length hS, mK_length hS, mL_length hS, mR_atBench hS, mK_atBench hS, mL_atBench hS, mR_atShift hS, mK_atShift hS, mL_atShift hS, as_nil, as_i, as_r, Nat.reduceAdd, Nat.reduceLeDiff, z_eq0, z_eq1, z_or, z_em, Classical.not_not, not_false_eq_true, not_true_eq_false, true_and, and_true, false_and, and_false, and_self, true_implies, false_implies, implies_true, Option.toList_some, Option.toList_none, List.cons_append, List.nil_append, Nat.add_eq_zero_iff, a_nl_i, a_nl_r, a_nl_n, true_or, or_true, eq_self, ok_4, ok_5, ok_6, ok_7, ok_9, ok_10, ok_20, ok_21, ok_24, ok_30, ok_48, ok_50, ok_60, ok_80, ok_120, ok_180, ok_192, ok_200, ok_900, ok_1000, ok_84000]
  exact ih (by grind) J2 (by grind) (by grind) (hq_step hq hp (by grind) hv hv0)
end RY

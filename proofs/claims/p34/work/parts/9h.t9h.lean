/-! what was had: the reference's events -/
/-- the latest of some told things of a place up to an hour; -9 none -/
def hvF (W H A : Nat → Int32) (w k : Int32) : Nat → Int32
  | 0 => -9
  | i + 1 => if W i = w ∧ H i ≤ k then A i else hvF W H A w k i
/-- the hour of the latest -/
def hlF (W H : Nat → Int32) (w : Int32) : Nat → Int32
  | 0 => -9
  | i + 1 => if W i = w then H i else hlF W H w i
section HA0
variable {W H A W' H' A' : Nat → Int32} {w k : Int32}
theorem hv_s {m : Nat} : hvF W H A w k (m + 1) = if W m = w ∧ H m ≤ k then A m else hvF W H A w k m := rfl
theorem hl_s {m : Nat} : hlF W H w (m + 1) = if W m = w then H m else hlF W H w m := rfl
theorem hv_cg : ∀ (m : Nat), (∀ i, i < m → W' i = W i ∧ H' i = H i ∧ (W i = w → H i ≤ k → A' i = A i)) → hvF W' H' A' w k m = hvF W H A w k m := by
  intro m
  induction m with
  | zero => intro _; rfl
  | succ m ih =>
    intro h
    obtain ⟨h1, h2, h3⟩ := h m (by omega)
    rw [hv_s, hv_s, h1, h2, ih (fun i hi => h i (by omega))]
    by_cases c : W m = w ∧ H m ≤ k
    · rw [if_pos c, if_pos c]
      exact h3 c.1 c.2
    · rw [if_neg c, if_neg c]
theorem hl_cg : ∀ (m : Nat), (∀ i, i < m → W' i = W i ∧ H' i = H i) → hlF W' H' w m = hlF W H w m := by
  intro m
  induction m with
  | zero => intro _; rfl
  | succ m ih =>
    intro h
    obtain ⟨h1, h2⟩ := h m (by omega)
    rw [hl_s, hl_s, h1, h2, ih (fun i hi => h i (by omega))]
theorem hv_sk {e : Nat} : ∀ (m : Nat), e < m → (∀ i, e < i → i < m → ¬ W i = w) → hvF W H A w k m = hvF W H A w k (e + 1) := by
  intro m
  induction m with
  | zero => intro h _; exact absurd h (Nat.not_lt_zero _)
  | succ m ih =>
    intro he h
    by_cases c : m = e
    · rw [c]
    · rw [hv_s, if_neg (fun q => h m (by omega) (by omega) q.1)]
      exact ih (by omega) (fun i h1 h2 => h i h1 (by omega))
theorem hl_sk {e : Nat} : ∀ (m : Nat), e < m → (∀ i, e < i → i < m → ¬ W i = w) → hlF W H w m = hlF W H w (e + 1) := by
  intro m
  induction m with
  | zero => intro h _; exact absurd h (Nat.not_lt_zero _)
  | succ m ih =>
    intro he h
    by_cases c : m = e
    · rw [c]
    · rw [hl_s, if_neg (fun q => h m (by omega) (by omega) q)]
      exact ih (by omega) (fun i h1 h2 => h i h1 (by omega))
end HA0
/-- who had a place (a word of BENCH and SHIFT), as known on an hour; the hour of the last change; no hour is behind now -/
def hdM (M : Nat) (J : Nat → Nat → Int32) (w k : Int32) : Int32 := hvF (J (M + 24)) (J (M + 25)) (J (M + 26)) w k (J M 35).toNatClampNeg
def ldM (M : Nat) (J : Nat → Nat → Int32) (w : Int32) : Int32 := hlF (J (M + 24)) (J (M + 25)) w (J M 35).toNatClampNeg
def eoM (M : Nat) (J : Nat → Nat → Int32) : Prop := ∀ i : Nat, i < (J M 35).toNatClampNeg → J (M + 25) i ≤ J M 0
/-- a thing is told of a place -/
def tlM (M : Nat) (w v : Int32) (J J2 : Nat → Nat → Int32) : Prop := eoM M J → eoM M J2 ∧ (∀ k, J M 0 ≤ k → hdM M J2 w k = v) ∧ (∀ k, ¬ J M 0 ≤ k → hdM M J2 w k = hdM M J w k) ∧ ldM M J2 w = J M 0 ∧ ∀ x, ¬ x = w → (∀ k, hdM M J2 x k = hdM M J x k) ∧ ldM M J2 x = ldM M J x
section HA1
variable {d n t M : Nat} {K L : Nat → Nat} {I I0 J J0 J1 J2 : Nat → Nat → Int32} {R : Nat → Nat → Nat} {P : Option Value → AH → Prop} {f : Nat → Int32} {e : Int32}
theorem hd_eq (h1 : J M 35 = I M 35) (h2 : ∀ j, J (M + 24) j = I (M + 24) j) (h3 : ∀ j, J (M + 25) j = I (M + 25) j) (h4 : ∀ j, J (M + 26) j = I (M + 26) j) (w k : Int32) : hdM M J w k = hdM M I w k := by
  unfold hdM
  rw [h1, show J (M + 24) = I (M + 24) from funext h2, show J (M + 25) = I (M + 25) from funext h3, show J (M + 26) = I (M + 26) from funext h4]
theorem ld_eq (h1 : J M 35 = I M 35) (h2 : ∀ j, J (M + 24) j = I (M + 24) j) (h3 : ∀ j, J (M + 25) j = I (M + 25) j) (w : Int32) : ldM M J w = ldM M I w := by
  unfold ldM
  rw [h1, show J (M + 24) = I (M + 24) from funext h2, show J (M + 25) = I (M + 25) from funext h3]
theorem eo_eq (h : eoM M I) (h1 : J M 35 = I M 35) (h3 : ∀ j, J (M + 25) j = I (M + 25) j) (h0 : J M 0 = I M 0) : eoM M J := fun i hi => by
  rw [h1] at hi
  rw [h3, h0]
  exact h i hi
theorem nat_iv {x : Int32} {i : Nat} (h0 : 0 ≤ x) (hx : x ≤ 84000) (hi : i < x.toNatClampNeg) : (Int32.ofNat i).toNatClampNeg = i ∧ 0 ≤ Int32.ofNat i ∧ Int32.ofNat i < x := by
  have hx2 := cl_le0 h0 hx
  rw [show (84000 : Int32).toNatClampNeg = 84000 from rfl] at hx2
  obtain ⟨e1, e2⟩ := cl_on2 (m := i) (by omega)
  have c0 : (0 : Int32).toInt = 0 := rfl
  have p0 : 0 ≤ Int32.ofNat i := by rw [Int32.le_iff_toInt_le]; omega
  exact ⟨e1, p0, cl_lt2 p0 h0 (by rw [e1]; exact hi)⟩
theorem tl_over (hR : mR M J) {w v e : Int32} (h0 : 0 ≤ e) (he : e < J M 35) (hw : J (M + 24) e.toNatClampNeg = w) (hh : J (M + 25) e.toNatClampNeg = J M 0) (hi : ∀ i : Int32, e < i → i < J M 35 → ¬ J (M + 24) i.toNatClampNeg = w) : tlM M w v J (a_ui J (M + 26) e.toNatClampNeg v) := by
  intro ho
  have hv := rg_events hR
  have f24 : a_ui J (M + 26) e.toNatClampNeg v (M + 24) = J (M + 24) := funext (fun j => by rw [ui_ap, if_neg (by omega)])
  have f25 : a_ui J (M + 26) e.toNatClampNeg v (M + 25) = J (M + 25) := funext (fun j => by rw [ui_ap, if_neg (by omega)])
  have f35 : a_ui J (M + 26) e.toNatClampNeg v M 35 = J M 35 := by rw [ui_ap, if_neg (by omega)]
  have f0 : a_ui J (M + 26) e.toNatClampNeg v M 0 = J M 0 := by rw [ui_ap, if_neg (by omega)]
  have hl := cl_lt h0 he
  have hsk : ∀ i : Nat, e.toNatClampNeg < i → i < (J M 35).toNatClampNeg → ¬ J (M + 24) i = w := fun i h1 h2 => by
    obtain ⟨e1, e2, e3⟩ := nat_iv hv.1 hv.2 h2
    have := hi (Int32.ofNat i) (cl_lt2 h0 e2 (by rw [e1]; exact h1)) e3
    rw [e1] at this
    exact this
  refine ⟨fun i hi2 => ?_, fun k hk => ?_, fun k hk => ?_, ?_, fun x hx => ⟨fun k => ?_, ?_⟩⟩
  · rw [f35] at hi2
    rw [f25, f0]
    exact ho i hi2
  · unfold hdM
    rw [f24, f25, f35, hv_sk _ hl hsk, hv_s, if_pos ⟨hw, by rw [hh]; exact hk⟩, ui_ap, if_pos ⟨rfl, rfl⟩]
  · unfold hdM
    rw [f24, f25, f35]
    refine hv_cg _ (fun i hi2 => ⟨rfl, rfl, fun q1 q2 => ?_⟩)
    rw [ui_ap, if_neg (fun q => hk (by rw [← hh, ← q.2]; exact q2))]
  · unfold ldM
    rw [f24, f25, f35, hl_sk _ hl hsk, hl_s, if_pos hw]
    exact hh
  · unfold hdM
    rw [f24, f25, f35]
    refine hv_cg _ (fun i hi2 => ⟨rfl, rfl, fun q1 q2 => ?_⟩)
    rw [ui_ap, if_neg (fun q => hx (by rw [← q1, q.2]; exact hw))]
  · unfold ldM
    rw [f24, f25, f35]
theorem tl_new (hR : mR M J) {w v : Int32} (he : J M 35 < 84000) : tlM M w v J (a_ui (a_ui (a_ui (a_ui J (M + 24) (J M 35).toNatClampNeg w) (M + 25) (J M 35).toNatClampNeg (J M 0)) (M + 26) (J M 35).toNatClampNeg v) M 35 (J M 35 + 1)) := by
  intro ho
  have hv := rg_events hR
  have hc := (lp_st hv.1 he).2.2.2
  generalize em : (J M 35).toNatClampNeg = m at hc ⊢
  have f35 : (a_ui (a_ui (a_ui (a_ui J (M + 24) m w) (M + 25) m (J M 0)) (M + 26) m v) M 35 (J M 35 + 1)) M 35 = J M 35 + 1 := by rw [ui_ap, if_pos ⟨rfl, rfl⟩]
  have f0 : (a_ui (a_ui (a_ui (a_ui J (M + 24) m w) (M + 25) m (J M 0)) (M + 26) m v) M 35 (J M 35 + 1)) M 0 = J M 0 := by rw [ui_ap, if_neg (by omega), ui_ap, if_neg (by omega), ui_ap, if_neg (by omega), ui_ap, if_neg (by omega)]
  have f24 : ∀ i, (a_ui (a_ui (a_ui (a_ui J (M + 24) m w) (M + 25) m (J M 0)) (M + 26) m v) M 35 (J M 35 + 1)) (M + 24) i = if i = m then w else J (M + 24) i := fun i => by
    rw [ui_ap, if_neg (by omega), ui_ap, if_neg (by omega), ui_ap, if_neg (by omega), ui_ap]
    by_cases c : i = m
    · rw [if_pos ⟨rfl, c⟩, if_pos c]
    · rw [if_neg (fun q => c q.2), if_neg c]
  have f25 : ∀ i, (a_ui (a_ui (a_ui (a_ui J (M + 24) m w) (M + 25) m (J M 0)) (M + 26) m v) M 35 (J M 35 + 1)) (M + 25) i = if i = m then J M 0 else J (M + 25) i := fun i => by
    rw [ui_ap, if_neg (by omega), ui_ap, if_neg (by omega), ui_ap]
    by_cases c : i = m
    · rw [if_pos ⟨rfl, c⟩, if_pos c]
    · rw [if_neg (fun q => c q.2), if_neg c, ui_ap, if_neg (by omega)]
  have f26 : ∀ i, (a_ui (a_ui (a_ui (a_ui J (M + 24) m w) (M + 25) m (J M 0)) (M + 26) m v) M 35 (J M 35 + 1)) (M + 26) i = if i = m then v else J (M + 26) i := fun i => by
    rw [ui_ap, if_neg (by omega), ui_ap]
    by_cases c : i = m
    · rw [if_pos ⟨rfl, c⟩, if_pos c]
    · rw [if_neg (fun q => c q.2), if_neg c, ui_ap, if_neg (by omega), ui_ap, if_neg (by omega)]
  generalize (a_ui (a_ui (a_ui (a_ui J (M + 24) m w) (M + 25) m (J M 0)) (M + 26) m v) M 35 (J M 35 + 1)) = J2 at f35 f0 f24 f25 f26 ⊢
  have hlow : ∀ x k, hvF (J2 (M + 24)) (J2 (M + 25)) (J2 (M + 26)) x k m = hdM M J x k := fun x k => by
    unfold hdM
    rw [em]
    exact hv_cg _ (fun i hi => ⟨by rw [f24, if_neg (by omega)], by rw [f25, if_neg (by omega)], fun _ _ => by rw [f26, if_neg (by omega)]⟩)
  have hlow2 : ∀ x, hlF (J2 (M + 24)) (J2 (M + 25)) x m = ldM M J x := fun x => by
    unfold ldM
    rw [em]
    exact hl_cg _ (fun i hi => ⟨by rw [f24, if_neg (by omega)], by rw [f25, if_neg (by omega)]⟩)
  have hd : ∀ x k, hdM M J2 x k = if w = x ∧ J M 0 ≤ k then v else hdM M J x k := fun x k => by
    conv => lhs; unfold hdM
    rw [f35, hc, hv_s, hlow, f24, f25, f26, if_pos rfl, if_pos rfl, if_pos rfl]
  have hdl : ∀ x, ldM M J2 x = if w = x then J M 0 else ldM M J x := fun x => by
    conv => lhs; unfold ldM
    rw [f35, hc, hl_s, hlow2, f24, f25, if_pos rfl, if_pos rfl]
  refine ⟨fun i hi2 => ?_, fun k hk => ?_, fun k hk => ?_, ?_, fun x hx => ⟨fun k => ?_, ?_⟩⟩
  · rw [f35, hc] at hi2
    rw [f25, f0]
    by_cases c : i = m
    · rw [if_pos c]
      exact Int32.le_refl _
    · rw [if_neg c]
      exact ho i (by rw [em]; omega)
  · rw [hd, if_pos ⟨rfl, hk⟩]
  · rw [hd, if_neg (fun q => hk q.2)]
  · rw [hdl, if_pos rfl]
  · rw [hd, if_neg (fun q => hx q.1.symm)]
  · rw [hdl, if_neg (fun q => hx q.symm)]
theorem lx_happened_17 (hS : m_S M K L R) (hR : mR M J) {b s a w : Int32} (hw : 200 * b + s = w) (hev : J M 35 < 84000) (hP : ∀ J2, hp M w J J2 → tlM M w a J J2 → P none (n, t, K, L, J2, R)) : ∀ e : Int32, -1 ≤ e → e < J M 35 → (∀ i : Int32, e < i → i < J M 35 → J (M + 25) i.toNatClampNeg = J M 0 ∧ ¬ J (M + 24) i.toNatClampNeg = w) → a_at d (a_xm a_m187) 17 [some (a_rf M), some (.int b), some (.int s), some (.int a), some (.int w), some (.int e)] [] (n, t, K, L, J, R) P := by
  have hv := rg_events hR
  refine dn_ind (-1) (fun e he ih => ?_)
  intro h1 hi
  have hn : (e < 0 ∨ ¬ J (M + 25) e.toNatClampNeg = J M 0) → ¬ fc M J w := by
    rintro h2 ⟨e1, q1, q2, q3, q4⟩
    have q5 : ¬ e < e1 := fun q => (hi e1 q q2).2 q3
    cases h2 with
    | inl h2 => grind
    | inr h2 => exact h2 (q4 e (by grind) h1)
  rw [q187_17]
  simp only [q187_19, q187_22, q187_23, q187_26, q187_28, q187_29, q187_30, q187_33, q187_36, q187_37, q187_40, q187_42, q187_43, q187_45, q187_48, q187_49, q187_52, q187_54, q187_55, q187_56, q187_57, q187_60, q187_63, q187_64, q187_67, q187_68, q187_71, q187_73, q187_74, q187_75, q187_78, q187_79, q187_82, q187_83, q187_86, q187_87, q187_88, q187_91, q187_92, q187_95, q187_96, q187_97, q187_98, q187_99, q187_102, q187_103, q187_104, q187_107, m_0 hS, m_K hS, mR_eHour hS, mK_eHour hS, mL_eHour hS, mR_eWhere hS, mK_eWhere hS, mL_eWhere hS, mR_eAsk hS, mK_eAsk hS, mL_eAsk hS, as_nil, as_i, as_r, Nat.reduceAdd, Nat.reduceLeDiff, z_eq0, z_eq1, z_or, z_em, Classical.not_not, not_false_eq_true, not_true_eq_false, true_and, and_true, false_and, and_false, and_self, true_implies, false_implies, implies_true, Option.toList_some, Option.toList_none, List.cons_append, List.nil_append, Nat.add_eq_zero_iff, a_nl_i, a_nl_r, a_nl_n, true_or, or_true, eq_self, ok_4, ok_5, ok_6, ok_7, ok_9, ok_10, ok_20, ok_21, ok_24, ok_30, ok_48, ok_50, ok_60, ok_80, ok_120, ok_180, ok_192, ok_200, ok_900, ok_1000, ok_84000]
  have hnew := fun h => hP _ (hp_new (v := a) hR hev (hn h)) (tl_new (v := a) hR hev)
  have hov := fun h0 hw hh => hP _ (hp_over (e := e) (w := w) (v := a) hR h0 h1 hw hh) (tl_over (e := e) (w := w) (v := a) hR h0 h1 hw (hh e (Int32.le_refl _) h1) (fun i q1 q2 => (hi i q1 q2).2))
  refine ⟨fun h2 => ?_, fun h2 => ⟨by grind, fun h3 => ?_, fun h3 => ⟨by grind, fun h4 => ?_, fun h4 => ?_⟩⟩⟩
  · simp only [ui_ap, ne_MM, ne_M0, ne_0M, Nat.reduceEqDiff, false_and, and_false, if_false]
    exact ⟨by grind, by grind, by grind, hnew (Or.inl h2)⟩
  · simp only [ui_ap, ne_MM, ne_M0, ne_0M, Nat.reduceEqDiff, false_and, and_false, if_false]
    exact ⟨by grind, by grind, by grind, hnew (Or.inr h3)⟩
  · exact ih (by grind) (by grind) (fun i q1 q2 => by
      by_cases hie : i = e
      · subst hie; exact ⟨by simpa using h3, h4⟩
      · exact hi i (by grind) q2)
  · exact ⟨by grind, hov (by grind) (by simpa using h4) (fun i q1 q2 => by
      by_cases hie : i = e
      · subst hie; simpa using h3
      · exact (hi i (by grind) q2).1)⟩
theorem cx_happened (hS : m_S M K L R) (hR : mR M J) {b s a : Int32} (hev : J M 35 < 84000) (hP : ∀ J2, hp M (200 * b + s) J J2 → tlM M (200 * b + s) a J J2 → P none (n, t, K, L, J2, R)) : a_does (d + 1) 187 [a_rf M, .int b, .int s, .int a] (n, t, K, L, J, R) P := by
  have hv := rg_events hR
  rw [a_enter1 (M := a_m187) rfl (a_cat_rf (a_cat_int (a_cat_int (a_cat_int a_cat_nil)))) (show 4 ≤ 6 by decide)]
  show a_at _ (a_xm a_m187) 0 [some (a_rf M), some (.int b), some (.int s), some (.int a), none, none] [] _ _
  simp only [q187_0, q187_3, q187_4, q187_5, q187_6, q187_7, q187_9, q187_10, q187_13, q187_14, q187_15, m_0 hS, m_K hS, as_nil, as_i, as_r, Nat.reduceAdd, Nat.reduceLeDiff, z_eq0, z_eq1, z_or, z_em, Classical.not_not, not_false_eq_true, not_true_eq_false, true_and, and_true, false_and, and_false, and_self, true_implies, false_implies, implies_true, Option.toList_some, Option.toList_none, List.cons_append, List.nil_append, Nat.add_eq_zero_iff, a_nl_i, a_nl_r, a_nl_n, true_or, or_true, eq_self, ok_4, ok_5, ok_6, ok_7, ok_9, ok_10, ok_20, ok_21, ok_24, ok_30, ok_48, ok_50, ok_60, ok_80, ok_120, ok_180, ok_192, ok_200, ok_900, ok_1000, ok_84000]
  exact lx_happened_17 hS hR rfl hev hP _ (by grind) (by grind) (fun i q1 q2 => by grind)
/-- k cells of a place are told -/
def tkM (M : Nat) (b s k v : Int32) (J0 J : Nat → Nat → Int32) : Prop := eoM M J0 → eoM M J ∧ ∀ w : Int32, (∀ x, ¬ J0 M 0 ≤ x → hdM M J w x = hdM M J0 w x) ∧ ((∃ i : Int32, 0 ≤ i ∧ i < k ∧ w = 200 * b + (s + i)) → (∀ x, J0 M 0 ≤ x → hdM M J w x = v) ∧ ldM M J w = J0 M 0) ∧ (¬ (∃ i : Int32, 0 ≤ i ∧ i < k ∧ w = 200 * b + (s + i)) → (∀ x, hdM M J w x = hdM M J0 w x) ∧ ldM M J w = ldM M J0 w)
theorem tk_0 {b s v : Int32} : tkM M b s 0 v J J := fun ho => ⟨ho, fun w => ⟨fun _ _ => rfl, fun ⟨i, i0, i1, _⟩ => absurd (Int32.lt_of_le_of_lt i0 i1) Int32.lt_irrefl, fun _ => ⟨fun _ => rfl, rfl⟩⟩⟩
theorem tk_s {b s k v : Int32} (h : tkM M b s k v J0 J) (hn : J M 0 = J0 M 0) (h2 : tlM M (200 * b + (s + k)) v J J2) (hk : 0 ≤ k ∧ k < 4) : tkM M b s (k + 1) v J0 J2 := fun ho => by
  obtain ⟨q1, q2⟩ := h ho
  obtain ⟨p1, p2, p3, p4, p5⟩ := h2 q1
  rw [hn] at p2 p3 p4
  have hlt : ∀ i : Int32, i < k → i < k + 1 := fun i hi => by ((try clear q1); (try clear q2); (try clear p1); (try clear p2); (try clear p3); (try clear p4); (try clear p5); (try clear h); (try clear h2)); grind
  have hor : ∀ i : Int32, i < k + 1 → ¬ i = k → i < k := fun i hi => by ((try clear q1); (try clear q2); (try clear p1); (try clear p2); (try clear p3); (try clear p4); (try clear p5); (try clear h); (try clear h2)); grind
  refine ⟨p1, fun w => ?_⟩
  obtain ⟨a1, a2, a3⟩ := q2 w
  by_cases c : w = 200 * b + (s + k)
  · subst c
    refine ⟨fun x hx => (p3 x hx).trans (a1 x hx), fun _ => ⟨p2, p4⟩, fun q => absurd ⟨k, hk.1, by ((try clear q1); (try clear q2); (try clear p1); (try clear p2); (try clear p3); (try clear p4); (try clear p5); (try clear h); (try clear h2); (try clear q); (try clear a1); (try clear a2); (try clear a3)); grind, rfl⟩ q⟩
  · obtain ⟨b1, b2⟩ := p5 w c
    refine ⟨fun x hx => (b1 x).trans (a1 x hx), fun ⟨i, i0, i1, i2⟩ => ?_, fun q => ?_⟩
    · obtain ⟨c1, c2⟩ := a2 ⟨i, i0, hor i i1 (fun e => c (by rw [i2, e])), i2⟩
      exact ⟨fun x hx => (b1 x).trans (c1 x hx), b2.trans c2⟩
    · obtain ⟨c1, c2⟩ := a3 (fun ⟨i, i0, i1, i2⟩ => q ⟨i, i0, hlt i i1, i2⟩)
      exact ⟨fun x => (b1 x).trans (c1 x), b2.trans c2⟩
theorem lx_giveTo_10 (hS : m_S M K L R) {a b s : Int32} (ha : 0 ≤ a ∧ a < 30) (hv : J0 M 35 ≤ 83996) (hv0 : 0 ≤ J0 M 35) (hP : ∀ J, hq M b s (J0 (M + 10) a.toNatClampNeg) J0 J → tkM M b s (J0 (M + 10) a.toNatClampNeg) a J0 J → P none (n, t, K, L, J, R)) : ∀ i : Int32, i ≤ 4 → ∀ J, 0 ≤ i → i ≤ J0 (M + 10) a.toNatClampNeg → hq M b s i J0 J → tkM M b s i a J0 J → a_at (d + 1) (a_xm a_m230) 10 [some (a_rf M), some (.int a), some (.int b), some (.int s), some (.int i)] [] (n, t, K, L, J, R) P := by
  refine up_ind 4 (fun i hi ih => ?_)
  intro J h0 hl hq htk
  have hn0 : J M 0 = J0 M 0 := hq.2.1 _ _ (by unfold evC; omega)
  have e1 : J (M + 10) a.toNatClampNeg = J0 (M + 10) a.toNatClampNeg := hq.2.1 _ _ (by unfold evC; omega)
  have g1 := rg_length hq.1
  have g2 := g1 a.toNatClampNeg
  have g3 := hq.2.2.2.2.1
  rw [q230_10]
  simp only [q230_0, q230_1, q230_2, q230_3, q230_4, q230_7, q230_8, q230_12, q230_13, q230_16, q230_17, q230_18, q230_21, q230_22, q230_23, q230_24, q230_26, q230_27, q230_28, q230_31, q230_34, q230_37, m_0 hS, m_K hS, mR_length hS, mK_length hS, mL_length hS, as_nil, as_i, as_r, Nat.reduceAdd, Nat.reduceLeDiff, z_eq0, z_eq1, z_or, z_em, Classical.not_not, not_false_eq_true, not_true_eq_false, true_and, and_true, false_and, and_false, and_self, true_implies, false_implies, implies_true, Option.toList_some, Option.toList_none, List.cons_append, List.nil_append, Nat.add_eq_zero_iff, a_nl_i, a_nl_r, a_nl_n, true_or, or_true, eq_self, ok_4, ok_5, ok_6, ok_7, ok_9, ok_10, ok_20, ok_21, ok_24, ok_30, ok_48, ok_50, ok_60, ok_80, ok_120, ok_180, ok_192, ok_200, ok_900, ok_1000, ok_84000, e1]
  refine ⟨by (try clear htk); (try clear htl); grind, fun h => hP J (by rw [show J0 (M + 10) a.toNatClampNeg = i by ((try clear htk)); grind]; exact hq) (by rw [show J0 (M + 10) a.toNatClampNeg = i by ((try clear htk)); grind]; exact htk), fun h => ?_⟩
  refine cx_happened hS hq.1 (by (try clear htk); (try clear htl); grind) (fun J2 hp htl => ?_)
  simp only [q230_0, q230_1, q230_2, q230_3, q230_4, q230_7, q230_8, q230_12, q230_13, q230_16, q230_17, q230_18, q230_21, q230_22, q230_23, q230_24, q230_26, q230_27, q230_28, q230_31, q230_34, q230_37, m_0 hS, m_K hS, mR_length hS, mK_length hS, mL_length hS, as_nil, as_i, as_r, Nat.reduceAdd, Nat.reduceLeDiff, z_eq0, z_eq1, z_or, z_em, Classical.not_not, not_false_eq_true, not_true_eq_false, true_and, and_true, false_and, and_false, and_self, true_implies, false_implies, implies_true, Option.toList_some, Option.toList_none, List.cons_append, List.nil_append, Nat.add_eq_zero_iff, a_nl_i, a_nl_r, a_nl_n, true_or, or_true, eq_self, ok_4, ok_5, ok_6, ok_7, ok_9, ok_10, ok_20, ok_21, ok_24, ok_30, ok_48, ok_50, ok_60, ok_80, ok_120, ok_180, ok_192, ok_200, ok_900, ok_1000, ok_84000]
  exact ih (by (try clear htk); (try clear htl); grind) J2 (by (try clear htk); (try clear htl); grind) (by (try clear htk); (try clear htl); grind) (hq_step hq hp (by ((try clear htk); (try clear htl)); grind) hv hv0) (tk_s htk hn0 htl ⟨h0, by ((try clear htk); (try clear htl)); grind⟩)
theorem lx_takeFrom_2 (hS : m_S M K L R) {a : Int32} (ha : 0 ≤ a ∧ a < 30) (hv : J0 M 35 ≤ 83996) (hv0 : 0 ≤ J0 M 35) (hP : ∀ J, hq M (J0 (M + 20) a.toNatClampNeg) (J0 (M + 21) a.toNatClampNeg) (J0 (M + 10) a.toNatClampNeg) J0 J → tkM M (J0 (M + 20) a.toNatClampNeg) (J0 (M + 21) a.toNatClampNeg) (J0 (M + 10) a.toNatClampNeg) (-9) J0 J → P none (n, t, K, L, (a_ui (a_ui J (M + 20) a.toNatClampNeg (-9)) (M + 21) a.toNatClampNeg (-9)), R)) : ∀ i : Int32, i ≤ 4 → ∀ J, 0 ≤ i → i ≤ J0 (M + 10) a.toNatClampNeg → hq M (J0 (M + 20) a.toNatClampNeg) (J0 (M + 21) a.toNatClampNeg) i J0 J → tkM M (J0 (M + 20) a.toNatClampNeg) (J0 (M + 21) a.toNatClampNeg) i (-9) J0 J → a_at (d + 1) (a_xm a_m186) 2 [some (a_rf M), some (.int a), some (.int i)] [] (n, t, K, L, J, R) P := by
  refine up_ind 4 (fun i hi ih => ?_)
  intro J h0 hl hq htk
  have hn0 : J M 0 = J0 M 0 := hq.2.1 _ _ (by unfold evC; omega)
  have e1 : J (M + 10) a.toNatClampNeg = J0 (M + 10) a.toNatClampNeg := hq.2.1 _ _ (by unfold evC; omega)
  have e2 : J (M + 20) a.toNatClampNeg = J0 (M + 20) a.toNatClampNeg := hq.2.1 _ _ (by unfold evC; omega)
  have e3 : J (M + 21) a.toNatClampNeg = J0 (M + 21) a.toNatClampNeg := hq.2.1 _ _ (by unfold evC; omega)
  have g1 := rg_length hq.1
  have g2 := g1 a.toNatClampNeg
  have g3 := hq.2.2.2.2.1
  rw [q186_2]
  simp only [q186_0, q186_1, q186_3, q186_4, q186_7, q186_8, q186_9, q186_12, q186_13, q186_14, q186_17, q186_18, q186_19, q186_20, q186_23, q186_24, q186_25, q186_26, q186_27, q186_29, q186_32, q186_35, q186_38, q186_39, q186_42, q186_43, q186_45, q186_46, q186_47, q186_50, q186_51, q186_53, q186_54, m_0 hS, m_K hS, mR_length hS, mK_length hS, mL_length hS, mR_atBench hS, mK_atBench hS, mL_atBench hS, mR_atShift hS, mK_atShift hS, mL_atShift hS, as_nil, as_i, as_r, Nat.reduceAdd, Nat.reduceLeDiff, z_eq0, z_eq1, z_or, z_em, Classical.not_not, not_false_eq_true, not_true_eq_false, true_and, and_true, false_and, and_false, and_self, true_implies, false_implies, implies_true, Option.toList_some, Option.toList_none, List.cons_append, List.nil_append, Nat.add_eq_zero_iff, a_nl_i, a_nl_r, a_nl_n, true_or, or_true, eq_self, ok_4, ok_5, ok_6, ok_7, ok_9, ok_10, ok_20, ok_21, ok_24, ok_30, ok_48, ok_50, ok_60, ok_80, ok_120, ok_180, ok_192, ok_200, ok_900, ok_1000, ok_84000, e1, e2, e3]
  refine ⟨by (try clear htk); (try clear htl); grind, fun h => ⟨by (try clear htk); (try clear htl); grind, by (try clear htk); (try clear htl); grind, hP J (by rw [show J0 (M + 10) a.toNatClampNeg = i by ((try clear htk)); grind]; exact hq) (by rw [show J0 (M + 10) a.toNatClampNeg = i by ((try clear htk)); grind]; exact htk)⟩, fun h => ⟨by (try clear htk); (try clear htl); grind, by (try clear htk); (try clear htl); grind, ?_⟩⟩
  refine cx_happened hS hq.1 (by (try clear htk); (try clear htl); grind) (fun J2 hp htl => ?_)
  simp only [q186_0, q186_1, q186_3, q186_4, q186_7, q186_8, q186_9, q186_12, q186_13, q186_14, q186_17, q186_18, q186_19, q186_20, q186_23, q186_24, q186_25, q186_26, q186_27, q186_29, q186_32, q186_35, q186_38, q186_39, q186_42, q186_43, q186_45, q186_46, q186_47, q186_50, q186_51, q186_53, q186_54, m_0 hS, m_K hS, mR_length hS, mK_length hS, mL_length hS, mR_atBench hS, mK_atBench hS, mL_atBench hS, mR_atShift hS, mK_atShift hS, mL_atShift hS, as_nil, as_i, as_r, Nat.reduceAdd, Nat.reduceLeDiff, z_eq0, z_eq1, z_or, z_em, Classical.not_not, not_false_eq_true, not_true_eq_false, true_and, and_true, false_and, and_false, and_self, true_implies, false_implies, implies_true, Option.toList_some, Option.toList_none, List.cons_append, List.nil_append, Nat.add_eq_zero_iff, a_nl_i, a_nl_r, a_nl_n, true_or, or_true, eq_self, ok_4, ok_5, ok_6, ok_7, ok_9, ok_10, ok_20, ok_21, ok_24, ok_30, ok_48, ok_50, ok_60, ok_80, ok_120, ok_180, ok_192, ok_200, ok_900, ok_1000, ok_84000]
  exact ih (by (try clear htk); (try clear htl); grind) J2 (by (try clear htk); (try clear htl); grind) (by (try clear htk); (try clear htl); grind) (hq_step hq hp (by ((try clear htk); (try clear htl)); grind) hv hv0) (tk_s htk hn0 htl ⟨h0, by ((try clear htk); (try clear htl)); grind⟩)
theorem xh_giveTo0 (hS : m_S M K L R) (hm : moP M I) (hv : I M 35 ≤ 83996) {a b s : Int32} (ha : 0 ≤ a ∧ a < 30) (hb : 0 ≤ b ∧ b ≤ 5) (hs : -9 ≤ s ∧ s ≤ 200) (hP : ∀ J, yR M I J (puY (yv M I) a b s) → tkM M b s (I (M + 10) a.toNatClampNeg) a I J → P none (n, t, K, L, J, R)) : a_does (d + 11) 230 [a_rf M, .int a, .int b, .int s] (n, t, K, L, I, R) P := by
  rw [a_enter1 (M := a_m230) rfl (a_cat_rf (a_cat_int (a_cat_int (a_cat_int a_cat_nil)))) (show 4 ≤ 5 by decide)]
  show a_at _ (a_xm a_m230) 0 [some (a_rf M), some (.int a), some (.int b), some (.int s), none] [] _ _
  simp only [q230_0, q230_1, q230_2, q230_3, q230_4, m_0 hS, m_K hS, as_nil, as_i, as_r, Nat.reduceAdd, Nat.reduceLeDiff, z_eq0, z_eq1, z_or, z_em, Classical.not_not, not_false_eq_true, not_true_eq_false, true_and, and_true, false_and, and_false, and_self, true_implies, false_implies, implies_true, Option.toList_some, Option.toList_none, List.cons_append, List.nil_append, Nat.add_eq_zero_iff, a_nl_i, a_nl_r, a_nl_n, true_or, or_true, eq_self, ok_4, ok_5, ok_6, ok_7, ok_9, ok_10, ok_20, ok_21, ok_24, ok_30, ok_48, ok_50, ok_60, ok_80, ok_120, ok_180, ok_192, ok_200, ok_900, ok_1000, ok_84000]
  refine xt_putAt (d := d) hS hm ha hb hs (fun J hf hy => ?_)
  simp only [q230_7, q230_8, as_nil, as_i, as_r, Nat.reduceAdd, Nat.reduceLeDiff, z_eq0, z_eq1, z_or, z_em, Classical.not_not, not_false_eq_true, not_true_eq_false, true_and, and_true, false_and, and_false, and_self, true_implies, false_implies, implies_true, Option.toList_some, Option.toList_none, List.cons_append, List.nil_append, Nat.add_eq_zero_iff, a_nl_i, a_nl_r, a_nl_n, true_or, or_true, eq_self, ok_4, ok_5, ok_6, ok_7, ok_9, ok_10, ok_20, ok_21, ok_24, ok_30, ok_48, ok_50, ok_60, ok_80, ok_120, ok_180, ok_192, ok_200, ok_900, ok_1000, ok_84000]
  have ev0 : J M 35 = I M 35 := hf _ _ (by unfold sC; omega) (by omega) (by omega) (by omega)
  have hl := rg_length hy.1 a.toNatClampNeg
  have hv0 := rg_events hy.1
  refine lx_giveTo_10 hS ha (by rw [ev0]; exact hv) hv0.1 (fun J2 hq htk => ?_) 0 (by decide) J (by decide) hl.1 (hq_refl hy.1) tk_0
  have htk2 : tkM M b s (I (M + 10) a.toNatClampNeg) a I J2 := fun ho => by
    have f : ∀ x j, ¬ sC M x j → ¬ x = M + 20 → ¬ x = M + 21 → ¬ x = M + 22 → J x j = I x j := hf
    have e0 : J M 0 = I M 0 := f _ _ (by unfold sC; omega) (by omega) (by omega) (by omega)
    have e24 : ∀ j, J (M + 24) j = I (M + 24) j := fun j => f _ _ (by unfold sC; omega) (by omega) (by omega) (by omega)
    have e25 : ∀ j, J (M + 25) j = I (M + 25) j := fun j => f _ _ (by unfold sC; omega) (by omega) (by omega) (by omega)
    have e26 : ∀ j, J (M + 26) j = I (M + 26) j := fun j => f _ _ (by unfold sC; omega) (by omega) (by omega) (by omega)
    have e10 : J (M + 10) a.toNatClampNeg = I (M + 10) a.toNatClampNeg := f _ _ (by unfold sC; omega) (by omega) (by omega) (by omega)
    obtain ⟨g1, g2⟩ := htk (eo_eq ho ev0 e25 e0)
    refine ⟨g1, fun w => ?_⟩
    obtain ⟨a1, a2, a3⟩ := g2 w
    rw [e0] at a1 a2
    rw [e10] at a2 a3
    rw [ld_eq ev0 e24 e25 w] at a3
    refine ⟨fun x hx => (a1 x hx).trans (hd_eq ev0 e24 e25 e26 w x), a2, fun q => ⟨fun x => ((a3 q).1 x).trans (hd_eq ev0 e24 e25 e26 w x), (a3 q).2⟩⟩
  refine hP J2 ⟨hq.1, fun x j p => by rw [hq.2.1 x j (by unfold evC; omega)]; exact hy.2.1 x j p, fun k j hk q => ?_⟩ htk2
  rw [hq.2.1 _ _ (by unfold mk0 at q; unfold evC; omega)]
  exact hy.2.2 k j hk q
theorem xh_takeFrom0 (hS : m_S M K L R) (hR : mR M I) (hv : I M 35 ≤ 83996) {a : Int32} (ha : 0 ≤ a ∧ a < 30) (hP : ∀ J, yR M I J (unY (yv M I) a) → tkM M (I (M + 20) a.toNatClampNeg) (I (M + 21) a.toNatClampNeg) (I (M + 10) a.toNatClampNeg) (-9) I J → P none (n, t, K, L, J, R)) : a_does (d + 2) 186 [a_rf M, .int a] (n, t, K, L, I, R) P := by
  have hl := rg_length hR a.toNatClampNeg
  have hv0 := rg_events hR
  rw [a_enter1 (M := a_m186) rfl (a_cat_rf (a_cat_int a_cat_nil)) (show 2 ≤ 3 by decide)]
  show a_at _ (a_xm a_m186) 0 [some (a_rf M), some (.int a), none] [] _ _
  simp only [q186_0, q186_1, as_nil, as_i, as_r, Nat.reduceAdd, Nat.reduceLeDiff, z_eq0, z_eq1, z_or, z_em, Classical.not_not, not_false_eq_true, not_true_eq_false, true_and, and_true, false_and, and_false, and_self, true_implies, false_implies, implies_true, Option.toList_some, Option.toList_none, List.cons_append, List.nil_append, Nat.add_eq_zero_iff, a_nl_i, a_nl_r, a_nl_n, true_or, or_true, eq_self, ok_4, ok_5, ok_6, ok_7, ok_9, ok_10, ok_20, ok_21, ok_24, ok_30, ok_48, ok_50, ok_60, ok_80, ok_120, ok_180, ok_192, ok_200, ok_900, ok_1000, ok_84000]
  refine lx_takeFrom_2 hS ha hv hv0.1 (fun J hq htk => ?_) 0 (by decide) I (by decide) hl.1 (hq_refl hR) tk_0
  have htk2 : ∀ J2 : Nat → Nat → Int32, (∀ x j, ¬ x = M + 20 → ¬ x = M + 21 → J2 x j = J x j) → tkM M (I (M + 20) a.toNatClampNeg) (I (M + 21) a.toNatClampNeg) (I (M + 10) a.toNatClampNeg) (-9) I J2 := fun J2 f ho => by
    have e0 : J2 M 0 = J M 0 := f _ _ (by omega) (by omega)
    have e35 : J2 M 35 = J M 35 := f _ _ (by omega) (by omega)
    have e24 : ∀ j, J2 (M + 24) j = J (M + 24) j := fun j => f _ _ (by omega) (by omega)
    have e25 : ∀ j, J2 (M + 25) j = J (M + 25) j := fun j => f _ _ (by omega) (by omega)
    have e26 : ∀ j, J2 (M + 26) j = J (M + 26) j := fun j => f _ _ (by omega) (by omega)
    obtain ⟨g1, g2⟩ := htk ho
    refine ⟨eo_eq g1 e35 e25 e0, fun w => ?_⟩
    obtain ⟨a1, a2, a3⟩ := g2 w
    have eh := hd_eq e35 e24 e25 e26 w
    have el := ld_eq e35 e24 e25 w
    exact ⟨fun x hx => (eh x).trans (a1 x hx), fun q => ⟨fun x hx => (eh x).trans ((a2 q).1 x hx), el.trans (a2 q).2⟩, fun q => ⟨fun x => (eh x).trans ((a3 q).1 x), el.trans (a3 q).2⟩⟩
  refine hP _ ⟨sR_atShift (sR_atBench hq.1 (by decide)) (by decide), fun x j p => by rw [ui_ap, if_neg (by omega), ui_ap, if_neg (by omega), hq.2.1 x j (by unfold evC; omega)], fun k j hk q => ?_⟩ (htk2 _ (fun x j q1 q2 => by rw [ui_ap, if_neg (fun e => q2 e.1), ui_ap, if_neg (fun e => q1 e.1)]))
  unfold unY
  unfold mk0 at q
  rw [ui_ap, ui_ap]
  by_cases e1 : (k = 20 ∨ k = 21) ∧ j = a.toNatClampNeg
  · rw [if_pos e1]
    by_cases e2 : k = 20
    · rw [if_neg (by omega), if_pos (by omega)]
    · rw [if_pos (by omega)]
  · rw [if_neg e1, if_neg (by omega), if_neg (by omega), hq.2.1 _ _ (by unfold evC; omega)]
    rfl
end HA1

/-! what was passed -/
section ZT0
variable {d n t C c : Nat} {K L : Nat → Nat} {I I0 J J0 J1 J2 : Nat → Nat → Int32} {R : Nat → Nat → Nat} {P : Option Value → AH → Prop}
variable {Y Z W : Nat → Nat → Int32} {b n' t' c' : Nat} {K' L' : Nat → Nat} {R' : Nat → Nat → Nat}
def eP (C x j : Nat) : Prop := (x = C + 22 ∧ j = 7) ∨ x = C + 24 ∨ (x = C + 44 ∧ j = 61) ∨ x = C + 44 + 39
def dP (C : Nat) (I J : Nat → Nat → Int32) : Prop := ∀ x j, eP C x j → J x j = I x j
/-- what was passed is alike -/
def psP (C : Nat) (J : Nat → Nat → Int32) : Prop := J (C + 22) 7 = J (C + 44) 61 ∧ ∀ j, j < (J (C + 44) 61).toNatClampNeg → J (C + 24) j = J (C + 44 + 39) j
theorem ps_d (h : psP C I) (w : dP C I J) : psP C J := by
  unfold psP
  rw [w (C + 22) 7 (by unfold eP; omega), w (C + 44) 61 (by unfold eP; omega)]
  refine ⟨h.1, fun j hj => ?_⟩
  rw [w (C + 24) j (by unfold eP; omega), w (C + 44 + 39) j (by unfold eP; omega)]
  exact h.2 j hj
theorem eP_D {x j : Nat} (h : eP C x j) : eD9 C K x j := by
  rcases h with h | h | h | h
  · exact Or.inr (Or.inl h)
  · exact Or.inr (Or.inr h)
  · exact Or.inl (Or.inr (Or.inl ⟨by omega, by omega⟩))
  · exact Or.inl (Or.inr (Or.inl ⟨by omega, by omega⟩))
theorem eP_C {x j : Nat} (h : eP C x j) : eC9 (C + 44) x j := by
  rcases h with h | h | h | h
  · exact Or.inl (Or.inl (by omega))
  · exact Or.inl (Or.inl (by omega))
  · exact Or.inr (Or.inl h)
  · exact Or.inr (Or.inr h)
/-- a call of the class leaves what was passed -/
def cF (C : Nat) (J : Nat → Nat → Int32) (h' : AH) : Prop := ∃ n2 t2 K2 L2 J2 R2, h' = (n2 + 1, t2, K2, L2, J2, R2) ∧ dP C J J2
theorem cf_Z {J0 : Nat → Nat → Int32} (z : cZ9 C c' (n + 1) K L J R (n' + 1) t' K' L' J0 R') : cF C J (n' + 1, t', K', L', J0, R') := ⟨_, _, _, _, _, _, rfl, fun x j p => z.2.2.2.2.2.2 x j (eP_D p) (by have := z.1; unfold eP at p; omega)⟩
theorem cf_J {J0 : Nat → Nat → Int32} (hJ : ∀ x j, eP C x j → J0 x j = J x j) : cF C J (n + 1, t, K, L, J0, R) := ⟨_, _, _, _, _, _, rfl, hJ⟩
/-- and of the reference -/
def rPs (C n t : Nat) (K L : Nat → Nat) (R : Nat → Nat → Nat) (J : Nat → Nat → Int32) (h' : AH) : Prop := ∃ J3, h' = (n + 1, t, K, L, J3, R) ∧ dP C J J3
theorem rf_J {J0 : Nat → Nat → Int32} (hJ : ∀ x j, eP C x j → J0 x j = J x j) : rPs C n t K L R J (n + 1, t, K, L, J0, R) := ⟨_, rfl, hJ⟩
theorem rf_F {J0 : Nat → Nat → Int32} (g : mF9 (C + 44) c' J J0) : rPs C n t K L R J (n + 1, t, K, L, J0, R) := ⟨_, rfl, fun x j p => g.1.2 x j (eP_C p)⟩
theorem rf_Q {J0 : Nat → Nat → Int32} (g : mQ (C + 44) J J0) : rPs C n t K L R J (n + 1, t, K, L, J0, R) := ⟨_, rfl, fun x j p => g.2 x j (by unfold eP at p; unfold sC; omega) (by unfold eP at p; omega)⟩
theorem cdp_gen {D mid : Nat} {as : List Value} {Q : Int32 → Nat → Nat → (Nat → Nat) → (Nat → Nat) → (Nat → Nat → Int32) → (Nat → Nat → Nat) → Prop} (A : a_does D mid as (n + 1, t, K, L, J, R) (fun r h' => ∃ v n2 t2 K2 L2 J2 R2, r = some (.int v) ∧ h' = (n2 + 1, t2, K2, L2, J2, R2) ∧ Q v n2 t2 K2 L2 J2 R2)) (B : a_does D mid as (n + 1, t, K, L, J, R) (fun _ h' => cF C J h')) (hP : ∀ v n2 t2 K2 L2 J2 R2, Q v n2 t2 K2 L2 J2 R2 → dP C J J2 → P (some (.int v)) (n2 + 1, t2, K2, L2, J2, R2)) : a_does D mid as (n + 1, t, K, L, J, R) P := by
  refine does_mono (does_and A B) (fun r h' q => ?_)
  obtain ⟨⟨v, n2, t2, K2, L2, J2, R2, e1, e2, g⟩, m2, s2, K3, L3, J3, R3, e3, w⟩ := q
  rw [e2] at e3
  simp only [Prod.mk.injEq, Nat.add_right_cancel_iff] at e3
  obtain ⟨i1, i2, i3, i4, i5, i6⟩ := e3
  subst i1 i2 i3 i4 i5 i6
  rw [e1, e2]
  exact hP v _ _ _ _ _ _ g w
theorem rdp_gen {D mid : Nat} {as : List Value} {Q : Int32 → (Nat → Nat → Int32) → Prop} (A : a_does D mid as (n + 1, t, K, L, J, R) (fun r h' => ∃ v J3, r = some (.int v) ∧ h' = (n + 1, t, K, L, J3, R) ∧ Q v J3)) (B : a_does D mid as (n + 1, t, K, L, J, R) (fun _ h' => rPs C n t K L R J h')) (hP : ∀ v J3, Q v J3 → dP C J J3 → P (some (.int v)) (n + 1, t, K, L, J3, R)) : a_does D mid as (n + 1, t, K, L, J, R) P := by
  refine does_mono (does_and A B) (fun r h' q => ?_)
  obtain ⟨⟨v, J3, e1, e2, g⟩, J4, e3, w⟩ := q
  rw [e2] at e3
  simp only [Prod.mk.injEq, true_and, and_true] at e3
  subst e3
  rw [e1, e2]
  exact hP v _ g w
theorem cf_hours {u1 : Int32} (hH : cH C c (n + 1) t K L J R) : a_does 700 9 [a_rf C, .int u1] (n + 1, t, K, L, J, R) (fun _ h' => cF C J h') := by
  have hC := hH.2.2.1
  exact ke_hours9 hH (fun _ _ z => cf_Z z) (fun _ _ _ z => cf_Z z) (fun _ _ _ => cf_J (fun x j hx => by rw [ui_ap, if_neg (by unfold eP at hx; omega)]))
theorem rf_hours {u1 : Int32} (hS : m_S (C + 44) K L R) (hR : mR (C + 44) J) (hE : mE (C + 44) (120 * c) J) (hc : 120 * c + 130 ≤ 84000) : a_does 700 170 [a_rf (C + 44), .int u1] (n + 1, t, K, L, J, R) (fun _ h' => rPs C n t K L R J h') := by
  exact pe_hours hS (fun _ => rf_J (fun x j hx => by rw [ui_ap, if_neg (by unfold eP at hx; omega)])) (fun _ _ => rf_J (fun x j hx => by rw [ui_ap, if_neg (by unfold eP at hx; omega)])) (fun _ _ => rf_J (fun x j hx => by rw [ui_ap, if_neg (by unfold eP at hx; omega)]))
theorem cdp_hours {u1 : Int32} (hb : b < C) (h : lawI b C c n t K L J R) (hP : ∀ v n2 t2 K2 L2 J2 R2, aNx b C c n2 t2 K2 L2 J2 R2 (yv (C + 44) J) (hrY (yv (C + 44) J) u1) → dP C J J2 → P (some (.int v)) (n2 + 1, t2, K2, L2, J2, R2)) : a_does 700 9 [a_rf C, .int u1] (n + 1, t, K, L, J, R) P := by
  exact cdp_gen (C := C) (J := J) (Q := fun v n2 t2 K2 L2 J2 R2 => aNx b C c n2 t2 K2 L2 J2 R2 (yv (C + 44) J) (hrY (yv (C + 44) J) u1)) (cd_hours hb h (fun v n2 t2 K2 L2 J2 R2 hx => ⟨v, n2, t2, K2, L2, J2, R2, rfl, rfl, hx⟩)) (cf_hours h.1) (fun v n2 t2 K2 L2 J2 R2 q w => hP _ _ _ _ _ _ _ q w)
theorem rdp_hours {u1 : Int32} (hx : aNx b C c n t K L J R Y (hrY Y u1)) (hc : 120 * c + 130 ≤ 84000) (hP : ∀ v J3, lawI b C (c + 1) n t K L J3 R → dP C J J3 → P (some (.int v)) (n + 1, t, K, L, J3, R)) : a_does 700 170 [a_rf (C + 44), .int u1] (n + 1, t, K, L, J, R) P := by
  exact rdp_gen (C := C) (J := J) (Q := fun w J3 => lawI b C (c + 1) n t K L J3 R) (rd_hours hx hc (fun v J3 hI => ⟨v, J3, rfl, rfl, hI⟩)) (rf_hours hx.1.2.1 hx.1.2.2.1 hx.1.2.2.2.1 hc) (fun w J3 q d => hP _ _ q d)
theorem cf_mode {u1 u2 u3 : Int32} (hH : cH C c (n + 1) t K L J R) : a_does 700 11 [a_rf C, .int u1, .int u2, .int u3] (n + 1, t, K, L, J, R) (fun _ h' => cF C J h') := by
  have hC := hH.2.2.1
  exact ke_mode9 hH (fun _ _ z => cf_Z z) (fun _ _ _ z => cf_Z z) (fun _ _ _ _ f _ => cf_J (fun x j hx => f x j (by unfold eP at hx; omega)))
theorem rf_mode {u1 u2 u3 : Int32} (hS : m_S (C + 44) K L R) (hR : mR (C + 44) J) (hE : mE (C + 44) (120 * c) J) (hc : 120 * c + 130 ≤ 84000) : a_does 700 172 [a_rf (C + 44), .int u1, .int u2, .int u3] (n + 1, t, K, L, J, R) (fun _ h' => rPs C n t K L R J h') := by
  exact pe_mode hS (fun _ => rf_J (fun x j hx => by rw [ui_ap, if_neg (by unfold eP at hx; omega)])) (fun _ _ => rf_J (fun x j hx => by rw [ui_ap, if_neg (by unfold eP at hx; omega)])) (fun _ _ _ f _ => rf_J (fun x j hx => f x j (by unfold eP at hx; omega)))
theorem cdp_mode {u1 u2 u3 : Int32} (hb : b < C) (h : lawI b C c n t K L J R) (hP : ∀ v n2 t2 K2 L2 J2 R2, aNx b C c n2 t2 K2 L2 J2 R2 (yv (C + 44) J) (mdY (yv (C + 44) J) u1 u2 u3) → dP C J J2 → P (some (.int v)) (n2 + 1, t2, K2, L2, J2, R2)) : a_does 700 11 [a_rf C, .int u1, .int u2, .int u3] (n + 1, t, K, L, J, R) P := by
  exact cdp_gen (C := C) (J := J) (Q := fun v n2 t2 K2 L2 J2 R2 => aNx b C c n2 t2 K2 L2 J2 R2 (yv (C + 44) J) (mdY (yv (C + 44) J) u1 u2 u3)) (cd_mode hb h (fun v n2 t2 K2 L2 J2 R2 hx => ⟨v, n2, t2, K2, L2, J2, R2, rfl, rfl, hx⟩)) (cf_mode h.1) (fun v n2 t2 K2 L2 J2 R2 q w => hP _ _ _ _ _ _ _ q w)
theorem rdp_mode {u1 u2 u3 : Int32} (hx : aNx b C c n t K L J R Y (mdY Y u1 u2 u3)) (hc : 120 * c + 130 ≤ 84000) (hP : ∀ v J3, lawI b C (c + 1) n t K L J3 R → dP C J J3 → P (some (.int v)) (n + 1, t, K, L, J3, R)) : a_does 700 172 [a_rf (C + 44), .int u1, .int u2, .int u3] (n + 1, t, K, L, J, R) P := by
  exact rdp_gen (C := C) (J := J) (Q := fun w J3 => lawI b C (c + 1) n t K L J3 R) (rd_mode hx hc (fun v J3 hI => ⟨v, J3, rfl, rfl, hI⟩)) (rf_mode hx.1.2.1 hx.1.2.2.1 hx.1.2.2.2.1 hc) (fun w J3 q d => hP _ _ q d)
theorem cf_trip {u1 u2 : Int32} (hH : cH C c (n + 1) t K L J R) : a_does 700 15 [a_rf C, .int u1, .int u2] (n + 1, t, K, L, J, R) (fun _ h' => cF C J h') := by
  have hC := hH.2.2.1
  exact ke_trip9 hH (fun _ _ z => cf_Z z) (fun _ _ _ z => cf_Z z) (fun _ _ _ _ f => cf_J (fun x j hx => (f x j (by unfold eP at hx; omega)).trans (by unfold tX; rw [ui_ap, if_neg (by unfold eP at hx; omega), ui_ap, if_neg (by unfold eP at hx; omega), ui_ap, if_neg (by unfold eP at hx; omega), ui_ap, if_neg (by unfold eP at hx; omega)])))
theorem rf_trip {u1 u2 : Int32} (hS : m_S (C + 44) K L R) (hR : mR (C + 44) J) (hE : mE (C + 44) (120 * c) J) (hc : 120 * c + 130 ≤ 84000) : a_does 700 175 [a_rf (C + 44), .int u1, .int u2] (n + 1, t, K, L, J, R) (fun _ h' => rPs C n t K L R J h') := by
  exact pe_trip hS (rg_trips hR) (fun _ => rf_J (fun x j hx => by rw [ui_ap, if_neg (by unfold eP at hx; omega)])) (fun _ _ => rf_J (fun x j hx => by rw [ui_ap, if_neg (by unfold eP at hx; omega)])) (fun _ _ => rf_J (fun x j hx => by rw [ui_ap, if_neg (by unfold eP at hx; omega), ui_ap, if_neg (by unfold eP at hx; omega), ui_ap, if_neg (by unfold eP at hx; omega), ui_ap, if_neg (by unfold eP at hx; omega)]))
theorem cdp_trip {u1 u2 : Int32} (hb : b < C) (h : lawI b C c n t K L J R) (hP : ∀ v n2 t2 K2 L2 J2 R2, aNx b C c n2 t2 K2 L2 J2 R2 (yv (C + 44) J) (tpY (yv (C + 44) J) u1 u2) → dP C J J2 → P (some (.int v)) (n2 + 1, t2, K2, L2, J2, R2)) : a_does 700 15 [a_rf C, .int u1, .int u2] (n + 1, t, K, L, J, R) P := by
  exact cdp_gen (C := C) (J := J) (Q := fun v n2 t2 K2 L2 J2 R2 => aNx b C c n2 t2 K2 L2 J2 R2 (yv (C + 44) J) (tpY (yv (C + 44) J) u1 u2)) (cd_trip hb h (fun v n2 t2 K2 L2 J2 R2 hx => ⟨v, n2, t2, K2, L2, J2, R2, rfl, rfl, hx⟩)) (cf_trip h.1) (fun v n2 t2 K2 L2 J2 R2 q w => hP _ _ _ _ _ _ _ q w)
theorem rdp_trip {u1 u2 : Int32} (hx : aNx b C c n t K L J R Y (tpY Y u1 u2)) (hc : 120 * c + 130 ≤ 84000) (hP : ∀ v J3, lawI b C (c + 1) n t K L J3 R → dP C J J3 → P (some (.int v)) (n + 1, t, K, L, J3, R)) : a_does 700 175 [a_rf (C + 44), .int u1, .int u2] (n + 1, t, K, L, J, R) P := by
  exact rdp_gen (C := C) (J := J) (Q := fun w J3 => lawI b C (c + 1) n t K L J3 R) (rd_trip hx hc (fun v J3 hI => ⟨v, J3, rfl, rfl, hI⟩)) (rf_trip hx.1.2.1 hx.1.2.2.1 hx.1.2.2.2.1 hc) (fun w J3 q d => hP _ _ q d)
theorem cf_shiftOf {u1 u2 u3 : Int32} (hH : cH C c (n + 1) t K L J R) : a_does 700 17 [a_rf C, .int u1, .int u2, .int u3] (n + 1, t, K, L, J, R) (fun _ h' => cF C J h') := by
  exact cu_shiftOf9 hH (fun _ _ _ _ _ _ _ z => cf_Z z)
theorem rf_shiftOf {u1 u2 u3 : Int32} (hS : m_S (C + 44) K L R) (hR : mR (C + 44) J) (hE : mE (C + 44) (120 * c) J) (hc : 120 * c + 130 ≤ 84000) : a_does 700 176 [a_rf (C + 44), .int u1, .int u2, .int u3] (n + 1, t, K, L, J, R) (fun _ h' => rPs C n t K L R J h') := by
  exact xq_shiftOf hS hR (fun _ _ q => rf_Q q)
theorem cdp_shiftOf {u1 u2 u3 : Int32} (hb : b < C) (h : lawI b C c n t K L J R) (hP : ∀ v n2 t2 K2 L2 J2 R2, aNx b C c n2 t2 K2 L2 J2 R2 (yv (C + 44) J) ((yv (C + 44) J)) → dP C J J2 → P (some (.int v)) (n2 + 1, t2, K2, L2, J2, R2)) : a_does 700 17 [a_rf C, .int u1, .int u2, .int u3] (n + 1, t, K, L, J, R) P := by
  exact cdp_gen (C := C) (J := J) (Q := fun v n2 t2 K2 L2 J2 R2 => aNx b C c n2 t2 K2 L2 J2 R2 (yv (C + 44) J) ((yv (C + 44) J))) (cd_shiftOf hb h (fun v n2 t2 K2 L2 J2 R2 hx => ⟨v, n2, t2, K2, L2, J2, R2, rfl, rfl, hx⟩)) (cf_shiftOf h.1) (fun v n2 t2 K2 L2 J2 R2 q w => hP _ _ _ _ _ _ _ q w)
theorem rdp_shiftOf {u1 u2 u3 : Int32} (hx : aNx b C c n t K L J R Y (Y)) (hc : 120 * c + 130 ≤ 84000) (hP : ∀ v J3, lawI b C (c + 1) n t K L J3 R → dP C J J3 → P (some (.int v)) (n + 1, t, K, L, J3, R)) : a_does 700 176 [a_rf (C + 44), .int u1, .int u2, .int u3] (n + 1, t, K, L, J, R) P := by
  exact rdp_gen (C := C) (J := J) (Q := fun w J3 => lawI b C (c + 1) n t K L J3 R) (rd_shiftOf hx hc (fun v J3 hI => ⟨v, J3, rfl, rfl, hI⟩)) (rf_shiftOf hx.1.2.1 hx.1.2.2.1 hx.1.2.2.2.1 hc) (fun w J3 q d => hP _ _ q d)
theorem cf_bench {u1 u2 : Int32} (hH : cH C c (n + 1) t K L J R) : a_does 700 20 [a_rf C, .int u1, .int u2] (n + 1, t, K, L, J, R) (fun _ h' => cF C J h') := by
  have hC := hH.2.2.1
  exact ke_bench9 hH (fun _ _ z => cf_Z z) (fun _ _ _ z => cf_Z z) (fun _ _ t' K' L' J' R' g w => ⟨n + 5, t', K', L', J', R', rfl, fun x j hx => (w.2.2.2.2 x j (eP_D hx) (by unfold eP at hx; omega)).trans (by rw [ui_ap, if_neg (by unfold eP at hx; omega)])⟩)
theorem rf_bench {u1 u2 : Int32} (hS : m_S (C + 44) K L R) (hR : mR (C + 44) J) (hE : mE (C + 44) (120 * c) J) (hc : 120 * c + 130 ≤ 84000) : a_does 700 178 [a_rf (C + 44), .int u1, .int u2] (n + 1, t, K, L, J, R) (fun _ h' => rPs C n t K L R J h') := by
  exact pe_bench hS (rg_benches hR) (fun _ => rf_J (fun x j hx => by rw [ui_ap, if_neg (by unfold eP at hx; omega)])) (fun _ _ => rf_J (fun x j hx => by rw [ui_ap, if_neg (by unfold eP at hx; omega)])) (fun _ _ => rf_J (fun x j hx => by rw [ui_ap, if_neg (by unfold eP at hx; omega), ui_ap, if_neg (by unfold eP at hx; omega), ui_ap, if_neg (by unfold eP at hx; omega)]))
theorem cdp_bench {u1 u2 : Int32} (hb : b < C) (h : lawI b C c n t K L J R) (hP : ∀ v n2 t2 K2 L2 J2 R2, aNx b C c n2 t2 K2 L2 J2 R2 (yv (C + 44) J) (bnY (yv (C + 44) J) u1 u2) → dP C J J2 → P (some (.int v)) (n2 + 1, t2, K2, L2, J2, R2)) : a_does 700 20 [a_rf C, .int u1, .int u2] (n + 1, t, K, L, J, R) P := by
  exact cdp_gen (C := C) (J := J) (Q := fun v n2 t2 K2 L2 J2 R2 => aNx b C c n2 t2 K2 L2 J2 R2 (yv (C + 44) J) (bnY (yv (C + 44) J) u1 u2)) (cd_bench hb h (fun v n2 t2 K2 L2 J2 R2 hx => ⟨v, n2, t2, K2, L2, J2, R2, rfl, rfl, hx⟩)) (cf_bench h.1) (fun v n2 t2 K2 L2 J2 R2 q w => hP _ _ _ _ _ _ _ q w)
theorem rdp_bench {u1 u2 : Int32} (hx : aNx b C c n t K L J R Y (bnY Y u1 u2)) (hc : 120 * c + 130 ≤ 84000) (hP : ∀ v J3, lawI b C (c + 1) n t K L J3 R → dP C J J3 → P (some (.int v)) (n + 1, t, K, L, J3, R)) : a_does 700 178 [a_rf (C + 44), .int u1, .int u2] (n + 1, t, K, L, J, R) P := by
  exact rdp_gen (C := C) (J := J) (Q := fun w J3 => lawI b C (c + 1) n t K L J3 R) (rd_bench hx hc (fun v J3 hI => ⟨v, J3, rfl, rfl, hI⟩)) (rf_bench hx.1.2.1 hx.1.2.2.1 hx.1.2.2.2.1 hc) (fun w J3 q d => hP _ _ q d)
theorem cf_set {u1 u2 : Int32} (hH : cH C c (n + 1) t K L J R) : a_does 700 23 [a_rf C, .int u1, .int u2] (n + 1, t, K, L, J, R) (fun _ h' => cF C J h') := by
  have hC := hH.2.2.1
  exact ke_set9 hH (fun _ _ z => cf_Z z) (fun _ _ _ z => cf_Z z) (fun _ _ _ _ z => cf_Z z) (fun _ _ _ _ => cf_J (fun x j hx => by rw [ui_ap, if_neg (by unfold eP at hx; omega)])) (fun _ _ _ _ => cf_J (fun x j hx => by rw [ui_ap, if_neg (by unfold eP at hx; omega)])) (fun _ _ _ _ w => cf_J (fun x j hx => (w.2 x j (eP_D hx)).trans (by rw [ui_ap, if_neg (by unfold eP at hx; omega)])))
theorem rf_set {u1 u2 : Int32} (hS : m_S (C + 44) K L R) (hR : mR (C + 44) J) (hE : mE (C + 44) (120 * c) J) (hc : 120 * c + 130 ≤ 84000) : a_does 700 179 [a_rf (C + 44), .int u1, .int u2] (n + 1, t, K, L, J, R) (fun _ h' => rPs C n t K L R J h') := by
  exact pe_set hS (fun _ => rf_J (fun x j hx => by rw [ui_ap, if_neg (by unfold eP at hx; omega)])) (fun _ _ => rf_J (fun x j hx => by rw [ui_ap, if_neg (by unfold eP at hx; omega)])) (fun _ _ _ => rf_J (fun x j hx => by rw [ui_ap, if_neg (by unfold eP at hx; omega)])) (fun _ _ _ => rf_J (fun x j hx => by rw [ui_ap, if_neg (by unfold eP at hx; omega), ui_ap, if_neg (by unfold eP at hx; omega), ui_ap, if_neg (by unfold eP at hx; omega)])) (fun _ _ _ => rf_J (fun x j hx => by rw [ui_ap, if_neg (by unfold eP at hx; omega), ui_ap, if_neg (by unfold eP at hx; omega), ui_ap, if_neg (by unfold eP at hx; omega)])) (fun _ _ _ => rf_J (fun x j hx => by rw [ui_ap, if_neg (by unfold eP at hx; omega), ui_ap, if_neg (by unfold eP at hx; omega), ui_ap, if_neg (by unfold eP at hx; omega)]))
theorem cdp_set {u1 u2 : Int32} (hb : b < C) (h : lawI b C c n t K L J R) (hP : ∀ v n2 t2 K2 L2 J2 R2, aNx b C c n2 t2 K2 L2 J2 R2 (yv (C + 44) J) (seY (yv (C + 44) J) u1 u2) → dP C J J2 → P (some (.int v)) (n2 + 1, t2, K2, L2, J2, R2)) : a_does 700 23 [a_rf C, .int u1, .int u2] (n + 1, t, K, L, J, R) P := by
  exact cdp_gen (C := C) (J := J) (Q := fun v n2 t2 K2 L2 J2 R2 => aNx b C c n2 t2 K2 L2 J2 R2 (yv (C + 44) J) (seY (yv (C + 44) J) u1 u2)) (cd_set hb h (fun v n2 t2 K2 L2 J2 R2 hx => ⟨v, n2, t2, K2, L2, J2, R2, rfl, rfl, hx⟩)) (cf_set h.1) (fun v n2 t2 K2 L2 J2 R2 q w => hP _ _ _ _ _ _ _ q w)
theorem rdp_set {u1 u2 : Int32} (hx : aNx b C c n t K L J R Y (seY Y u1 u2)) (hc : 120 * c + 130 ≤ 84000) (hP : ∀ v J3, lawI b C (c + 1) n t K L J3 R → dP C J J3 → P (some (.int v)) (n + 1, t, K, L, J3, R)) : a_does 700 179 [a_rf (C + 44), .int u1, .int u2] (n + 1, t, K, L, J, R) P := by
  exact rdp_gen (C := C) (J := J) (Q := fun w J3 => lawI b C (c + 1) n t K L J3 R) (rd_set hx hc (fun v J3 hI => ⟨v, J3, rfl, rfl, hI⟩)) (rf_set hx.1.2.1 hx.1.2.2.1 hx.1.2.2.2.1 hc) (fun w J3 q d => hP _ _ q d)
theorem cf_draft {u1 u2 u3 u4 : Int32} (hH : cH C c (n + 1) t K L J R) : a_does 700 36 [a_rf C, .int u1, .int u2, .int u3, .int u4] (n + 1, t, K, L, J, R) (fun _ h' => cF C J h') := by
  exact cu_draft9 hH (fun _ _ _ _ _ _ _ z => cf_Z z)
theorem rf_draft {u1 u2 u3 u4 : Int32} (hS : m_S (C + 44) K L R) (hR : mR (C + 44) J) (hE : mE (C + 44) (120 * c) J) (hc : 120 * c + 130 ≤ 84000) : a_does 700 180 [a_rf (C + 44), .int u1, .int u2, .int u3, .int u4] (n + 1, t, K, L, J, R) (fun _ h' => rPs C n t K L R J h') := by
  exact pu_draft9 hS ⟨⟨hR, fun _ _ _ => rfl⟩, hE⟩ hc (fun _ _ g => rf_F g)
theorem cdp_draft {u1 u2 u3 u4 : Int32} (hb : b < C) (h : lawI b C c n t K L J R) (hP : ∀ v n2 t2 K2 L2 J2 R2, aNx b C c n2 t2 K2 L2 J2 R2 (yv (C + 44) J) (drY (yv (C + 44) J) u1 u2 u3 u4) → dP C J J2 → P (some (.int v)) (n2 + 1, t2, K2, L2, J2, R2)) : a_does 700 36 [a_rf C, .int u1, .int u2, .int u3, .int u4] (n + 1, t, K, L, J, R) P := by
  exact cdp_gen (C := C) (J := J) (Q := fun v n2 t2 K2 L2 J2 R2 => aNx b C c n2 t2 K2 L2 J2 R2 (yv (C + 44) J) (drY (yv (C + 44) J) u1 u2 u3 u4)) (cd_draft hb h (fun v n2 t2 K2 L2 J2 R2 hx => ⟨v, n2, t2, K2, L2, J2, R2, rfl, rfl, hx⟩)) (cf_draft h.1) (fun v n2 t2 K2 L2 J2 R2 q w => hP _ _ _ _ _ _ _ q w)
theorem rdp_draft {u1 u2 u3 u4 : Int32} (hx : aNx b C c n t K L J R Y (drY Y u1 u2 u3 u4)) (hc : 120 * c + 130 ≤ 84000) (hP : ∀ v J3, lawI b C (c + 1) n t K L J3 R → dP C J J3 → P (some (.int v)) (n + 1, t, K, L, J3, R)) : a_does 700 180 [a_rf (C + 44), .int u1, .int u2, .int u3, .int u4] (n + 1, t, K, L, J, R) P := by
  exact rdp_gen (C := C) (J := J) (Q := fun w J3 => lawI b C (c + 1) n t K L J3 R) (rd_draft hx hc (fun v J3 hI => ⟨v, J3, rfl, rfl, hI⟩)) (rf_draft hx.1.2.1 hx.1.2.2.1 hx.1.2.2.2.1 hc) (fun w J3 q d => hP _ _ q d)
theorem cf_ask {u1 u2 u3 u4 u5 u6 u7 : Int32} (hH : cH C c (n + 1) t K L J R) : a_does 700 38 [a_rf C, .int u1, .int u2, .int u3, .int u4, .int u5, .int u6, .int u7] (n + 1, t, K, L, J, R) (fun _ h' => cF C J h') := by
  exact cu_ask9 hH (fun _ _ _ _ _ _ _ z => cf_Z z)
theorem rf_ask {u1 u2 u3 u4 u5 u6 u7 : Int32} (hS : m_S (C + 44) K L R) (hR : mR (C + 44) J) (hE : mE (C + 44) (120 * c) J) (hc : 120 * c + 130 ≤ 84000) : a_does 700 181 [a_rf (C + 44), .int u1, .int u2, .int u3, .int u4, .int u5, .int u6, .int u7] (n + 1, t, K, L, J, R) (fun _ h' => rPs C n t K L R J h') := by
  exact pu_ask9 hS ⟨⟨hR, fun _ _ _ => rfl⟩, hE⟩ hc (fun _ _ g => rf_F g)
theorem cdp_ask {u1 u2 u3 u4 u5 u6 u7 : Int32} (hb : b < C) (h : lawI b C c n t K L J R) (hP : ∀ n2 t2 K2 L2 J2 R2, aNx b C c n2 t2 K2 L2 J2 R2 (yv (C + 44) J) ((akY (yv (C + 44) J) u1 u2 u3 u4 u5 u6 u7).2) → dP C J J2 → P (some (.int ((akY (yv (C + 44) J) u1 u2 u3 u4 u5 u6 u7).1))) (n2 + 1, t2, K2, L2, J2, R2)) : a_does 700 38 [a_rf C, .int u1, .int u2, .int u3, .int u4, .int u5, .int u6, .int u7] (n + 1, t, K, L, J, R) P := by
  exact cdp_gen (C := C) (J := J) (Q := fun v n2 t2 K2 L2 J2 R2 => v = (akY (yv (C + 44) J) u1 u2 u3 u4 u5 u6 u7).1 ∧ aNx b C c n2 t2 K2 L2 J2 R2 (yv (C + 44) J) ((akY (yv (C + 44) J) u1 u2 u3 u4 u5 u6 u7).2)) (cd_ask hb h (fun n2 t2 K2 L2 J2 R2 hx => ⟨_, n2, t2, K2, L2, J2, R2, rfl, rfl, rfl, hx⟩)) (cf_ask h.1) (fun v n2 t2 K2 L2 J2 R2 q w => by obtain ⟨rfl, hx⟩ := q; exact hP _ _ _ _ _ _ hx w)
theorem rdp_ask {u1 u2 u3 u4 u5 u6 u7 : Int32} (hx : aNx b C c n t K L J R Y ((akY Y u1 u2 u3 u4 u5 u6 u7).2)) (hc : 120 * c + 130 ≤ 84000) (hP : ∀ J3, lawI b C (c + 1) n t K L J3 R → dP C J J3 → P (some (.int ((akY Y u1 u2 u3 u4 u5 u6 u7).1))) (n + 1, t, K, L, J3, R)) : a_does 700 181 [a_rf (C + 44), .int u1, .int u2, .int u3, .int u4, .int u5, .int u6, .int u7] (n + 1, t, K, L, J, R) P := by
  exact rdp_gen (C := C) (J := J) (Q := fun w J3 => w = (akY Y u1 u2 u3 u4 u5 u6 u7).1 ∧ lawI b C (c + 1) n t K L J3 R) (rd_ask hx hc (fun J3 hI => ⟨_, J3, rfl, rfl, rfl, hI⟩)) (rf_ask hx.1.2.1 hx.1.2.2.1 hx.1.2.2.2.1 hc) (fun w J3 q d => by obtain ⟨rfl, hI⟩ := q; exact hP _ hI d)
theorem cf_withdraw {u1 : Int32} (hH : cH C c (n + 1) t K L J R) : a_does 700 44 [a_rf C, .int u1] (n + 1, t, K, L, J, R) (fun _ h' => cF C J h') := by
  exact cu_withdraw9 hH (fun _ _ _ _ _ _ _ z => cf_Z z)
theorem rf_withdraw {u1 : Int32} (hS : m_S (C + 44) K L R) (hR : mR (C + 44) J) (hE : mE (C + 44) (120 * c) J) (hc : 120 * c + 130 ≤ 84000) : a_does 700 184 [a_rf (C + 44), .int u1] (n + 1, t, K, L, J, R) (fun _ h' => rPs C n t K L R J h') := by
  exact pu_withdraw9 hS ⟨⟨hR, fun _ _ _ => rfl⟩, hE⟩ hc (fun _ _ g => rf_F g)
theorem cdp_withdraw {u1 : Int32} (hb : b < C) (h : lawI b C c n t K L J R) (hP : ∀ n2 t2 K2 L2 J2 R2, aNx b C c n2 t2 K2 L2 J2 R2 (yv (C + 44) J) ((wdY (yv (C + 44) J) u1).2) → dP C J J2 → P (some (.int ((wdY (yv (C + 44) J) u1).1))) (n2 + 1, t2, K2, L2, J2, R2)) : a_does 700 44 [a_rf C, .int u1] (n + 1, t, K, L, J, R) P := by
  exact cdp_gen (C := C) (J := J) (Q := fun v n2 t2 K2 L2 J2 R2 => v = (wdY (yv (C + 44) J) u1).1 ∧ aNx b C c n2 t2 K2 L2 J2 R2 (yv (C + 44) J) ((wdY (yv (C + 44) J) u1).2)) (cd_withdraw hb h (fun n2 t2 K2 L2 J2 R2 hx => ⟨_, n2, t2, K2, L2, J2, R2, rfl, rfl, rfl, hx⟩)) (cf_withdraw h.1) (fun v n2 t2 K2 L2 J2 R2 q w => by obtain ⟨rfl, hx⟩ := q; exact hP _ _ _ _ _ _ hx w)
theorem rdp_withdraw {u1 : Int32} (hx : aNx b C c n t K L J R Y ((wdY Y u1).2)) (hc : 120 * c + 130 ≤ 84000) (hP : ∀ J3, lawI b C (c + 1) n t K L J3 R → dP C J J3 → P (some (.int ((wdY Y u1).1))) (n + 1, t, K, L, J3, R)) : a_does 700 184 [a_rf (C + 44), .int u1] (n + 1, t, K, L, J, R) P := by
  exact rdp_gen (C := C) (J := J) (Q := fun w J3 => w = (wdY Y u1).1 ∧ lawI b C (c + 1) n t K L J3 R) (rd_withdraw hx hc (fun J3 hI => ⟨_, J3, rfl, rfl, rfl, hI⟩)) (rf_withdraw hx.1.2.1 hx.1.2.2.1 hx.1.2.2.2.1 hc) (fun w J3 q d => by obtain ⟨rfl, hI⟩ := q; exact hP _ hI d)
theorem cf_askOf {u1 u2 : Int32} (hH : cH C c (n + 1) t K L J R) : a_does 700 53 [a_rf C, .int u1, .int u2] (n + 1, t, K, L, J, R) (fun _ h' => cF C J h') := by
  exact cq_askOf hH (fun _ _ z => cf_J (fun x j hx => z.2 x j (by unfold eP at hx; omega) (by unfold eP at hx; omega) (by unfold eP at hx; omega)))
theorem rf_askOf {u1 u2 : Int32} (hS : m_S (C + 44) K L R) (hR : mR (C + 44) J) (hE : mE (C + 44) (120 * c) J) (hc : 120 * c + 130 ≤ 84000) : a_does 700 188 [a_rf (C + 44), .int u1, .int u2] (n + 1, t, K, L, J, R) (fun _ h' => rPs C n t K L R J h') := by
  exact xq_askOf hS hR (fun _ _ q => rf_Q q)
theorem cdp_askOf {u1 u2 : Int32} (hb : b < C) (h : lawI b C c n t K L J R) (hP : ∀ v n2 t2 K2 L2 J2 R2, aNx b C c n2 t2 K2 L2 J2 R2 (yv (C + 44) J) ((yv (C + 44) J)) → dP C J J2 → P (some (.int v)) (n2 + 1, t2, K2, L2, J2, R2)) : a_does 700 53 [a_rf C, .int u1, .int u2] (n + 1, t, K, L, J, R) P := by
  exact cdp_gen (C := C) (J := J) (Q := fun v n2 t2 K2 L2 J2 R2 => aNx b C c n2 t2 K2 L2 J2 R2 (yv (C + 44) J) ((yv (C + 44) J))) (cd_askOf hb h (fun v n2 t2 K2 L2 J2 R2 hx => ⟨v, n2, t2, K2, L2, J2, R2, rfl, rfl, hx⟩)) (cf_askOf h.1) (fun v n2 t2 K2 L2 J2 R2 q w => hP _ _ _ _ _ _ _ q w)
theorem rdp_askOf {u1 u2 : Int32} (hx : aNx b C c n t K L J R Y (Y)) (hc : 120 * c + 130 ≤ 84000) (hP : ∀ v J3, lawI b C (c + 1) n t K L J3 R → dP C J J3 → P (some (.int v)) (n + 1, t, K, L, J3, R)) : a_does 700 188 [a_rf (C + 44), .int u1, .int u2] (n + 1, t, K, L, J, R) P := by
  exact rdp_gen (C := C) (J := J) (Q := fun w J3 => lawI b C (c + 1) n t K L J3 R) (rd_askOf hx hc (fun v J3 hI => ⟨v, J3, rfl, rfl, hI⟩)) (rf_askOf hx.1.2.1 hx.1.2.2.1 hx.1.2.2.2.1 hc) (fun w J3 q d => hP _ _ q d)
theorem cf_feed {u1 : Int32} {u2 : Int64} (hH : cH C c (n + 1) t K L J R) : a_does 700 66 [a_rf C, .int u1, .long u2] (n + 1, t, K, L, J, R) (fun _ h' => cF C J h') := by
  have hC := hH.2.2.1
  exact ke_feed9 hH (fun _ _ z => cf_Z z) (fun _ _ _ z => cf_Z z) (fun _ _ _ _ f _ _ => cf_J (fun x j hx => f x j (by unfold eP at hx; omega) (by unfold eP at hx; omega)))
theorem rf_feed {u1 : Int32} {u2 : Int64} (hS : m_S (C + 44) K L R) (hR : mR (C + 44) J) (hE : mE (C + 44) (120 * c) J) (hc : 120 * c + 130 ≤ 84000) : a_does 700 200 [a_rf (C + 44), .int u1, .long u2] (n + 1, t, K, L, J, R) (fun _ h' => rPs C n t K L R J h') := by
  exact pe_feed hS hR (rg_tapeMany hR) (fun _ => rf_J (fun x j hx => by rw [ui_ap, if_neg (by unfold eP at hx; omega)])) (fun _ _ => rf_J (fun x j hx => by rw [ui_ap, if_neg (by unfold eP at hx; omega)])) (fun _ _ _ _ f _ _ => rf_J (fun x j hx => f x j (by unfold eP at hx; omega) (by unfold eP at hx; omega)))
theorem cdp_feed {u1 : Int32} {u2 : Int64} (hb : b < C) (h : lawI b C c n t K L J R) (hP : ∀ v n2 t2 K2 L2 J2 R2, aNx b C c n2 t2 K2 L2 J2 R2 (yv (C + 44) J) (feY (yv (C + 44) J) u1 u2) → dP C J J2 → P (some (.int v)) (n2 + 1, t2, K2, L2, J2, R2)) : a_does 700 66 [a_rf C, .int u1, .long u2] (n + 1, t, K, L, J, R) P := by
  exact cdp_gen (C := C) (J := J) (Q := fun v n2 t2 K2 L2 J2 R2 => aNx b C c n2 t2 K2 L2 J2 R2 (yv (C + 44) J) (feY (yv (C + 44) J) u1 u2)) (cd_feed hb h (fun v n2 t2 K2 L2 J2 R2 hx => ⟨v, n2, t2, K2, L2, J2, R2, rfl, rfl, hx⟩)) (cf_feed h.1) (fun v n2 t2 K2 L2 J2 R2 q w => hP _ _ _ _ _ _ _ q w)
theorem rdp_feed {u1 : Int32} {u2 : Int64} (hx : aNx b C c n t K L J R Y (feY Y u1 u2)) (hc : 120 * c + 130 ≤ 84000) (hP : ∀ v J3, lawI b C (c + 1) n t K L J3 R → dP C J J3 → P (some (.int v)) (n + 1, t, K, L, J3, R)) : a_does 700 200 [a_rf (C + 44), .int u1, .long u2] (n + 1, t, K, L, J, R) P := by
  exact rdp_gen (C := C) (J := J) (Q := fun w J3 => lawI b C (c + 1) n t K L J3 R) (rd_feed hx hc (fun v J3 hI => ⟨v, J3, rfl, rfl, hI⟩)) (rf_feed hx.1.2.1 hx.1.2.2.1 hx.1.2.2.2.1 hc) (fun w J3 q d => hP _ _ q d)
theorem cf_text {u1 : Int32} (hH : cH C c (n + 1) t K L J R) : a_does 700 68 [a_rf C, .int u1] (n + 1, t, K, L, J, R) (fun _ h' => cF C J h') := by
  have hC := hH.2.2.1
  exact ke_text9 hH (fun _ _ z => cf_Z z) (fun _ _ _ z => cf_Z z) (fun _ _ _ J' t1 g => cf_J (fun x j hx => by rw [ui_ap, if_neg (by unfold eP at hx; omega)]; exact t1.2 x j (by unfold eP at hx; omega) (by unfold eP at hx; omega))) (fun _ _ _ n' t' K' L' J' R' z _ _ _ _ _ => ⟨_, _, _, _, _, _, rfl, fun x j hx => by rw [ui_ap, if_neg (by unfold eP at hx; omega), ui_ap, if_neg (by unfold eP at hx; omega)]; exact z.2.2.2.2.2.2 x j (eP_D hx) (by unfold eP at hx; omega)⟩)
theorem rf_text {u1 : Int32} (hS : m_S (C + 44) K L R) (hR : mR (C + 44) J) (hE : mE (C + 44) (120 * c) J) (hc : 120 * c + 130 ≤ 84000) : a_does 700 201 [a_rf (C + 44), .int u1] (n + 1, t, K, L, J, R) (fun _ h' => rPs C n t K L R J h') := by
  have fx : ∀ (J0 : Nat → Nat → Int32), (∀ x j, ¬ sC (C + 44) x j → ¬ x = (C + 44 + 28) → ¬ x = (C + 44 + 29) → ¬ x = (C + 44 + 30) → ¬ x = (C + 44 + 31) → ¬ (x = (C + 44) ∧ (j = 40 ∨ j = 41)) → J0 x j = J x j) → ∀ x j, eP C x j → J0 x j = J x j := fun J0 f x j hx => f x j (by unfold eP at hx; unfold sC; omega) (by unfold eP at hx; omega) (by unfold eP at hx; omega) (by unfold eP at hx; omega) (by unfold eP at hx; omega) (by unfold eP at hx; omega)
  exact pe_text hS hR (fun _ => rf_J (fun x j hx => by rw [ui_ap, if_neg (by unfold eP at hx; omega)])) (fun _ _ => rf_J (fun x j hx => by rw [ui_ap, if_neg (by unfold eP at hx; omega)])) (fun _ _ _ J3 _ f _ _ _ => rf_J (fx J3 f)) (fun _ _ _ J3 _ f _ _ _ _ _ _ => rf_J (fx J3 f))
theorem cdp_text {u1 : Int32} (hb : b < C) (h : lawI b C c n t K L J R) (hP : ∀ v n2 t2 K2 L2 J2 R2, aNx b C c n2 t2 K2 L2 J2 R2 (yv (C + 44) J) (txY (yv (C + 44) J) u1) → dP C J J2 → P (some (.int v)) (n2 + 1, t2, K2, L2, J2, R2)) : a_does 700 68 [a_rf C, .int u1] (n + 1, t, K, L, J, R) P := by
  exact cdp_gen (C := C) (J := J) (Q := fun v n2 t2 K2 L2 J2 R2 => aNx b C c n2 t2 K2 L2 J2 R2 (yv (C + 44) J) (txY (yv (C + 44) J) u1)) (cd_text hb h (fun v n2 t2 K2 L2 J2 R2 hx => ⟨v, n2, t2, K2, L2, J2, R2, rfl, rfl, hx⟩)) (cf_text h.1) (fun v n2 t2 K2 L2 J2 R2 q w => hP _ _ _ _ _ _ _ q w)
theorem rdp_text {u1 : Int32} (hx : aNx b C c n t K L J R Y (txY Y u1)) (hc : 120 * c + 130 ≤ 84000) (hP : ∀ v J3, lawI b C (c + 1) n t K L J3 R → dP C J J3 → P (some (.int v)) (n + 1, t, K, L, J3, R)) : a_does 700 201 [a_rf (C + 44), .int u1] (n + 1, t, K, L, J, R) P := by
  exact rdp_gen (C := C) (J := J) (Q := fun w J3 => lawI b C (c + 1) n t K L J3 R) (rd_text hx hc (fun v J3 hI => ⟨v, J3, rfl, rfl, hI⟩)) (rf_text hx.1.2.1 hx.1.2.2.1 hx.1.2.2.2.1 hc) (fun w J3 q d => hP _ _ q d)
theorem cf_strike {u1 u2 : Int32} (hH : cH C c (n + 1) t K L J R) (hx : 0 ≤ u1 → u1 < J (C + 7) 3 → C + 96 < R (C + 8) u1.toNatClampNeg ∧ ¬ R (C + 8) u1.toNatClampNeg = 0) : a_does 700 84 [a_rf C, .int u1, .int u2] (n + 1, t, K, L, J, R) (fun _ h' => cF C J h') := by
  have hC := hH.2.2.1
  exact ke_strike9 hH (fun x0 x1 => (hx x0 x1).2) (fun _ _ z => cf_Z z) (fun _ _ _ z => cf_Z z) (fun q _ _ => cf_J (fun y j hy => by have := (hx q.1.1 q.1.2).1; rw [ui_ap, if_neg (by unfold eP at hy; omega), ui_ap, if_neg (by unfold eP at hy; omega)]))
theorem rf_strike {u1 u2 : Int32} (hS : m_S (C + 44) K L R) (hR : mR (C + 44) J) (hE : mE (C + 44) (120 * c) J) (hc : 120 * c + 130 ≤ 84000) : a_does 700 207 [a_rf (C + 44), .int u1, .int u2] (n + 1, t, K, L, J, R) (fun _ h' => rPs C n t K L R J h') := by
  exact pe_strike hS hR (fun _ => rf_J (fun x j hx => by rw [ui_ap, if_neg (by unfold eP at hx; omega)])) (fun _ _ => rf_J (fun x j hx => by rw [ui_ap, if_neg (by unfold eP at hx; omega)])) (fun _ _ => rf_J (fun x j hx => by rw [ui_ap, if_neg (by unfold eP at hx; omega)]))
theorem cdp_strike {u1 u2 : Int32} (hb : b < C) (h : lawI b C c n t K L J R) (hP : ∀ n2 t2 K2 L2 J2 R2, aNx b C c n2 t2 K2 L2 J2 R2 (yv (C + 44) J) ((skY (yv (C + 44) J) u1 u2).2) → dP C J J2 → P (some (.int ((skY (yv (C + 44) J) u1 u2).1))) (n2 + 1, t2, K2, L2, J2, R2)) : a_does 700 84 [a_rf C, .int u1, .int u2] (n + 1, t, K, L, J, R) P := by
  have hu := h.2.2.2.2.2.1
  have hx : 0 ≤ u1 → u1 < J (C + 7) 3 → C + 96 < R (C + 8) u1.toNatClampNeg ∧ ¬ R (C + 8) u1.toNatClampNeg = 0 := fun x0 x1 => by
    rw [hu.1.2.2.2.1.1] at x1
    have q := hu.1.2.2.2.1.2 u1 x0 x1
    exact ⟨(h.1.1.g_txt _ q.1).1, q.2.1⟩
  exact cdp_gen (C := C) (J := J) (Q := fun v n2 t2 K2 L2 J2 R2 => v = (skY (yv (C + 44) J) u1 u2).1 ∧ aNx b C c n2 t2 K2 L2 J2 R2 (yv (C + 44) J) ((skY (yv (C + 44) J) u1 u2).2)) (cd_strike hb h (fun n2 t2 K2 L2 J2 R2 hx => ⟨_, n2, t2, K2, L2, J2, R2, rfl, rfl, rfl, hx⟩)) (cf_strike h.1 hx) (fun v n2 t2 K2 L2 J2 R2 q w => by obtain ⟨rfl, hx⟩ := q; exact hP _ _ _ _ _ _ hx w)
theorem rdp_strike {u1 u2 : Int32} (hx : aNx b C c n t K L J R Y ((skY Y u1 u2).2)) (hc : 120 * c + 130 ≤ 84000) (hP : ∀ J3, lawI b C (c + 1) n t K L J3 R → dP C J J3 → P (some (.int ((skY Y u1 u2).1))) (n + 1, t, K, L, J3, R)) : a_does 700 207 [a_rf (C + 44), .int u1, .int u2] (n + 1, t, K, L, J, R) P := by
  exact rdp_gen (C := C) (J := J) (Q := fun w J3 => w = (skY Y u1 u2).1 ∧ lawI b C (c + 1) n t K L J3 R) (rd_strike hx hc (fun J3 hI => ⟨_, J3, rfl, rfl, rfl, hI⟩)) (rf_strike hx.1.2.1 hx.1.2.2.1 hx.1.2.2.2.1 hc) (fun w J3 q d => by obtain ⟨rfl, hI⟩ := q; exact hP _ hI d)
theorem cf_barred {u1 u2 u3 u4 : Int32} (hH : cH C c (n + 1) t K L J R) : a_does 700 85 [a_rf C, .int u1, .int u2, .int u3, .int u4] (n + 1, t, K, L, J, R) (fun _ h' => cF C J h') := by
  exact cq_barred hH (fun _ _ z => cf_J (fun x j hx => z.2 x j (by unfold eP at hx; omega) (by unfold eP at hx; omega) (by unfold eP at hx; omega)))
theorem rf_barred {u1 u2 u3 u4 : Int32} (hS : m_S (C + 44) K L R) (hR : mR (C + 44) J) (hE : mE (C + 44) (120 * c) J) (hc : 120 * c + 130 ≤ 84000) : a_does 700 208 [a_rf (C + 44), .int u1, .int u2, .int u3, .int u4] (n + 1, t, K, L, J, R) (fun _ h' => rPs C n t K L R J h') := by
  exact xq_barred hS hR (fun _ _ q => rf_Q q)
theorem cdp_barred {u1 u2 u3 u4 : Int32} (hb : b < C) (h : lawI b C c n t K L J R) (hP : ∀ v n2 t2 K2 L2 J2 R2, aNx b C c n2 t2 K2 L2 J2 R2 (yv (C + 44) J) ((yv (C + 44) J)) → dP C J J2 → P (some (.int v)) (n2 + 1, t2, K2, L2, J2, R2)) : a_does 700 85 [a_rf C, .int u1, .int u2, .int u3, .int u4] (n + 1, t, K, L, J, R) P := by
  exact cdp_gen (C := C) (J := J) (Q := fun v n2 t2 K2 L2 J2 R2 => aNx b C c n2 t2 K2 L2 J2 R2 (yv (C + 44) J) ((yv (C + 44) J))) (cd_barred hb h (fun v n2 t2 K2 L2 J2 R2 hx => ⟨v, n2, t2, K2, L2, J2, R2, rfl, rfl, hx⟩)) (cf_barred h.1) (fun v n2 t2 K2 L2 J2 R2 q w => hP _ _ _ _ _ _ _ q w)
theorem rdp_barred {u1 u2 u3 u4 : Int32} (hx : aNx b C c n t K L J R Y (Y)) (hc : 120 * c + 130 ≤ 84000) (hP : ∀ v J3, lawI b C (c + 1) n t K L J3 R → dP C J J3 → P (some (.int v)) (n + 1, t, K, L, J3, R)) : a_does 700 208 [a_rf (C + 44), .int u1, .int u2, .int u3, .int u4] (n + 1, t, K, L, J, R) P := by
  exact rdp_gen (C := C) (J := J) (Q := fun w J3 => lawI b C (c + 1) n t K L J3 R) (rd_barred hx hc (fun v J3 hI => ⟨v, J3, rfl, rfl, hI⟩)) (rf_barred hx.1.2.1 hx.1.2.2.1 hx.1.2.2.2.1 hc) (fun w J3 q d => hP _ _ q d)
theorem cf_kin {u1 u2 : Int32} (hH : cH C c (n + 1) t K L J R) : a_does 700 89 [a_rf C, .int u1, .int u2] (n + 1, t, K, L, J, R) (fun _ h' => cF C J h') := by
  have hC := hH.2.2.1
  exact ke_kin9 hH (fun _ _ z => cf_Z z) (fun _ _ _ => cf_J (fun x j hx => by rw [ui_ap, if_neg (by unfold eP at hx; omega)]))
theorem rf_kin {u1 u2 : Int32} (hS : m_S (C + 44) K L R) (hR : mR (C + 44) J) (hE : mE (C + 44) (120 * c) J) (hc : 120 * c + 130 ≤ 84000) : a_does 700 213 [a_rf (C + 44), .int u1, .int u2] (n + 1, t, K, L, J, R) (fun _ h' => rPs C n t K L R J h') := by
  exact pe_kin hS (fun _ => rf_J (fun x j hx => by rw [ui_ap, if_neg (by unfold eP at hx; omega)])) (fun _ _ => rf_J (fun x j hx => by rw [ui_ap, if_neg (by unfold eP at hx; omega)]))
theorem cdp_kin {u1 u2 : Int32} (hb : b < C) (h : lawI b C c n t K L J R) (hP : ∀ v n2 t2 K2 L2 J2 R2, aNx b C c n2 t2 K2 L2 J2 R2 (yv (C + 44) J) (kiY (yv (C + 44) J) u1 u2) → dP C J J2 → P (some (.int v)) (n2 + 1, t2, K2, L2, J2, R2)) : a_does 700 89 [a_rf C, .int u1, .int u2] (n + 1, t, K, L, J, R) P := by
  exact cdp_gen (C := C) (J := J) (Q := fun v n2 t2 K2 L2 J2 R2 => aNx b C c n2 t2 K2 L2 J2 R2 (yv (C + 44) J) (kiY (yv (C + 44) J) u1 u2)) (cd_kin hb h (fun v n2 t2 K2 L2 J2 R2 hx => ⟨v, n2, t2, K2, L2, J2, R2, rfl, rfl, hx⟩)) (cf_kin h.1) (fun v n2 t2 K2 L2 J2 R2 q w => hP _ _ _ _ _ _ _ q w)
theorem rdp_kin {u1 u2 : Int32} (hx : aNx b C c n t K L J R Y (kiY Y u1 u2)) (hc : 120 * c + 130 ≤ 84000) (hP : ∀ v J3, lawI b C (c + 1) n t K L J3 R → dP C J J3 → P (some (.int v)) (n + 1, t, K, L, J3, R)) : a_does 700 213 [a_rf (C + 44), .int u1, .int u2] (n + 1, t, K, L, J, R) P := by
  exact rdp_gen (C := C) (J := J) (Q := fun w J3 => lawI b C (c + 1) n t K L J3 R) (rd_kin hx hc (fun v J3 hI => ⟨v, J3, rfl, rfl, hI⟩)) (rf_kin hx.1.2.1 hx.1.2.2.1 hx.1.2.2.2.1 hc) (fun w J3 q d => hP _ _ q d)
theorem cf_mark {u1 u2 u3 : Int32} (hH : cH C c (n + 1) t K L J R) : a_does 700 92 [a_rf C, .int u1, .int u2, .int u3] (n + 1, t, K, L, J, R) (fun _ h' => cF C J h') := by
  exact cu_mark9 hH (fun _ _ _ _ _ _ _ z => cf_Z z)
theorem rf_mark {u1 u2 u3 : Int32} (hS : m_S (C + 44) K L R) (hR : mR (C + 44) J) (hE : mE (C + 44) (120 * c) J) (hc : 120 * c + 130 ≤ 84000) : a_does 700 215 [a_rf (C + 44), .int u1, .int u2, .int u3] (n + 1, t, K, L, J, R) (fun _ h' => rPs C n t K L R J h') := by
  exact pu_mark9 hS ⟨⟨hR, fun _ _ _ => rfl⟩, hE⟩ hc (fun _ _ g => rf_F g)
theorem cdp_mark {u1 u2 u3 : Int32} (hb : b < C) (h : lawI b C c n t K L J R) (hP : ∀ n2 t2 K2 L2 J2 R2, aNx b C c n2 t2 K2 L2 J2 R2 (yv (C + 44) J) ((mrY (yv (C + 44) J) u1 u2 u3).2) → dP C J J2 → P (some (.int ((mrY (yv (C + 44) J) u1 u2 u3).1))) (n2 + 1, t2, K2, L2, J2, R2)) : a_does 700 92 [a_rf C, .int u1, .int u2, .int u3] (n + 1, t, K, L, J, R) P := by
  exact cdp_gen (C := C) (J := J) (Q := fun v n2 t2 K2 L2 J2 R2 => v = (mrY (yv (C + 44) J) u1 u2 u3).1 ∧ aNx b C c n2 t2 K2 L2 J2 R2 (yv (C + 44) J) ((mrY (yv (C + 44) J) u1 u2 u3).2)) (cd_mark hb h (fun n2 t2 K2 L2 J2 R2 hx => ⟨_, n2, t2, K2, L2, J2, R2, rfl, rfl, rfl, hx⟩)) (cf_mark h.1) (fun v n2 t2 K2 L2 J2 R2 q w => by obtain ⟨rfl, hx⟩ := q; exact hP _ _ _ _ _ _ hx w)
theorem rdp_mark {u1 u2 u3 : Int32} (hx : aNx b C c n t K L J R Y ((mrY Y u1 u2 u3).2)) (hc : 120 * c + 130 ≤ 84000) (hP : ∀ J3, lawI b C (c + 1) n t K L J3 R → dP C J J3 → P (some (.int ((mrY Y u1 u2 u3).1))) (n + 1, t, K, L, J3, R)) : a_does 700 215 [a_rf (C + 44), .int u1, .int u2, .int u3] (n + 1, t, K, L, J, R) P := by
  exact rdp_gen (C := C) (J := J) (Q := fun w J3 => w = (mrY Y u1 u2 u3).1 ∧ lawI b C (c + 1) n t K L J3 R) (rd_mark hx hc (fun J3 hI => ⟨_, J3, rfl, rfl, rfl, hI⟩)) (rf_mark hx.1.2.1 hx.1.2.2.1 hx.1.2.2.2.1 hc) (fun w J3 q d => by obtain ⟨rfl, hI⟩ := q; exact hP _ hI d)
theorem cf_markOf {u1 : Int32} (hH : cH C c (n + 1) t K L J R) : a_does 700 96 [a_rf C, .int u1] (n + 1, t, K, L, J, R) (fun _ h' => cF C J h') := by
  exact cu_markOf9 hH (fun _ _ _ _ _ _ _ z => cf_Z z)
theorem rf_markOf {u1 : Int32} (hS : m_S (C + 44) K L R) (hR : mR (C + 44) J) (hE : mE (C + 44) (120 * c) J) (hc : 120 * c + 130 ≤ 84000) : a_does 700 216 [a_rf (C + 44), .int u1] (n + 1, t, K, L, J, R) (fun _ h' => rPs C n t K L R J h') := by
  exact pu_markOf9 hS ⟨⟨hR, fun _ _ _ => rfl⟩, hE⟩ hc (fun _ _ g => rf_F g)
theorem cdp_markOf {u1 : Int32} (hb : b < C) (h : lawI b C c n t K L J R) (hP : ∀ n2 t2 K2 L2 J2 R2, aNx b C c n2 t2 K2 L2 J2 R2 (yv (C + 44) J) ((yv (C + 44) J)) → dP C J J2 → P (some (.int (mkV (yv (C + 44) J) u1))) (n2 + 1, t2, K2, L2, J2, R2)) : a_does 700 96 [a_rf C, .int u1] (n + 1, t, K, L, J, R) P := by
  exact cdp_gen (C := C) (J := J) (Q := fun v n2 t2 K2 L2 J2 R2 => v = mkV (yv (C + 44) J) u1 ∧ aNx b C c n2 t2 K2 L2 J2 R2 (yv (C + 44) J) ((yv (C + 44) J))) (cd_markOf hb h (fun n2 t2 K2 L2 J2 R2 hx => ⟨_, n2, t2, K2, L2, J2, R2, rfl, rfl, rfl, hx⟩)) (cf_markOf h.1) (fun v n2 t2 K2 L2 J2 R2 q w => by obtain ⟨rfl, hx⟩ := q; exact hP _ _ _ _ _ _ hx w)
theorem rdp_markOf {u1 : Int32} (hx : aNx b C c n t K L J R Y (Y)) (hc : 120 * c + 130 ≤ 84000) (hP : ∀ J3, lawI b C (c + 1) n t K L J3 R → dP C J J3 → P (some (.int (mkV Y u1))) (n + 1, t, K, L, J3, R)) : a_does 700 216 [a_rf (C + 44), .int u1] (n + 1, t, K, L, J, R) P := by
  exact rdp_gen (C := C) (J := J) (Q := fun w J3 => w = mkV Y u1 ∧ lawI b C (c + 1) n t K L J3 R) (rd_markOf hx hc (fun J3 hI => ⟨_, J3, rfl, rfl, rfl, hI⟩)) (rf_markOf hx.1.2.1 hx.1.2.2.1 hx.1.2.2.2.1 hc) (fun w J3 q d => by obtain ⟨rfl, hI⟩ := q; exact hP _ hI d)
theorem cf_habit {u1 u2 : Int32} (hH : cH C c (n + 1) t K L J R) : a_does 700 97 [a_rf C, .int u1, .int u2] (n + 1, t, K, L, J, R) (fun _ h' => cF C J h') := by
  exact cq_habit hH (fun _ _ z => cf_J (fun x j hx => z.2 x j (by unfold eP at hx; omega) (by unfold eP at hx; omega) (by unfold eP at hx; omega)))
theorem rf_habit {u1 u2 : Int32} (hS : m_S (C + 44) K L R) (hR : mR (C + 44) J) (hE : mE (C + 44) (120 * c) J) (hc : 120 * c + 130 ≤ 84000) : a_does 700 217 [a_rf (C + 44), .int u1, .int u2] (n + 1, t, K, L, J, R) (fun _ h' => rPs C n t K L R J h') := by
  exact xq_habit hS hR (fun _ _ q => rf_Q q)
theorem cdp_habit {u1 u2 : Int32} (hb : b < C) (h : lawI b C c n t K L J R) (hP : ∀ v n2 t2 K2 L2 J2 R2, aNx b C c n2 t2 K2 L2 J2 R2 (yv (C + 44) J) ((yv (C + 44) J)) → dP C J J2 → P (some (.int v)) (n2 + 1, t2, K2, L2, J2, R2)) : a_does 700 97 [a_rf C, .int u1, .int u2] (n + 1, t, K, L, J, R) P := by
  exact cdp_gen (C := C) (J := J) (Q := fun v n2 t2 K2 L2 J2 R2 => aNx b C c n2 t2 K2 L2 J2 R2 (yv (C + 44) J) ((yv (C + 44) J))) (cd_habit hb h (fun v n2 t2 K2 L2 J2 R2 hx => ⟨v, n2, t2, K2, L2, J2, R2, rfl, rfl, hx⟩)) (cf_habit h.1) (fun v n2 t2 K2 L2 J2 R2 q w => hP _ _ _ _ _ _ _ q w)
theorem rdp_habit {u1 u2 : Int32} (hx : aNx b C c n t K L J R Y (Y)) (hc : 120 * c + 130 ≤ 84000) (hP : ∀ v J3, lawI b C (c + 1) n t K L J3 R → dP C J J3 → P (some (.int v)) (n + 1, t, K, L, J3, R)) : a_does 700 217 [a_rf (C + 44), .int u1, .int u2] (n + 1, t, K, L, J, R) P := by
  exact rdp_gen (C := C) (J := J) (Q := fun w J3 => lawI b C (c + 1) n t K L J3 R) (rd_habit hx hc (fun v J3 hI => ⟨v, J3, rfl, rfl, hI⟩)) (rf_habit hx.1.2.1 hx.1.2.2.1 hx.1.2.2.2.1 hc) (fun w J3 q d => hP _ _ q d)
theorem cf_fit {u1 u2 u3 : Int32} (hH : cH C c (n + 1) t K L J R) : a_does 700 99 [a_rf C, .int u1, .int u2, .int u3] (n + 1, t, K, L, J, R) (fun _ h' => cF C J h') := by
  exact cu_fit9 hH (fun _ _ _ _ _ _ _ z => cf_Z z)
theorem rf_fit {u1 u2 u3 : Int32} (hS : m_S (C + 44) K L R) (hR : mR (C + 44) J) (hE : mE (C + 44) (120 * c) J) (hc : 120 * c + 130 ≤ 84000) : a_does 700 220 [a_rf (C + 44), .int u1, .int u2, .int u3] (n + 1, t, K, L, J, R) (fun _ h' => rPs C n t K L R J h') := by
  exact pu_fit9 hS ⟨⟨hR, fun _ _ _ => rfl⟩, hE⟩ hc (fun _ _ g => rf_F g)
theorem cdp_fit {u1 u2 u3 : Int32} (hb : b < C) (h : lawI b C c n t K L J R) (hP : ∀ n2 t2 K2 L2 J2 R2, aNx b C c n2 t2 K2 L2 J2 R2 (yv (C + 44) J) ((yv (C + 44) J)) → dP C J J2 → P (some (.int (ftV (yv (C + 44) J) u1 u2 u3))) (n2 + 1, t2, K2, L2, J2, R2)) : a_does 700 99 [a_rf C, .int u1, .int u2, .int u3] (n + 1, t, K, L, J, R) P := by
  exact cdp_gen (C := C) (J := J) (Q := fun v n2 t2 K2 L2 J2 R2 => v = ftV (yv (C + 44) J) u1 u2 u3 ∧ aNx b C c n2 t2 K2 L2 J2 R2 (yv (C + 44) J) ((yv (C + 44) J))) (cd_fit hb h (fun n2 t2 K2 L2 J2 R2 hx => ⟨_, n2, t2, K2, L2, J2, R2, rfl, rfl, rfl, hx⟩)) (cf_fit h.1) (fun v n2 t2 K2 L2 J2 R2 q w => by obtain ⟨rfl, hx⟩ := q; exact hP _ _ _ _ _ _ hx w)
theorem rdp_fit {u1 u2 u3 : Int32} (hx : aNx b C c n t K L J R Y (Y)) (hc : 120 * c + 130 ≤ 84000) (hP : ∀ J3, lawI b C (c + 1) n t K L J3 R → dP C J J3 → P (some (.int (ftV Y u1 u2 u3))) (n + 1, t, K, L, J3, R)) : a_does 700 220 [a_rf (C + 44), .int u1, .int u2, .int u3] (n + 1, t, K, L, J, R) P := by
  exact rdp_gen (C := C) (J := J) (Q := fun w J3 => w = ftV Y u1 u2 u3 ∧ lawI b C (c + 1) n t K L J3 R) (rd_fit hx hc (fun J3 hI => ⟨_, J3, rfl, rfl, rfl, hI⟩)) (rf_fit hx.1.2.1 hx.1.2.2.1 hx.1.2.2.2.1 hc) (fun w J3 q d => by obtain ⟨rfl, hI⟩ := q; exact hP _ hI d)
theorem cf_give {u1 u2 u3 : Int32} (hH : cH C c (n + 1) t K L J R) : a_does 700 112 [a_rf C, .int u1, .int u2, .int u3] (n + 1, t, K, L, J, R) (fun _ h' => cF C J h') := by
  exact cu_give9 hH (fun _ _ _ _ _ _ _ z => cf_Z z)
theorem rf_give {u1 u2 u3 : Int32} (hS : m_S (C + 44) K L R) (hR : mR (C + 44) J) (hE : mE (C + 44) (120 * c) J) (hc : 120 * c + 130 ≤ 84000) : a_does 700 229 [a_rf (C + 44), .int u1, .int u2, .int u3] (n + 1, t, K, L, J, R) (fun _ h' => rPs C n t K L R J h') := by
  exact pu_give9 hS ⟨⟨hR, fun _ _ _ => rfl⟩, hE⟩ hc (fun _ _ g => rf_F g)
theorem cdp_give {u1 u2 u3 : Int32} (hb : b < C) (h : lawI b C c n t K L J R) (hP : ∀ n2 t2 K2 L2 J2 R2, aNx b C c n2 t2 K2 L2 J2 R2 (yv (C + 44) J) ((gvY (yv (C + 44) J) u1 u2 u3).2) → dP C J J2 → P (some (.int ((gvY (yv (C + 44) J) u1 u2 u3).1))) (n2 + 1, t2, K2, L2, J2, R2)) : a_does 700 112 [a_rf C, .int u1, .int u2, .int u3] (n + 1, t, K, L, J, R) P := by
  exact cdp_gen (C := C) (J := J) (Q := fun v n2 t2 K2 L2 J2 R2 => v = (gvY (yv (C + 44) J) u1 u2 u3).1 ∧ aNx b C c n2 t2 K2 L2 J2 R2 (yv (C + 44) J) ((gvY (yv (C + 44) J) u1 u2 u3).2)) (cd_give hb h (fun n2 t2 K2 L2 J2 R2 hx => ⟨_, n2, t2, K2, L2, J2, R2, rfl, rfl, rfl, hx⟩)) (cf_give h.1) (fun v n2 t2 K2 L2 J2 R2 q w => by obtain ⟨rfl, hx⟩ := q; exact hP _ _ _ _ _ _ hx w)
theorem rdp_give {u1 u2 u3 : Int32} (hx : aNx b C c n t K L J R Y ((gvY Y u1 u2 u3).2)) (hc : 120 * c + 130 ≤ 84000) (hP : ∀ J3, lawI b C (c + 1) n t K L J3 R → dP C J J3 → P (some (.int ((gvY Y u1 u2 u3).1))) (n + 1, t, K, L, J3, R)) : a_does 700 229 [a_rf (C + 44), .int u1, .int u2, .int u3] (n + 1, t, K, L, J, R) P := by
  exact rdp_gen (C := C) (J := J) (Q := fun w J3 => w = (gvY Y u1 u2 u3).1 ∧ lawI b C (c + 1) n t K L J3 R) (rd_give hx hc (fun J3 hI => ⟨_, J3, rfl, rfl, rfl, hI⟩)) (rf_give hx.1.2.1 hx.1.2.2.1 hx.1.2.2.2.1 hc) (fun w J3 q d => by obtain ⟨rfl, hI⟩ := q; exact hP _ hI d)
theorem cf_take {u1 : Int32} (hH : cH C c (n + 1) t K L J R) : a_does 700 116 [a_rf C, .int u1] (n + 1, t, K, L, J, R) (fun _ h' => cF C J h') := by
  exact cu_take9 hH (fun _ _ _ _ _ _ _ z => cf_Z z)
theorem rf_take {u1 : Int32} (hS : m_S (C + 44) K L R) (hR : mR (C + 44) J) (hE : mE (C + 44) (120 * c) J) (hc : 120 * c + 130 ≤ 84000) : a_does 700 233 [a_rf (C + 44), .int u1] (n + 1, t, K, L, J, R) (fun _ h' => rPs C n t K L R J h') := by
  exact pu_take9 hS ⟨⟨hR, fun _ _ _ => rfl⟩, hE⟩ hc (fun _ _ g => rf_F g)
theorem cdp_take {u1 : Int32} (hb : b < C) (h : lawI b C c n t K L J R) (hP : ∀ n2 t2 K2 L2 J2 R2, aNx b C c n2 t2 K2 L2 J2 R2 (yv (C + 44) J) ((tkY (yv (C + 44) J) u1).2) → dP C J J2 → P (some (.int ((tkY (yv (C + 44) J) u1).1))) (n2 + 1, t2, K2, L2, J2, R2)) : a_does 700 116 [a_rf C, .int u1] (n + 1, t, K, L, J, R) P := by
  exact cdp_gen (C := C) (J := J) (Q := fun v n2 t2 K2 L2 J2 R2 => v = (tkY (yv (C + 44) J) u1).1 ∧ aNx b C c n2 t2 K2 L2 J2 R2 (yv (C + 44) J) ((tkY (yv (C + 44) J) u1).2)) (cd_take hb h (fun n2 t2 K2 L2 J2 R2 hx => ⟨_, n2, t2, K2, L2, J2, R2, rfl, rfl, rfl, hx⟩)) (cf_take h.1) (fun v n2 t2 K2 L2 J2 R2 q w => by obtain ⟨rfl, hx⟩ := q; exact hP _ _ _ _ _ _ hx w)
theorem rdp_take {u1 : Int32} (hx : aNx b C c n t K L J R Y ((tkY Y u1).2)) (hc : 120 * c + 130 ≤ 84000) (hP : ∀ J3, lawI b C (c + 1) n t K L J3 R → dP C J J3 → P (some (.int ((tkY Y u1).1))) (n + 1, t, K, L, J3, R)) : a_does 700 233 [a_rf (C + 44), .int u1] (n + 1, t, K, L, J, R) P := by
  exact rdp_gen (C := C) (J := J) (Q := fun w J3 => w = (tkY Y u1).1 ∧ lawI b C (c + 1) n t K L J3 R) (rd_take hx hc (fun J3 hI => ⟨_, J3, rfl, rfl, rfl, hI⟩)) (rf_take hx.1.2.1 hx.1.2.2.1 hx.1.2.2.2.1 hc) (fun w J3 q d => by obtain ⟨rfl, hI⟩ := q; exact hP _ hI d)
theorem cf_passed {u1 : Int32} (hH : cH C c (n + 1) t K L J R) : a_does 700 125 [a_rf C, .int u1] (n + 1, t, K, L, J, R) (fun _ h' => cF C J h') := by
  exact cq_passed hH (fun _ _ z => cf_J (fun x j hx => z.2 x j (by unfold eP at hx; omega) (by unfold eP at hx; omega) (by unfold eP at hx; omega)))
theorem rf_passed {u1 : Int32} (hS : m_S (C + 44) K L R) (hR : mR (C + 44) J) (hE : mE (C + 44) (120 * c) J) (hc : 120 * c + 130 ≤ 84000) : a_does 700 240 [a_rf (C + 44), .int u1] (n + 1, t, K, L, J, R) (fun _ h' => rPs C n t K L R J h') := by
  exact xq_passed hS hR (fun _ _ q => rf_Q q)
theorem cdp_passed {u1 : Int32} (hb : b < C) (h : lawI b C c n t K L J R) (hP : ∀ v n2 t2 K2 L2 J2 R2, aNx b C c n2 t2 K2 L2 J2 R2 (yv (C + 44) J) ((yv (C + 44) J)) → dP C J J2 → P (some (.int v)) (n2 + 1, t2, K2, L2, J2, R2)) : a_does 700 125 [a_rf C, .int u1] (n + 1, t, K, L, J, R) P := by
  exact cdp_gen (C := C) (J := J) (Q := fun v n2 t2 K2 L2 J2 R2 => aNx b C c n2 t2 K2 L2 J2 R2 (yv (C + 44) J) ((yv (C + 44) J))) (cd_passed hb h (fun v n2 t2 K2 L2 J2 R2 hx => ⟨v, n2, t2, K2, L2, J2, R2, rfl, rfl, hx⟩)) (cf_passed h.1) (fun v n2 t2 K2 L2 J2 R2 q w => hP _ _ _ _ _ _ _ q w)
theorem rdp_passed {u1 : Int32} (hx : aNx b C c n t K L J R Y (Y)) (hc : 120 * c + 130 ≤ 84000) (hP : ∀ v J3, lawI b C (c + 1) n t K L J3 R → dP C J J3 → P (some (.int v)) (n + 1, t, K, L, J3, R)) : a_does 700 240 [a_rf (C + 44), .int u1] (n + 1, t, K, L, J, R) P := by
  exact rdp_gen (C := C) (J := J) (Q := fun w J3 => lawI b C (c + 1) n t K L J3 R) (rd_passed hx hc (fun v J3 hI => ⟨v, J3, rfl, rfl, hI⟩)) (rf_passed hx.1.2.1 hx.1.2.2.1 hx.1.2.2.2.1 hc) (fun w J3 q d => hP _ _ q d)
theorem cf_why {u1 u2 u3 u4 u5 : Int32} (hH : cH C c (n + 1) t K L J R) : a_does 700 127 [a_rf C, .int u1, .int u2, .int u3, .int u4, .int u5] (n + 1, t, K, L, J, R) (fun _ h' => cF C J h') := by
  exact cu_why9 hH (fun _ _ _ _ _ _ _ z => cf_Z z)
theorem rf_why {u1 u2 u3 u4 u5 : Int32} (hS : m_S (C + 44) K L R) (hR : mR (C + 44) J) (hE : mE (C + 44) (120 * c) J) (hc : 120 * c + 130 ≤ 84000) : a_does 700 241 [a_rf (C + 44), .int u1, .int u2, .int u3, .int u4, .int u5] (n + 1, t, K, L, J, R) (fun _ h' => rPs C n t K L R J h') := by
  exact pu_why9 hS ⟨⟨hR, fun _ _ _ => rfl⟩, hE⟩ hc (fun _ _ g => rf_F g)
theorem cdp_why {u1 u2 u3 u4 u5 : Int32} (hb : b < C) (h : lawI b C c n t K L J R) (hP : ∀ n2 t2 K2 L2 J2 R2, aNx b C c n2 t2 K2 L2 J2 R2 (yv (C + 44) J) ((yv (C + 44) J)) → dP C J J2 → P (some (.int (whV (yv (C + 44) J) u1 u2 u3 u4 u5))) (n2 + 1, t2, K2, L2, J2, R2)) : a_does 700 127 [a_rf C, .int u1, .int u2, .int u3, .int u4, .int u5] (n + 1, t, K, L, J, R) P := by
  exact cdp_gen (C := C) (J := J) (Q := fun v n2 t2 K2 L2 J2 R2 => v = whV (yv (C + 44) J) u1 u2 u3 u4 u5 ∧ aNx b C c n2 t2 K2 L2 J2 R2 (yv (C + 44) J) ((yv (C + 44) J))) (cd_why hb h (fun n2 t2 K2 L2 J2 R2 hx => ⟨_, n2, t2, K2, L2, J2, R2, rfl, rfl, rfl, hx⟩)) (cf_why h.1) (fun v n2 t2 K2 L2 J2 R2 q w => by obtain ⟨rfl, hx⟩ := q; exact hP _ _ _ _ _ _ hx w)
theorem rdp_why {u1 u2 u3 u4 u5 : Int32} (hx : aNx b C c n t K L J R Y (Y)) (hc : 120 * c + 130 ≤ 84000) (hP : ∀ J3, lawI b C (c + 1) n t K L J3 R → dP C J J3 → P (some (.int (whV Y u1 u2 u3 u4 u5))) (n + 1, t, K, L, J3, R)) : a_does 700 241 [a_rf (C + 44), .int u1, .int u2, .int u3, .int u4, .int u5] (n + 1, t, K, L, J, R) P := by
  exact rdp_gen (C := C) (J := J) (Q := fun w J3 => w = whV Y u1 u2 u3 u4 u5 ∧ lawI b C (c + 1) n t K L J3 R) (rd_why hx hc (fun J3 hI => ⟨_, J3, rfl, rfl, rfl, hI⟩)) (rf_why hx.1.2.1 hx.1.2.2.1 hx.1.2.2.2.1 hc) (fun w J3 q d => by obtain ⟨rfl, hI⟩ := q; exact hP _ hI d)
theorem cf_best {u1 u2 u3 u4 : Int32} (hH : cH C c (n + 1) t K L J R) : a_does 700 128 [a_rf C, .int u1, .int u2, .int u3, .int u4] (n + 1, t, K, L, J, R) (fun _ h' => cF C J h') := by
  exact cu_best9 hH (fun _ _ _ _ _ _ _ z => cf_Z z)
theorem rf_best {u1 u2 u3 u4 : Int32} (hS : m_S (C + 44) K L R) (hR : mR (C + 44) J) (hE : mE (C + 44) (120 * c) J) (hc : 120 * c + 130 ≤ 84000) : a_does 700 242 [a_rf (C + 44), .int u1, .int u2, .int u3, .int u4] (n + 1, t, K, L, J, R) (fun _ h' => rPs C n t K L R J h') := by
  exact pu_best9 hS ⟨⟨hR, fun _ _ _ => rfl⟩, hE⟩ hc (fun _ _ g => rf_F g)
theorem cdp_best {u1 u2 u3 u4 : Int32} (hb : b < C) (h : lawI b C c n t K L J R) (hP : ∀ v n2 t2 K2 L2 J2 R2, aNx b C c n2 t2 K2 L2 J2 R2 (yv (C + 44) J) ((yv (C + 44) J)) → dP C J J2 → P (some (.int v)) (n2 + 1, t2, K2, L2, J2, R2)) : a_does 700 128 [a_rf C, .int u1, .int u2, .int u3, .int u4] (n + 1, t, K, L, J, R) P := by
  exact cdp_gen (C := C) (J := J) (Q := fun v n2 t2 K2 L2 J2 R2 => aNx b C c n2 t2 K2 L2 J2 R2 (yv (C + 44) J) ((yv (C + 44) J))) (cd_best hb h (fun v n2 t2 K2 L2 J2 R2 hx => ⟨v, n2, t2, K2, L2, J2, R2, rfl, rfl, hx⟩)) (cf_best h.1) (fun v n2 t2 K2 L2 J2 R2 q w => hP _ _ _ _ _ _ _ q w)
theorem rdp_best {u1 u2 u3 u4 : Int32} (hx : aNx b C c n t K L J R Y (Y)) (hc : 120 * c + 130 ≤ 84000) (hP : ∀ v J3, lawI b C (c + 1) n t K L J3 R → dP C J J3 → P (some (.int v)) (n + 1, t, K, L, J3, R)) : a_does 700 242 [a_rf (C + 44), .int u1, .int u2, .int u3, .int u4] (n + 1, t, K, L, J, R) P := by
  exact rdp_gen (C := C) (J := J) (Q := fun w J3 => lawI b C (c + 1) n t K L J3 R) (rd_best hx hc (fun v J3 hI => ⟨v, J3, rfl, rfl, hI⟩)) (rf_best hx.1.2.1 hx.1.2.2.1 hx.1.2.2.2.1 hc) (fun w J3 q d => hP _ _ q d)
theorem cf_hosts {u1 u2 : Int32} (hH : cH C c (n + 1) t K L J R) : a_does 700 140 [a_rf C, .int u1, .int u2] (n + 1, t, K, L, J, R) (fun _ h' => cF C J h') := by
  exact cq_hosts hH (fun _ _ z => cf_J (fun x j hx => z.2 x j (by unfold eP at hx; omega) (by unfold eP at hx; omega) (by unfold eP at hx; omega)))
theorem rf_hosts {u1 u2 : Int32} (hS : m_S (C + 44) K L R) (hR : mR (C + 44) J) (hE : mE (C + 44) (120 * c) J) (hc : 120 * c + 130 ≤ 84000) : a_does 700 245 [a_rf (C + 44), .int u1, .int u2] (n + 1, t, K, L, J, R) (fun _ h' => rPs C n t K L R J h') := by
  exact xq_hosts hS hR (fun _ _ q => rf_Q q)
theorem cdp_hosts {u1 u2 : Int32} (hb : b < C) (h : lawI b C c n t K L J R) (hP : ∀ v n2 t2 K2 L2 J2 R2, aNx b C c n2 t2 K2 L2 J2 R2 (yv (C + 44) J) ((yv (C + 44) J)) → dP C J J2 → P (some (.int v)) (n2 + 1, t2, K2, L2, J2, R2)) : a_does 700 140 [a_rf C, .int u1, .int u2] (n + 1, t, K, L, J, R) P := by
  exact cdp_gen (C := C) (J := J) (Q := fun v n2 t2 K2 L2 J2 R2 => aNx b C c n2 t2 K2 L2 J2 R2 (yv (C + 44) J) ((yv (C + 44) J))) (cd_hosts hb h (fun v n2 t2 K2 L2 J2 R2 hx => ⟨v, n2, t2, K2, L2, J2, R2, rfl, rfl, hx⟩)) (cf_hosts h.1) (fun v n2 t2 K2 L2 J2 R2 q w => hP _ _ _ _ _ _ _ q w)
theorem rdp_hosts {u1 u2 : Int32} (hx : aNx b C c n t K L J R Y (Y)) (hc : 120 * c + 130 ≤ 84000) (hP : ∀ v J3, lawI b C (c + 1) n t K L J3 R → dP C J J3 → P (some (.int v)) (n + 1, t, K, L, J3, R)) : a_does 700 245 [a_rf (C + 44), .int u1, .int u2] (n + 1, t, K, L, J, R) P := by
  exact rdp_gen (C := C) (J := J) (Q := fun w J3 => lawI b C (c + 1) n t K L J3 R) (rd_hosts hx hc (fun v J3 hI => ⟨v, J3, rfl, rfl, hI⟩)) (rf_hosts hx.1.2.1 hx.1.2.2.1 hx.1.2.2.2.1 hc) (fun w J3 q d => hP _ _ q d)
theorem cf_owe {u1 : Int32} (hH : cH C c (n + 1) t K L J R) : a_does 700 141 [a_rf C, .int u1] (n + 1, t, K, L, J, R) (fun _ h' => cF C J h') := by
  exact cu_owe9 hH (fun _ _ _ _ _ _ _ z => cf_Z z)
theorem rf_owe {u1 : Int32} (hS : m_S (C + 44) K L R) (hR : mR (C + 44) J) (hE : mE (C + 44) (120 * c) J) (hc : 120 * c + 130 ≤ 84000) : a_does 700 246 [a_rf (C + 44), .int u1] (n + 1, t, K, L, J, R) (fun _ h' => rPs C n t K L R J h') := by
  exact pu_owe9 hS ⟨⟨hR, fun _ _ _ => rfl⟩, hE⟩ hc (fun _ _ g => rf_F g)
theorem cdp_owe {u1 : Int32} (hb : b < C) (h : lawI b C c n t K L J R) (hP : ∀ n2 t2 K2 L2 J2 R2, aNx b C c n2 t2 K2 L2 J2 R2 (yv (C + 44) J) ((oeY (yv (C + 44) J) u1).2) → (0 ≤ u1 ∧ u1 < (yv (C + 44) J) 0 17 → 0 ≤ ohY (yv (C + 44) J) u1 ∧ ohY (yv (C + 44) J) u1 ≤ 4) → dP C J J2 → P (some (.int ((oeY (yv (C + 44) J) u1).1))) (n2 + 1, t2, K2, L2, J2, R2)) : a_does 700 141 [a_rf C, .int u1] (n + 1, t, K, L, J, R) P := by
  exact cdp_gen (C := C) (J := J) (Q := fun v n2 t2 K2 L2 J2 R2 => v = (oeY (yv (C + 44) J) u1).1 ∧ aNx b C c n2 t2 K2 L2 J2 R2 (yv (C + 44) J) ((oeY (yv (C + 44) J) u1).2) ∧ (0 ≤ u1 ∧ u1 < (yv (C + 44) J) 0 17 → 0 ≤ ohY (yv (C + 44) J) u1 ∧ ohY (yv (C + 44) J) u1 ≤ 4)) (cd_owe hb h (fun n2 t2 K2 L2 J2 R2 hx hbd => ⟨_, n2, t2, K2, L2, J2, R2, rfl, rfl, rfl, hx, hbd⟩)) (cf_owe h.1) (fun v n2 t2 K2 L2 J2 R2 q w => by obtain ⟨rfl, hx, hbd⟩ := q; exact hP _ _ _ _ _ _ hx hbd w)
theorem rdp_owe {u1 : Int32} (hx : aNx b C c n t K L J R Y ((oeY Y u1).2)) (hc : 120 * c + 130 ≤ 84000) (hbd : 0 ≤ u1 ∧ u1 < Y 0 17 → 0 ≤ ohY Y u1 ∧ ohY Y u1 ≤ 4) (hP : ∀ J3, lawI b C (c + 1) n t K L J3 R → dP C J J3 → P (some (.int ((oeY Y u1).1))) (n + 1, t, K, L, J3, R)) : a_does 700 246 [a_rf (C + 44), .int u1] (n + 1, t, K, L, J, R) P := by
  exact rdp_gen (C := C) (J := J) (Q := fun w J3 => w = (oeY Y u1).1 ∧ lawI b C (c + 1) n t K L J3 R) (rd_owe hx hc hbd (fun J3 hI => ⟨_, J3, rfl, rfl, rfl, hI⟩)) (rf_owe hx.1.2.1 hx.1.2.2.1 hx.1.2.2.2.1 hc) (fun w J3 q d => by obtain ⟨rfl, hI⟩ := q; exact hP _ hI d)
theorem cf_again  (hH : cH C c (n + 1) t K L J R) : a_does 700 143 [a_rf C] (n + 1, t, K, L, J, R) (fun _ h' => cF C J h') := by
  exact cu_again9 hH (fun _ _ _ _ _ _ _ z => cf_Z z)
theorem rf_again  (hS : m_S (C + 44) K L R) (hR : mR (C + 44) J) (hE : mE (C + 44) (120 * c) J) (hc : 120 * c + 130 ≤ 84000) : a_does 700 247 [a_rf (C + 44)] (n + 1, t, K, L, J, R) (fun _ h' => rPs C n t K L R J h') := by
  exact pu_again9 hS ⟨⟨hR, fun _ _ _ => rfl⟩, hE⟩ hc (fun _ _ g => rf_F g)
theorem cdp_again  (hb : b < C) (h : lawI b C c n t K L J R) (hP : ∀ n2 t2 K2 L2 J2 R2, aNx b C c n2 t2 K2 L2 J2 R2 (yv (C + 44) J) ((agY (yv (C + 44) J)).1) → dP C J J2 → P (some (.int (Int32.ofNat (agY (yv (C + 44) J)).2))) (n2 + 1, t2, K2, L2, J2, R2)) : a_does 700 143 [a_rf C] (n + 1, t, K, L, J, R) P := by
  exact cdp_gen (C := C) (J := J) (Q := fun v n2 t2 K2 L2 J2 R2 => v = Int32.ofNat (agY (yv (C + 44) J)).2 ∧ aNx b C c n2 t2 K2 L2 J2 R2 (yv (C + 44) J) ((agY (yv (C + 44) J)).1)) (cd_again hb h (fun n2 t2 K2 L2 J2 R2 hx => ⟨_, n2, t2, K2, L2, J2, R2, rfl, rfl, rfl, hx⟩)) (cf_again h.1) (fun v n2 t2 K2 L2 J2 R2 q w => by obtain ⟨rfl, hx⟩ := q; exact hP _ _ _ _ _ _ hx w)
theorem rdp_again  (hx : aNx b C c n t K L J R Y ((agY Y).1)) (hc : 120 * c + 130 ≤ 84000) (hP : ∀ J3, lawI b C (c + 1) n t K L J3 R → dP C J J3 → P (some (.int (Int32.ofNat (agY Y).2))) (n + 1, t, K, L, J3, R)) : a_does 700 247 [a_rf (C + 44)] (n + 1, t, K, L, J, R) P := by
  exact rdp_gen (C := C) (J := J) (Q := fun w J3 => w = Int32.ofNat (agY Y).2 ∧ lawI b C (c + 1) n t K L J3 R) (rd_again hx hc (fun J3 hI => ⟨_, J3, rfl, rfl, rfl, hI⟩)) (rf_again hx.1.2.1 hx.1.2.2.1 hx.1.2.2.2.1 hc) (fun w J3 q d => by obtain ⟨rfl, hI⟩ := q; exact hP _ hI d)
theorem cf_danger {u1 u2 : Int32} (hH : cH C c (n + 1) t K L J R) : a_does 700 146 [a_rf C, .int u1, .int u2] (n + 1, t, K, L, J, R) (fun _ h' => cF C J h') := by
  exact cu_danger9 hH (fun _ _ _ _ _ _ _ z => cf_Z z)
theorem rf_danger {u1 u2 : Int32} (hS : m_S (C + 44) K L R) (hR : mR (C + 44) J) (hE : mE (C + 44) (120 * c) J) (hc : 120 * c + 130 ≤ 84000) : a_does 700 249 [a_rf (C + 44), .int u1, .int u2] (n + 1, t, K, L, J, R) (fun _ h' => rPs C n t K L R J h') := by
  exact pu_danger9 hS ⟨⟨hR, fun _ _ _ => rfl⟩, hE⟩ hc (fun _ _ g => rf_F g)
theorem cdp_danger {u1 u2 : Int32} (hb : b < C) (h : lawI b C c n t K L J R) (hP : ∀ n2 t2 K2 L2 J2 R2, aNx b C c n2 t2 K2 L2 J2 R2 (yv (C + 44) J) ((dgY (yv (C + 44) J) u1 u2).2) → dP C J J2 → P (some (.int ((dgY (yv (C + 44) J) u1 u2).1))) (n2 + 1, t2, K2, L2, J2, R2)) : a_does 700 146 [a_rf C, .int u1, .int u2] (n + 1, t, K, L, J, R) P := by
  exact cdp_gen (C := C) (J := J) (Q := fun v n2 t2 K2 L2 J2 R2 => v = (dgY (yv (C + 44) J) u1 u2).1 ∧ aNx b C c n2 t2 K2 L2 J2 R2 (yv (C + 44) J) ((dgY (yv (C + 44) J) u1 u2).2)) (cd_danger hb h (fun n2 t2 K2 L2 J2 R2 hx => ⟨_, n2, t2, K2, L2, J2, R2, rfl, rfl, rfl, hx⟩)) (cf_danger h.1) (fun v n2 t2 K2 L2 J2 R2 q w => by obtain ⟨rfl, hx⟩ := q; exact hP _ _ _ _ _ _ hx w)
theorem rdp_danger {u1 u2 : Int32} (hx : aNx b C c n t K L J R Y ((dgY Y u1 u2).2)) (hc : 120 * c + 130 ≤ 84000) (hP : ∀ J3, lawI b C (c + 1) n t K L J3 R → dP C J J3 → P (some (.int ((dgY Y u1 u2).1))) (n + 1, t, K, L, J3, R)) : a_does 700 249 [a_rf (C + 44), .int u1, .int u2] (n + 1, t, K, L, J, R) P := by
  exact rdp_gen (C := C) (J := J) (Q := fun w J3 => w = (dgY Y u1 u2).1 ∧ lawI b C (c + 1) n t K L J3 R) (rd_danger hx hc (fun J3 hI => ⟨_, J3, rfl, rfl, rfl, hI⟩)) (rf_danger hx.1.2.1 hx.1.2.2.1 hx.1.2.2.2.1 hc) (fun w J3 q d => by obtain ⟨rfl, hI⟩ := q; exact hP _ hI d)
theorem cf_wish {u1 u2 u3 : Int32} (hw : u3 = 0 ∨ u3 = 1) (hH : cH C c (n + 1) t K L J R) : a_does 700 147 [a_rf C, .int u1, .int u2, .int u3] (n + 1, t, K, L, J, R) (fun _ h' => cF C J h') := by
  exact cu_wish9 hH hw (fun _ _ _ _ _ _ _ z => cf_Z z)
theorem rf_wish {u1 u2 u3 : Int32} (hw : u3 = 0 ∨ u3 = 1) (hS : m_S (C + 44) K L R) (hR : mR (C + 44) J) (hE : mE (C + 44) (120 * c) J) (hc : 120 * c + 130 ≤ 84000) : a_does 700 250 [a_rf (C + 44), .int u1, .int u2, .int u3] (n + 1, t, K, L, J, R) (fun _ h' => rPs C n t K L R J h') := by
  exact pu_wish9 hS ⟨⟨hR, fun _ _ _ => rfl⟩, hE⟩ hc (fun _ _ g => rf_F g)
theorem cdp_wish {u1 u2 u3 : Int32} (hw : u3 = 0 ∨ u3 = 1) (hb : b < C) (h : lawI b C c n t K L J R) (hP : ∀ n2 t2 K2 L2 J2 R2, aNx b C c n2 t2 K2 L2 J2 R2 (yv (C + 44) J) ((wsY (yv (C + 44) J) u1 u2 u3).2) → dP C J J2 → P (some (.int ((wsY (yv (C + 44) J) u1 u2 u3).1))) (n2 + 1, t2, K2, L2, J2, R2)) : a_does 700 147 [a_rf C, .int u1, .int u2, .int u3] (n + 1, t, K, L, J, R) P := by
  exact cdp_gen (C := C) (J := J) (Q := fun v n2 t2 K2 L2 J2 R2 => v = (wsY (yv (C + 44) J) u1 u2 u3).1 ∧ aNx b C c n2 t2 K2 L2 J2 R2 (yv (C + 44) J) ((wsY (yv (C + 44) J) u1 u2 u3).2)) (cd_wish hw hb h (fun n2 t2 K2 L2 J2 R2 hx => ⟨_, n2, t2, K2, L2, J2, R2, rfl, rfl, rfl, hx⟩)) (cf_wish hw h.1) (fun v n2 t2 K2 L2 J2 R2 q w => by obtain ⟨rfl, hx⟩ := q; exact hP _ _ _ _ _ _ hx w)
theorem rdp_wish {u1 u2 u3 : Int32} (hw : u3 = 0 ∨ u3 = 1) (hx : aNx b C c n t K L J R Y ((wsY Y u1 u2 u3).2)) (hc : 120 * c + 130 ≤ 84000) (hP : ∀ J3, lawI b C (c + 1) n t K L J3 R → dP C J J3 → P (some (.int ((wsY Y u1 u2 u3).1))) (n + 1, t, K, L, J3, R)) : a_does 700 250 [a_rf (C + 44), .int u1, .int u2, .int u3] (n + 1, t, K, L, J, R) P := by
  exact rdp_gen (C := C) (J := J) (Q := fun w J3 => w = (wsY Y u1 u2 u3).1 ∧ lawI b C (c + 1) n t K L J3 R) (rd_wish hw hx hc (fun J3 hI => ⟨_, J3, rfl, rfl, rfl, hI⟩)) (rf_wish hw hx.1.2.1 hx.1.2.2.1 hx.1.2.2.2.1 hc) (fun w J3 q d => by obtain ⟨rfl, hI⟩ := q; exact hP _ hI d)
theorem cf_ring {u1 : Int32} (hH : cH C c (n + 1) t K L J R) : a_does 700 149 [a_rf C, .int u1] (n + 1, t, K, L, J, R) (fun _ h' => cF C J h') := by
  exact cu_ring9 hH (fun _ _ _ _ _ _ _ z => cf_Z z)
theorem rf_ring {u1 : Int32} (hS : m_S (C + 44) K L R) (hR : mR (C + 44) J) (hE : mE (C + 44) (120 * c) J) (hc : 120 * c + 130 ≤ 84000) : a_does 700 251 [a_rf (C + 44), .int u1] (n + 1, t, K, L, J, R) (fun _ h' => rPs C n t K L R J h') := by
  exact pu_ring9 hS ⟨⟨hR, fun _ _ _ => rfl⟩, hE⟩ hc (fun _ _ g => rf_F g)
theorem cdp_ring {u1 : Int32} (hb : b < C) (h : lawI b C c n t K L J R) (hP : ∀ v n2 t2 K2 L2 J2 R2, rgO (yv (C + 44) J) u1 v → aNx b C c n2 t2 K2 L2 J2 R2 (yv (C + 44) J) ((yv (C + 44) J)) → dP C J J2 → P (some (.int v)) (n2 + 1, t2, K2, L2, J2, R2)) : a_does 700 149 [a_rf C, .int u1] (n + 1, t, K, L, J, R) P := by
  exact cdp_gen (C := C) (J := J) (Q := fun v n2 t2 K2 L2 J2 R2 => rgO (yv (C + 44) J) u1 v ∧ aNx b C c n2 t2 K2 L2 J2 R2 (yv (C + 44) J) ((yv (C + 44) J))) (cd_ring hb h (fun v n2 t2 K2 L2 J2 R2 ho hx => ⟨v, n2, t2, K2, L2, J2, R2, rfl, rfl, ho, hx⟩)) (cf_ring h.1) (fun v n2 t2 K2 L2 J2 R2 q w => hP _ _ _ _ _ _ _ q.1 q.2 w)
theorem rdp_ring {u1 : Int32} (hx : aNx b C c n t K L J R Y (Y)) (hc : 120 * c + 130 ≤ 84000) {v : Int32} (ho : rgO Y u1 v) (hP : ∀ J3, lawI b C (c + 1) n t K L J3 R → dP C J J3 → P (some (.int (v))) (n + 1, t, K, L, J3, R)) : a_does 700 251 [a_rf (C + 44), .int u1] (n + 1, t, K, L, J, R) P := by
  exact rdp_gen (C := C) (J := J) (Q := fun w J3 => w = v ∧ lawI b C (c + 1) n t K L J3 R) (rd_ring hx hc ho (fun J3 hI => ⟨_, J3, rfl, rfl, rfl, hI⟩)) (rf_ring hx.1.2.1 hx.1.2.2.1 hx.1.2.2.2.1 hc) (fun w J3 q d => by obtain ⟨rfl, hI⟩ := q; exact hP _ hI d)
theorem cf_swap  (hH : cH C c (n + 1) t K L J R) : a_does 700 158 [a_rf C] (n + 1, t, K, L, J, R) (fun _ h' => cF C J h') := by
  exact cu_swap9 hH (fun _ _ _ _ _ _ _ z => cf_Z z)
theorem rf_swap  (hS : m_S (C + 44) K L R) (hR : mR (C + 44) J) (hE : mE (C + 44) (120 * c) J) (hc : 120 * c + 130 ≤ 84000) : a_does 700 255 [a_rf (C + 44)] (n + 1, t, K, L, J, R) (fun _ h' => rPs C n t K L R J h') := by
  exact pu_swap9 hS ⟨⟨hR, fun _ _ _ => rfl⟩, hE⟩ hc (fun _ _ g => rf_F g)
theorem cdp_swap  (hb : b < C) (h : lawI b C c n t K L J R) (hP : ∀ v Z2 n2 t2 K2 L2 J2 R2, swO (yv (C + 44) J) v Z2 → aNx b C c n2 t2 K2 L2 J2 R2 (yv (C + 44) J) (Z2) → dP C J J2 → P (some (.int v)) (n2 + 1, t2, K2, L2, J2, R2)) : a_does 700 158 [a_rf C] (n + 1, t, K, L, J, R) P := by
  exact cdp_gen (C := C) (J := J) (Q := fun v n2 t2 K2 L2 J2 R2 => ∃ Z2, swO (yv (C + 44) J) v Z2 ∧ aNx b C c n2 t2 K2 L2 J2 R2 (yv (C + 44) J) (Z2)) (cd_swap hb h (fun v Z2 n2 t2 K2 L2 J2 R2 ho hx => ⟨v, n2, t2, K2, L2, J2, R2, rfl, rfl, Z2, ho, hx⟩)) (cf_swap h.1) (fun v n2 t2 K2 L2 J2 R2 q w => by obtain ⟨Z2, ho, hx⟩ := q; exact hP _ _ _ _ _ _ _ _ ho hx w)
theorem rdp_swap  (hx : aNx b C c n t K L J R Y (Z)) (hc : 120 * c + 130 ≤ 84000) {v : Int32} (ho : swO Y v Z) (hP : ∀ J3, lawI b C (c + 1) n t K L J3 R → dP C J J3 → P (some (.int (v))) (n + 1, t, K, L, J3, R)) : a_does 700 255 [a_rf (C + 44)] (n + 1, t, K, L, J, R) P := by
  exact rdp_gen (C := C) (J := J) (Q := fun w J3 => w = v ∧ lawI b C (c + 1) n t K L J3 R) (rd_swap hx hc ho (fun J3 hI => ⟨_, J3, rfl, rfl, rfl, hI⟩)) (rf_swap hx.1.2.1 hx.1.2.2.1 hx.1.2.2.2.1 hc) (fun w J3 q d => by obtain ⟨rfl, hI⟩ := q; exact hP _ hI d)
theorem cf_had {u1 u2 u3 : Int32} (hH : cH C c (n + 1) t K L J R) : a_does 700 160 [a_rf C, .int u1, .int u2, .int u3] (n + 1, t, K, L, J, R) (fun _ h' => cF C J h') := by
  exact cq_had hH (fun _ _ z => cf_J (fun x j hx => z.2 x j (by unfold eP at hx; omega) (by unfold eP at hx; omega) (by unfold eP at hx; omega)))
theorem rf_had {u1 u2 u3 : Int32} (hS : m_S (C + 44) K L R) (hR : mR (C + 44) J) (hE : mE (C + 44) (120 * c) J) (hc : 120 * c + 130 ≤ 84000) : a_does 700 256 [a_rf (C + 44), .int u1, .int u2, .int u3] (n + 1, t, K, L, J, R) (fun _ h' => rPs C n t K L R J h') := by
  exact xq_had hS hR (fun _ _ q => rf_Q q)
theorem cdp_had {u1 u2 u3 : Int32} (hb : b < C) (h : lawI b C c n t K L J R) (hP : ∀ v n2 t2 K2 L2 J2 R2, aNx b C c n2 t2 K2 L2 J2 R2 (yv (C + 44) J) ((yv (C + 44) J)) → dP C J J2 → P (some (.int v)) (n2 + 1, t2, K2, L2, J2, R2)) : a_does 700 160 [a_rf C, .int u1, .int u2, .int u3] (n + 1, t, K, L, J, R) P := by
  exact cdp_gen (C := C) (J := J) (Q := fun v n2 t2 K2 L2 J2 R2 => aNx b C c n2 t2 K2 L2 J2 R2 (yv (C + 44) J) ((yv (C + 44) J))) (cd_had hb h (fun v n2 t2 K2 L2 J2 R2 hx => ⟨v, n2, t2, K2, L2, J2, R2, rfl, rfl, hx⟩)) (cf_had h.1) (fun v n2 t2 K2 L2 J2 R2 q w => hP _ _ _ _ _ _ _ q w)
theorem rdp_had {u1 u2 u3 : Int32} (hx : aNx b C c n t K L J R Y (Y)) (hc : 120 * c + 130 ≤ 84000) (hP : ∀ v J3, lawI b C (c + 1) n t K L J3 R → dP C J J3 → P (some (.int v)) (n + 1, t, K, L, J3, R)) : a_does 700 256 [a_rf (C + 44), .int u1, .int u2, .int u3] (n + 1, t, K, L, J, R) P := by
  exact rdp_gen (C := C) (J := J) (Q := fun w J3 => lawI b C (c + 1) n t K L J3 R) (rd_had hx hc (fun v J3 hI => ⟨v, J3, rfl, rfl, hI⟩)) (rf_had hx.1.2.1 hx.1.2.2.1 hx.1.2.2.2.1 hc) (fun w J3 q d => hP _ _ q d)
theorem cf_lead {u1 u2 : Int32} (hH : cH C c (n + 1) t K L J R) : a_does 700 162 [a_rf C, .int u1, .int u2] (n + 1, t, K, L, J, R) (fun _ h' => cF C J h') := by
  exact cq_lead hH (fun _ _ z => cf_J (fun x j hx => z.2 x j (by unfold eP at hx; omega) (by unfold eP at hx; omega) (by unfold eP at hx; omega)))
theorem rf_lead {u1 u2 : Int32} (hS : m_S (C + 44) K L R) (hR : mR (C + 44) J) (hE : mE (C + 44) (120 * c) J) (hc : 120 * c + 130 ≤ 84000) : a_does 700 258 [a_rf (C + 44), .int u1, .int u2] (n + 1, t, K, L, J, R) (fun _ h' => rPs C n t K L R J h') := by
  exact xq_lead hS hR (fun _ _ q => rf_Q q)
theorem cdp_lead {u1 u2 : Int32} (hb : b < C) (h : lawI b C c n t K L J R) (hP : ∀ v n2 t2 K2 L2 J2 R2, aNx b C c n2 t2 K2 L2 J2 R2 (yv (C + 44) J) ((yv (C + 44) J)) → dP C J J2 → P (some (.int v)) (n2 + 1, t2, K2, L2, J2, R2)) : a_does 700 162 [a_rf C, .int u1, .int u2] (n + 1, t, K, L, J, R) P := by
  exact cdp_gen (C := C) (J := J) (Q := fun v n2 t2 K2 L2 J2 R2 => aNx b C c n2 t2 K2 L2 J2 R2 (yv (C + 44) J) ((yv (C + 44) J))) (cd_lead hb h (fun v n2 t2 K2 L2 J2 R2 hx => ⟨v, n2, t2, K2, L2, J2, R2, rfl, rfl, hx⟩)) (cf_lead h.1) (fun v n2 t2 K2 L2 J2 R2 q w => hP _ _ _ _ _ _ _ q w)
theorem rdp_lead {u1 u2 : Int32} (hx : aNx b C c n t K L J R Y (Y)) (hc : 120 * c + 130 ≤ 84000) (hP : ∀ v J3, lawI b C (c + 1) n t K L J3 R → dP C J J3 → P (some (.int v)) (n + 1, t, K, L, J3, R)) : a_does 700 258 [a_rf (C + 44), .int u1, .int u2] (n + 1, t, K, L, J, R) P := by
  exact rdp_gen (C := C) (J := J) (Q := fun w J3 => lawI b C (c + 1) n t K L J3 R) (rd_lead hx hc (fun v J3 hI => ⟨v, J3, rfl, rfl, hI⟩)) (rf_lead hx.1.2.1 hx.1.2.2.1 hx.1.2.2.2.1 hc) (fun w J3 q d => hP _ _ q d)
theorem cf_put {u1 : Int32} (hH : cH C c (n + 1) t K L J R) : a_does 700 163 [a_rf C, .int u1] (n + 1, t, K, L, J, R) (fun _ h' => cF C J h') := by
  have hC := hH.2.2.1
  exact ke_put9 hH (fun _ _ z => cf_Z z) (fun _ _ => cf_J (fun x j hx => by rw [ui_ap, if_neg (by unfold eP at hx; omega), ui_ap, if_neg (by unfold eP at hx; omega)]))
theorem rf_put {u1 : Int32} (hS : m_S (C + 44) K L R) (hR : mR (C + 44) J) (hE : mE (C + 44) (120 * c) J) (hc : 120 * c + 130 ≤ 84000) : a_does 700 259 [a_rf (C + 44), .int u1] (n + 1, t, K, L, J, R) (fun _ h' => rPs C n t K L R J h') := by
  exact pe_put hS (rg_rowMany hR) (fun _ => rf_J (fun x j hx => by rw [ui_ap, if_neg (by unfold eP at hx; omega)])) (fun _ => rf_J (fun x j hx => by rw [ui_ap, if_neg (by unfold eP at hx; omega), ui_ap, if_neg (by unfold eP at hx; omega)]))
theorem cdp_put {u1 : Int32} (hb : b < C) (h : lawI b C c n t K L J R) (hP : ∀ n2 t2 K2 L2 J2 R2, aNx b C c n2 t2 K2 L2 J2 R2 (yv (C + 44) J) ((ptY (yv (C + 44) J) u1).2) → dP C J J2 → P (some (.int ((ptY (yv (C + 44) J) u1).1))) (n2 + 1, t2, K2, L2, J2, R2)) : a_does 700 163 [a_rf C, .int u1] (n + 1, t, K, L, J, R) P := by
  exact cdp_gen (C := C) (J := J) (Q := fun v n2 t2 K2 L2 J2 R2 => v = (ptY (yv (C + 44) J) u1).1 ∧ aNx b C c n2 t2 K2 L2 J2 R2 (yv (C + 44) J) ((ptY (yv (C + 44) J) u1).2)) (cd_put hb h (fun n2 t2 K2 L2 J2 R2 hx => ⟨_, n2, t2, K2, L2, J2, R2, rfl, rfl, rfl, hx⟩)) (cf_put h.1) (fun v n2 t2 K2 L2 J2 R2 q w => by obtain ⟨rfl, hx⟩ := q; exact hP _ _ _ _ _ _ hx w)
theorem rdp_put {u1 : Int32} (hx : aNx b C c n t K L J R Y ((ptY Y u1).2)) (hc : 120 * c + 130 ≤ 84000) (hP : ∀ J3, lawI b C (c + 1) n t K L J3 R → dP C J J3 → P (some (.int ((ptY Y u1).1))) (n + 1, t, K, L, J3, R)) : a_does 700 259 [a_rf (C + 44), .int u1] (n + 1, t, K, L, J, R) P := by
  exact rdp_gen (C := C) (J := J) (Q := fun w J3 => w = (ptY Y u1).1 ∧ lawI b C (c + 1) n t K L J3 R) (rd_put hx hc (fun J3 hI => ⟨_, J3, rfl, rfl, rfl, hI⟩)) (rf_put hx.1.2.1 hx.1.2.2.1 hx.1.2.2.2.1 hc) (fun w J3 q d => by obtain ⟨rfl, hI⟩ := q; exact hP _ hI d)
theorem cf_check {u1 u2 u3 : Int32} (hH : cH C c (n + 1) t K L J R) : a_does 700 164 [a_rf C, .int u1, .int u2, .int u3] (n + 1, t, K, L, J, R) (fun _ h' => cF C J h') := by
  have hC := hH.2.2.1
  exact ke_check9 hH (fun _ _ z => cf_Z z) (fun _ _ _ z => cf_Z z) (fun _ _ _ _ z => cf_Z z) (fun _ _ _ _ _ => cf_J (fun x j hx => by rw [ui_ap, if_neg (by unfold eP at hx; omega)]))
theorem rf_check {u1 u2 u3 : Int32} (hS : m_S (C + 44) K L R) (hR : mR (C + 44) J) (hE : mE (C + 44) (120 * c) J) (hc : 120 * c + 130 ≤ 84000) : a_does 700 260 [a_rf (C + 44), .int u1, .int u2, .int u3] (n + 1, t, K, L, J, R) (fun _ h' => rPs C n t K L R J h') := by
  exact pe_check hS hR (fun _ => rf_J (fun x j hx => by rw [ui_ap, if_neg (by unfold eP at hx; omega)])) (fun _ _ => rf_J (fun x j hx => by rw [ui_ap, if_neg (by unfold eP at hx; omega)])) (fun _ _ _ => rf_J (fun x j hx => by rw [ui_ap, if_neg (by unfold eP at hx; omega)])) (fun _ _ _ _ => rf_J (fun x j hx => by rw [ui_ap, if_neg (by unfold eP at hx; omega)]))
theorem cdp_check {u1 u2 u3 : Int32} (hb : b < C) (h : lawI b C c n t K L J R) (hP : ∀ v n2 t2 K2 L2 J2 R2, aNx b C c n2 t2 K2 L2 J2 R2 (yv (C + 44) J) (ckY (yv (C + 44) J) u1 u2 u3) → dP C J J2 → P (some (.int v)) (n2 + 1, t2, K2, L2, J2, R2)) : a_does 700 164 [a_rf C, .int u1, .int u2, .int u3] (n + 1, t, K, L, J, R) P := by
  exact cdp_gen (C := C) (J := J) (Q := fun v n2 t2 K2 L2 J2 R2 => aNx b C c n2 t2 K2 L2 J2 R2 (yv (C + 44) J) (ckY (yv (C + 44) J) u1 u2 u3)) (cd_check hb h (fun v n2 t2 K2 L2 J2 R2 hx => ⟨v, n2, t2, K2, L2, J2, R2, rfl, rfl, hx⟩)) (cf_check h.1) (fun v n2 t2 K2 L2 J2 R2 q w => hP _ _ _ _ _ _ _ q w)
theorem rdp_check {u1 u2 u3 : Int32} (hx : aNx b C c n t K L J R Y (ckY Y u1 u2 u3)) (hc : 120 * c + 130 ≤ 84000) (hP : ∀ v J3, lawI b C (c + 1) n t K L J3 R → dP C J J3 → P (some (.int v)) (n + 1, t, K, L, J3, R)) : a_does 700 260 [a_rf (C + 44), .int u1, .int u2, .int u3] (n + 1, t, K, L, J, R) P := by
  exact rdp_gen (C := C) (J := J) (Q := fun w J3 => lawI b C (c + 1) n t K L J3 R) (rd_check hx hc (fun v J3 hI => ⟨v, J3, rfl, rfl, hI⟩)) (rf_check hx.1.2.1 hx.1.2.2.1 hx.1.2.2.2.1 hc) (fun w J3 q d => hP _ _ q d)
theorem cf_count {u1 : Int32} (hH : cH C c (n + 1) t K L J R) : a_does 700 166 [a_rf C, .int u1] (n + 1, t, K, L, J, R) (fun _ h' => cF C J h') := by
  exact cq_count hH (fun _ _ z => cf_J (fun x j hx => z.2 x j (by unfold eP at hx; omega) (by unfold eP at hx; omega) (by unfold eP at hx; omega)))
theorem rf_count {u1 : Int32} (hS : m_S (C + 44) K L R) (hR : mR (C + 44) J) (hE : mE (C + 44) (120 * c) J) (hc : 120 * c + 130 ≤ 84000) : a_does 700 261 [a_rf (C + 44), .int u1] (n + 1, t, K, L, J, R) (fun _ h' => rPs C n t K L R J h') := by
  exact xq_count hS hR (fun _ _ q => rf_Q q)
theorem cdp_count {u1 : Int32} (hb : b < C) (h : lawI b C c n t K L J R) (hP : ∀ v n2 t2 K2 L2 J2 R2, aNx b C c n2 t2 K2 L2 J2 R2 (yv (C + 44) J) ((yv (C + 44) J)) → dP C J J2 → P (some (.int v)) (n2 + 1, t2, K2, L2, J2, R2)) : a_does 700 166 [a_rf C, .int u1] (n + 1, t, K, L, J, R) P := by
  exact cdp_gen (C := C) (J := J) (Q := fun v n2 t2 K2 L2 J2 R2 => aNx b C c n2 t2 K2 L2 J2 R2 (yv (C + 44) J) ((yv (C + 44) J))) (cd_count hb h (fun v n2 t2 K2 L2 J2 R2 hx => ⟨v, n2, t2, K2, L2, J2, R2, rfl, rfl, hx⟩)) (cf_count h.1) (fun v n2 t2 K2 L2 J2 R2 q w => hP _ _ _ _ _ _ _ q w)
theorem rdp_count {u1 : Int32} (hx : aNx b C c n t K L J R Y (Y)) (hc : 120 * c + 130 ≤ 84000) (hP : ∀ v J3, lawI b C (c + 1) n t K L J3 R → dP C J J3 → P (some (.int v)) (n + 1, t, K, L, J3, R)) : a_does 700 261 [a_rf (C + 44), .int u1] (n + 1, t, K, L, J, R) P := by
  exact rdp_gen (C := C) (J := J) (Q := fun w J3 => lawI b C (c + 1) n t K L J3 R) (rd_count hx hc (fun v J3 hI => ⟨v, J3, rfl, rfl, hI⟩)) (rf_count hx.1.2.1 hx.1.2.2.1 hx.1.2.2.2.1 hc) (fun w J3 q d => hP _ _ q d)
/-- what passed tells -/
def paV (m : Int32) (f : Nat → Int32) (w : Int32) : Int32 := if w < -1 then -2 else if w = -1 then m else if w < m then f w.toNatClampNeg else -9
theorem pa_eq {J0 : Nat → Nat → Int32} (h : psP C J) (w : dP C J J0) {u : Int32} : paV (J (C + 22) 7) (J (C + 24)) u = paV (J0 (C + 44) 61) (J0 (C + 44 + 39)) u := by
  rw [w (C + 44) 61 (by unfold eP; omega), ← h.1]
  unfold paV
  by_cases c1 : u < -1
  · rw [if_pos c1, if_pos c1]
  · rw [if_neg c1, if_neg c1]
    by_cases c2 : u = -1
    · rw [if_pos c2, if_pos c2]
    · rw [if_neg c2, if_neg c2]
      by_cases c3 : u < J (C + 22) 7
      · rw [if_pos c3, if_pos c3, w (C + 44 + 39) _ (by unfold eP; omega)]
        have u0 : 0 ≤ u := by ((try clear h); (try clear w)); grind
        refine h.2 _ ?_
        rw [← h.1]
        exact cl_lt u0 c3
      · rw [if_neg c3, if_neg c3]
theorem cv_passed (hH : cH C c (n + 1) t K L I R) {w : Int32} (hP : ∀ J, P (some (.int (paV (I (C + 22) 7) (I (C + 24)) w))) (n + 1, t, K, L, J, R)) : a_does (d + 70) 125 [a_rf C, .int w] (n + 1, t, K, L, I, R) P := by
  have hT := hH.1
  have hS := hT.s
  have g := hT.g_passed
  unfold paV at hP
  by_cases c1 : w < -1
  · rw [if_pos c1] at hP
    have hr : a_does (d + 69) 10 [a_rf C, .int (-2)] (n + 1, t, K, L, I, R) (fun r h' => a_at (d + 69) (a_xm a_m125) 11 [some (a_rf C), some (.int w)] (r.toList ++ []) h' P) := by
      refine cr_refuse (d := d + 68) hH (fun J _ => ?_)
      have hp := hP J
      ((try clear hP))
      simp only [q125_11, as_nil, as_i, as_r, Nat.reduceAdd, Nat.reduceLeDiff, z_eq0, z_eq1, z_or, z_em, Classical.not_not, not_false_eq_true, not_true_eq_false, true_and, and_true, false_and, and_false, and_self, true_implies, false_implies, implies_true, Option.toList_some, Option.toList_none, List.cons_append, List.nil_append, Nat.add_eq_zero_iff, a_nl_i, a_nl_r, a_nl_n, true_or, or_true, eq_self, a_isRA_22, a_isRA_24, a_isRA_32, a_isA_20, ok_4, ok_5, ok_6, ok_7, ok_9, ok_20, ok_21, ok_30, ok_50, ok_180, ok_192, ok_200]
      exact hp
    ((try clear hP))
    rw [a_enter1 (M := a_m125) rfl (a_cat_rf (a_cat_int a_cat_nil)) (show 2 ≤ 2 by decide)]
    show a_at _ (a_xm a_m125) 0 [some (a_rf C), some (.int w)] [] _ _
    simp only [q125_0, q125_1, q125_2, q125_5, q125_6, q125_8, k_0 hS, z_C hS, as_nil, as_i, as_r, Nat.reduceAdd, Nat.reduceLeDiff, z_eq0, z_eq1, z_or, z_em, Classical.not_not, not_false_eq_true, not_true_eq_false, true_and, and_true, false_and, and_false, and_self, true_implies, false_implies, implies_true, Option.toList_some, Option.toList_none, List.cons_append, List.nil_append, Nat.add_eq_zero_iff, a_nl_i, a_nl_r, a_nl_n, true_or, or_true, eq_self, a_isRA_22, a_isRA_24, a_isRA_32, a_isA_20, ok_4, ok_5, ok_6, ok_7, ok_9, ok_20, ok_21, ok_30, ok_50, ok_180, ok_192, ok_200, c1]
    try simp only [true_and, and_true, true_implies, false_implies, implies_true, not_true_eq_false, not_false_eq_true]
    first
      | exact hr
      | grind
  · rw [if_neg c1] at hP
    by_cases c2 : w = -1
    · subst c2
      rw [if_pos rfl] at hP
      have hp := hP I
      ((try clear hP))
      rw [a_enter1 (M := a_m125) rfl (a_cat_rf (a_cat_int a_cat_nil)) (show 2 ≤ 2 by decide)]
      show a_at _ (a_xm a_m125) 0 [some (a_rf C), some (.int (-1))] [] _ _
      simp only [q125_0, q125_1, q125_2, q125_12, q125_13, q125_14, q125_17, q125_18, q125_21, q125_24, q125_35, k_0 hS, z_C hS, r_0_5 hS, k_22 hS, z_22, as_nil, as_i, as_r, Nat.reduceAdd, Nat.reduceLeDiff, z_eq0, z_eq1, z_or, z_em, Classical.not_not, not_false_eq_true, not_true_eq_false, true_and, and_true, false_and, and_false, and_self, true_implies, false_implies, implies_true, Option.toList_some, Option.toList_none, List.cons_append, List.nil_append, Nat.add_eq_zero_iff, a_nl_i, a_nl_r, a_nl_n, true_or, or_true, eq_self, a_isRA_22, a_isRA_24, a_isRA_32, a_isA_20, ok_4, ok_5, ok_6, ok_7, ok_9, ok_20, ok_21, ok_30, ok_50, ok_180, ok_192, ok_200, c1]
      try simp only [true_and, and_true, true_implies, false_implies, implies_true, not_true_eq_false, not_false_eq_true]
      first
        | exact hp
        | grind
    · rw [if_neg c2] at hP
      have hp := hP I
      have w0 : 0 ≤ w := by ((try clear hP); (try clear hp)); grind
      have wn : ¬ w < 0 := Int32.not_lt.mpr w0
      ((try clear hP))
      have hl : a_does (d + 69) 126 [a_rf (C + 22), .int w] (n + 1, t, K, L, I, R) (fun r h' => a_at (d + 69) (a_xm a_m125) 35 [some (a_rf C), some (.int w)] (r.toList ++ []) h' P) := by
        by_cases c3 : w < I (C + 22) 7
        · rw [if_pos c3] at hp
          have w3 : 0 ≤ w ∧ w < 30 := ⟨w0, Int32.lt_of_lt_of_le c3 g.2⟩
          rw [a_enter1 (M := a_m126) rfl (a_cat_rf (a_cat_int a_cat_nil)) (show 2 ≤ 2 by decide)]
          show a_at _ (a_xm a_m126) 0 [some (a_rf (C + 22)), some (.int w)] [] _ _
          simp only [q126_0, q126_1, q126_4, q126_5, q126_6, q126_9, q126_12, q126_13, q126_16, q126_17, q126_18, q126_21, q126_23, k_22 hS, z_22, r_22_3 hS, k_24 hS, l_24 hS, z_24, q125_35, as_nil, as_i, as_r, Nat.reduceAdd, Nat.reduceLeDiff, z_eq0, z_eq1, z_or, z_em, Classical.not_not, not_false_eq_true, not_true_eq_false, true_and, and_true, false_and, and_false, and_self, true_implies, false_implies, implies_true, Option.toList_some, Option.toList_none, List.cons_append, List.nil_append, Nat.add_eq_zero_iff, a_nl_i, a_nl_r, a_nl_n, true_or, or_true, eq_self, a_isRA_22, a_isRA_24, a_isRA_32, a_isA_20, ok_4, ok_5, ok_6, ok_7, ok_9, ok_20, ok_21, ok_30, ok_50, ok_180, ok_192, ok_200, wn, c3, w3]
          try simp only [true_and, and_true, true_implies, false_implies, implies_true, not_true_eq_false, not_false_eq_true]
          first
            | exact hp
            | grind
        · rw [if_neg c3] at hp
          rw [a_enter1 (M := a_m126) rfl (a_cat_rf (a_cat_int a_cat_nil)) (show 2 ≤ 2 by decide)]
          show a_at _ (a_xm a_m126) 0 [some (a_rf (C + 22)), some (.int w)] [] _ _
          simp only [q126_0, q126_1, q126_4, q126_5, q126_6, q126_9, q126_12, q126_13, q126_16, q126_17, q126_18, q126_21, q126_23, k_22 hS, z_22, r_22_3 hS, k_24 hS, l_24 hS, z_24, q125_35, as_nil, as_i, as_r, Nat.reduceAdd, Nat.reduceLeDiff, z_eq0, z_eq1, z_or, z_em, Classical.not_not, not_false_eq_true, not_true_eq_false, true_and, and_true, false_and, and_false, and_self, true_implies, false_implies, implies_true, Option.toList_some, Option.toList_none, List.cons_append, List.nil_append, Nat.add_eq_zero_iff, a_nl_i, a_nl_r, a_nl_n, true_or, or_true, eq_self, a_isRA_22, a_isRA_24, a_isRA_32, a_isA_20, ok_4, ok_5, ok_6, ok_7, ok_9, ok_20, ok_21, ok_30, ok_50, ok_180, ok_192, ok_200, wn, c3]
          try simp only [true_and, and_true, true_implies, false_implies, implies_true, not_true_eq_false, not_false_eq_true]
          first
            | exact hp
            | grind
      ((try clear hp))
      rw [a_enter1 (M := a_m125) rfl (a_cat_rf (a_cat_int a_cat_nil)) (show 2 ≤ 2 by decide)]
      show a_at _ (a_xm a_m125) 0 [some (a_rf C), some (.int w)] [] _ _
      simp only [q125_0, q125_1, q125_2, q125_12, q125_13, q125_14, q125_27, q125_28, q125_31, q125_32, k_0 hS, z_C hS, r_0_5 hS, k_22 hS, z_22, as_nil, as_i, as_r, Nat.reduceAdd, Nat.reduceLeDiff, z_eq0, z_eq1, z_or, z_em, Classical.not_not, not_false_eq_true, not_true_eq_false, true_and, and_true, false_and, and_false, and_self, true_implies, false_implies, implies_true, Option.toList_some, Option.toList_none, List.cons_append, List.nil_append, Nat.add_eq_zero_iff, a_nl_i, a_nl_r, a_nl_n, true_or, or_true, eq_self, a_isRA_22, a_isRA_24, a_isRA_32, a_isA_20, ok_4, ok_5, ok_6, ok_7, ok_9, ok_20, ok_21, ok_30, ok_50, ok_180, ok_192, ok_200, c1, c2]
      try simp only [true_and, and_true, true_implies, false_implies, implies_true, not_true_eq_false, not_false_eq_true]
      first
        | exact hl
        | grind
end ZT0
section ZT1
variable {d n t M : Nat} {K L : Nat → Nat} {I I0 J J0 J1 J2 : Nat → Nat → Int32} {R : Nat → Nat → Nat} {P : Option Value → AH → Prop} {f : Nat → Int32} {e : Int32}
theorem xv_passed (hS : m_S M K L R) (hR : mR M I) {w : Int32} (hP : ∀ J, P (some (.int (paV (I M 61) (I (M + 39)) w))) (n, t, K, L, J, R)) : a_does (d + 16) 240 [a_rf M, .int w] (n, t, K, L, I, R) P := by
  have g := rg_passedMany hR
  unfold paV at hP
  by_cases c1 : w < -1
  · rw [if_pos c1] at hP
    have hr := hP (a_ui I (M + 23) 2 (I (M + 23) 2 + 1))
    ((try clear hP))
    rw [a_enter1 (M := a_m240) rfl (a_cat_rf (a_cat_int a_cat_nil)) (show 2 ≤ 2 by decide)]
    show a_at _ (a_xm a_m240) 0 [some (a_rf M), some (.int w)] [] _ _
    simp only [q240_0, q240_1, q240_2, q240_5, q240_6, q240_8, q240_11, m_0 hS, m_K hS, sp_refuse_1 hS, sp_refuse_2 hS, sp_refuse_3 hS, sp_refuse_4 hS, sp_refuse_5 hS, sp_refuse_6 hS, as_nil, as_i, as_r, Nat.reduceAdd, Nat.reduceLeDiff, z_eq0, z_eq1, z_or, z_em, Classical.not_not, not_false_eq_true, not_true_eq_false, true_and, and_true, false_and, and_false, and_self, true_implies, false_implies, implies_true, Option.toList_some, Option.toList_none, List.cons_append, List.nil_append, Nat.add_eq_zero_iff, a_nl_i, a_nl_r, a_nl_n, true_or, or_true, eq_self, ok_4, ok_5, ok_6, ok_7, ok_9, ok_10, ok_20, ok_21, ok_24, ok_30, ok_48, ok_50, ok_60, ok_80, ok_120, ok_180, ok_192, ok_200, ok_900, ok_1000, ok_84000, c1]
    try simp only [true_and, and_true, true_implies, false_implies, implies_true, not_true_eq_false, not_false_eq_true]
    first
      | exact hr
      | grind
  · rw [if_neg c1] at hP
    by_cases c2 : w = -1
    · subst c2
      rw [if_pos rfl] at hP
      have hp := hP I
      ((try clear hP))
      rw [a_enter1 (M := a_m240) rfl (a_cat_rf (a_cat_int a_cat_nil)) (show 2 ≤ 2 by decide)]
      show a_at _ (a_xm a_m240) 0 [some (a_rf M), some (.int (-1))] [] _ _
      simp only [q240_0, q240_1, q240_2, q240_12, q240_13, q240_14, q240_17, q240_18, q240_21, q240_43, m_0 hS, m_K hS, as_nil, as_i, as_r, Nat.reduceAdd, Nat.reduceLeDiff, z_eq0, z_eq1, z_or, z_em, Classical.not_not, not_false_eq_true, not_true_eq_false, true_and, and_true, false_and, and_false, and_self, true_implies, false_implies, implies_true, Option.toList_some, Option.toList_none, List.cons_append, List.nil_append, Nat.add_eq_zero_iff, a_nl_i, a_nl_r, a_nl_n, true_or, or_true, eq_self, ok_4, ok_5, ok_6, ok_7, ok_9, ok_10, ok_20, ok_21, ok_24, ok_30, ok_48, ok_50, ok_60, ok_80, ok_120, ok_180, ok_192, ok_200, ok_900, ok_1000, ok_84000, c1]
      try simp only [true_and, and_true, true_implies, false_implies, implies_true, not_true_eq_false, not_false_eq_true]
      first
        | exact hp
        | grind
    · rw [if_neg c2] at hP
      have hp := hP I
      ((try clear hP))
      by_cases c3 : w < I M 61
      · rw [if_pos c3] at hp
        have w3 : 0 ≤ w ∧ w < 30 := ⟨by ((try clear hp)); grind, Int32.lt_of_lt_of_le c3 g.2⟩
        rw [a_enter1 (M := a_m240) rfl (a_cat_rf (a_cat_int a_cat_nil)) (show 2 ≤ 2 by decide)]
        show a_at _ (a_xm a_m240) 0 [some (a_rf M), some (.int w)] [] _ _
        simp only [q240_0, q240_1, q240_2, q240_12, q240_13, q240_14, q240_24, q240_25, q240_26, q240_29, q240_32, q240_33, q240_36, q240_37, q240_38, q240_41, q240_43, m_0 hS, m_K hS, mR_passedAsk hS, mK_passedAsk hS, mL_passedAsk hS, as_nil, as_i, as_r, Nat.reduceAdd, Nat.reduceLeDiff, z_eq0, z_eq1, z_or, z_em, Classical.not_not, not_false_eq_true, not_true_eq_false, true_and, and_true, false_and, and_false, and_self, true_implies, false_implies, implies_true, Option.toList_some, Option.toList_none, List.cons_append, List.nil_append, Nat.add_eq_zero_iff, a_nl_i, a_nl_r, a_nl_n, true_or, or_true, eq_self, ok_4, ok_5, ok_6, ok_7, ok_9, ok_10, ok_20, ok_21, ok_24, ok_30, ok_48, ok_50, ok_60, ok_80, ok_120, ok_180, ok_192, ok_200, ok_900, ok_1000, ok_84000, c1, c2, c3, w3]
        try simp only [true_and, and_true, true_implies, false_implies, implies_true, not_true_eq_false, not_false_eq_true]
        first
          | exact hp
          | grind
      · rw [if_neg c3] at hp
        rw [a_enter1 (M := a_m240) rfl (a_cat_rf (a_cat_int a_cat_nil)) (show 2 ≤ 2 by decide)]
        show a_at _ (a_xm a_m240) 0 [some (a_rf M), some (.int w)] [] _ _
        simp only [q240_0, q240_1, q240_2, q240_12, q240_13, q240_14, q240_24, q240_25, q240_26, q240_29, q240_32, q240_33, q240_36, q240_37, q240_38, q240_41, q240_43, m_0 hS, m_K hS, mR_passedAsk hS, mK_passedAsk hS, mL_passedAsk hS, as_nil, as_i, as_r, Nat.reduceAdd, Nat.reduceLeDiff, z_eq0, z_eq1, z_or, z_em, Classical.not_not, not_false_eq_true, not_true_eq_false, true_and, and_true, false_and, and_false, and_self, true_implies, false_implies, implies_true, Option.toList_some, Option.toList_none, List.cons_append, List.nil_append, Nat.add_eq_zero_iff, a_nl_i, a_nl_r, a_nl_n, true_or, or_true, eq_self, ok_4, ok_5, ok_6, ok_7, ok_9, ok_10, ok_20, ok_21, ok_24, ok_30, ok_48, ok_50, ok_60, ok_80, ok_120, ok_180, ok_192, ok_200, ok_900, ok_1000, ok_84000, c1, c2, c3]
        try simp only [true_and, and_true, true_implies, false_implies, implies_true, not_true_eq_false, not_false_eq_true]
        first
          | exact hp
          | grind
end ZT1
section ZT2
variable {d n t C c : Nat} {K L : Nat → Nat} {I I0 J J0 J1 J2 : Nat → Nat → Int32} {R : Nat → Nat → Nat} {P : Option Value → AH → Prop}
variable {Y Z W : Nat → Nat → Int32} {b n' t' c' : Nat} {K' L' : Nat → Nat} {R' : Nat → Nat → Nat}
theorem cap_passed {u1 : Int32} (hb : b < C) (h : lawI b C c n t K L J R) (hP : ∀ n2 t2 K2 L2 J2 R2, aNx b C c n2 t2 K2 L2 J2 R2 (yv (C + 44) J) (yv (C + 44) J) → dP C J J2 → P (some (.int (paV (J (C + 22) 7) (J (C + 24)) u1))) (n2 + 1, t2, K2, L2, J2, R2)) : a_does 700 125 [a_rf C, .int u1] (n + 1, t, K, L, J, R) P := by
  refine does_mono (does_and (cdp_passed (P := fun _ h' => ∃ n2 t2 K2 L2 J2 R2, h' = (n2 + 1, t2, K2, L2, J2, R2) ∧ aNx b C c n2 t2 K2 L2 J2 R2 (yv (C + 44) J) (yv (C + 44) J) ∧ dP C J J2) hb h (fun _ n2 t2 K2 L2 J2 R2 hx w => ⟨n2, t2, K2, L2, J2, R2, rfl, hx, w⟩)) (cv_passed (P := fun r _ => r = some (.int (paV (J (C + 22) 7) (J (C + 24)) u1))) h.1 (fun _ => rfl))) (fun r h' q => ?_)
  obtain ⟨⟨n2, t2, K2, L2, J2, R2, e1, hx, w⟩, e2⟩ := q
  rw [e1, e2]
  exact hP _ _ _ _ _ _ hx w
theorem rap_passed {u1 : Int32} (hx : aNx b C c n t K L J R Y Y) (hc : 120 * c + 130 ≤ 84000) (hP : ∀ J3, lawI b C (c + 1) n t K L J3 R → dP C J J3 → P (some (.int (paV (J (C + 44) 61) (J (C + 44 + 39)) u1))) (n + 1, t, K, L, J3, R)) : a_does 700 240 [a_rf (C + 44), .int u1] (n + 1, t, K, L, J, R) P := by
  refine does_mono (does_and (rdp_passed (P := fun _ h' => ∃ J3, h' = (n + 1, t, K, L, J3, R) ∧ lawI b C (c + 1) n t K L J3 R ∧ dP C J J3) hx hc (fun _ J3 hI w => ⟨J3, rfl, hI, w⟩)) (xv_passed (P := fun r _ => r = some (.int (paV (J (C + 44) 61) (J (C + 44 + 39)) u1))) hx.1.2.1 hx.1.2.2.1 (fun _ => rfl))) (fun r h' q => ?_)
  obtain ⟨⟨J3, e1, hI, w⟩, e2⟩ := q
  rw [e1, e2]
  exact hP _ hI w
theorem or_m30 (h : 0 ≤ Y 0 17 ∧ Y 0 17 ≤ 30) : (orP Y).2 ≤ 30 := or_le _ _ _ (by
  have := cl_le h.1 h.2
  show 0 + (Y 0 17).toNatClampNeg ≤ 30
  omega)
theorem ps_init (hr : rawQ C K L J R) (hC : C = n + 1) : psP C (niM (n + 1 + 43) J) := by
  have e22 : niM (n + 1 + 43) J (C + 22) 7 = J (C + 22) 7 := (nM_low (K := K) (L := L) (R := R) (C + 22) (by omega)).2.2.1 7
  have e61 : niM (n + 1 + 43) J (C + 44) 61 = 0 := nM_J _ _ (by omega) (by omega) (by omega) (by omega)
  have e7 : J (C + 22) 7 = 0 := hr.2.2.2.2.2.2.2.2.2.2.2.1
  refine ⟨by rw [e22, e61, e7], fun j hj => ?_⟩
  rw [e61] at hj
  exact absurd hj (Nat.not_lt_zero j)
/-- what plan leaves of passed: in the class, in the reference -/
def plC (C : Nat) (I J Y : Nat → Nat → Int32) (u1 u2 : Int32) : Prop := ((0 ≤ u1 ∧ u1 < 200) ∧ (0 ≤ u2 ∧ u2 < 200) ∧ u1 ≤ u2 → J (C + 22) 7 = Int32.ofNat (plY Y u1 u2).2.1 ∧ ∀ j, j < (plY Y u1 u2).2.1 → J (C + 24) j = (plY Y u1 u2).2.2 j) ∧ (¬ ((0 ≤ u1 ∧ u1 < 200) ∧ (0 ≤ u2 ∧ u2 < 200) ∧ u1 ≤ u2) → J (C + 22) 7 = I (C + 22) 7 ∧ ∀ j, J (C + 24) j = I (C + 24) j)
def plM (M : Nat) (I J Y : Nat → Nat → Int32) (u1 u2 : Int32) : Prop := ((0 ≤ u1 ∧ u1 < 200) ∧ (0 ≤ u2 ∧ u2 < 200) ∧ u1 ≤ u2 → J M 61 = Int32.ofNat (plY Y u1 u2).2.1 ∧ (plY Y u1 u2).2.1 ≤ 30 ∧ ∀ j, j < (plY Y u1 u2).2.1 → J (M + 39) j = (plY Y u1 u2).2.2 j) ∧ (¬ ((0 ≤ u1 ∧ u1 < 200) ∧ (0 ≤ u2 ∧ u2 < 200) ∧ u1 ≤ u2) → J M 61 = I M 61 ∧ ∀ j, J (M + 39) j = I (M + 39) j)
theorem cv_plan (hH : cH C c (n + 1) t K L I R) (hu : cuP C K L I R Y) {u1 u2 : Int32} (hP : ∀ v J R2, plC C I J Y u1 u2 → P (some (.int v)) (n + 1, t, K, L, J, R2)) : a_does (d + 70) 118 [a_rf C, .int u1, .int u2] (n + 1, t, K, L, I, R) P := by
  have hT := hH.1
  have hS := hT.s
  have gA := hT.g_asksR
  have gB := hT.g_benchesR
  have gX := hT.g_textsR
  have hc := hu.1
  have h17 := hc.2.2.2.2.2.2.2.2.1
  have e4 : I (C + 14) 4 = Y 0 17 := hc.2.2.1.1
  by_cases c1 : (0 ≤ u1 ∧ u1 < 200) ∧ (0 ≤ u2 ∧ u2 < 200) ∧ u1 ≤ u2
  · have hcl : a_does (d + 69) 119 [a_rf (C + 22), .int u1, .int u2] (n + 1, t, K, L, I, R) (fun r h' => a_at (d + 69) (a_xm a_m118) 23 [some (a_rf C), some (.int u1), some (.int u2)] (r.toList ++ []) h' P) := by
      refine ce_planAll (d := d + 61) (Q := noA C R Y) hT hc hu.2.1 hu.2.2.1.1.1.1 no_not ⟨c1.1.1, by ((try clear hP); (try clear hc); (try clear hu)); grind⟩ (by ((try clear hP); (try clear hc); (try clear hu)); grind) (fun J R2 hT2 hc2 hb2 hr2 hle hpn hz2 => ?_)
      have hp := fun v => hP v J R2 ⟨fun _ => ⟨hpn.2.1, hpn.2.2.2⟩, fun q => absurd c1 q⟩
      ((try clear hP); (try clear hc); (try clear hu); (try clear hc2); (try clear hpn))
      simp only [q118_23, as_nil, as_i, as_r, Nat.reduceAdd, Nat.reduceLeDiff, z_eq0, z_eq1, z_or, z_em, Classical.not_not, not_false_eq_true, not_true_eq_false, true_and, and_true, false_and, and_false, and_self, true_implies, false_implies, implies_true, Option.toList_some, Option.toList_none, List.cons_append, List.nil_append, Nat.add_eq_zero_iff, a_nl_i, a_nl_r, a_nl_n, true_or, or_true, eq_self, a_isRA_22, a_isRA_24, a_isRA_32, a_isA_20, ok_4, ok_5, ok_6, ok_7, ok_9, ok_20, ok_21, ok_30, ok_50, ok_180, ok_192, ok_200]
      exact hp _
    ((try clear hP); (try clear hc); (try clear hu))
    rw [a_enter1 (M := a_m118) rfl (a_cat_rf (a_cat_int (a_cat_int a_cat_nil))) (show 3 ≤ 3 by decide)]
    show a_at _ (a_xm a_m118) 0 [some (a_rf C), some (.int u1), some (.int u2)] [] _ _
    simp only [q118_0, q118_1, q118_2, q118_5, q118_14, q118_15, q118_18, q118_19, q118_20, k_0 hS, z_C hS, r_0_5 hS, k_22 hS, z_22, sp_areShifts, as_nil, as_i, as_r, Nat.reduceAdd, Nat.reduceLeDiff, z_eq0, z_eq1, z_or, z_em, Classical.not_not, not_false_eq_true, not_true_eq_false, true_and, and_true, false_and, and_false, and_self, true_implies, false_implies, implies_true, Option.toList_some, Option.toList_none, List.cons_append, List.nil_append, Nat.add_eq_zero_iff, a_nl_i, a_nl_r, a_nl_n, true_or, or_true, eq_self, a_isRA_22, a_isRA_24, a_isRA_32, a_isA_20, ok_4, ok_5, ok_6, ok_7, ok_9, ok_20, ok_21, ok_30, ok_50, ok_180, ok_192, ok_200, c1]
    try simp only [true_and, and_true, true_implies, false_implies, implies_true, not_true_eq_false, not_false_eq_true]
    first
      | exact hcl
      | grind
  · have hr : a_does (d + 69) 10 [a_rf C, .int (-1)] (n + 1, t, K, L, I, R) (fun r h' => a_at (d + 69) (a_xm a_m118) 13 [some (a_rf C), some (.int u1), some (.int u2)] (r.toList ++ []) h' P) := by
      refine cr_refuse (d := d + 68) hH (fun J z => ?_)
      have hp := fun v => hP v J R ⟨fun q => absurd q c1, fun _ => ⟨z.2 _ _ (by omega), fun j => z.2 _ _ (by omega)⟩⟩
      ((try clear hP); (try clear hc); (try clear hu))
      simp only [q118_13, as_nil, as_i, as_r, Nat.reduceAdd, Nat.reduceLeDiff, z_eq0, z_eq1, z_or, z_em, Classical.not_not, not_false_eq_true, not_true_eq_false, true_and, and_true, false_and, and_false, and_self, true_implies, false_implies, implies_true, Option.toList_some, Option.toList_none, List.cons_append, List.nil_append, Nat.add_eq_zero_iff, a_nl_i, a_nl_r, a_nl_n, true_or, or_true, eq_self, a_isRA_22, a_isRA_24, a_isRA_32, a_isA_20, ok_4, ok_5, ok_6, ok_7, ok_9, ok_20, ok_21, ok_30, ok_50, ok_180, ok_192, ok_200]
      exact hp _
    ((try clear hP); (try clear hc); (try clear hu))
    rw [a_enter1 (M := a_m118) rfl (a_cat_rf (a_cat_int (a_cat_int a_cat_nil))) (show 3 ≤ 3 by decide)]
    show a_at _ (a_xm a_m118) 0 [some (a_rf C), some (.int u1), some (.int u2)] [] _ _
    simp only [q118_0, q118_1, q118_2, q118_5, q118_8, q118_9, q118_10, k_0 hS, z_C hS, sp_areShifts, as_nil, as_i, as_r, Nat.reduceAdd, Nat.reduceLeDiff, z_eq0, z_eq1, z_or, z_em, Classical.not_not, not_false_eq_true, not_true_eq_false, true_and, and_true, false_and, and_false, and_self, true_implies, false_implies, implies_true, Option.toList_some, Option.toList_none, List.cons_append, List.nil_append, Nat.add_eq_zero_iff, a_nl_i, a_nl_r, a_nl_n, true_or, or_true, eq_self, a_isRA_22, a_isRA_24, a_isRA_32, a_isA_20, ok_4, ok_5, ok_6, ok_7, ok_9, ok_20, ok_21, ok_30, ok_50, ok_180, ok_192, ok_200, c1]
    try simp only [true_and, and_true, true_implies, false_implies, implies_true, not_true_eq_false, not_false_eq_true]
    first
      | exact hr
      | grind
end ZT2
section ZT3
variable {d n t M : Nat} {K L : Nat → Nat} {I I0 J J0 J1 J2 : Nat → Nat → Int32} {R : Nat → Nat → Nat} {P : Option Value → AH → Prop} {f : Nat → Int32} {e : Int32}
variable {Y Z W : Nat → Nat → Int32}
theorem xv_plan (hS : m_S M K L R) {I1 : Nat → Nat → Int32} (hm : okY Y) {c : Nat} (hc : c + 130 ≤ 84000) (hF : mF M c I1 I) (hg : gs M I0 I Y) {u1 u2 : Int32} (hP : ∀ v J, plM M I J Y u1 u2 → P (some (.int v)) (n, t, K, L, J, R)) : a_does (d + 14) 234 [a_rf M, .int u1, .int u2] (n, t, K, L, I, R) P := by
  have hy := hm.1
  have h17 := hy.2.2.2.2.1
  have h10 := hy.2.1
  have h6 := hy.2.2.2.2.2.1
  have hl := hy.2.2.1
  have m199 : ∀ x : Int32, (x ≤ 199) = (x < 200) := le_199
  by_cases c1 : (0 ≤ u1 ∧ u1 < 200) ∧ (0 ≤ u2 ∧ u2 < 200) ∧ u1 ≤ u2
  · have hcl := xt_plan14 (d := d) (P := P) (f := u1) (e := u2) hS hm.2.1 h17 h10 h6 hl hc hF hg ⟨c1.1.1, by rw [m199]; exact c1.1.2⟩ (by rw [m199]; exact c1.2.1.2) (fun J q1 q2 _ _ q5 q6 q7 => hP _ J ⟨fun _ => ⟨q6, Nat.le_trans q5 (or_m30 h17), q7⟩, fun q => absurd c1 q⟩)
    ((try clear hP); (try clear hm); (try clear hy); (try clear hl); (try clear hg); (try clear hF))
    rw [a_enter1 (M := a_m234) rfl (a_cat_rf (a_cat_int (a_cat_int a_cat_nil))) (show 3 ≤ 6 by decide)]
    show a_at _ (a_xm a_m234) 0 [some (a_rf M), some (.int u1), some (.int u2), none, none, none] [] _ _
    simp only [q234_0, q234_1, q234_2, q234_5, sp_isSpan, as_nil, as_i, as_r, Nat.reduceAdd, Nat.reduceLeDiff, z_eq0, z_eq1, z_or, z_em, Classical.not_not, not_false_eq_true, not_true_eq_false, true_and, and_true, false_and, and_false, and_self, true_implies, false_implies, implies_true, Option.toList_some, Option.toList_none, List.cons_append, List.nil_append, Nat.add_eq_zero_iff, a_nl_i, a_nl_r, a_nl_n, true_or, or_true, eq_self, ok_4, ok_5, ok_6, ok_7, ok_9, ok_10, ok_20, ok_21, ok_24, ok_30, ok_48, ok_50, ok_60, ok_80, ok_120, ok_180, ok_192, ok_200, ok_900, ok_1000, ok_84000, m199, c1]
    try simp only [true_and, and_true, true_implies, false_implies, implies_true, not_true_eq_false, not_false_eq_true]
    first
      | exact hcl
      | grind
  · have hr := fun v J h => hP v J ⟨fun q => absurd q c1, fun _ => h⟩
    have hr := fun v => hr v (a_ui I (M + 23) 1 (I (M + 23) 1 + 1)) ⟨by rw [ui_ap, if_neg (by omega)], fun j => by rw [ui_ap, if_neg (by omega)]⟩
    ((try clear hP); (try clear hm); (try clear hy); (try clear hl); (try clear hg); (try clear hF))
    rw [a_enter1 (M := a_m234) rfl (a_cat_rf (a_cat_int (a_cat_int a_cat_nil))) (show 3 ≤ 6 by decide)]
    show a_at _ (a_xm a_m234) 0 [some (a_rf M), some (.int u1), some (.int u2), none, none, none] [] _ _
    simp only [q234_0, q234_1, q234_2, q234_5, q234_8, q234_9, q234_10, q234_13, m_0 hS, m_K hS, sp_isSpan, sp_refuse_1 hS, sp_refuse_2 hS, sp_refuse_3 hS, sp_refuse_4 hS, sp_refuse_5 hS, sp_refuse_6 hS, as_nil, as_i, as_r, Nat.reduceAdd, Nat.reduceLeDiff, z_eq0, z_eq1, z_or, z_em, Classical.not_not, not_false_eq_true, not_true_eq_false, true_and, and_true, false_and, and_false, and_self, true_implies, false_implies, implies_true, Option.toList_some, Option.toList_none, List.cons_append, List.nil_append, Nat.add_eq_zero_iff, a_nl_i, a_nl_r, a_nl_n, true_or, or_true, eq_self, ok_4, ok_5, ok_6, ok_7, ok_9, ok_10, ok_20, ok_21, ok_24, ok_30, ok_48, ok_50, ok_60, ok_80, ok_120, ok_180, ok_192, ok_200, ok_900, ok_1000, ok_84000, m199, c1]
    try simp only [true_and, and_true, true_implies, false_implies, implies_true, not_true_eq_false, not_false_eq_true]
    first
      | exact hr _
      | grind
end ZT3
section ZT4
variable {d n t C c : Nat} {K L : Nat → Nat} {I I0 J J0 J1 J2 : Nat → Nat → Int32} {R : Nat → Nat → Nat} {P : Option Value → AH → Prop}
variable {Y Z W : Nat → Nat → Int32} {b n' t' c' : Nat} {K' L' : Nat → Nat} {R' : Nat → Nat → Nat}
theorem cdp_plan {u1 u2 : Int32} (hb : b < C) (h : lawI b C c n t K L J R) (hP : ∀ n2 t2 K2 L2 J2 R2, aNx b C c n2 t2 K2 L2 J2 R2 (yv (C + 44) J) ((plO (yv (C + 44) J) u1 u2).2) → plC C J J2 (yv (C + 44) J) u1 u2 → (∀ x j, C + 44 ≤ x → x ≤ C + 96 → J2 x j = J x j) → P (some (.int (plO (yv (C + 44) J) u1 u2).1)) (n2 + 1, t2, K2, L2, J2, R2)) : a_does 700 118 [a_rf C, .int u1, .int u2] (n + 1, t, K, L, J, R) P := by
  refine does_mono (does_and (does_and (cd_plan (P := fun r h' => ∃ n2 t2 K2 L2 J2 R2, r = some (.int (plO (yv (C + 44) J) u1 u2).1) ∧ h' = (n2 + 1, t2, K2, L2, J2, R2) ∧ aNx b C c n2 t2 K2 L2 J2 R2 (yv (C + 44) J) ((plO (yv (C + 44) J) u1 u2).2)) hb h (fun n2 t2 K2 L2 J2 R2 hx => ⟨n2, t2, K2, L2, J2, R2, rfl, rfl, hx⟩)) (cv_plan (P := fun _ h' => ∃ J2 R2, h' = (n + 1, t, K, L, J2, R2) ∧ plC C J J2 (yv (C + 44) J) u1 u2) h.1 h.2.2.2.2.2.1 (fun _ J2 R2 w => ⟨J2, R2, rfl, w⟩))) (cu_plan (P := fun _ h' => cB C n K L J R none h') h.1 (fun _ _ _ _ _ _ _ z => cb_Z z))) (fun r h' q => ?_)
  obtain ⟨⟨⟨n2, t2, K2, L2, J2, R2, e1, e2, hx⟩, J3, R3, e3, w⟩, n4, t4, K4, L4, J4, R4, e4, w4, -⟩ := q
  rw [e2] at e3 e4
  simp only [Prod.mk.injEq, Nat.add_right_cancel_iff] at e3 e4
  obtain ⟨i1, i2, i3, i4, i5, i6⟩ := e3
  obtain ⟨k1, k2, k3, k4, k5, k6⟩ := e4
  rw [e1, e2]
  refine hP _ _ _ _ _ _ hx ?_ ?_
  · rw [i5]; exact w
  · rw [k5]; exact w4.2.2.2.2
theorem rdp_plan {u1 u2 : Int32} (hx : aNx b C c n t K L J R Y ((plO Y u1 u2).2)) (hc : 120 * c + 130 ≤ 84000) (hP : ∀ J3, lawI b C (c + 1) n t K L J3 R → plM (C + 44) J J3 Y u1 u2 → (J3 (C + 22) 7 = J (C + 22) 7 ∧ ∀ j, J3 (C + 24) j = J (C + 24) j) → P (some (.int (plO Y u1 u2).1)) (n + 1, t, K, L, J3, R)) : a_does 700 234 [a_rf (C + 44), .int u1, .int u2] (n + 1, t, K, L, J, R) P := by
  refine does_mono (does_and (does_and (rd_plan (P := fun r h' => ∃ J3, r = some (.int (plO Y u1 u2).1) ∧ h' = (n + 1, t, K, L, J3, R) ∧ lawI b C (c + 1) n t K L J3 R) hx hc (fun J3 hI => ⟨J3, rfl, rfl, hI⟩)) (xv_plan (P := fun _ h' => ∃ J3, h' = (n + 1, t, K, L, J3, R) ∧ plM (C + 44) J J3 Y u1 u2) hx.1.2.1 hx.2.2.1 hc ⟨mG_refl hx.1.2.2.1, hx.1.2.2.2.1⟩ hx.2.1 (fun _ J3 w => ⟨J3, rfl, w⟩))) (pu_plan (P := fun _ h' => ∃ J3, h' = (n + 1, t, K, L, J3, R) ∧ J3 (C + 22) 7 = J (C + 22) 7 ∧ ∀ j, J3 (C + 24) j = J (C + 24) j) hx.1.2.1 ⟨mG_refl hx.1.2.2.1, hx.1.2.2.2.1⟩ hc (fun _ J3 g => ⟨J3, rfl, g.1.2 _ _ (Or.inl (by omega)), fun j => g.1.2 _ _ (Or.inl (by omega))⟩))) (fun r h' q => ?_)
  obtain ⟨⟨⟨J3, e1, e2, hI⟩, J4, e3, w⟩, J5, e4, w5⟩ := q
  rw [e2] at e3 e4
  simp only [Prod.mk.injEq, true_and, and_true] at e3 e4
  rw [e1, e2]
  refine hP _ hI ?_ ?_
  · rw [e3]; exact w
  · rw [e4]; exact w5
theorem ps_plan {J2 J3 : Nat → Nat → Int32} {u1 u2 : Int32} (h : psP C J) (h1 : plC C J J2 Y u1 u2) (e1 : ∀ x j, C + 44 ≤ x → x ≤ C + 96 → J2 x j = J x j) (h2 : plM (C + 44) J2 J3 Y u1 u2) (e2 : J3 (C + 22) 7 = J2 (C + 22) 7 ∧ ∀ j, J3 (C + 24) j = J2 (C + 24) j) : psP C J3 := by
  by_cases c1 : (0 ≤ u1 ∧ u1 < 200) ∧ (0 ≤ u2 ∧ u2 < 200) ∧ u1 ≤ u2
  · obtain ⟨a1, a2⟩ := h1.1 c1
    obtain ⟨b1, b2, b3⟩ := h2.1 c1
    have e : (Int32.ofNat (plY Y u1 u2).2.1).toNatClampNeg = (plY Y u1 u2).2.1 := (cl_on2 (by omega)).1
    refine ⟨by rw [e2.1, a1, b1], fun j hj => ?_⟩
    rw [b1, e] at hj
    rw [e2.2, a2 j hj, b3 j hj]
  · obtain ⟨a1, a2⟩ := h1.2 c1
    obtain ⟨b1, b2⟩ := h2.2 c1
    refine ⟨by rw [e2.1, a1, b1, e1 _ _ (by omega) (by omega)]; exact h.1, fun j hj => ?_⟩
    rw [b1, e1 _ _ (by omega) (by omega)] at hj
    rw [e2.2, a2, b2, e1 _ _ (by omega) (by omega)]
    exact h.2 j hj
/-- the law's state with what was passed -/
def lawP (b C c n t : Nat) (K L : Nat → Nat) (J : Nat → Nat → Int32) (R : Nat → Nat → Nat) : Prop := lawI b C c n t K L J R ∧ psP C J
theorem ps_2 {J2 J3 : Nat → Nat → Int32} (h : psP C J) (w : dP C J J2) (w2 : dP C J2 J3) : psP C J3 := ps_d (ps_d h w) w2
end ZT4
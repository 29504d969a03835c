/-! the law's state, call by call -/
section ZS0
variable {d n t C c : Nat} {K L : Nat → Nat} {I I0 J J0 J1 J2 : Nat → Nat → Int32} {R : Nat → Nat → Nat} {P : Option Value → AH → Prop}
variable {Y Z W : Nat → Nat → Int32} {b n' t' : Nat} {K' L' : Nat → Nat} {R' : Nat → Nat → Nat}
def aMk (C : Nat) (K L : Nat → Nat) (J : Nat → Nat → Int32) (R : Nat → Nat → Nat) (Z : Nat → Nat → Int32) : Prop := cuP C K L J R Z ∧ lbP C J Z ∧ nwP Z
/-- between two calls -/
def lawI (b C c n t : Nat) (K L : Nat → Nat) (J : Nat → Nat → Int32) (R : Nat → Nat → Nat) : Prop := cH C (4 * c) (n + 1) t K L J R ∧ m_S (C + 44) K L R ∧ mR (C + 44) J ∧ mE (C + 44) (120 * c) J ∧ K b = 0 ∧ aMk C K L J R (yv (C + 44) J)
/-- after the class's call -/
def lawM (b C c n t : Nat) (K L : Nat → Nat) (J : Nat → Nat → Int32) (R : Nat → Nat → Nat) : Prop := cH C (4 * c + 4) (n + 1) t K L J R ∧ m_S (C + 44) K L R ∧ mR (C + 44) J ∧ mE (C + 44) (120 * c) J ∧ K b = 0
/-- the same, with the words of the model before and after -/
def aNx (b C c n t : Nat) (K L : Nat → Nat) (J : Nat → Nat → Int32) (R : Nat → Nat → Nat) (Y Z : Nat → Nat → Int32) : Prop := lawM b C c n t K L J R ∧ gs (C + 44) J J Y ∧ okY Y ∧ aMk C K L J R Z
/-- the reference's part of the heap stays -/
def dS (C n : Nat) (K L : Nat → Nat) (I : Nat → Nat → Int32) (R : Nat → Nat → Nat) (n' : Nat) (K' L' : Nat → Nat) (J : Nat → Nat → Int32) (R' : Nat → Nat → Nat) : Prop := n ≤ n' ∧ (∀ x, x < n → K' x = K x) ∧ (∀ x, x < n → L' x = L x) ∧ (∀ x j, C + 44 ≤ x → x ≤ C + 96 → R' x j = R x j) ∧ (∀ x j, C + 44 ≤ x → x ≤ C + 96 → J x j = I x j)
theorem dS_W {O : Nat → Nat → Prop} (w : dW C n K L I R n' K' L' J R' O) (oM : ∀ x j, C + 44 ≤ x → x ≤ C + 96 → ¬ O x j) : dS C n K L I R n' K' L' J R' := ⟨w.1, w.2.1, w.2.2.1, fun x j p q => w.2.2.2.1 x j (Or.inr p) q, fun x j p q => w.2.2.2.2 x j (Or.inr (Or.inl ⟨p, q⟩)) (oM x j p q)⟩
theorem mR_eq {M : Nat} (h : mR M I) (e0 : ∀ j, J M j = I M j) (e : ∀ k, 2 ≤ k → k ≤ 52 → J (M + k) = I (M + k)) : mR M J := by
  unfold mR at h ⊢
  simp only [e0, e 7 (by decide) (by decide), e 8 (by decide) (by decide), e 10 (by decide) (by decide), e 16 (by decide) (by decide), e 20 (by decide) (by decide), e 21 (by decide) (by decide), e 29 (by decide) (by decide), e 40 (by decide) (by decide), e 41 (by decide) (by decide), e 44 (by decide) (by decide), e 49 (by decide) (by decide), e 50 (by decide) (by decide)]
  exact h
theorem mE_any {M c : Nat} (h : mE M c I) (he : J M 35 = I M 35) : mE M (c + 120) J := by
  obtain ⟨g, -, g2⟩ := h
  refine ⟨fun _ => 4, fun _ _ _ _ => Or.inr (Nat.le_refl 4), ?_⟩
  rw [he]
  have : sm (fun _ => 4) 30 = 120 := by decide
  omega
theorem m_S_eq {M : Nat} (h : m_S M K L R) (hK : ∀ x, M ≤ x → x ≤ M + 52 → K' x = K x) (hL : ∀ x, M ≤ x → x ≤ M + 52 → L' x = L x) (hR : ∀ j, R' M j = R M j) : m_S M K' L' R' := by
  obtain ⟨p1, p2, p3⟩ := h
  have d : ∀ q ∈ m_arr, q.2.1 ≤ 52 := by decide
  refine ⟨p1, by rw [hK _ (by omega) (by omega)]; exact p2, fun q hq => ?_⟩
  have := d q hq
  rw [hR, hK _ (by omega) (by omega), hL _ (by omega) (by omega)]
  exact p3 q hq
theorem lawM_of {J0 : Nat → Nat → Int32} (hb : b < C) (h : lawI b C c n t K L J R) (h2 : cH C (4 * c + 4) (n' + 1) t' K' L' J0 R') (w : dS C (n + 1) K L J R (n' + 1) K' L' J0 R') : lawM b C c n' t' K' L' J0 R' := by
  obtain ⟨p1, p2, p3, p4, p5, p6⟩ := h
  obtain ⟨w1, w2, w3, w4, w5⟩ := w
  have hC := p1.2.2.1
  have e0 : ∀ j, J0 (C + 44) j = J (C + 44) j := fun j => w5 _ _ (by omega) (by omega)
  have e : ∀ k, k ≤ 52 → J0 ((C + 44) + k) = J ((C + 44) + k) := fun k hk => by funext j; exact w5 _ _ (by omega) (by omega)
  refine ⟨h2, m_S_eq p2 (fun x h1 h2 => w2 x (by omega)) (fun x h1 h2 => w3 x (by omega)) (fun j => w4 _ _ (by omega) (by omega)), mR_eq p3 e0 (fun k _ h => e k h), ?_, by rw [w2 _ (by omega)]; exact p5⟩
  exact mE_eq p4 (e0 _) (fun j => by rw [e 24 (by decide)]) (fun j => by rw [e 25 (by decide)]) (e0 _) (e0 _) (fun j => by rw [e 10 (by decide)]) (fun j => by rw [e 20 (by decide)]) (fun j => by rw [e 21 (by decide)])
/-- the class's call: what it answers, what it is then worth -/
def cA (C c : Nat) (V : Int32 → (Nat → Nat → Int32) → Prop) (r : Option Value) (h' : AH) : Prop := ∃ v Z n2 t2 K2 L2 J2 R2, V v Z ∧ r = some (.int v) ∧ h' = (n2 + 1, t2, K2, L2, J2, R2) ∧ cH C (4 * c + 4) (n2 + 1) t2 K2 L2 J2 R2 ∧ cuP C K2 L2 J2 R2 Z
/-- the class's call: what it leaves -/
def cB (C n : Nat) (K L : Nat → Nat) (J : Nat → Nat → Int32) (R : Nat → Nat → Nat) (r : Option Value) (h' : AH) : Prop := ∃ n2 t2 K2 L2 J2 R2, h' = (n2 + 1, t2, K2, L2, J2, R2) ∧ dS C (n + 1) K L J R (n2 + 1) K2 L2 J2 R2 ∧ ∀ j, J2 (C + 3) j = J (C + 3) j
theorem eD_3 {j : Nat} : eD C K (C + 3) j := Or.inr (Or.inr (Or.inr (Or.inr (Or.inl rfl))))
theorem eD_M {x j : Nat} (p : C + 44 ≤ x) (q : x ≤ C + 96) : eD C K x j := Or.inr (Or.inl ⟨p, q⟩)
theorem eD_h {x j : Nat} (h : x = C + 3 ∨ (C + 44 ≤ x ∧ x ≤ C + 96)) : eD C K x j := h.elim (fun e => by rw [e]; exact eD_3) (fun e => eD_M e.1 e.2)
theorem cb_Z {J0 : Nat → Nat → Int32} {v : Option Value} (z : cZ C c (n + 1) K L J R (n' + 1) t' K' L' J0 R') : cB C n K L J R v (n' + 1, t', K', L', J0, R') := ⟨_, _, _, _, _, _, rfl, dS_W (dW_Z z) (fun _ _ _ _ e => e), fun j => z.2.2.2.2.2.2 _ _ eD_3 (by have := z.1; omega)⟩
theorem cb_J {J0 : Nat → Nat → Int32} {v : Option Value} (hJ : ∀ x j, (x = C + 3 ∨ (C + 44 ≤ x ∧ x ≤ C + 96)) → J0 x j = J x j) : cB C n K L J R v (n + 1, t, K, L, J0, R) := ⟨_, _, _, _, _, _, rfl, ⟨Nat.le_refl _, fun _ _ => rfl, fun _ _ => rfl, fun _ _ _ _ => rfl, fun x j p q => hJ x j (Or.inr ⟨p, q⟩)⟩, fun j => hJ _ _ (Or.inl rfl)⟩
theorem gs_S {J0 : Nat → Nat → Int32} (h : mR (C + 44) J0) (w : ∀ x j, C + 44 ≤ x → x ≤ C + 96 → J0 x j = J x j) : gs (C + 44) J0 J0 (yv (C + 44) J) := ⟨h, fun _ _ _ => rfl, psE_of (fun k j p => w _ _ (by omega) (by unfold ps1 at p; omega))⟩
theorem lawI_ok (h : lawI b C c n t K L J R) : okY (yv (C + 44) J) := cu_ok h.1.1 h.2.2.2.2.2.1
theorem aN_of {J0 : Nat → Nat → Int32} (hb : b < C) (h : lawI b C c n t K L J R) (h2 : cH C (4 * c + 4) (n' + 1) t' K' L' J0 R') (w : dS C (n + 1) K L J R (n' + 1) K' L' J0 R') (hm : aMk C K' L' J0 R' Z) : aNx b C c n' t' K' L' J0 R' (yv (C + 44) J) Z := by
  have g := lawM_of hb h h2 w
  exact ⟨g, gs_S g.2.2.1 w.2.2.2.2, lawI_ok h, hm⟩
theorem cd_gen {D mid : Nat} {as : List Value} {V : Int32 → (Nat → Nat → Int32) → Prop} (hb : b < C) (h : lawI b C c n t K L J R) (A : a_does D mid as (n + 1, t, K, L, J, R) (cA C c V)) (B : a_does D mid as (n + 1, t, K, L, J, R) (cB C n K L J R)) (hl : ∀ v Z J2, V v Z → (∀ j, J2 (C + 3) j = J (C + 3) j) → lbP C J2 Z) (hw : ∀ v Z, V v Z → nwP Z) (hP : ∀ v Z n2 t2 K2 L2 J2 R2, V v Z → aNx b C c n2 t2 K2 L2 J2 R2 (yv (C + 44) J) Z → P (some (.int v)) (n2 + 1, t2, K2, L2, J2, R2)) : a_does D mid as (n + 1, t, K, L, J, R) P := by
  refine does_mono (does_and A B) (fun r h' q => ?_)
  obtain ⟨⟨v, Z, n2, t2, K2, L2, J2, R2, hV, e1, e2, g1, g2⟩, m2, s2, K3, L3, J3, R3, e3, w, w3⟩ := q
  rw [e2] at e3
  simp only [Prod.mk.injEq, Nat.add_right_cancel_iff] at e3
  obtain ⟨i1, i2, i3, i4, i5, i6⟩ := e3
  subst i1 i2 i3 i4 i5 i6
  rw [e1, e2]
  exact hP v Z _ _ _ _ _ _ hV (aN_of hb h g1 w ⟨g2, hl v Z _ hV w3, hw v Z hV⟩)
/-- the reference's call gives the law's state back -/
theorem rd_gen {J3 : Nat → Nat → Int32} (hx : aNx b C c n t K L J R Y Z) (g : gs (C + 44) J J3 Z) (hE : mE (C + 44) (120 * c + 120) J3) : lawI b C (c + 1) n t K L J3 R := by
  obtain ⟨⟨p1, p2, p3, p4, p5⟩, hg0, ok, hu, hl, hw⟩ := hx
  refine ⟨?_, p2, g.1, ?_, p5, cu_next p1.1 hu g, lb_next hl g, nw_next hw g⟩
  · have := cH_J p1 (cT_o2 p1.1 g.2.1)
    rw [show 4 * (c + 1) = 4 * c + 4 by omega]
    exact this
  · rw [show 120 * (c + 1) = 120 * c + 120 by omega]
    exact hE
theorem rd_genE {J3 : Nat → Nat → Int32} (hx : aNx b C c n t K L J R Y Z) (g : gs (C + 44) J J3 Z) (h35 : J3 (C + 44) 35 = J (C + 44) 35) : lawI b C (c + 1) n t K L J3 R := rd_gen hx g (mE_any hx.1.2.2.2.1 h35)
/-- the words that lost hours hang on are the same -/
def kzE (Y Z : Nat → Nat → Int32) : Prop := ∀ k j, kL k j → Z k j = Y k j
theorem kzE_r : kzE Y Y := fun _ _ _ => rfl
theorem kzE_ss (h : ssE Y Z) : kzE Y Z := fun k j p => h k j (by unfold kL at p; unfold ss ps1; omega)
theorem kzE_t (h : kzE Y Z) (h2 : kzE Z W) : kzE Y W := fun k j p => (h2 k j p).trans (h k j p)
theorem kzE_up {k j : Nat} {v : Int32} (hk : ¬ kL k j) : kzE Y (upY Y k j v) := fun x i p => up_no (fun e => hk (by rw [← e.1, ← e.2]; exact p))
theorem nw_e (h : nwP Y) (hz : ∀ k j, (k = 18 ∨ k = 19 ∨ (k = 0 ∧ j = 17)) → Z k j = Y k j) : nwP Z := fun a ha h17 => by
  rw [hz 0 17 (by omega)] at h17
  rw [hz 18 a (by omega), hz 19 a (by omega)]
  exact h a ha h17
theorem kzE_mode {u1 u2 u3 : Int32} : kzE Y (mdY Y u1 u2 u3) := by
  unfold mdY
  split
  · intro k j p
    unfold mdW
    rw [if_neg (by unfold kL at p; omega)]
  · exact kzE_r
theorem kzE_bench {u1 u2 : Int32} : kzE Y (bnY Y u1 u2) := by
  unfold bnY
  split
  · exact kzE_r
  · exact fun k j p => bn_no (by unfold kL at p; omega) (by unfold kL at p; omega)
theorem kzE_set {u1 u2 : Int32} : kzE Y (seY Y u1 u2) := by
  unfold seY
  split
  · exact kzE_r
  · split
    · exact kzE_up (by unfold kL; omega)
    · split
      · exact kzE_up (by unfold kL; omega)
      · exact kzE_up (by unfold kL; omega)
theorem kzE_draft {u1 u2 u3 u4 : Int32} : kzE Y (drY Y u1 u2 u3 u4) := by
  unfold drY
  split
  · exact fun k j p => dr_no (by unfold kL at p; omega)
  · exact kzE_r
theorem kzE_ask {u1 u2 u3 u4 u5 u6 u7 : Int32} : kzE Y ((akY Y u1 u2 u3 u4 u5 u6 u7).2) := by
  unfold akY
  repeat' split
  all_goals first
    | exact kzE_r
    | exact fun k j p => ak_no (by unfold kL at p; omega) (by unfold kL at p; omega)
theorem kzE_withdraw {u1 : Int32} : kzE Y ((wdY Y u1).2) := by
  unfold wdY
  split
  · exact kzE_r
  · split
    · exact kzE_r
    · dsimp only
      split
      · exact kzE_t (kzE_up (by unfold kL; omega)) (kzE_ss ss_un)
      · exact kzE_up (by unfold kL; omega)
theorem kzE_feed {u1 : Int32} {u2 : Int64} : kzE Y (feY Y u1 u2) := by
  unfold feY
  split
  · exact kzE_r
  · intro k j p
    unfold feW
    rw [if_neg (by unfold kL at p; omega), if_neg (by unfold kL at p; omega)]
theorem kzE_text {u1 : Int32} : kzE Y (txY Y u1) := by
  unfold txY
  split
  · exact kzE_r
  · split
    · exact fun k j p => tw_no (by unfold kL at p; omega) (by unfold kL at p; omega)
    · exact kzE_up (by unfold kL; omega)
theorem kzE_strike {u1 u2 : Int32} : kzE Y ((skY Y u1 u2).2) := by
  unfold skY
  split
  · exact kzE_r
  · split
    · exact kzE_r
    · exact kzE_up (by unfold kL; omega)
theorem kzE_kin {u1 u2 : Int32} : kzE Y (kiY Y u1 u2) := by
  unfold kiY
  split
  · exact kzE_up (by unfold kL; omega)
  · exact kzE_r
theorem kzE_mark {u1 u2 u3 : Int32} : kzE Y ((mrY Y u1 u2 u3).2) := by
  unfold mrY
  repeat' split
  all_goals first
    | exact kzE_r
    | exact fun k j p => mw_no (by unfold kL at p; omega)
theorem kzE_give {u1 u2 u3 : Int32} : kzE Y ((gvY Y u1 u2 u3).2) := by
  unfold gvY
  repeat' split
  all_goals first
    | exact kzE_r
    | exact kzE_ss ss_pu
theorem kzE_take {u1 : Int32} : kzE Y ((tkY Y u1).2) := by
  unfold tkY
  repeat' split
  all_goals first
    | exact kzE_r
    | exact kzE_ss ss_un
theorem kzE_plan {u1 u2 : Int32} : kzE Y ((plO Y u1 u2).2) := by
  unfold plO
  repeat' split
  all_goals first
    | exact kzE_r
    | exact kzE_ss ss_pl
theorem kzE_owe {u1 : Int32} : kzE Y ((oeY Y u1).2) := by
  unfold oeY
  repeat' split
  all_goals first
    | exact kzE_r
    | exact fun k j p => (oe_no (by unfold kL at p; omega) (by unfold kL at p; omega)).trans (up_no (by unfold kL at p; omega))
theorem kzE_again  : kzE Y ((agY Y).1) := by
  exact kzE_ss ss_ag
theorem kzE_danger {u1 u2 : Int32} : kzE Y ((dgY Y u1 u2).2) := by
  unfold dgY
  split
  · exact kzE_r
  · split
    · exact kzE_r
    · split
      · exact kzE_r
      · split
        · exact kzE_t (kzE_up (by unfold kL; omega)) (kzE_ss ss_un)
        · exact kzE_up (by unfold kL; omega)
theorem kzE_wish {u1 u2 u3 : Int32} : kzE Y ((wsY Y u1 u2 u3).2) := by
  unfold wsY
  split
  · exact kzE_r
  · exact kzE_up (by unfold kL; omega)
theorem kzE_put {u1 : Int32} : kzE Y ((ptY Y u1).2) := by
  unfold ptY
  split
  · exact kzE_r
  · exact kzE_t (kzE_up (by unfold kL; omega)) (kzE_up (by unfold kL; omega))
theorem kzE_check {u1 u2 u3 : Int32} : kzE Y (ckY Y u1 u2 u3) := by
  unfold ckY
  split
  · exact kzE_up (by unfold kL; omega)
  · exact kzE_r
theorem kzE_sw {m : Nat} {g : Nat → Int32} : ∀ k, kzE Y (swS g m Y k) := by
  intro k
  induction k with
  | zero => exact kzE_ss (rgU_s m)
  | succ k ih => exact kzE_t ih (kzE_t (kzE_ss ss_pu) (fun k j p => cl_no (by unfold kL at p; omega)))
theorem kzE_swap {v : Int32} (ho : swO Y v Z) : kzE Y Z := by
  obtain ⟨m, g, -, h2⟩ := ho
  rcases h2 with ⟨-, -, e⟩ | ⟨-, -, e⟩
  · rw [e]; exact kzE_r
  · rw [e]; exact kzE_sw m
theorem nw_hours (h : nwP Y) {u1 : Int32} : nwP (hrY Y u1) := by
  unfold hrY
  split
  · exact h
  · exact nw_up h (by omega)
theorem nw_mode (h : nwP Y) {u1 u2 u3 : Int32} : nwP (mdY Y u1 u2 u3) := by
  unfold mdY
  split
  · refine nw_e h (fun k j p => ?_)
    unfold mdW
    rw [if_neg (by omega)]
  · exact h
theorem nw_trip (h : nwP Y) {u1 u2 : Int32} : nwP (tpY Y u1 u2) := by
  unfold tpY
  split
  · exact h
  · exact nw_e h (fun k j p => tp_no (by omega))
theorem nw_bench (h : nwP Y) {u1 u2 : Int32} : nwP (bnY Y u1 u2) := by
  unfold bnY
  split
  · exact h
  · exact nw_e h (fun k j p => bn_no (by omega) (by omega))
theorem nw_set (h : nwP Y) {u1 u2 : Int32} : nwP (seY Y u1 u2) := by
  unfold seY
  split
  · exact h
  · split
    · exact nw_up h (by omega)
    · split
      · exact nw_up h (by omega)
      · exact nw_up h (by omega)
theorem nw_draft (h : nwP Y) {u1 u2 u3 u4 : Int32} : nwP (drY Y u1 u2 u3 u4) := by
  unfold drY
  split
  · exact nw_e h (fun k j p => dr_no (by omega))
  · exact h
theorem nw_feed (h : nwP Y) {u1 : Int32} {u2 : Int64} : nwP (feY Y u1 u2) := by
  unfold feY
  split
  · exact h
  · refine nw_e h (fun k j p => ?_)
    unfold feW
    rw [if_neg (by omega), if_neg (by omega)]
theorem nw_text (h : nwP Y) {u1 : Int32} : nwP (txY Y u1) := by
  unfold txY
  split
  · exact h
  · split
    · exact nw_e h (fun k j p => tw_no (by omega) (by omega))
    · exact nw_up h (by omega)
theorem nw_kin (h : nwP Y) {u1 u2 : Int32} : nwP (kiY Y u1 u2) := by
  unfold kiY
  split
  · exact nw_up h (by omega)
  · exact h
theorem nw_mark (h : nwP Y) {u1 u2 u3 : Int32} : nwP ((mrY Y u1 u2 u3).2) := by
  unfold mrY
  repeat' split
  all_goals first
    | exact h
    | exact nw_e h (fun k j p => mw_no (by omega))
theorem nw_check (h : nwP Y) {u1 u2 u3 : Int32} : nwP (ckY Y u1 u2 u3) := by
  unfold ckY
  split
  · exact nw_up h (by omega)
  · exact h
theorem cl_s {i : Int32} (h : 0 ≤ i ∧ i ≤ 30) (hn : ¬ i = 30) : (i + 1).toNatClampNeg = i.toNatClampNeg + 1 ∧ 0 ≤ i ∧ i < 30 := by
  have l : i < 30 := by grind
  exact ⟨(lp_st h.1 l).2.2.2, h.1, l⟩
theorem ak_17 {k b m g e x y : Int32} : akW Y k b m g e x y 0 17 = Y 0 17 + 1 := by
  unfold akW
  rw [up_no (by omega), up_no (by omega), up_no (by omega), up_no (by omega), up_no (by omega), up_no (by omega), up_no (by omega), up_at]
theorem oe_17 {a : Int32} : oeW Y a 0 17 = Y 0 17 + 1 := by
  unfold oeW
  rw [up_no (by omega), up_no (by omega), up_no (by omega), up_no (by omega), up_no (by omega), up_at]
theorem nw_ask (h : nwP Y) (h17 : 0 ≤ Y 0 17 ∧ Y 0 17 ≤ 30) {k b m g e x y : Int32} : nwP (akY Y k b m g e x y).2 := by
  unfold akY
  split
  · exact h
  · split
    · exact h
    · split
      · exact h
      · split
        · exact h
        · next c4 =>
          split
          · exact h
          · have c5 := (cl_s h17 (fun q => c4 (Or.inr (Or.inr (Or.inr (Or.inr (Or.inr q))))))).1
            intro a ha hq
            show akW Y k b m g e x y 18 a = 0 ∧ akW Y k b m g e x y 19 a = 0
            have hq2 : (akW Y k b m g e x y 0 17).toNatClampNeg ≤ a := hq
            rw [ak_17, c5] at hq2
            rw [ak_no (by omega) (by omega), ak_no (by omega) (by omega)]
            exact h a ha (by omega)
theorem nw_owe (h : nwP Y) (h17 : 0 ≤ Y 0 17 ∧ Y 0 17 ≤ 30) {a : Int32} : nwP (oeY Y a).2 := by
  unfold oeY
  split
  · exact h
  · next c1 =>
    split
    · exact h
    · split
      · exact h
      · next c3 =>
        have c1' : 0 ≤ a ∧ a < Y 0 17 := Classical.byContradiction c1
        have c5 := (cl_s h17 c3).1
        have cl := cl_lt c1'.1 c1'.2
        intro x hx hq
        show oeW Y a 18 x = 0 ∧ oeW Y a 19 x = 0
        have hq2 : (oeW Y a 0 17).toNatClampNeg ≤ x := hq
        rw [oe_17, c5] at hq2
        rw [oe_no (by omega) (by omega), oe_no (by omega) (by omega), up_no (by omega), up_no (by omega)]
        exact h x hx (by omega)
theorem lb_hours {J0 : Nat → Nat → Int32} (hT : cT C K L J R) (h : lbP C J Y) (hu : cuP C K L J R Y) {v : Int32} (h3 : ∀ j, J0 (C + 3) j = J (C + 3) j) : lbP C J0 (hrY Y v) := by
  have he : lkY (hrY Y v) = lkY Y := by
    have ok := (cu_ok hT hu).2.2
    unfold hrY
    split
    · rfl
    · next hc =>
      refine lk_now hu.2.2.1.2.2.2 ?_
      clear hu h hT h3
      grind
  intro s k hs hk
  rw [h3, he]
  exact h s k hs hk
theorem cb_hours {u1 : Int32} (hH : cH C c (n + 1) t K L J R) : a_does 700 9 [a_rf C, .int u1] (n + 1, t, K, L, J, R) (cB C n K L J R) := by
  have hC := hH.2.2.1
  exact ke_hours hH (fun _ _ z => cb_Z z) (fun _ _ _ z => cb_Z z) (fun _ _ _ => cb_J (fun x j hx => by rw [ui_ap, if_neg (by omega)]))
theorem cd_hours {u1 : Int32} (hb : b < C) (h : lawI b C c n t K L J R) (hP : ∀ v n2 t2 K2 L2 J2 R2, aNx b C c n2 t2 K2 L2 J2 R2 (yv (C + 44) J) (hrY (yv (C + 44) J) u1) → P (some (.int v)) (n2 + 1, t2, K2, L2, J2, R2)) : a_does 700 9 [a_rf C, .int u1] (n + 1, t, K, L, J, R) P := by
  have hu := h.2.2.2.2.2.1
  have hl0 := h.2.2.2.2.2.2.1
  have hn0 := h.2.2.2.2.2.2.2
  have hC := h.1.2.2.1
  have h17 : 0 ≤ (yv (C + 44) J) 0 17 ∧ (yv (C + 44) J) 0 17 ≤ 30 := hu.1.2.2.2.2.2.2.2.2.1
  have A : a_does 700 9 [a_rf C, .int u1] (n + 1, t, K, L, J, R) (cA C c (fun v0 Z0 => Z0 = hrY (yv (C + 44) J) u1)) := ge_hours h.1 hu (fun v' n' t' K' L' J' R' g1 g2 => ⟨v', _, n', t', K', L', J', R', rfl, rfl, rfl, cH_le g1 (Nat.le_add_right _ _), g2⟩)
  have B : a_does 700 9 [a_rf C, .int u1] (n + 1, t, K, L, J, R) (cB C n K L J R) := cb_hours h.1
  exact cd_gen hb h A B (fun v Z J' hV h3 => by subst hV; exact lb_hours h.1.1 hl0 hu h3) (fun v Z hV => by subst hV; exact nw_hours hn0) (fun v Z n2 t2 K2 L2 J2 R2 hV hx => by subst hV; exact hP _ _ _ _ _ _ _ hx)
theorem rd_hours {u1 : Int32} (hx : aNx b C c n t K L J R Y (hrY Y u1)) (hc : 120 * c + 130 ≤ 84000) (hP : ∀ v J3, lawI b C (c + 1) n t K L J3 R → P (some (.int v)) (n + 1, t, K, L, J3, R)) : a_does 700 170 [a_rf (C + 44), .int u1] (n + 1, t, K, L, J, R) P := by
  exact xp_hours hx.1.2.1 hx.2.2.1 hc ⟨mG_refl hx.1.2.2.1, hx.1.2.2.2.1⟩ hx.2.1 (fun v' J3 f g => hP v' J3 (rd_genE hx g f))
theorem cb_mode {u1 u2 u3 : Int32} (hH : cH C c (n + 1) t K L J R) : a_does 700 11 [a_rf C, .int u1, .int u2, .int u3] (n + 1, t, K, L, J, R) (cB C n K L J R) := by
  have hC := hH.2.2.1
  exact ke_mode hH (fun _ _ z => cb_Z z) (fun _ _ _ z => cb_Z z) (fun _ _ _ _ f _ => cb_J (fun x j hx => f x j (by omega)))
theorem cd_mode {u1 u2 u3 : Int32} (hb : b < C) (h : lawI b C c n t K L J R) (hP : ∀ v n2 t2 K2 L2 J2 R2, aNx b C c n2 t2 K2 L2 J2 R2 (yv (C + 44) J) (mdY (yv (C + 44) J) u1 u2 u3) → P (some (.int v)) (n2 + 1, t2, K2, L2, J2, R2)) : a_does 700 11 [a_rf C, .int u1, .int u2, .int u3] (n + 1, t, K, L, J, R) P := by
  have hu := h.2.2.2.2.2.1
  have hl0 := h.2.2.2.2.2.2.1
  have hn0 := h.2.2.2.2.2.2.2
  have hC := h.1.2.2.1
  have h17 : 0 ≤ (yv (C + 44) J) 0 17 ∧ (yv (C + 44) J) 0 17 ≤ 30 := hu.1.2.2.2.2.2.2.2.2.1
  have A : a_does 700 11 [a_rf C, .int u1, .int u2, .int u3] (n + 1, t, K, L, J, R) (cA C c (fun v0 Z0 => Z0 = mdY (yv (C + 44) J) u1 u2 u3)) := ge_mode h.1 hu (fun v' n' t' K' L' J' R' g1 g2 => ⟨v', _, n', t', K', L', J', R', rfl, rfl, rfl, cH_le g1 (Nat.le_add_right _ _), g2⟩)
  have B : a_does 700 11 [a_rf C, .int u1, .int u2, .int u3] (n + 1, t, K, L, J, R) (cB C n K L J R) := cb_mode h.1
  exact cd_gen hb h A B (fun v Z J' hV h3 => by subst hV; exact lb_z hl0 kzE_mode h3) (fun v Z hV => by subst hV; exact nw_mode hn0) (fun v Z n2 t2 K2 L2 J2 R2 hV hx => by subst hV; exact hP _ _ _ _ _ _ _ hx)
theorem rd_mode {u1 u2 u3 : Int32} (hx : aNx b C c n t K L J R Y (mdY Y u1 u2 u3)) (hc : 120 * c + 130 ≤ 84000) (hP : ∀ v J3, lawI b C (c + 1) n t K L J3 R → P (some (.int v)) (n + 1, t, K, L, J3, R)) : a_does 700 172 [a_rf (C + 44), .int u1, .int u2, .int u3] (n + 1, t, K, L, J, R) P := by
  exact xp_mode hx.1.2.1 hx.2.2.1 hc ⟨mG_refl hx.1.2.2.1, hx.1.2.2.2.1⟩ hx.2.1 (fun v' J3 f g => hP v' J3 (rd_genE hx g f))
theorem cd_trip {u1 u2 : Int32} (hb : b < C) (h : lawI b C c n t K L J R) (hP : ∀ v n2 t2 K2 L2 J2 R2, aNx b C c n2 t2 K2 L2 J2 R2 (yv (C + 44) J) (tpY (yv (C + 44) J) u1 u2) → P (some (.int v)) (n2 + 1, t2, K2, L2, J2, R2)) : a_does 700 15 [a_rf C, .int u1, .int u2] (n + 1, t, K, L, J, R) P := by
  have hu := h.2.2.2.2.2.1
  have hl0 := h.2.2.2.2.2.2.1
  have hn0 := h.2.2.2.2.2.2.2
  have hC := h.1.2.2.1
  have h17 : 0 ≤ (yv (C + 44) J) 0 17 ∧ (yv (C + 44) J) 0 17 ≤ 30 := hu.1.2.2.2.2.2.2.2.2.1
  have A : a_does 700 15 [a_rf C, .int u1, .int u2] (n + 1, t, K, L, J, R) (fun r h' => ∃ v n2 t2 K2 L2 J2 R2, r = some (.int v) ∧ h' = (n2 + 1, t2, K2, L2, J2, R2) ∧ cH C (4 * c + 4) (n2 + 1) t2 K2 L2 J2 R2 ∧ cuP C K2 L2 J2 R2 (tpY (yv (C + 44) J) u1 u2) ∧ lbP C J2 (tpY (yv (C + 44) J) u1 u2)) := ge_trip h.1 hu hl0 (fun v' n' t' K' L' J' R' g1 g2 => ⟨v', n', t', K', L', J', R', rfl, rfl, cH_le g1 (Nat.le_add_right _ _), g2⟩)
  have B : a_does 700 15 [a_rf C, .int u1, .int u2] (n + 1, t, K, L, J, R) (fun r h' => ∃ n2 t2 K2 L2 J2 R2, h' = (n2 + 1, t2, K2, L2, J2, R2) ∧ dS C (n + 1) K L J R (n2 + 1) K2 L2 J2 R2) := cw_trip h.1 (fun v' n' t' K' L' J' R' g w => ⟨n', t', K', L', J', R', rfl, dS_W w (fun x j p q e => by omega)⟩)
  refine does_mono (does_and A B) (fun r h' q => ?_)
  obtain ⟨⟨v0, n2, t2, K2, L2, J2, R2, e1, e2, g1, g2⟩, m2, s2, K3, L3, J3, R3, e3, w⟩ := q
  rw [e2] at e3
  simp only [Prod.mk.injEq, Nat.add_right_cancel_iff] at e3
  obtain ⟨i1, i2, i3, i4, i5, i6⟩ := e3
  subst i1 i2 i3 i4 i5 i6
  rw [e1, e2]
  exact hP v0 _ _ _ _ _ _ (aN_of hb h g1 w ⟨g2.1, g2.2, nw_trip hn0⟩)
theorem rd_trip {u1 u2 : Int32} (hx : aNx b C c n t K L J R Y (tpY Y u1 u2)) (hc : 120 * c + 130 ≤ 84000) (hP : ∀ v J3, lawI b C (c + 1) n t K L J3 R → P (some (.int v)) (n + 1, t, K, L, J3, R)) : a_does 700 175 [a_rf (C + 44), .int u1, .int u2] (n + 1, t, K, L, J, R) P := by
  exact xp_trip hx.1.2.1 hx.2.2.1 hc ⟨mG_refl hx.1.2.2.1, hx.1.2.2.2.1⟩ hx.2.1 (fun v' J3 f g => hP v' J3 (rd_genE hx g f))
theorem cd_shiftOf {u1 u2 u3 : Int32} (hb : b < C) (h : lawI b C c n t K L J R) (hP : ∀ v n2 t2 K2 L2 J2 R2, aNx b C c n2 t2 K2 L2 J2 R2 (yv (C + 44) J) ((yv (C + 44) J)) → P (some (.int v)) (n2 + 1, t2, K2, L2, J2, R2)) : a_does 700 17 [a_rf C, .int u1, .int u2, .int u3] (n + 1, t, K, L, J, R) P := by
  have hu := h.2.2.2.2.2.1
  have hl0 := h.2.2.2.2.2.2.1
  have hn0 := h.2.2.2.2.2.2.2
  have hC := h.1.2.2.1
  have h17 : 0 ≤ (yv (C + 44) J) 0 17 ∧ (yv (C + 44) J) 0 17 ≤ 30 := hu.1.2.2.2.2.2.2.2.2.1
  have A : a_does 700 17 [a_rf C, .int u1, .int u2, .int u3] (n + 1, t, K, L, J, R) (cA C c (fun v0 Z0 => Z0 = (yv (C + 44) J))) := ge_shiftOf h.1 hu (fun v' n' t' K' L' J' R' g1 g2 => ⟨v', _, n', t', K', L', J', R', rfl, rfl, rfl, cH_le g1 (Nat.le_add_right _ _), g2⟩)
  have B : a_does 700 17 [a_rf C, .int u1, .int u2, .int u3] (n + 1, t, K, L, J, R) (cB C n K L J R) := cu_shiftOf h.1 (fun _ _ _ _ _ _ _ z => cb_Z z)
  exact cd_gen hb h A B (fun v Z J' hV h3 => by subst hV; exact lb_z hl0 kzE_r h3) (fun v Z hV => by subst hV; exact hn0) (fun v Z n2 t2 K2 L2 J2 R2 hV hx => by subst hV; exact hP _ _ _ _ _ _ _ hx)
theorem rd_shiftOf {u1 u2 u3 : Int32} (hx : aNx b C c n t K L J R Y (Y)) (hc : 120 * c + 130 ≤ 84000) (hP : ∀ v J3, lawI b C (c + 1) n t K L J3 R → P (some (.int v)) (n + 1, t, K, L, J3, R)) : a_does 700 176 [a_rf (C + 44), .int u1, .int u2, .int u3] (n + 1, t, K, L, J, R) P := by
  exact xq_shiftOf hx.1.2.1 hx.1.2.2.1 (fun v' J3 q => hP v' J3 (rd_genE hx (gs_Q hx.2.1 q) (q.2 _ _ (by unfold sC; omega) (by omega))))
theorem cb_bench {u1 u2 : Int32} (hH : cH C c (n + 1) t K L J R) : a_does 700 20 [a_rf C, .int u1, .int u2] (n + 1, t, K, L, J, R) (cB C n K L J R) := by
  have hC := hH.2.2.1
  exact ke_bench hH (fun _ _ z => cb_Z z) (fun _ _ _ z => cb_Z z) (fun _ _ t' K' L' J' R' g w => ⟨n + 5, t', K', L', J', R', rfl, ⟨w.1, w.2.1, w.2.2.1, fun x j p q => w.2.2.2.1 x j (Or.inr p) q, fun x j p q => (w.2.2.2.2 x j (eD_M p q) (by omega)).trans (by rw [ui_ap, if_neg (by omega)])⟩, fun j => (w.2.2.2.2 _ j eD_3 (by omega)).trans (by rw [ui_ap, if_neg (by omega)])⟩)
theorem cd_bench {u1 u2 : Int32} (hb : b < C) (h : lawI b C c n t K L J R) (hP : ∀ v n2 t2 K2 L2 J2 R2, aNx b C c n2 t2 K2 L2 J2 R2 (yv (C + 44) J) (bnY (yv (C + 44) J) u1 u2) → P (some (.int v)) (n2 + 1, t2, K2, L2, J2, R2)) : a_does 700 20 [a_rf C, .int u1, .int u2] (n + 1, t, K, L, J, R) P := by
  have hu := h.2.2.2.2.2.1
  have hl0 := h.2.2.2.2.2.2.1
  have hn0 := h.2.2.2.2.2.2.2
  have hC := h.1.2.2.1
  have h17 : 0 ≤ (yv (C + 44) J) 0 17 ∧ (yv (C + 44) J) 0 17 ≤ 30 := hu.1.2.2.2.2.2.2.2.2.1
  have A : a_does 700 20 [a_rf C, .int u1, .int u2] (n + 1, t, K, L, J, R) (cA C c (fun v0 Z0 => Z0 = bnY (yv (C + 44) J) u1 u2)) := ge_bench h.1 hu (fun v' n' t' K' L' J' R' g1 g2 => ⟨v', _, n', t', K', L', J', R', rfl, rfl, rfl, g1, g2⟩)
  have B : a_does 700 20 [a_rf C, .int u1, .int u2] (n + 1, t, K, L, J, R) (cB C n K L J R) := cb_bench h.1
  exact cd_gen hb h A B (fun v Z J' hV h3 => by subst hV; exact lb_z hl0 kzE_bench h3) (fun v Z hV => by subst hV; exact nw_bench hn0) (fun v Z n2 t2 K2 L2 J2 R2 hV hx => by subst hV; exact hP _ _ _ _ _ _ _ hx)
theorem rd_bench {u1 u2 : Int32} (hx : aNx b C c n t K L J R Y (bnY Y u1 u2)) (hc : 120 * c + 130 ≤ 84000) (hP : ∀ v J3, lawI b C (c + 1) n t K L J3 R → P (some (.int v)) (n + 1, t, K, L, J3, R)) : a_does 700 178 [a_rf (C + 44), .int u1, .int u2] (n + 1, t, K, L, J, R) P := by
  exact xp_bench hx.1.2.1 hx.2.2.1 hc ⟨mG_refl hx.1.2.2.1, hx.1.2.2.2.1⟩ hx.2.1 (fun v' J3 f g => hP v' J3 (rd_genE hx g f))
theorem cb_set {u1 u2 : Int32} (hH : cH C c (n + 1) t K L J R) : a_does 700 23 [a_rf C, .int u1, .int u2] (n + 1, t, K, L, J, R) (cB C n K L J R) := by
  have hC := hH.2.2.1
  have e3 : ∀ (k m : Nat) (v : Int32), (k = 14 ∨ k = 22 ∨ k = 17) → ∀ x j, (x = C + 3 ∨ (C + 44 ≤ x ∧ x ≤ C + 96)) → a_ui J (C + k) m v x j = J x j := fun k m v hk x j hx => by rw [ui_ap, if_neg (by omega)]
  refine ke_set hH ?_ ?_ ?_ ?_ ?_ ?_
  · exact fun _ _ z => cb_Z z
  · exact fun _ _ _ z => cb_Z z
  · exact fun _ _ _ _ z => cb_Z z
  · exact fun _ _ _ _ => cb_J (e3 14 6 _ (by omega))
  · exact fun _ _ _ _ => cb_J (e3 22 8 _ (by omega))
  · exact fun _ _ _ _ w => cb_J (fun x j hx => (w.2 x j (eD_h hx)).trans (e3 17 5 _ (by omega) x j hx))
theorem cd_set {u1 u2 : Int32} (hb : b < C) (h : lawI b C c n t K L J R) (hP : ∀ v n2 t2 K2 L2 J2 R2, aNx b C c n2 t2 K2 L2 J2 R2 (yv (C + 44) J) (seY (yv (C + 44) J) u1 u2) → P (some (.int v)) (n2 + 1, t2, K2, L2, J2, R2)) : a_does 700 23 [a_rf C, .int u1, .int u2] (n + 1, t, K, L, J, R) P := by
  have hu := h.2.2.2.2.2.1
  have hl0 := h.2.2.2.2.2.2.1
  have hn0 := h.2.2.2.2.2.2.2
  have hC := h.1.2.2.1
  have h17 : 0 ≤ (yv (C + 44) J) 0 17 ∧ (yv (C + 44) J) 0 17 ≤ 30 := hu.1.2.2.2.2.2.2.2.2.1
  have A : a_does 700 23 [a_rf C, .int u1, .int u2] (n + 1, t, K, L, J, R) (cA C c (fun v0 Z0 => Z0 = seY (yv (C + 44) J) u1 u2)) := ge_set h.1 hu (fun v' n' t' K' L' J' R' g1 g2 => ⟨v', _, n', t', K', L', J', R', rfl, rfl, rfl, cH_le g1 (Nat.le_add_right _ _), g2⟩)
  have B : a_does 700 23 [a_rf C, .int u1, .int u2] (n + 1, t, K, L, J, R) (cB C n K L J R) := cb_set h.1
  exact cd_gen hb h A B (fun v Z J' hV h3 => by subst hV; exact lb_z hl0 kzE_set h3) (fun v Z hV => by subst hV; exact nw_set hn0) (fun v Z n2 t2 K2 L2 J2 R2 hV hx => by subst hV; exact hP _ _ _ _ _ _ _ hx)
theorem rd_set {u1 u2 : Int32} (hx : aNx b C c n t K L J R Y (seY Y u1 u2)) (hc : 120 * c + 130 ≤ 84000) (hP : ∀ v J3, lawI b C (c + 1) n t K L J3 R → P (some (.int v)) (n + 1, t, K, L, J3, R)) : a_does 700 179 [a_rf (C + 44), .int u1, .int u2] (n + 1, t, K, L, J, R) P := by
  exact xp_set hx.1.2.1 hx.2.2.1 hc ⟨mG_refl hx.1.2.2.1, hx.1.2.2.2.1⟩ hx.2.1 (fun v' J3 f g => hP v' J3 (rd_genE hx g f))
theorem cd_draft {u1 u2 u3 u4 : Int32} (hb : b < C) (h : lawI b C c n t K L J R) (hP : ∀ v n2 t2 K2 L2 J2 R2, aNx b C c n2 t2 K2 L2 J2 R2 (yv (C + 44) J) (drY (yv (C + 44) J) u1 u2 u3 u4) → P (some (.int v)) (n2 + 1, t2, K2, L2, J2, R2)) : a_does 700 36 [a_rf C, .int u1, .int u2, .int u3, .int u4] (n + 1, t, K, L, J, R) P := by
  have hu := h.2.2.2.2.2.1
  have hl0 := h.2.2.2.2.2.2.1
  have hn0 := h.2.2.2.2.2.2.2
  have hC := h.1.2.2.1
  have h17 : 0 ≤ (yv (C + 44) J) 0 17 ∧ (yv (C + 44) J) 0 17 ≤ 30 := hu.1.2.2.2.2.2.2.2.2.1
  have A : a_does 700 36 [a_rf C, .int u1, .int u2, .int u3, .int u4] (n + 1, t, K, L, J, R) (cA C c (fun v0 Z0 => Z0 = drY (yv (C + 44) J) u1 u2 u3 u4)) := ge_draft h.1 hu (fun v' n' t' K' L' J' R' g1 g2 => ⟨v', _, n', t', K', L', J', R', rfl, rfl, rfl, g1, g2⟩)
  have B : a_does 700 36 [a_rf C, .int u1, .int u2, .int u3, .int u4] (n + 1, t, K, L, J, R) (cB C n K L J R) := cu_draft h.1 (fun _ _ _ _ _ _ _ z => cb_Z z)
  exact cd_gen hb h A B (fun v Z J' hV h3 => by subst hV; exact lb_z hl0 kzE_draft h3) (fun v Z hV => by subst hV; exact nw_draft hn0) (fun v Z n2 t2 K2 L2 J2 R2 hV hx => by subst hV; exact hP _ _ _ _ _ _ _ hx)
theorem rd_draft {u1 u2 u3 u4 : Int32} (hx : aNx b C c n t K L J R Y (drY Y u1 u2 u3 u4)) (hc : 120 * c + 130 ≤ 84000) (hP : ∀ v J3, lawI b C (c + 1) n t K L J3 R → P (some (.int v)) (n + 1, t, K, L, J3, R)) : a_does 700 180 [a_rf (C + 44), .int u1, .int u2, .int u3, .int u4] (n + 1, t, K, L, J, R) P := by
  exact xp_draft hx.1.2.1 hx.2.2.1 hc ⟨mG_refl hx.1.2.2.1, hx.1.2.2.2.1⟩ hx.2.1 (fun v' J3 f g => hP v' J3 (rd_genE hx g f))
theorem cd_ask {u1 u2 u3 u4 u5 u6 u7 : Int32} (hb : b < C) (h : lawI b C c n t K L J R) (hP : ∀ n2 t2 K2 L2 J2 R2, aNx b C c n2 t2 K2 L2 J2 R2 (yv (C + 44) J) ((akY (yv (C + 44) J) u1 u2 u3 u4 u5 u6 u7).2) → P (some (.int ((akY (yv (C + 44) J) u1 u2 u3 u4 u5 u6 u7).1))) (n2 + 1, t2, K2, L2, J2, R2)) : a_does 700 38 [a_rf C, .int u1, .int u2, .int u3, .int u4, .int u5, .int u6, .int u7] (n + 1, t, K, L, J, R) P := by
  have hu := h.2.2.2.2.2.1
  have hl0 := h.2.2.2.2.2.2.1
  have hn0 := h.2.2.2.2.2.2.2
  have hC := h.1.2.2.1
  have h17 : 0 ≤ (yv (C + 44) J) 0 17 ∧ (yv (C + 44) J) 0 17 ≤ 30 := hu.1.2.2.2.2.2.2.2.2.1
  have A : a_does 700 38 [a_rf C, .int u1, .int u2, .int u3, .int u4, .int u5, .int u6, .int u7] (n + 1, t, K, L, J, R) (cA C c (fun v0 Z0 => v0 = (akY (yv (C + 44) J) u1 u2 u3 u4 u5 u6 u7).1 ∧ Z0 = (akY (yv (C + 44) J) u1 u2 u3 u4 u5 u6 u7).2)) := ge_ask h.1 hu hn0 (fun n' t' K' L' J' R' g1 g2 => ⟨_, _, n', t', K', L', J', R', ⟨rfl, rfl⟩, rfl, rfl, cH_le g1 (Nat.le_add_right _ _), g2⟩)
  have B : a_does 700 38 [a_rf C, .int u1, .int u2, .int u3, .int u4, .int u5, .int u6, .int u7] (n + 1, t, K, L, J, R) (cB C n K L J R) := cu_ask h.1 (fun _ _ _ _ _ _ _ z => cb_Z z)
  exact cd_gen hb h A B (fun v Z J' hV h3 => by obtain ⟨-, rfl⟩ := hV; exact lb_z hl0 kzE_ask h3) (fun v Z hV => by obtain ⟨-, rfl⟩ := hV; exact nw_ask hn0 h17) (fun v Z n2 t2 K2 L2 J2 R2 hV hx => by obtain ⟨rfl, rfl⟩ := hV; exact hP _ _ _ _ _ _ hx)
theorem rd_ask {u1 u2 u3 u4 u5 u6 u7 : Int32} (hx : aNx b C c n t K L J R Y ((akY Y u1 u2 u3 u4 u5 u6 u7).2)) (hc : 120 * c + 130 ≤ 84000) (hP : ∀ J3, lawI b C (c + 1) n t K L J3 R → P (some (.int ((akY Y u1 u2 u3 u4 u5 u6 u7).1))) (n + 1, t, K, L, J3, R)) : a_does 700 181 [a_rf (C + 44), .int u1, .int u2, .int u3, .int u4, .int u5, .int u6, .int u7] (n + 1, t, K, L, J, R) P := by
  exact xp_ask hx.1.2.1 hx.2.2.1 hc ⟨mG_refl hx.1.2.2.1, hx.1.2.2.2.1⟩ hx.2.1 (fun J3 f g => hP J3 (rd_gen hx g f.2))
theorem cd_withdraw {u1 : Int32} (hb : b < C) (h : lawI b C c n t K L J R) (hP : ∀ n2 t2 K2 L2 J2 R2, aNx b C c n2 t2 K2 L2 J2 R2 (yv (C + 44) J) ((wdY (yv (C + 44) J) u1).2) → P (some (.int ((wdY (yv (C + 44) J) u1).1))) (n2 + 1, t2, K2, L2, J2, R2)) : a_does 700 44 [a_rf C, .int u1] (n + 1, t, K, L, J, R) P := by
  have hu := h.2.2.2.2.2.1
  have hl0 := h.2.2.2.2.2.2.1
  have hn0 := h.2.2.2.2.2.2.2
  have hC := h.1.2.2.1
  have h17 : 0 ≤ (yv (C + 44) J) 0 17 ∧ (yv (C + 44) J) 0 17 ≤ 30 := hu.1.2.2.2.2.2.2.2.2.1
  have A : a_does 700 44 [a_rf C, .int u1] (n + 1, t, K, L, J, R) (cA C c (fun v0 Z0 => v0 = (wdY (yv (C + 44) J) u1).1 ∧ Z0 = (wdY (yv (C + 44) J) u1).2)) := ge_withdraw h.1 hu (fun n' t' K' L' J' R' g1 g2 => ⟨_, _, n', t', K', L', J', R', ⟨rfl, rfl⟩, rfl, rfl, cH_le g1 (Nat.le_add_right _ _), g2⟩)
  have B : a_does 700 44 [a_rf C, .int u1] (n + 1, t, K, L, J, R) (cB C n K L J R) := cu_withdraw h.1 (fun _ _ _ _ _ _ _ z => cb_Z z)
  exact cd_gen hb h A B (fun v Z J' hV h3 => by obtain ⟨-, rfl⟩ := hV; exact lb_z hl0 kzE_withdraw h3) (fun v Z hV => by obtain ⟨-, rfl⟩ := hV; exact nw_wd hn0) (fun v Z n2 t2 K2 L2 J2 R2 hV hx => by obtain ⟨rfl, rfl⟩ := hV; exact hP _ _ _ _ _ _ hx)
theorem rd_withdraw {u1 : Int32} (hx : aNx b C c n t K L J R Y ((wdY Y u1).2)) (hc : 120 * c + 130 ≤ 84000) (hP : ∀ J3, lawI b C (c + 1) n t K L J3 R → P (some (.int ((wdY Y u1).1))) (n + 1, t, K, L, J3, R)) : a_does 700 184 [a_rf (C + 44), .int u1] (n + 1, t, K, L, J, R) P := by
  exact xp_withdraw hx.1.2.1 hx.2.2.1 hc ⟨mG_refl hx.1.2.2.1, hx.1.2.2.2.1⟩ hx.2.1 (fun J3 f g => hP J3 (rd_gen hx g f.2))
theorem cd_askOf {u1 u2 : Int32} (hb : b < C) (h : lawI b C c n t K L J R) (hP : ∀ v n2 t2 K2 L2 J2 R2, aNx b C c n2 t2 K2 L2 J2 R2 (yv (C + 44) J) ((yv (C + 44) J)) → P (some (.int v)) (n2 + 1, t2, K2, L2, J2, R2)) : a_does 700 53 [a_rf C, .int u1, .int u2] (n + 1, t, K, L, J, R) P := by
  have hu := h.2.2.2.2.2.1
  have hl0 := h.2.2.2.2.2.2.1
  have hn0 := h.2.2.2.2.2.2.2
  have hC := h.1.2.2.1
  have h17 : 0 ≤ (yv (C + 44) J) 0 17 ∧ (yv (C + 44) J) 0 17 ≤ 30 := hu.1.2.2.2.2.2.2.2.2.1
  have A : a_does 700 53 [a_rf C, .int u1, .int u2] (n + 1, t, K, L, J, R) (cA C c (fun v0 Z0 => Z0 = (yv (C + 44) J))) := cq_askOf h.1 (fun v' J' z => ⟨v', _, n, t, K, L, J', R, rfl, rfl, rfl, cH_le z.1 (Nat.le_add_right _ _), cu_q h.1 hu z⟩)
  have B : a_does 700 53 [a_rf C, .int u1, .int u2] (n + 1, t, K, L, J, R) (cB C n K L J R) := cu_askOf h.1 (fun _ _ _ _ _ _ _ z => cb_Z z)
  exact cd_gen hb h A B (fun v Z J' hV h3 => by subst hV; exact lb_z hl0 kzE_r h3) (fun v Z hV => by subst hV; exact hn0) (fun v Z n2 t2 K2 L2 J2 R2 hV hx => by subst hV; exact hP _ _ _ _ _ _ _ hx)
theorem rd_askOf {u1 u2 : Int32} (hx : aNx b C c n t K L J R Y (Y)) (hc : 120 * c + 130 ≤ 84000) (hP : ∀ v J3, lawI b C (c + 1) n t K L J3 R → P (some (.int v)) (n + 1, t, K, L, J3, R)) : a_does 700 188 [a_rf (C + 44), .int u1, .int u2] (n + 1, t, K, L, J, R) P := by
  exact xq_askOf hx.1.2.1 hx.1.2.2.1 (fun v' J3 q => hP v' J3 (rd_genE hx (gs_Q hx.2.1 q) (q.2 _ _ (by unfold sC; omega) (by omega))))
theorem cb_feed {u1 : Int32} {u2 : Int64} (hH : cH C c (n + 1) t K L J R) : a_does 700 66 [a_rf C, .int u1, .long u2] (n + 1, t, K, L, J, R) (cB C n K L J R) := by
  have hC := hH.2.2.1
  exact ke_feed hH (fun _ _ z => cb_Z z) (fun _ _ _ z => cb_Z z) (fun _ _ _ _ f _ _ => cb_J (fun x j hx => f x j (by omega) (by omega)))
theorem cd_feed {u1 : Int32} {u2 : Int64} (hb : b < C) (h : lawI b C c n t K L J R) (hP : ∀ v n2 t2 K2 L2 J2 R2, aNx b C c n2 t2 K2 L2 J2 R2 (yv (C + 44) J) (feY (yv (C + 44) J) u1 u2) → P (some (.int v)) (n2 + 1, t2, K2, L2, J2, R2)) : a_does 700 66 [a_rf C, .int u1, .long u2] (n + 1, t, K, L, J, R) P := by
  have hu := h.2.2.2.2.2.1
  have hl0 := h.2.2.2.2.2.2.1
  have hn0 := h.2.2.2.2.2.2.2
  have hC := h.1.2.2.1
  have h17 : 0 ≤ (yv (C + 44) J) 0 17 ∧ (yv (C + 44) J) 0 17 ≤ 30 := hu.1.2.2.2.2.2.2.2.2.1
  have A : a_does 700 66 [a_rf C, .int u1, .long u2] (n + 1, t, K, L, J, R) (cA C c (fun v0 Z0 => Z0 = feY (yv (C + 44) J) u1 u2)) := ge_feed h.1 hu (fun v' n' t' K' L' J' R' g1 g2 => ⟨v', _, n', t', K', L', J', R', rfl, rfl, rfl, cH_le g1 (Nat.le_add_right _ _), g2⟩)
  have B : a_does 700 66 [a_rf C, .int u1, .long u2] (n + 1, t, K, L, J, R) (cB C n K L J R) := cb_feed h.1
  exact cd_gen hb h A B (fun v Z J' hV h3 => by subst hV; exact lb_z hl0 kzE_feed h3) (fun v Z hV => by subst hV; exact nw_feed hn0) (fun v Z n2 t2 K2 L2 J2 R2 hV hx => by subst hV; exact hP _ _ _ _ _ _ _ hx)
theorem rd_feed {u1 : Int32} {u2 : Int64} (hx : aNx b C c n t K L J R Y (feY Y u1 u2)) (hc : 120 * c + 130 ≤ 84000) (hP : ∀ v J3, lawI b C (c + 1) n t K L J3 R → P (some (.int v)) (n + 1, t, K, L, J3, R)) : a_does 700 200 [a_rf (C + 44), .int u1, .long u2] (n + 1, t, K, L, J, R) P := by
  exact xp_feed hx.1.2.1 hx.2.2.1 hc ⟨mG_refl hx.1.2.2.1, hx.1.2.2.2.1⟩ hx.2.1 (fun v' J3 f g => hP v' J3 (rd_genE hx g f))
theorem cb_text {u1 : Int32} (hH : cH C c (n + 1) t K L J R) : a_does 700 68 [a_rf C, .int u1] (n + 1, t, K, L, J, R) (cB C n K L J R) := by
  have hC := hH.2.2.1
  exact ke_text hH (fun _ _ z => cb_Z z) (fun _ _ _ z => cb_Z z) (fun _ _ _ J' t1 g => cb_J (fun x j hx => by rw [ui_ap, if_neg (by omega)]; exact t1.2 x j (by omega) (by omega))) (fun _ _ _ n' t' K' L' J' R' z _ _ _ _ _ => ⟨_, _, _, _, _, _, rfl, ⟨z.2.2.1, z.2.2.2.1, z.2.2.2.2.1, fun x j p q => by rw [ur_ap, if_neg (by omega)]; exact z.2.2.2.2.2.1 x j (Or.inr p) q, fun x j p q => by rw [ui_ap, if_neg (by omega), ui_ap, if_neg (by omega)]; exact z.2.2.2.2.2.2 x j (eD_M p q) (by omega)⟩, fun j => by rw [ui_ap, if_neg (by omega), ui_ap, if_neg (by omega)]; exact z.2.2.2.2.2.2 _ j eD_3 (by omega)⟩)
theorem cd_text {u1 : Int32} (hb : b < C) (h : lawI b C c n t K L J R) (hP : ∀ v n2 t2 K2 L2 J2 R2, aNx b C c n2 t2 K2 L2 J2 R2 (yv (C + 44) J) (txY (yv (C + 44) J) u1) → P (some (.int v)) (n2 + 1, t2, K2, L2, J2, R2)) : a_does 700 68 [a_rf C, .int u1] (n + 1, t, K, L, J, R) P := by
  have hu := h.2.2.2.2.2.1
  have hl0 := h.2.2.2.2.2.2.1
  have hn0 := h.2.2.2.2.2.2.2
  have hC := h.1.2.2.1
  have h17 : 0 ≤ (yv (C + 44) J) 0 17 ∧ (yv (C + 44) J) 0 17 ≤ 30 := hu.1.2.2.2.2.2.2.2.2.1
  have A : a_does 700 68 [a_rf C, .int u1] (n + 1, t, K, L, J, R) (cA C c (fun v0 Z0 => Z0 = txY (yv (C + 44) J) u1)) := ge_text h.1 hu (fun v' n' t' K' L' J' R' g1 g2 => ⟨v', _, n', t', K', L', J', R', rfl, rfl, rfl, g1, g2⟩)
  have B : a_does 700 68 [a_rf C, .int u1] (n + 1, t, K, L, J, R) (cB C n K L J R) := cb_text h.1
  exact cd_gen hb h A B (fun v Z J' hV h3 => by subst hV; exact lb_z hl0 kzE_text h3) (fun v Z hV => by subst hV; exact nw_text hn0) (fun v Z n2 t2 K2 L2 J2 R2 hV hx => by subst hV; exact hP _ _ _ _ _ _ _ hx)
theorem rd_text {u1 : Int32} (hx : aNx b C c n t K L J R Y (txY Y u1)) (hc : 120 * c + 130 ≤ 84000) (hP : ∀ v J3, lawI b C (c + 1) n t K L J3 R → P (some (.int v)) (n + 1, t, K, L, J3, R)) : a_does 700 201 [a_rf (C + 44), .int u1] (n + 1, t, K, L, J, R) P := by
  exact xp_text hx.1.2.1 hx.2.2.1 hc ⟨mG_refl hx.1.2.2.1, hx.1.2.2.2.1⟩ hx.2.1 (fun v' J3 f g => hP v' J3 (rd_genE hx g f))
theorem cd_strike {u1 u2 : Int32} (hb : b < C) (h : lawI b C c n t K L J R) (hP : ∀ n2 t2 K2 L2 J2 R2, aNx b C c n2 t2 K2 L2 J2 R2 (yv (C + 44) J) ((skY (yv (C + 44) J) u1 u2).2) → P (some (.int ((skY (yv (C + 44) J) u1 u2).1))) (n2 + 1, t2, K2, L2, J2, R2)) : a_does 700 84 [a_rf C, .int u1, .int u2] (n + 1, t, K, L, J, R) P := by
  have hu := h.2.2.2.2.2.1
  have hl0 := h.2.2.2.2.2.2.1
  have hn0 := h.2.2.2.2.2.2.2
  have hC := h.1.2.2.1
  have h17 : 0 ≤ (yv (C + 44) J) 0 17 ∧ (yv (C + 44) J) 0 17 ≤ 30 := hu.1.2.2.2.2.2.2.2.2.1
  have hx : 0 ≤ u1 → u1 < J (C + 7) 3 → C + 96 < R (C + 8) u1.toNatClampNeg ∧ ¬ R (C + 8) u1.toNatClampNeg = 0 := fun x0 x1 => by
    rw [hu.1.2.2.2.1.1] at x1
    have q := hu.1.2.2.2.1.2 u1 x0 x1
    exact ⟨(h.1.1.g_txt _ q.1).1, q.2.1⟩
  have A : a_does 700 84 [a_rf C, .int u1, .int u2] (n + 1, t, K, L, J, R) (cA C c (fun v0 Z0 => v0 = (skY (yv (C + 44) J) u1 u2).1 ∧ Z0 = (skY (yv (C + 44) J) u1 u2).2)) := ge_strike h.1 hu (fun n' t' K' L' J' R' g1 g2 => ⟨_, _, n', t', K', L', J', R', ⟨rfl, rfl⟩, rfl, rfl, cH_le g1 (Nat.le_add_right _ _), g2⟩)
  have B : a_does 700 84 [a_rf C, .int u1, .int u2] (n + 1, t, K, L, J, R) (cB C n K L J R) := ke_strike h.1 (fun x0 x1 => (hx x0 x1).2) (fun _ _ z => cb_Z z) (fun _ _ _ z => cb_Z z) (fun q _ _ => cb_J (fun y j hy => by have := (hx q.1.1 q.1.2).1; rw [ui_ap, if_neg (by omega), ui_ap, if_neg (by omega)]))
  exact cd_gen hb h A B (fun v Z J' hV h3 => by obtain ⟨-, rfl⟩ := hV; exact lb_z hl0 kzE_strike h3) (fun v Z hV => by obtain ⟨-, rfl⟩ := hV; exact nw_sk hn0) (fun v Z n2 t2 K2 L2 J2 R2 hV hx => by obtain ⟨rfl, rfl⟩ := hV; exact hP _ _ _ _ _ _ hx)
theorem rd_strike {u1 u2 : Int32} (hx : aNx b C c n t K L J R Y ((skY Y u1 u2).2)) (hc : 120 * c + 130 ≤ 84000) (hP : ∀ J3, lawI b C (c + 1) n t K L J3 R → P (some (.int ((skY Y u1 u2).1))) (n + 1, t, K, L, J3, R)) : a_does 700 207 [a_rf (C + 44), .int u1, .int u2] (n + 1, t, K, L, J, R) P := by
  exact xp_strike hx.1.2.1 hx.2.2.1 hc ⟨mG_refl hx.1.2.2.1, hx.1.2.2.2.1⟩ hx.2.1 (fun J3 f g => hP J3 (rd_genE hx g f))
theorem cd_barred {u1 u2 u3 u4 : Int32} (hb : b < C) (h : lawI b C c n t K L J R) (hP : ∀ v n2 t2 K2 L2 J2 R2, aNx b C c n2 t2 K2 L2 J2 R2 (yv (C + 44) J) ((yv (C + 44) J)) → P (some (.int v)) (n2 + 1, t2, K2, L2, J2, R2)) : a_does 700 85 [a_rf C, .int u1, .int u2, .int u3, .int u4] (n + 1, t, K, L, J, R) P := by
  have hu := h.2.2.2.2.2.1
  have hl0 := h.2.2.2.2.2.2.1
  have hn0 := h.2.2.2.2.2.2.2
  have hC := h.1.2.2.1
  have h17 : 0 ≤ (yv (C + 44) J) 0 17 ∧ (yv (C + 44) J) 0 17 ≤ 30 := hu.1.2.2.2.2.2.2.2.2.1
  have A : a_does 700 85 [a_rf C, .int u1, .int u2, .int u3, .int u4] (n + 1, t, K, L, J, R) (cA C c (fun v0 Z0 => Z0 = (yv (C + 44) J))) := cq_barred h.1 (fun v' J' z => ⟨v', _, n, t, K, L, J', R, rfl, rfl, rfl, cH_le z.1 (Nat.le_add_right _ _), cu_q h.1 hu z⟩)
  have B : a_does 700 85 [a_rf C, .int u1, .int u2, .int u3, .int u4] (n + 1, t, K, L, J, R) (cB C n K L J R) := cu_barred h.1 (fun _ _ _ _ _ _ _ z => cb_Z z)
  exact cd_gen hb h A B (fun v Z J' hV h3 => by subst hV; exact lb_z hl0 kzE_r h3) (fun v Z hV => by subst hV; exact hn0) (fun v Z n2 t2 K2 L2 J2 R2 hV hx => by subst hV; exact hP _ _ _ _ _ _ _ hx)
theorem rd_barred {u1 u2 u3 u4 : Int32} (hx : aNx b C c n t K L J R Y (Y)) (hc : 120 * c + 130 ≤ 84000) (hP : ∀ v J3, lawI b C (c + 1) n t K L J3 R → P (some (.int v)) (n + 1, t, K, L, J3, R)) : a_does 700 208 [a_rf (C + 44), .int u1, .int u2, .int u3, .int u4] (n + 1, t, K, L, J, R) P := by
  exact xq_barred hx.1.2.1 hx.1.2.2.1 (fun v' J3 q => hP v' J3 (rd_genE hx (gs_Q hx.2.1 q) (q.2 _ _ (by unfold sC; omega) (by omega))))
theorem cb_kin {u1 u2 : Int32} (hH : cH C c (n + 1) t K L J R) : a_does 700 89 [a_rf C, .int u1, .int u2] (n + 1, t, K, L, J, R) (cB C n K L J R) := by
  have hC := hH.2.2.1
  exact ke_kin hH (fun _ _ z => cb_Z z) (fun _ _ _ => cb_J (fun x j hx => by rw [ui_ap, if_neg (by omega)]))
theorem cd_kin {u1 u2 : Int32} (hb : b < C) (h : lawI b C c n t K L J R) (hP : ∀ v n2 t2 K2 L2 J2 R2, aNx b C c n2 t2 K2 L2 J2 R2 (yv (C + 44) J) (kiY (yv (C + 44) J) u1 u2) → P (some (.int v)) (n2 + 1, t2, K2, L2, J2, R2)) : a_does 700 89 [a_rf C, .int u1, .int u2] (n + 1, t, K, L, J, R) P := by
  have hu := h.2.2.2.2.2.1
  have hl0 := h.2.2.2.2.2.2.1
  have hn0 := h.2.2.2.2.2.2.2
  have hC := h.1.2.2.1
  have h17 : 0 ≤ (yv (C + 44) J) 0 17 ∧ (yv (C + 44) J) 0 17 ≤ 30 := hu.1.2.2.2.2.2.2.2.2.1
  have A : a_does 700 89 [a_rf C, .int u1, .int u2] (n + 1, t, K, L, J, R) (cA C c (fun v0 Z0 => Z0 = kiY (yv (C + 44) J) u1 u2)) := ge_kin h.1 hu (fun v' n' t' K' L' J' R' g1 g2 => ⟨v', _, n', t', K', L', J', R', rfl, rfl, rfl, cH_le g1 (Nat.le_add_right _ _), g2⟩)
  have B : a_does 700 89 [a_rf C, .int u1, .int u2] (n + 1, t, K, L, J, R) (cB C n K L J R) := cb_kin h.1
  exact cd_gen hb h A B (fun v Z J' hV h3 => by subst hV; exact lb_z hl0 kzE_kin h3) (fun v Z hV => by subst hV; exact nw_kin hn0) (fun v Z n2 t2 K2 L2 J2 R2 hV hx => by subst hV; exact hP _ _ _ _ _ _ _ hx)
theorem rd_kin {u1 u2 : Int32} (hx : aNx b C c n t K L J R Y (kiY Y u1 u2)) (hc : 120 * c + 130 ≤ 84000) (hP : ∀ v J3, lawI b C (c + 1) n t K L J3 R → P (some (.int v)) (n + 1, t, K, L, J3, R)) : a_does 700 213 [a_rf (C + 44), .int u1, .int u2] (n + 1, t, K, L, J, R) P := by
  exact xp_kin hx.1.2.1 hx.2.2.1 hc ⟨mG_refl hx.1.2.2.1, hx.1.2.2.2.1⟩ hx.2.1 (fun v' J3 f g => hP v' J3 (rd_genE hx g f))
theorem cd_mark {u1 u2 u3 : Int32} (hb : b < C) (h : lawI b C c n t K L J R) (hP : ∀ n2 t2 K2 L2 J2 R2, aNx b C c n2 t2 K2 L2 J2 R2 (yv (C + 44) J) ((mrY (yv (C + 44) J) u1 u2 u3).2) → P (some (.int ((mrY (yv (C + 44) J) u1 u2 u3).1))) (n2 + 1, t2, K2, L2, J2, R2)) : a_does 700 92 [a_rf C, .int u1, .int u2, .int u3] (n + 1, t, K, L, J, R) P := by
  have hu := h.2.2.2.2.2.1
  have hl0 := h.2.2.2.2.2.2.1
  have hn0 := h.2.2.2.2.2.2.2
  have hC := h.1.2.2.1
  have h17 : 0 ≤ (yv (C + 44) J) 0 17 ∧ (yv (C + 44) J) 0 17 ≤ 30 := hu.1.2.2.2.2.2.2.2.2.1
  have A : a_does 700 92 [a_rf C, .int u1, .int u2, .int u3] (n + 1, t, K, L, J, R) (cA C c (fun v0 Z0 => v0 = (mrY (yv (C + 44) J) u1 u2 u3).1 ∧ Z0 = (mrY (yv (C + 44) J) u1 u2 u3).2)) := ge_mark h.1 hu (rg_group h.2.2.1) (fun n' t' K' L' J' R' g1 g2 => ⟨_, _, n', t', K', L', J', R', ⟨rfl, rfl⟩, rfl, rfl, cH_le g1 (Nat.le_add_right _ _), g2⟩)
  have B : a_does 700 92 [a_rf C, .int u1, .int u2, .int u3] (n + 1, t, K, L, J, R) (cB C n K L J R) := cu_mark h.1 (fun _ _ _ _ _ _ _ z => cb_Z z)
  exact cd_gen hb h A B (fun v Z J' hV h3 => by obtain ⟨-, rfl⟩ := hV; exact lb_z hl0 kzE_mark h3) (fun v Z hV => by obtain ⟨-, rfl⟩ := hV; exact nw_mark hn0) (fun v Z n2 t2 K2 L2 J2 R2 hV hx => by obtain ⟨rfl, rfl⟩ := hV; exact hP _ _ _ _ _ _ hx)
theorem rd_mark {u1 u2 u3 : Int32} (hx : aNx b C c n t K L J R Y ((mrY Y u1 u2 u3).2)) (hc : 120 * c + 130 ≤ 84000) (hP : ∀ J3, lawI b C (c + 1) n t K L J3 R → P (some (.int ((mrY Y u1 u2 u3).1))) (n + 1, t, K, L, J3, R)) : a_does 700 215 [a_rf (C + 44), .int u1, .int u2, .int u3] (n + 1, t, K, L, J, R) P := by
  exact xp_mark hx.1.2.1 hx.2.2.1 hc ⟨mG_refl hx.1.2.2.1, hx.1.2.2.2.1⟩ hx.2.1 (fun J3 f g => hP J3 (rd_gen hx g f.2))
theorem cd_markOf {u1 : Int32} (hb : b < C) (h : lawI b C c n t K L J R) (hP : ∀ n2 t2 K2 L2 J2 R2, aNx b C c n2 t2 K2 L2 J2 R2 (yv (C + 44) J) ((yv (C + 44) J)) → P (some (.int (mkV (yv (C + 44) J) u1))) (n2 + 1, t2, K2, L2, J2, R2)) : a_does 700 96 [a_rf C, .int u1] (n + 1, t, K, L, J, R) P := by
  have hu := h.2.2.2.2.2.1
  have hl0 := h.2.2.2.2.2.2.1
  have hn0 := h.2.2.2.2.2.2.2
  have hC := h.1.2.2.1
  have h17 : 0 ≤ (yv (C + 44) J) 0 17 ∧ (yv (C + 44) J) 0 17 ≤ 30 := hu.1.2.2.2.2.2.2.2.2.1
  have A : a_does 700 96 [a_rf C, .int u1] (n + 1, t, K, L, J, R) (cA C c (fun v0 Z0 => v0 = mkV (yv (C + 44) J) u1 ∧ Z0 = (yv (C + 44) J))) := ge_markOf h.1 hu (fun J' g1 g2 => ⟨_, _, n, t, K, L, J', R, ⟨rfl, rfl⟩, rfl, rfl, cH_le g1 (Nat.le_add_right _ _), g2⟩)
  have B : a_does 700 96 [a_rf C, .int u1] (n + 1, t, K, L, J, R) (cB C n K L J R) := cu_markOf h.1 (fun _ _ _ _ _ _ _ z => cb_Z z)
  exact cd_gen hb h A B (fun v Z J' hV h3 => by obtain ⟨-, rfl⟩ := hV; exact lb_z hl0 kzE_r h3) (fun v Z hV => by obtain ⟨-, rfl⟩ := hV; exact hn0) (fun v Z n2 t2 K2 L2 J2 R2 hV hx => by obtain ⟨rfl, rfl⟩ := hV; exact hP _ _ _ _ _ _ hx)
theorem rd_markOf {u1 : Int32} (hx : aNx b C c n t K L J R Y (Y)) (hc : 120 * c + 130 ≤ 84000) (hP : ∀ J3, lawI b C (c + 1) n t K L J3 R → P (some (.int (mkV Y u1))) (n + 1, t, K, L, J3, R)) : a_does 700 216 [a_rf (C + 44), .int u1] (n + 1, t, K, L, J, R) P := by
  exact xp_markOf hx.1.2.1 hx.2.2.1 hc ⟨mG_refl hx.1.2.2.1, hx.1.2.2.2.1⟩ hx.2.1 (fun J3 f g => hP J3 (rd_gen hx g f.2))
theorem cd_habit {u1 u2 : Int32} (hb : b < C) (h : lawI b C c n t K L J R) (hP : ∀ v n2 t2 K2 L2 J2 R2, aNx b C c n2 t2 K2 L2 J2 R2 (yv (C + 44) J) ((yv (C + 44) J)) → P (some (.int v)) (n2 + 1, t2, K2, L2, J2, R2)) : a_does 700 97 [a_rf C, .int u1, .int u2] (n + 1, t, K, L, J, R) P := by
  have hu := h.2.2.2.2.2.1
  have hl0 := h.2.2.2.2.2.2.1
  have hn0 := h.2.2.2.2.2.2.2
  have hC := h.1.2.2.1
  have h17 : 0 ≤ (yv (C + 44) J) 0 17 ∧ (yv (C + 44) J) 0 17 ≤ 30 := hu.1.2.2.2.2.2.2.2.2.1
  have A : a_does 700 97 [a_rf C, .int u1, .int u2] (n + 1, t, K, L, J, R) (cA C c (fun v0 Z0 => Z0 = (yv (C + 44) J))) := cq_habit h.1 (fun v' J' z => ⟨v', _, n, t, K, L, J', R, rfl, rfl, rfl, cH_le z.1 (Nat.le_add_right _ _), cu_q h.1 hu z⟩)
  have B : a_does 700 97 [a_rf C, .int u1, .int u2] (n + 1, t, K, L, J, R) (cB C n K L J R) := cu_habit h.1 (fun _ _ _ _ _ _ _ z => cb_Z z)
  exact cd_gen hb h A B (fun v Z J' hV h3 => by subst hV; exact lb_z hl0 kzE_r h3) (fun v Z hV => by subst hV; exact hn0) (fun v Z n2 t2 K2 L2 J2 R2 hV hx => by subst hV; exact hP _ _ _ _ _ _ _ hx)
theorem rd_habit {u1 u2 : Int32} (hx : aNx b C c n t K L J R Y (Y)) (hc : 120 * c + 130 ≤ 84000) (hP : ∀ v J3, lawI b C (c + 1) n t K L J3 R → P (some (.int v)) (n + 1, t, K, L, J3, R)) : a_does 700 217 [a_rf (C + 44), .int u1, .int u2] (n + 1, t, K, L, J, R) P := by
  exact xq_habit hx.1.2.1 hx.1.2.2.1 (fun v' J3 q => hP v' J3 (rd_genE hx (gs_Q hx.2.1 q) (q.2 _ _ (by unfold sC; omega) (by omega))))
theorem cd_fit {u1 u2 u3 : Int32} (hb : b < C) (h : lawI b C c n t K L J R) (hP : ∀ n2 t2 K2 L2 J2 R2, aNx b C c n2 t2 K2 L2 J2 R2 (yv (C + 44) J) ((yv (C + 44) J)) → P (some (.int (ftV (yv (C + 44) J) u1 u2 u3))) (n2 + 1, t2, K2, L2, J2, R2)) : a_does 700 99 [a_rf C, .int u1, .int u2, .int u3] (n + 1, t, K, L, J, R) P := by
  have hu := h.2.2.2.2.2.1
  have hl0 := h.2.2.2.2.2.2.1
  have hn0 := h.2.2.2.2.2.2.2
  have hC := h.1.2.2.1
  have h17 : 0 ≤ (yv (C + 44) J) 0 17 ∧ (yv (C + 44) J) 0 17 ≤ 30 := hu.1.2.2.2.2.2.2.2.2.1
  have A : a_does 700 99 [a_rf C, .int u1, .int u2, .int u3] (n + 1, t, K, L, J, R) (cA C c (fun v0 Z0 => v0 = ftV (yv (C + 44) J) u1 u2 u3 ∧ Z0 = (yv (C + 44) J))) := ge_fit h.1 hu (fun J' g1 g2 => ⟨_, _, n, t, K, L, J', R, ⟨rfl, rfl⟩, rfl, rfl, cH_le g1 (Nat.le_add_right _ _), g2⟩)
  have B : a_does 700 99 [a_rf C, .int u1, .int u2, .int u3] (n + 1, t, K, L, J, R) (cB C n K L J R) := cu_fit h.1 (fun _ _ _ _ _ _ _ z => cb_Z z)
  exact cd_gen hb h A B (fun v Z J' hV h3 => by obtain ⟨-, rfl⟩ := hV; exact lb_z hl0 kzE_r h3) (fun v Z hV => by obtain ⟨-, rfl⟩ := hV; exact hn0) (fun v Z n2 t2 K2 L2 J2 R2 hV hx => by obtain ⟨rfl, rfl⟩ := hV; exact hP _ _ _ _ _ _ hx)
theorem rd_fit {u1 u2 u3 : Int32} (hx : aNx b C c n t K L J R Y (Y)) (hc : 120 * c + 130 ≤ 84000) (hP : ∀ J3, lawI b C (c + 1) n t K L J3 R → P (some (.int (ftV Y u1 u2 u3))) (n + 1, t, K, L, J3, R)) : a_does 700 220 [a_rf (C + 44), .int u1, .int u2, .int u3] (n + 1, t, K, L, J, R) P := by
  exact xp_fit hx.1.2.1 hx.2.2.1 hc ⟨mG_refl hx.1.2.2.1, hx.1.2.2.2.1⟩ hx.2.1 (fun J3 f g => hP J3 (rd_gen hx g f.2))
theorem cd_give {u1 u2 u3 : Int32} (hb : b < C) (h : lawI b C c n t K L J R) (hP : ∀ n2 t2 K2 L2 J2 R2, aNx b C c n2 t2 K2 L2 J2 R2 (yv (C + 44) J) ((gvY (yv (C + 44) J) u1 u2 u3).2) → P (some (.int ((gvY (yv (C + 44) J) u1 u2 u3).1))) (n2 + 1, t2, K2, L2, J2, R2)) : a_does 700 112 [a_rf C, .int u1, .int u2, .int u3] (n + 1, t, K, L, J, R) P := by
  have hu := h.2.2.2.2.2.1
  have hl0 := h.2.2.2.2.2.2.1
  have hn0 := h.2.2.2.2.2.2.2
  have hC := h.1.2.2.1
  have h17 : 0 ≤ (yv (C + 44) J) 0 17 ∧ (yv (C + 44) J) 0 17 ≤ 30 := hu.1.2.2.2.2.2.2.2.2.1
  have A : a_does 700 112 [a_rf C, .int u1, .int u2, .int u3] (n + 1, t, K, L, J, R) (cA C c (fun v0 Z0 => v0 = (gvY (yv (C + 44) J) u1 u2 u3).1 ∧ Z0 = (gvY (yv (C + 44) J) u1 u2 u3).2)) := ge_give h.1 hu (fun n' t' K' L' J' R' g1 g2 => ⟨_, _, n', t', K', L', J', R', ⟨rfl, rfl⟩, rfl, rfl, cH_le g1 (Nat.le_add_right _ _), g2⟩)
  have B : a_does 700 112 [a_rf C, .int u1, .int u2, .int u3] (n + 1, t, K, L, J, R) (cB C n K L J R) := cu_give h.1 (fun _ _ _ _ _ _ _ z => cb_Z z)
  exact cd_gen hb h A B (fun v Z J' hV h3 => by obtain ⟨-, rfl⟩ := hV; exact lb_z hl0 kzE_give h3) (fun v Z hV => by obtain ⟨-, rfl⟩ := hV; exact nw_gv hn0) (fun v Z n2 t2 K2 L2 J2 R2 hV hx => by obtain ⟨rfl, rfl⟩ := hV; exact hP _ _ _ _ _ _ hx)
theorem rd_give {u1 u2 u3 : Int32} (hx : aNx b C c n t K L J R Y ((gvY Y u1 u2 u3).2)) (hc : 120 * c + 130 ≤ 84000) (hP : ∀ J3, lawI b C (c + 1) n t K L J3 R → P (some (.int ((gvY Y u1 u2 u3).1))) (n + 1, t, K, L, J3, R)) : a_does 700 229 [a_rf (C + 44), .int u1, .int u2, .int u3] (n + 1, t, K, L, J, R) P := by
  exact xp_give hx.1.2.1 hx.2.2.1 hc ⟨mG_refl hx.1.2.2.1, hx.1.2.2.2.1⟩ hx.2.1 (fun J3 f g => hP J3 (rd_gen hx g f.2))
theorem cd_take {u1 : Int32} (hb : b < C) (h : lawI b C c n t K L J R) (hP : ∀ n2 t2 K2 L2 J2 R2, aNx b C c n2 t2 K2 L2 J2 R2 (yv (C + 44) J) ((tkY (yv (C + 44) J) u1).2) → P (some (.int ((tkY (yv (C + 44) J) u1).1))) (n2 + 1, t2, K2, L2, J2, R2)) : a_does 700 116 [a_rf C, .int u1] (n + 1, t, K, L, J, R) P := by
  have hu := h.2.2.2.2.2.1
  have hl0 := h.2.2.2.2.2.2.1
  have hn0 := h.2.2.2.2.2.2.2
  have hC := h.1.2.2.1
  have h17 : 0 ≤ (yv (C + 44) J) 0 17 ∧ (yv (C + 44) J) 0 17 ≤ 30 := hu.1.2.2.2.2.2.2.2.2.1
  have A : a_does 700 116 [a_rf C, .int u1] (n + 1, t, K, L, J, R) (cA C c (fun v0 Z0 => v0 = (tkY (yv (C + 44) J) u1).1 ∧ Z0 = (tkY (yv (C + 44) J) u1).2)) := ge_take h.1 hu (fun n' t' K' L' J' R' g1 g2 => ⟨_, _, n', t', K', L', J', R', ⟨rfl, rfl⟩, rfl, rfl, cH_le g1 (Nat.le_add_right _ _), g2⟩)
  have B : a_does 700 116 [a_rf C, .int u1] (n + 1, t, K, L, J, R) (cB C n K L J R) := cu_take h.1 (fun _ _ _ _ _ _ _ z => cb_Z z)
  exact cd_gen hb h A B (fun v Z J' hV h3 => by obtain ⟨-, rfl⟩ := hV; exact lb_z hl0 kzE_take h3) (fun v Z hV => by obtain ⟨-, rfl⟩ := hV; exact nw_tk hn0) (fun v Z n2 t2 K2 L2 J2 R2 hV hx => by obtain ⟨rfl, rfl⟩ := hV; exact hP _ _ _ _ _ _ hx)
theorem rd_take {u1 : Int32} (hx : aNx b C c n t K L J R Y ((tkY Y u1).2)) (hc : 120 * c + 130 ≤ 84000) (hP : ∀ J3, lawI b C (c + 1) n t K L J3 R → P (some (.int ((tkY Y u1).1))) (n + 1, t, K, L, J3, R)) : a_does 700 233 [a_rf (C + 44), .int u1] (n + 1, t, K, L, J, R) P := by
  exact xp_take hx.1.2.1 hx.2.2.1 hc ⟨mG_refl hx.1.2.2.1, hx.1.2.2.2.1⟩ hx.2.1 (fun J3 f g => hP J3 (rd_gen hx g f.2))
theorem cd_plan {u1 u2 : Int32} (hb : b < C) (h : lawI b C c n t K L J R) (hP : ∀ n2 t2 K2 L2 J2 R2, aNx b C c n2 t2 K2 L2 J2 R2 (yv (C + 44) J) ((plO (yv (C + 44) J) u1 u2).2) → P (some (.int ((plO (yv (C + 44) J) u1 u2).1))) (n2 + 1, t2, K2, L2, J2, R2)) : a_does 700 118 [a_rf C, .int u1, .int u2] (n + 1, t, K, L, J, R) P := by
  have hu := h.2.2.2.2.2.1
  have hl0 := h.2.2.2.2.2.2.1
  have hn0 := h.2.2.2.2.2.2.2
  have hC := h.1.2.2.1
  have h17 : 0 ≤ (yv (C + 44) J) 0 17 ∧ (yv (C + 44) J) 0 17 ≤ 30 := hu.1.2.2.2.2.2.2.2.2.1
  have A : a_does 700 118 [a_rf C, .int u1, .int u2] (n + 1, t, K, L, J, R) (cA C c (fun v0 Z0 => v0 = (plO (yv (C + 44) J) u1 u2).1 ∧ Z0 = (plO (yv (C + 44) J) u1 u2).2)) := ge_plan h.1 hu (fun n' t' K' L' J' R' g1 g2 => ⟨_, _, n', t', K', L', J', R', ⟨rfl, rfl⟩, rfl, rfl, cH_le g1 (Nat.le_add_right _ _), g2⟩)
  have B : a_does 700 118 [a_rf C, .int u1, .int u2] (n + 1, t, K, L, J, R) (cB C n K L J R) := cu_plan h.1 (fun _ _ _ _ _ _ _ z => cb_Z z)
  exact cd_gen hb h A B (fun v Z J' hV h3 => by obtain ⟨-, rfl⟩ := hV; exact lb_z hl0 kzE_plan h3) (fun v Z hV => by obtain ⟨-, rfl⟩ := hV; exact nw_plO hn0) (fun v Z n2 t2 K2 L2 J2 R2 hV hx => by obtain ⟨rfl, rfl⟩ := hV; exact hP _ _ _ _ _ _ hx)
theorem rd_plan {u1 u2 : Int32} (hx : aNx b C c n t K L J R Y ((plO Y u1 u2).2)) (hc : 120 * c + 130 ≤ 84000) (hP : ∀ J3, lawI b C (c + 1) n t K L J3 R → P (some (.int ((plO Y u1 u2).1))) (n + 1, t, K, L, J3, R)) : a_does 700 234 [a_rf (C + 44), .int u1, .int u2] (n + 1, t, K, L, J, R) P := by
  exact xp_plan hx.1.2.1 hx.2.2.1 hc ⟨mG_refl hx.1.2.2.1, hx.1.2.2.2.1⟩ hx.2.1 (fun J3 f g => hP J3 (rd_gen hx g f.2))
theorem cd_passed {u1 : Int32} (hb : b < C) (h : lawI b C c n t K L J R) (hP : ∀ v n2 t2 K2 L2 J2 R2, aNx b C c n2 t2 K2 L2 J2 R2 (yv (C + 44) J) ((yv (C + 44) J)) → P (some (.int v)) (n2 + 1, t2, K2, L2, J2, R2)) : a_does 700 125 [a_rf C, .int u1] (n + 1, t, K, L, J, R) P := by
  have hu := h.2.2.2.2.2.1
  have hl0 := h.2.2.2.2.2.2.1
  have hn0 := h.2.2.2.2.2.2.2
  have hC := h.1.2.2.1
  have h17 : 0 ≤ (yv (C + 44) J) 0 17 ∧ (yv (C + 44) J) 0 17 ≤ 30 := hu.1.2.2.2.2.2.2.2.2.1
  have A : a_does 700 125 [a_rf C, .int u1] (n + 1, t, K, L, J, R) (cA C c (fun v0 Z0 => Z0 = (yv (C + 44) J))) := cq_passed h.1 (fun v' J' z => ⟨v', _, n, t, K, L, J', R, rfl, rfl, rfl, cH_le z.1 (Nat.le_add_right _ _), cu_q h.1 hu z⟩)
  have B : a_does 700 125 [a_rf C, .int u1] (n + 1, t, K, L, J, R) (cB C n K L J R) := cu_passed h.1 (fun _ _ _ _ _ _ _ z => cb_Z z)
  exact cd_gen hb h A B (fun v Z J' hV h3 => by subst hV; exact lb_z hl0 kzE_r h3) (fun v Z hV => by subst hV; exact hn0) (fun v Z n2 t2 K2 L2 J2 R2 hV hx => by subst hV; exact hP _ _ _ _ _ _ _ hx)
theorem rd_passed {u1 : Int32} (hx : aNx b C c n t K L J R Y (Y)) (hc : 120 * c + 130 ≤ 84000) (hP : ∀ v J3, lawI b C (c + 1) n t K L J3 R → P (some (.int v)) (n + 1, t, K, L, J3, R)) : a_does 700 240 [a_rf (C + 44), .int u1] (n + 1, t, K, L, J, R) P := by
  exact xq_passed hx.1.2.1 hx.1.2.2.1 (fun v' J3 q => hP v' J3 (rd_genE hx (gs_Q hx.2.1 q) (q.2 _ _ (by unfold sC; omega) (by omega))))
theorem cd_why {u1 u2 u3 u4 u5 : Int32} (hb : b < C) (h : lawI b C c n t K L J R) (hP : ∀ n2 t2 K2 L2 J2 R2, aNx b C c n2 t2 K2 L2 J2 R2 (yv (C + 44) J) ((yv (C + 44) J)) → P (some (.int (whV (yv (C + 44) J) u1 u2 u3 u4 u5))) (n2 + 1, t2, K2, L2, J2, R2)) : a_does 700 127 [a_rf C, .int u1, .int u2, .int u3, .int u4, .int u5] (n + 1, t, K, L, J, R) P := by
  have hu := h.2.2.2.2.2.1
  have hl0 := h.2.2.2.2.2.2.1
  have hn0 := h.2.2.2.2.2.2.2
  have hC := h.1.2.2.1
  have h17 : 0 ≤ (yv (C + 44) J) 0 17 ∧ (yv (C + 44) J) 0 17 ≤ 30 := hu.1.2.2.2.2.2.2.2.2.1
  have A : a_does 700 127 [a_rf C, .int u1, .int u2, .int u3, .int u4, .int u5] (n + 1, t, K, L, J, R) (cA C c (fun v0 Z0 => v0 = whV (yv (C + 44) J) u1 u2 u3 u4 u5 ∧ Z0 = (yv (C + 44) J))) := ge_why h.1 hu (fun J' g1 g2 => ⟨_, _, n, t, K, L, J', R, ⟨rfl, rfl⟩, rfl, rfl, cH_le g1 (Nat.le_add_right _ _), g2⟩)
  have B : a_does 700 127 [a_rf C, .int u1, .int u2, .int u3, .int u4, .int u5] (n + 1, t, K, L, J, R) (cB C n K L J R) := cu_why h.1 (fun _ _ _ _ _ _ _ z => cb_Z z)
  exact cd_gen hb h A B (fun v Z J' hV h3 => by obtain ⟨-, rfl⟩ := hV; exact lb_z hl0 kzE_r h3) (fun v Z hV => by obtain ⟨-, rfl⟩ := hV; exact hn0) (fun v Z n2 t2 K2 L2 J2 R2 hV hx => by obtain ⟨rfl, rfl⟩ := hV; exact hP _ _ _ _ _ _ hx)
theorem rd_why {u1 u2 u3 u4 u5 : Int32} (hx : aNx b C c n t K L J R Y (Y)) (hc : 120 * c + 130 ≤ 84000) (hP : ∀ J3, lawI b C (c + 1) n t K L J3 R → P (some (.int (whV Y u1 u2 u3 u4 u5))) (n + 1, t, K, L, J3, R)) : a_does 700 241 [a_rf (C + 44), .int u1, .int u2, .int u3, .int u4, .int u5] (n + 1, t, K, L, J, R) P := by
  exact xp_why hx.1.2.1 hx.2.2.1 hc ⟨mG_refl hx.1.2.2.1, hx.1.2.2.2.1⟩ hx.2.1 (fun J3 f g => hP J3 (rd_gen hx g f.2))
theorem cd_best {u1 u2 u3 u4 : Int32} (hb : b < C) (h : lawI b C c n t K L J R) (hP : ∀ v n2 t2 K2 L2 J2 R2, aNx b C c n2 t2 K2 L2 J2 R2 (yv (C + 44) J) ((yv (C + 44) J)) → P (some (.int v)) (n2 + 1, t2, K2, L2, J2, R2)) : a_does 700 128 [a_rf C, .int u1, .int u2, .int u3, .int u4] (n + 1, t, K, L, J, R) P := by
  have hu := h.2.2.2.2.2.1
  have hl0 := h.2.2.2.2.2.2.1
  have hn0 := h.2.2.2.2.2.2.2
  have hC := h.1.2.2.1
  have h17 : 0 ≤ (yv (C + 44) J) 0 17 ∧ (yv (C + 44) J) 0 17 ≤ 30 := hu.1.2.2.2.2.2.2.2.2.1
  have A : a_does 700 128 [a_rf C, .int u1, .int u2, .int u3, .int u4] (n + 1, t, K, L, J, R) (cA C c (fun v0 Z0 => Z0 = (yv (C + 44) J))) := ge_best h.1 hu (fun v' J' R' g1 g2 => ⟨v', _, n, t, K, L, J', R', rfl, rfl, rfl, cH_le g1 (Nat.le_add_right _ _), g2⟩)
  have B : a_does 700 128 [a_rf C, .int u1, .int u2, .int u3, .int u4] (n + 1, t, K, L, J, R) (cB C n K L J R) := cu_best h.1 (fun _ _ _ _ _ _ _ z => cb_Z z)
  exact cd_gen hb h A B (fun v Z J' hV h3 => by subst hV; exact lb_z hl0 kzE_r h3) (fun v Z hV => by subst hV; exact hn0) (fun v Z n2 t2 K2 L2 J2 R2 hV hx => by subst hV; exact hP _ _ _ _ _ _ _ hx)
theorem rd_best {u1 u2 u3 u4 : Int32} (hx : aNx b C c n t K L J R Y (Y)) (hc : 120 * c + 130 ≤ 84000) (hP : ∀ v J3, lawI b C (c + 1) n t K L J3 R → P (some (.int v)) (n + 1, t, K, L, J3, R)) : a_does 700 242 [a_rf (C + 44), .int u1, .int u2, .int u3, .int u4] (n + 1, t, K, L, J, R) P := by
  exact xp_best hx.1.2.1 ⟨mG_refl hx.1.2.2.1, hx.1.2.2.2.1⟩ hc hx.2.1 hx.2.2.2.1.2.2.2.1 (fun v' J3 f g => hP v' J3 (rd_gen hx g f.2))
theorem cd_hosts {u1 u2 : Int32} (hb : b < C) (h : lawI b C c n t K L J R) (hP : ∀ v n2 t2 K2 L2 J2 R2, aNx b C c n2 t2 K2 L2 J2 R2 (yv (C + 44) J) ((yv (C + 44) J)) → P (some (.int v)) (n2 + 1, t2, K2, L2, J2, R2)) : a_does 700 140 [a_rf C, .int u1, .int u2] (n + 1, t, K, L, J, R) P := by
  have hu := h.2.2.2.2.2.1
  have hl0 := h.2.2.2.2.2.2.1
  have hn0 := h.2.2.2.2.2.2.2
  have hC := h.1.2.2.1
  have h17 : 0 ≤ (yv (C + 44) J) 0 17 ∧ (yv (C + 44) J) 0 17 ≤ 30 := hu.1.2.2.2.2.2.2.2.2.1
  have A : a_does 700 140 [a_rf C, .int u1, .int u2] (n + 1, t, K, L, J, R) (cA C c (fun v0 Z0 => Z0 = (yv (C + 44) J))) := cq_hosts h.1 (fun v' J' z => ⟨v', _, n, t, K, L, J', R, rfl, rfl, rfl, cH_le z.1 (Nat.le_add_right _ _), cu_q h.1 hu z⟩)
  have B : a_does 700 140 [a_rf C, .int u1, .int u2] (n + 1, t, K, L, J, R) (cB C n K L J R) := cu_hosts h.1 (fun _ _ _ _ _ _ _ z => cb_Z z)
  exact cd_gen hb h A B (fun v Z J' hV h3 => by subst hV; exact lb_z hl0 kzE_r h3) (fun v Z hV => by subst hV; exact hn0) (fun v Z n2 t2 K2 L2 J2 R2 hV hx => by subst hV; exact hP _ _ _ _ _ _ _ hx)
theorem rd_hosts {u1 u2 : Int32} (hx : aNx b C c n t K L J R Y (Y)) (hc : 120 * c + 130 ≤ 84000) (hP : ∀ v J3, lawI b C (c + 1) n t K L J3 R → P (some (.int v)) (n + 1, t, K, L, J3, R)) : a_does 700 245 [a_rf (C + 44), .int u1, .int u2] (n + 1, t, K, L, J, R) P := by
  exact xq_hosts hx.1.2.1 hx.1.2.2.1 (fun v' J3 q => hP v' J3 (rd_genE hx (gs_Q hx.2.1 q) (q.2 _ _ (by unfold sC; omega) (by omega))))
theorem cd_owe {u1 : Int32} (hb : b < C) (h : lawI b C c n t K L J R) (hP : ∀ n2 t2 K2 L2 J2 R2, aNx b C c n2 t2 K2 L2 J2 R2 (yv (C + 44) J) ((oeY (yv (C + 44) J) u1).2) → (0 ≤ u1 ∧ u1 < (yv (C + 44) J) 0 17 → 0 ≤ ohY (yv (C + 44) J) u1 ∧ ohY (yv (C + 44) J) u1 ≤ 4) → P (some (.int ((oeY (yv (C + 44) J) u1).1))) (n2 + 1, t2, K2, L2, J2, R2)) : a_does 700 141 [a_rf C, .int u1] (n + 1, t, K, L, J, R) P := by
  have hu := h.2.2.2.2.2.1
  have hl0 := h.2.2.2.2.2.2.1
  have hn0 := h.2.2.2.2.2.2.2
  have hC := h.1.2.2.1
  have h17 : 0 ≤ (yv (C + 44) J) 0 17 ∧ (yv (C + 44) J) 0 17 ≤ 30 := hu.1.2.2.2.2.2.2.2.2.1
  have A : a_does 700 141 [a_rf C, .int u1] (n + 1, t, K, L, J, R) (cA C c (fun v0 Z0 => v0 = (oeY (yv (C + 44) J) u1).1 ∧ Z0 = (oeY (yv (C + 44) J) u1).2)) := ge_owe h.1 hu hn0 (fun n' t' K' L' J' R' g1 g2 => ⟨_, _, n', t', K', L', J', R', ⟨rfl, rfl⟩, rfl, rfl, g1, g2⟩)
  have B : a_does 700 141 [a_rf C, .int u1] (n + 1, t, K, L, J, R) (cB C n K L J R) := cu_owe h.1 (fun _ _ _ _ _ _ _ z => cb_Z z)
  exact cd_gen hb h A B (fun v Z J' hV h3 => by obtain ⟨-, rfl⟩ := hV; exact lb_z hl0 kzE_owe h3) (fun v Z hV => by obtain ⟨-, rfl⟩ := hV; exact nw_owe hn0 h17) (fun v Z n2 t2 K2 L2 J2 R2 hV hx => by obtain ⟨rfl, rfl⟩ := hV; exact hP _ _ _ _ _ _ hx (fun c1 => (oh_rng h.1.1 hu c1).2.2))
theorem rd_owe {u1 : Int32} (hx : aNx b C c n t K L J R Y ((oeY Y u1).2)) (hc : 120 * c + 130 ≤ 84000) (hbd : 0 ≤ u1 ∧ u1 < Y 0 17 → 0 ≤ ohY Y u1 ∧ ohY Y u1 ≤ 4) (hP : ∀ J3, lawI b C (c + 1) n t K L J3 R → P (some (.int ((oeY Y u1).1))) (n + 1, t, K, L, J3, R)) : a_does 700 246 [a_rf (C + 44), .int u1] (n + 1, t, K, L, J, R) P := by
  exact xp_owe hx.1.2.1 hx.2.2.1 hc ⟨mG_refl hx.1.2.2.1, hx.1.2.2.2.1⟩ hx.2.1 hbd (fun J3 f g => hP J3 (rd_gen hx g f.2))
theorem cd_again  (hb : b < C) (h : lawI b C c n t K L J R) (hP : ∀ n2 t2 K2 L2 J2 R2, aNx b C c n2 t2 K2 L2 J2 R2 (yv (C + 44) J) ((agY (yv (C + 44) J)).1) → P (some (.int (Int32.ofNat (agY (yv (C + 44) J)).2))) (n2 + 1, t2, K2, L2, J2, R2)) : a_does 700 143 [a_rf C] (n + 1, t, K, L, J, R) P := by
  have hu := h.2.2.2.2.2.1
  have hl0 := h.2.2.2.2.2.2.1
  have hn0 := h.2.2.2.2.2.2.2
  have hC := h.1.2.2.1
  have h17 : 0 ≤ (yv (C + 44) J) 0 17 ∧ (yv (C + 44) J) 0 17 ≤ 30 := hu.1.2.2.2.2.2.2.2.2.1
  have A : a_does 700 143 [a_rf C] (n + 1, t, K, L, J, R) (cA C c (fun v0 Z0 => v0 = Int32.ofNat (agY (yv (C + 44) J)).2 ∧ Z0 = (agY (yv (C + 44) J)).1)) := ge_again h.1 hu (fun n' t' K' L' J' R' g1 g2 => ⟨_, _, n', t', K', L', J', R', ⟨rfl, rfl⟩, rfl, rfl, cH_le g1 (Nat.le_add_right _ _), g2⟩)
  have B : a_does 700 143 [a_rf C] (n + 1, t, K, L, J, R) (cB C n K L J R) := cu_again h.1 (fun _ _ _ _ _ _ _ z => cb_Z z)
  exact cd_gen hb h A B (fun v Z J' hV h3 => by obtain ⟨-, rfl⟩ := hV; exact lb_z hl0 kzE_again h3) (fun v Z hV => by obtain ⟨-, rfl⟩ := hV; exact nw_ag hn0) (fun v Z n2 t2 K2 L2 J2 R2 hV hx => by obtain ⟨rfl, rfl⟩ := hV; exact hP _ _ _ _ _ _ hx)
theorem rd_again  (hx : aNx b C c n t K L J R Y ((agY Y).1)) (hc : 120 * c + 130 ≤ 84000) (hP : ∀ J3, lawI b C (c + 1) n t K L J3 R → P (some (.int (Int32.ofNat (agY Y).2))) (n + 1, t, K, L, J3, R)) : a_does 700 247 [a_rf (C + 44)] (n + 1, t, K, L, J, R) P := by
  exact xp_again hx.1.2.1 hx.2.2.1 hc ⟨mG_refl hx.1.2.2.1, hx.1.2.2.2.1⟩ hx.2.1 (fun J3 f g => hP J3 (rd_gen hx g f.2))
theorem cd_danger {u1 u2 : Int32} (hb : b < C) (h : lawI b C c n t K L J R) (hP : ∀ n2 t2 K2 L2 J2 R2, aNx b C c n2 t2 K2 L2 J2 R2 (yv (C + 44) J) ((dgY (yv (C + 44) J) u1 u2).2) → P (some (.int ((dgY (yv (C + 44) J) u1 u2).1))) (n2 + 1, t2, K2, L2, J2, R2)) : a_does 700 146 [a_rf C, .int u1, .int u2] (n + 1, t, K, L, J, R) P := by
  have hu := h.2.2.2.2.2.1
  have hl0 := h.2.2.2.2.2.2.1
  have hn0 := h.2.2.2.2.2.2.2
  have hC := h.1.2.2.1
  have h17 : 0 ≤ (yv (C + 44) J) 0 17 ∧ (yv (C + 44) J) 0 17 ≤ 30 := hu.1.2.2.2.2.2.2.2.2.1
  have A : a_does 700 146 [a_rf C, .int u1, .int u2] (n + 1, t, K, L, J, R) (cA C c (fun v0 Z0 => v0 = (dgY (yv (C + 44) J) u1 u2).1 ∧ Z0 = (dgY (yv (C + 44) J) u1 u2).2)) := ge_danger h.1 hu (fun n' t' K' L' J' R' g1 g2 => ⟨_, _, n', t', K', L', J', R', ⟨rfl, rfl⟩, rfl, rfl, cH_le g1 (Nat.le_add_right _ _), g2⟩)
  have B : a_does 700 146 [a_rf C, .int u1, .int u2] (n + 1, t, K, L, J, R) (cB C n K L J R) := cu_danger h.1 (fun _ _ _ _ _ _ _ z => cb_Z z)
  exact cd_gen hb h A B (fun v Z J' hV h3 => by obtain ⟨-, rfl⟩ := hV; exact lb_z hl0 kzE_danger h3) (fun v Z hV => by obtain ⟨-, rfl⟩ := hV; exact nw_dg hn0) (fun v Z n2 t2 K2 L2 J2 R2 hV hx => by obtain ⟨rfl, rfl⟩ := hV; exact hP _ _ _ _ _ _ hx)
theorem rd_danger {u1 u2 : Int32} (hx : aNx b C c n t K L J R Y ((dgY Y u1 u2).2)) (hc : 120 * c + 130 ≤ 84000) (hP : ∀ J3, lawI b C (c + 1) n t K L J3 R → P (some (.int ((dgY Y u1 u2).1))) (n + 1, t, K, L, J3, R)) : a_does 700 249 [a_rf (C + 44), .int u1, .int u2] (n + 1, t, K, L, J, R) P := by
  exact xp_danger hx.1.2.1 hx.2.2.1 hc ⟨mG_refl hx.1.2.2.1, hx.1.2.2.2.1⟩ hx.2.1 (fun J3 f g => hP J3 (rd_gen hx g f.2))
theorem cd_wish {u1 u2 u3 : Int32} (hw : u3 = 0 ∨ u3 = 1) (hb : b < C) (h : lawI b C c n t K L J R) (hP : ∀ n2 t2 K2 L2 J2 R2, aNx b C c n2 t2 K2 L2 J2 R2 (yv (C + 44) J) ((wsY (yv (C + 44) J) u1 u2 u3).2) → P (some (.int ((wsY (yv (C + 44) J) u1 u2 u3).1))) (n2 + 1, t2, K2, L2, J2, R2)) : a_does 700 147 [a_rf C, .int u1, .int u2, .int u3] (n + 1, t, K, L, J, R) P := by
  have hu := h.2.2.2.2.2.1
  have hl0 := h.2.2.2.2.2.2.1
  have hn0 := h.2.2.2.2.2.2.2
  have hC := h.1.2.2.1
  have h17 : 0 ≤ (yv (C + 44) J) 0 17 ∧ (yv (C + 44) J) 0 17 ≤ 30 := hu.1.2.2.2.2.2.2.2.2.1
  have A : a_does 700 147 [a_rf C, .int u1, .int u2, .int u3] (n + 1, t, K, L, J, R) (cA C c (fun v0 Z0 => v0 = (wsY (yv (C + 44) J) u1 u2 u3).1 ∧ Z0 = (wsY (yv (C + 44) J) u1 u2 u3).2)) := ge_wish h.1 hu hw (fun n' t' K' L' J' R' g1 g2 => ⟨_, _, n', t', K', L', J', R', ⟨rfl, rfl⟩, rfl, rfl, cH_le g1 (Nat.le_add_right _ _), g2⟩)
  have B : a_does 700 147 [a_rf C, .int u1, .int u2, .int u3] (n + 1, t, K, L, J, R) (cB C n K L J R) := cu_wish h.1 hw (fun _ _ _ _ _ _ _ z => cb_Z z)
  exact cd_gen hb h A B (fun v Z J' hV h3 => by obtain ⟨-, rfl⟩ := hV; exact lb_z hl0 kzE_wish h3) (fun v Z hV => by obtain ⟨-, rfl⟩ := hV; exact nw_ws hn0) (fun v Z n2 t2 K2 L2 J2 R2 hV hx => by obtain ⟨rfl, rfl⟩ := hV; exact hP _ _ _ _ _ _ hx)
theorem rd_wish {u1 u2 u3 : Int32} (hw : u3 = 0 ∨ u3 = 1) (hx : aNx b C c n t K L J R Y ((wsY Y u1 u2 u3).2)) (hc : 120 * c + 130 ≤ 84000) (hP : ∀ J3, lawI b C (c + 1) n t K L J3 R → P (some (.int ((wsY Y u1 u2 u3).1))) (n + 1, t, K, L, J3, R)) : a_does 700 250 [a_rf (C + 44), .int u1, .int u2, .int u3] (n + 1, t, K, L, J, R) P := by
  exact xp_wish hx.1.2.1 hx.2.2.1 hc ⟨mG_refl hx.1.2.2.1, hx.1.2.2.2.1⟩ hx.2.1 hw (fun J3 f g => hP J3 (rd_gen hx g f.2))
theorem cd_ring {u1 : Int32} (hb : b < C) (h : lawI b C c n t K L J R) (hP : ∀ v n2 t2 K2 L2 J2 R2, rgO (yv (C + 44) J) u1 v → aNx b C c n2 t2 K2 L2 J2 R2 (yv (C + 44) J) ((yv (C + 44) J)) → P (some (.int v)) (n2 + 1, t2, K2, L2, J2, R2)) : a_does 700 149 [a_rf C, .int u1] (n + 1, t, K, L, J, R) P := by
  have hu := h.2.2.2.2.2.1
  have hl0 := h.2.2.2.2.2.2.1
  have hn0 := h.2.2.2.2.2.2.2
  have hC := h.1.2.2.1
  have h17 : 0 ≤ (yv (C + 44) J) 0 17 ∧ (yv (C + 44) J) 0 17 ≤ 30 := hu.1.2.2.2.2.2.2.2.2.1
  have A : a_does 700 149 [a_rf C, .int u1] (n + 1, t, K, L, J, R) (cA C c (fun v0 Z0 => rgO (yv (C + 44) J) u1 v0 ∧ Z0 = (yv (C + 44) J))) := ge_ring h.1 hu (fun v' J' R' ho g1 g2 => ⟨v', _, n, t, K, L, J', R', ⟨ho, rfl⟩, rfl, rfl, cH_le g1 (Nat.le_add_right _ _), g2⟩)
  have B : a_does 700 149 [a_rf C, .int u1] (n + 1, t, K, L, J, R) (cB C n K L J R) := cu_ring h.1 (fun _ _ _ _ _ _ _ z => cb_Z z)
  exact cd_gen hb h A B (fun v Z J' hV h3 => by obtain ⟨-, rfl⟩ := hV; exact lb_z hl0 kzE_r h3) (fun v Z hV => by obtain ⟨-, rfl⟩ := hV; exact hn0) (fun v Z n2 t2 K2 L2 J2 R2 hV hx => by obtain ⟨ho, rfl⟩ := hV; exact hP _ _ _ _ _ _ _ ho hx)
theorem rd_ring {u1 : Int32} (hx : aNx b C c n t K L J R Y (Y)) (hc : 120 * c + 130 ≤ 84000) {v : Int32} (ho : rgO Y u1 v) (hP : ∀ J3, lawI b C (c + 1) n t K L J3 R → P (some (.int v)) (n + 1, t, K, L, J3, R)) : a_does 700 251 [a_rf (C + 44), .int u1] (n + 1, t, K, L, J, R) P := by
  exact xp_ring hx.1.2.1 hx.2.2.1 hc ⟨mG_refl hx.1.2.2.1, hx.1.2.2.2.1⟩ hx.2.1 ho (fun J3 f g => hP J3 (rd_gen hx g f.2))
theorem cd_swap  (hb : b < C) (h : lawI b C c n t K L J R) (hP : ∀ v Z2 n2 t2 K2 L2 J2 R2, swO (yv (C + 44) J) v Z2 → aNx b C c n2 t2 K2 L2 J2 R2 (yv (C + 44) J) (Z2) → P (some (.int v)) (n2 + 1, t2, K2, L2, J2, R2)) : a_does 700 158 [a_rf C] (n + 1, t, K, L, J, R) P := by
  have hu := h.2.2.2.2.2.1
  have hl0 := h.2.2.2.2.2.2.1
  have hn0 := h.2.2.2.2.2.2.2
  have hC := h.1.2.2.1
  have h17 : 0 ≤ (yv (C + 44) J) 0 17 ∧ (yv (C + 44) J) 0 17 ≤ 30 := hu.1.2.2.2.2.2.2.2.2.1
  have A : a_does 700 158 [a_rf C] (n + 1, t, K, L, J, R) (cA C c (fun v0 Z0 => swO (yv (C + 44) J) v0 Z0)) := ge_swap h.1 hu (fun v' Z' n' t' K' L' J' R' ho g1 g2 => ⟨v', Z', n', t', K', L', J', R', ho, rfl, rfl, cH_le g1 (Nat.le_add_right _ _), g2⟩)
  have B : a_does 700 158 [a_rf C] (n + 1, t, K, L, J, R) (cB C n K L J R) := cu_swap h.1 (fun _ _ _ _ _ _ _ z => cb_Z z)
  exact cd_gen hb h A B (fun v Z J' hV h3 => by exact lb_z hl0 (kzE_swap hV) h3) (fun v Z hV => by exact nw_so hn0 hV) (fun v Z n2 t2 K2 L2 J2 R2 hV hx => hP _ _ _ _ _ _ _ _ hV hx)
theorem rd_swap  (hx : aNx b C c n t K L J R Y (Z)) (hc : 120 * c + 130 ≤ 84000) {v : Int32} (ho : swO Y v Z) (hP : ∀ J3, lawI b C (c + 1) n t K L J3 R → P (some (.int v)) (n + 1, t, K, L, J3, R)) : a_does 700 255 [a_rf (C + 44)] (n + 1, t, K, L, J, R) P := by
  exact xp_swap hx.1.2.1 hx.2.2.1 hc ⟨mG_refl hx.1.2.2.1, hx.1.2.2.2.1⟩ hx.2.1 ho (fun J3 f g => hP J3 (rd_gen hx g f.2))
theorem cd_had {u1 u2 u3 : Int32} (hb : b < C) (h : lawI b C c n t K L J R) (hP : ∀ v n2 t2 K2 L2 J2 R2, aNx b C c n2 t2 K2 L2 J2 R2 (yv (C + 44) J) ((yv (C + 44) J)) → P (some (.int v)) (n2 + 1, t2, K2, L2, J2, R2)) : a_does 700 160 [a_rf C, .int u1, .int u2, .int u3] (n + 1, t, K, L, J, R) P := by
  have hu := h.2.2.2.2.2.1
  have hl0 := h.2.2.2.2.2.2.1
  have hn0 := h.2.2.2.2.2.2.2
  have hC := h.1.2.2.1
  have h17 : 0 ≤ (yv (C + 44) J) 0 17 ∧ (yv (C + 44) J) 0 17 ≤ 30 := hu.1.2.2.2.2.2.2.2.2.1
  have A : a_does 700 160 [a_rf C, .int u1, .int u2, .int u3] (n + 1, t, K, L, J, R) (cA C c (fun v0 Z0 => Z0 = (yv (C + 44) J))) := cq_had h.1 (fun v' J' z => ⟨v', _, n, t, K, L, J', R, rfl, rfl, rfl, cH_le z.1 (Nat.le_add_right _ _), cu_q h.1 hu z⟩)
  have B : a_does 700 160 [a_rf C, .int u1, .int u2, .int u3] (n + 1, t, K, L, J, R) (cB C n K L J R) := cu_had h.1 (fun _ _ _ _ _ _ _ z => cb_Z z)
  exact cd_gen hb h A B (fun v Z J' hV h3 => by subst hV; exact lb_z hl0 kzE_r h3) (fun v Z hV => by subst hV; exact hn0) (fun v Z n2 t2 K2 L2 J2 R2 hV hx => by subst hV; exact hP _ _ _ _ _ _ _ hx)
theorem rd_had {u1 u2 u3 : Int32} (hx : aNx b C c n t K L J R Y (Y)) (hc : 120 * c + 130 ≤ 84000) (hP : ∀ v J3, lawI b C (c + 1) n t K L J3 R → P (some (.int v)) (n + 1, t, K, L, J3, R)) : a_does 700 256 [a_rf (C + 44), .int u1, .int u2, .int u3] (n + 1, t, K, L, J, R) P := by
  exact xq_had hx.1.2.1 hx.1.2.2.1 (fun v' J3 q => hP v' J3 (rd_genE hx (gs_Q hx.2.1 q) (q.2 _ _ (by unfold sC; omega) (by omega))))
theorem cd_lead {u1 u2 : Int32} (hb : b < C) (h : lawI b C c n t K L J R) (hP : ∀ v n2 t2 K2 L2 J2 R2, aNx b C c n2 t2 K2 L2 J2 R2 (yv (C + 44) J) ((yv (C + 44) J)) → P (some (.int v)) (n2 + 1, t2, K2, L2, J2, R2)) : a_does 700 162 [a_rf C, .int u1, .int u2] (n + 1, t, K, L, J, R) P := by
  have hu := h.2.2.2.2.2.1
  have hl0 := h.2.2.2.2.2.2.1
  have hn0 := h.2.2.2.2.2.2.2
  have hC := h.1.2.2.1
  have h17 : 0 ≤ (yv (C + 44) J) 0 17 ∧ (yv (C + 44) J) 0 17 ≤ 30 := hu.1.2.2.2.2.2.2.2.2.1
  have A : a_does 700 162 [a_rf C, .int u1, .int u2] (n + 1, t, K, L, J, R) (cA C c (fun v0 Z0 => Z0 = (yv (C + 44) J))) := cq_lead h.1 (fun v' J' z => ⟨v', _, n, t, K, L, J', R, rfl, rfl, rfl, cH_le z.1 (Nat.le_add_right _ _), cu_q h.1 hu z⟩)
  have B : a_does 700 162 [a_rf C, .int u1, .int u2] (n + 1, t, K, L, J, R) (cB C n K L J R) := cu_lead h.1 (fun _ _ _ _ _ _ _ z => cb_Z z)
  exact cd_gen hb h A B (fun v Z J' hV h3 => by subst hV; exact lb_z hl0 kzE_r h3) (fun v Z hV => by subst hV; exact hn0) (fun v Z n2 t2 K2 L2 J2 R2 hV hx => by subst hV; exact hP _ _ _ _ _ _ _ hx)
theorem rd_lead {u1 u2 : Int32} (hx : aNx b C c n t K L J R Y (Y)) (hc : 120 * c + 130 ≤ 84000) (hP : ∀ v J3, lawI b C (c + 1) n t K L J3 R → P (some (.int v)) (n + 1, t, K, L, J3, R)) : a_does 700 258 [a_rf (C + 44), .int u1, .int u2] (n + 1, t, K, L, J, R) P := by
  exact xq_lead hx.1.2.1 hx.1.2.2.1 (fun v' J3 q => hP v' J3 (rd_genE hx (gs_Q hx.2.1 q) (q.2 _ _ (by unfold sC; omega) (by omega))))
theorem cb_put {u1 : Int32} (hH : cH C c (n + 1) t K L J R) : a_does 700 163 [a_rf C, .int u1] (n + 1, t, K, L, J, R) (cB C n K L J R) := by
  have hC := hH.2.2.1
  exact ke_put hH (fun _ _ z => cb_Z z) (fun _ _ => cb_J (fun x j hx => by rw [ui_ap, if_neg (by omega), ui_ap, if_neg (by omega)]))
theorem cd_put {u1 : Int32} (hb : b < C) (h : lawI b C c n t K L J R) (hP : ∀ n2 t2 K2 L2 J2 R2, aNx b C c n2 t2 K2 L2 J2 R2 (yv (C + 44) J) ((ptY (yv (C + 44) J) u1).2) → P (some (.int ((ptY (yv (C + 44) J) u1).1))) (n2 + 1, t2, K2, L2, J2, R2)) : a_does 700 163 [a_rf C, .int u1] (n + 1, t, K, L, J, R) P := by
  have hu := h.2.2.2.2.2.1
  have hl0 := h.2.2.2.2.2.2.1
  have hn0 := h.2.2.2.2.2.2.2
  have hC := h.1.2.2.1
  have h17 : 0 ≤ (yv (C + 44) J) 0 17 ∧ (yv (C + 44) J) 0 17 ≤ 30 := hu.1.2.2.2.2.2.2.2.2.1
  have A : a_does 700 163 [a_rf C, .int u1] (n + 1, t, K, L, J, R) (cA C c (fun v0 Z0 => v0 = (ptY (yv (C + 44) J) u1).1 ∧ Z0 = (ptY (yv (C + 44) J) u1).2)) := ge_put h.1 hu (fun n' t' K' L' J' R' g1 g2 => ⟨_, _, n', t', K', L', J', R', ⟨rfl, rfl⟩, rfl, rfl, cH_le g1 (Nat.le_add_right _ _), g2⟩)
  have B : a_does 700 163 [a_rf C, .int u1] (n + 1, t, K, L, J, R) (cB C n K L J R) := cb_put h.1
  exact cd_gen hb h A B (fun v Z J' hV h3 => by obtain ⟨-, rfl⟩ := hV; exact lb_z hl0 kzE_put h3) (fun v Z hV => by obtain ⟨-, rfl⟩ := hV; exact nw_pt hn0) (fun v Z n2 t2 K2 L2 J2 R2 hV hx => by obtain ⟨rfl, rfl⟩ := hV; exact hP _ _ _ _ _ _ hx)
theorem rd_put {u1 : Int32} (hx : aNx b C c n t K L J R Y ((ptY Y u1).2)) (hc : 120 * c + 130 ≤ 84000) (hP : ∀ J3, lawI b C (c + 1) n t K L J3 R → P (some (.int ((ptY Y u1).1))) (n + 1, t, K, L, J3, R)) : a_does 700 259 [a_rf (C + 44), .int u1] (n + 1, t, K, L, J, R) P := by
  exact xp_put hx.1.2.1 hx.2.2.1 hc ⟨mG_refl hx.1.2.2.1, hx.1.2.2.2.1⟩ hx.2.1 (fun J3 f g => hP J3 (rd_genE hx g f))
theorem cb_check {u1 u2 u3 : Int32} (hH : cH C c (n + 1) t K L J R) : a_does 700 164 [a_rf C, .int u1, .int u2, .int u3] (n + 1, t, K, L, J, R) (cB C n K L J R) := by
  have hC := hH.2.2.1
  exact ke_check hH (fun _ _ z => cb_Z z) (fun _ _ _ z => cb_Z z) (fun _ _ _ _ z => cb_Z z) (fun _ _ _ _ _ => cb_J (fun x j hx => by rw [ui_ap, if_neg (by omega)]))
theorem cd_check {u1 u2 u3 : Int32} (hb : b < C) (h : lawI b C c n t K L J R) (hP : ∀ v n2 t2 K2 L2 J2 R2, aNx b C c n2 t2 K2 L2 J2 R2 (yv (C + 44) J) (ckY (yv (C + 44) J) u1 u2 u3) → P (some (.int v)) (n2 + 1, t2, K2, L2, J2, R2)) : a_does 700 164 [a_rf C, .int u1, .int u2, .int u3] (n + 1, t, K, L, J, R) P := by
  have hu := h.2.2.2.2.2.1
  have hl0 := h.2.2.2.2.2.2.1
  have hn0 := h.2.2.2.2.2.2.2
  have hC := h.1.2.2.1
  have h17 : 0 ≤ (yv (C + 44) J) 0 17 ∧ (yv (C + 44) J) 0 17 ≤ 30 := hu.1.2.2.2.2.2.2.2.2.1
  have A : a_does 700 164 [a_rf C, .int u1, .int u2, .int u3] (n + 1, t, K, L, J, R) (cA C c (fun v0 Z0 => Z0 = ckY (yv (C + 44) J) u1 u2 u3)) := ge_check h.1 hu (fun v' n' t' K' L' J' R' g1 g2 => ⟨v', _, n', t', K', L', J', R', rfl, rfl, rfl, cH_le g1 (Nat.le_add_right _ _), g2⟩)
  have B : a_does 700 164 [a_rf C, .int u1, .int u2, .int u3] (n + 1, t, K, L, J, R) (cB C n K L J R) := cb_check h.1
  exact cd_gen hb h A B (fun v Z J' hV h3 => by subst hV; exact lb_z hl0 kzE_check h3) (fun v Z hV => by subst hV; exact nw_check hn0) (fun v Z n2 t2 K2 L2 J2 R2 hV hx => by subst hV; exact hP _ _ _ _ _ _ _ hx)
theorem rd_check {u1 u2 u3 : Int32} (hx : aNx b C c n t K L J R Y (ckY Y u1 u2 u3)) (hc : 120 * c + 130 ≤ 84000) (hP : ∀ v J3, lawI b C (c + 1) n t K L J3 R → P (some (.int v)) (n + 1, t, K, L, J3, R)) : a_does 700 260 [a_rf (C + 44), .int u1, .int u2, .int u3] (n + 1, t, K, L, J, R) P := by
  exact xp_check hx.1.2.1 hx.2.2.1 hc ⟨mG_refl hx.1.2.2.1, hx.1.2.2.2.1⟩ hx.2.1 (fun v' J3 f g => hP v' J3 (rd_genE hx g f))
theorem cd_count {u1 : Int32} (hb : b < C) (h : lawI b C c n t K L J R) (hP : ∀ v n2 t2 K2 L2 J2 R2, aNx b C c n2 t2 K2 L2 J2 R2 (yv (C + 44) J) ((yv (C + 44) J)) → P (some (.int v)) (n2 + 1, t2, K2, L2, J2, R2)) : a_does 700 166 [a_rf C, .int u1] (n + 1, t, K, L, J, R) P := by
  have hu := h.2.2.2.2.2.1
  have hl0 := h.2.2.2.2.2.2.1
  have hn0 := h.2.2.2.2.2.2.2
  have hC := h.1.2.2.1
  have h17 : 0 ≤ (yv (C + 44) J) 0 17 ∧ (yv (C + 44) J) 0 17 ≤ 30 := hu.1.2.2.2.2.2.2.2.2.1
  have A : a_does 700 166 [a_rf C, .int u1] (n + 1, t, K, L, J, R) (cA C c (fun v0 Z0 => Z0 = (yv (C + 44) J))) := cq_count h.1 (fun v' J' z => ⟨v', _, n, t, K, L, J', R, rfl, rfl, rfl, cH_le z.1 (Nat.le_add_right _ _), cu_q h.1 hu z⟩)
  have B : a_does 700 166 [a_rf C, .int u1] (n + 1, t, K, L, J, R) (cB C n K L J R) := cu_count h.1 (fun _ _ _ _ _ _ _ z => cb_Z z)
  exact cd_gen hb h A B (fun v Z J' hV h3 => by subst hV; exact lb_z hl0 kzE_r h3) (fun v Z hV => by subst hV; exact hn0) (fun v Z n2 t2 K2 L2 J2 R2 hV hx => by subst hV; exact hP _ _ _ _ _ _ _ hx)
theorem rd_count {u1 : Int32} (hx : aNx b C c n t K L J R Y (Y)) (hc : 120 * c + 130 ≤ 84000) (hP : ∀ v J3, lawI b C (c + 1) n t K L J3 R → P (some (.int v)) (n + 1, t, K, L, J3, R)) : a_does 700 261 [a_rf (C + 44), .int u1] (n + 1, t, K, L, J, R) P := by
  exact xq_count hx.1.2.1 hx.1.2.2.1 (fun v' J3 q => hP v' J3 (rd_genE hx (gs_Q hx.2.1 q) (q.2 _ _ (by unfold sC; omega) (by omega))))
end ZS0
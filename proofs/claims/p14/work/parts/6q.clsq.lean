/-! the law's calls -/
/-- texts of both sides: told apart by their objects, struck together -/
def aTx (C n : Nat) (K : Nat → Nat) (J : Nat → Nat → Int32) (R : Nat → Nat → Nat) : Prop := (∀ i, i < (J (C + 7) 3).toNatClampNeg → (C + 96 < R (C + 8) i ∧ R (C + 8) i < n ∧ K (R (C + 8) i) = 11) ∧ (¬ J (R (C + 8) i) 4 = 0 ↔ J (C + 44 + 31) i < 1000000)) ∧ (∀ i j, i < (J (C + 7) 3).toNatClampNeg → j < (J (C + 7) 3).toNatClampNeg → R (C + 8) i = R (C + 8) j → i = j)
/-- what is alike in the class and in the reference -/
def aLk (C n : Nat) (K : Nat → Nat) (J : Nat → Nat → Int32) (R : Nat → Nat → Nat) : Prop := J (C + 11) 2 = J (C + 44) 40 ∧ J (C + 7) 3 = J (C + 44) 41 ∧ (∀ j, J (C + 12) j = J (C + 44 + 27) j) ∧ aTx C n K J R
def lawI (b C c n t : Nat) (K L : Nat → Nat) (J : Nat → Nat → Int32) (R : Nat → Nat → Nat) : Prop := cH C (4 * c) (n + 1) t K L J R ∧ m_S (C + 44) K L R ∧ mR (C + 44) J ∧ mE (C + 44) (120 * c) J ∧ K b = 0 ∧ aLk C (n + 1) K J R
/-- the cells that it looks at -/
def aS (C n : Nat) (K : Nat → Nat) (x j : Nat) : Prop := (x < n ∧ C + 96 < x ∧ K x = 11) ∨ (x = C + 11 ∧ j = 2) ∨ (x = C + 7 ∧ j = 3) ∨ x = C + 12 ∨ (x = C + 44 ∧ (j = 40 ∨ j = 41)) ∨ x = C + 44 + 27 ∨ x = C + 44 + 31
def lawM (b C c n t : Nat) (K L : Nat → Nat) (J : Nat → Nat → Int32) (R : Nat → Nat → Nat) : Prop := cH C (4 * c + 4) (n + 1) t K L J R ∧ m_S (C + 44) K L R ∧ mR (C + 44) J ∧ mE (C + 44) (120 * c) J ∧ K b = 0
section KO
variable {b sL : Nat} {sx : Nat → Int32}
variable {d n t C c n0 n' n'' t' : Nat} {K L K0 L0 K' L' K'' L'' : Nat → Nat} {I I0 J J0 J1 J2 : Nat → Nat → Int32} {R R0 R' R'' : Nat → Nat → Nat} {P : Option Value → AH → Prop}
theorem cT_out (h : cT C K L I R) (hJ : ∀ x j, (x < C + 44 ∨ C + 44 + 52 < x) → J x j = I x j) : cT C K L J R := by
  exact cT_mk
    (s := h.s)
    (g_now := by rw [hJ _ _ (by omega)]; exact h.g_now)
    (g_trips := by rw [hJ _ _ (by omega)]; exact h.g_trips)
    (g_texts := by rw [hJ _ _ (by omega)]; exact h.g_texts)
    (g_size := by rw [hJ _ _ (by omega)]; exact h.g_size)
    (g_code := by rw [hJ _ _ (by omega)]; exact h.g_code)
    (g_at := by rw [hJ _ _ (by omega)]; exact h.g_at)
    (g_asks := by rw [hJ _ _ (by omega)]; exact h.g_asks)
    (g_benches := by rw [hJ _ _ (by omega)]; exact h.g_benches)
    (g_orderSize := by rw [hJ _ _ (by omega)]; exact h.g_orderSize)
    (g_passed := by rw [hJ _ _ (by omega)]; exact h.g_passed)
    (g_best := by rw [hJ _ _ (by omega)]; exact h.g_best)
    (g_circle := by rw [hJ _ _ (by omega)]; exact h.g_circle)
    (g_row := by rw [hJ _ _ (by omega)]; exact h.g_row)
    (g_rest := by rw [hJ _ _ (by omega)]; exact h.g_rest)
    (g_lost := fun j => by rw [hJ _ _ (by omega)]; exact h.g_lost j)
    (g_spots := fun j => by rw [hJ _ _ (by omega)]; exact h.g_spots j)
    (g_ask := fun a ha => by
      have q := h.g_ask a ha
      rw [hJ _ _ (by omega), hJ _ _ (by omega), hJ _ _ (by omega), hJ _ _ (by omega)]
      exact q)
    (g_bnc := fun b hb => by
      have q := h.g_bnc b hb
      rw [hJ _ _ (by omega)]
      exact q)
    (g_txt := h.g_txt) (g_asksR := h.g_asksR)
    (g_asksN := fun i h0 h1 => by rw [hJ _ _ (by omega)] at h1; exact h.g_asksN i h0 h1)
    (g_benchesR := h.g_benchesR) (g_textsR := h.g_textsR) (g_orderR := h.g_orderR) (g_bestR := h.g_bestR) (g_ringR := h.g_ringR) (g_draft := h.g_draft)
    (g_benN := fun j h1 => by rw [hJ _ _ (by omega)] at h1; exact h.g_benN j h1)
    (g_benY := fun j h1 => by rw [hJ _ _ (by omega)] at h1; exact h.g_benY j h1)
theorem mR_eq {M : Nat} (h : mR M I) (e0 : ∀ j, J M j = I M j) (e : ∀ k, 2 ≤ k → k ≤ 52 → J (M + k) = I (M + k)) : mR M J := by
  unfold mR at h ⊢
  simp only [e0, e 7 (by decide) (by decide), e 8 (by decide) (by decide), e 10 (by decide) (by decide), e 16 (by decide) (by decide), e 20 (by decide) (by decide), e 21 (by decide) (by decide), e 29 (by decide) (by decide), e 40 (by decide) (by decide), e 41 (by decide) (by decide), e 44 (by decide) (by decide), e 49 (by decide) (by decide), e 50 (by decide) (by decide)]
  exact h
theorem mE_any {M c : Nat} (h : mE M c I) (he : J M 35 = I M 35) : mE M (c + 120) J := by
  obtain ⟨g, -, g2⟩ := h
  refine ⟨fun _ => 4, fun _ _ _ _ => Or.inr (Nat.le_refl 4), ?_⟩
  rw [he]
  have : sm (fun _ => 4) 30 = 120 := by decide
  omega
theorem m_S_eq {M : Nat} (h : m_S M K L R) (hK : ∀ x, M ≤ x → x ≤ M + 52 → K' x = K x) (hL : ∀ x, M ≤ x → x ≤ M + 52 → L' x = L x) (hR : ∀ j, R' M j = R M j) : m_S M K' L' R' := by
  obtain ⟨p1, p2, p3⟩ := h
  have d : ∀ q ∈ m_arr, q.2.1 ≤ 52 := by decide
  refine ⟨p1, by rw [hK _ (by omega) (by omega)]; exact p2, fun q hq => ?_⟩
  have := d q hq
  rw [hR, hK _ (by omega) (by omega), hL _ (by omega) (by omega)]
  exact p3 q hq
/-- the reference's part of the heap stays -/
def dS (C n : Nat) (K L : Nat → Nat) (I : Nat → Nat → Int32) (R : Nat → Nat → Nat) (n' : Nat) (K' L' : Nat → Nat) (J : Nat → Nat → Int32) (R' : Nat → Nat → Nat) : Prop := n ≤ n' ∧ (∀ x, x < n → K' x = K x) ∧ (∀ x, x < n → L' x = L x) ∧ (∀ x j, C + 44 ≤ x → x ≤ C + 96 → R' x j = R x j) ∧ (∀ x j, C + 44 ≤ x → x ≤ C + 96 → J x j = I x j)
theorem dS_W {O : Nat → Nat → Prop} (w : dW C n K L I R n' K' L' J R' O) (oM : ∀ x j, C + 44 ≤ x → x ≤ C + 96 → ¬ O x j) : dS C n K L I R n' K' L' J R' := ⟨w.1, w.2.1, w.2.2.1, fun x j p q => w.2.2.2.1 x j (Or.inr p) q, fun x j p q => w.2.2.2.2 x j (Or.inr (Or.inl ⟨p, q⟩)) (oM x j p q)⟩
theorem dS_J (hJ : ∀ x j, C + 44 ≤ x → x ≤ C + 96 → J x j = I x j) : dS C n K L I R n K L J R := ⟨Nat.le_refl _, fun _ _ => rfl, fun _ _ => rfl, fun _ _ _ _ => rfl, hJ⟩
theorem lawM_of (hb : b < C) (h : lawI b C c n t K L J R) (h2 : cH C (4 * c + 4) (n' + 1) t' K' L' J0 R') (w : dS C (n + 1) K L J R (n' + 1) K' L' J0 R') : lawM b C c n' t' K' L' J0 R' := by
  obtain ⟨p1, p2, p3, p4, p5, p6⟩ := h
  obtain ⟨w1, w2, w3, w4, w5⟩ := w
  have hC := p1.2.2.1
  have e0 : ∀ j, J0 (C + 44) j = J (C + 44) j := fun j => w5 _ _ (by omega) (by omega)
  have e : ∀ k, k ≤ 52 → J0 ((C + 44) + k) = J ((C + 44) + k) := fun k hk => by funext j; exact w5 _ _ (by omega) (by omega)
  refine ⟨h2, m_S_eq p2 (fun x h1 h2 => w2 x (by omega)) (fun x h1 h2 => w3 x (by omega)) (fun j => w4 _ _ (by omega) (by omega)), mR_eq p3 e0 (fun k _ h => e k h), ?_, by rw [w2 _ (by omega)]; exact p5⟩
  exact mE_eq p4 (e0 _) (fun j => by rw [e 24 (by decide)]) (fun j => by rw [e 25 (by decide)]) (e0 _) (e0 _) (fun j => by rw [e 10 (by decide)]) (fun j => by rw [e 20 (by decide)]) (fun j => by rw [e 21 (by decide)])
theorem lawI_of (h : lawM b C c n t K L J R) (hR : mR (C + 44) J0) (hE : mE (C + 44) (120 * c + 120) J0) (hX : ∀ x j, (x < C + 44 ∨ C + 44 + 52 < x) → J0 x j = J x j) (hA : aLk C (n + 1) K J0 R) : lawI b C (c + 1) n t K L J0 R := by
  obtain ⟨p1, p2, p3, p4, p5⟩ := h
  refine ⟨?_, p2, hR, ?_, p5, hA⟩
  · have := cH_J p1 (cT_out p1.1 hX)
    rw [show 4 * (c + 1) = 4 * c + 4 by omega]
    exact this
  · rw [show 120 * (c + 1) = 120 * c + 120 by omega]
    exact hE
theorem lawI_E (h : lawM b C c n t K L J R) (hR : mR (C + 44) J0) (h35 : J0 (C + 44) 35 = J (C + 44) 35) (hX : ∀ x j, (x < C + 44 ∨ C + 44 + 52 < x) → J0 x j = J x j) (hA : aLk C (n + 1) K J0 R) : lawI b C (c + 1) n t K L J0 R := lawI_of h hR (mE_any h.2.2.2.1 h35) hX hA
theorem aT_gr (h : aTx C n K J R) (h1 : n ≤ n') (h2 : ∀ x, x < n → K' x = K x) (h3 : ∀ j, R' (C + 8) j = R (C + 8) j) (e7 : J0 (C + 7) 3 = J (C + 7) 3) (e31 : ∀ i, J0 (C + 44 + 31) i = J (C + 44 + 31) i) (ex : ∀ x, x < n → C + 96 < x → K x = 11 → J0 x 4 = J x 4) : aTx C n' K' J0 R' := by
  unfold aTx
  rw [e7]
  refine ⟨fun i hi => ?_, fun i j hi hj => by rw [h3, h3]; exact h.2 i j hi hj⟩
  obtain ⟨⟨p1, p2, p3⟩, p4⟩ := h.1 i hi
  rw [h3, h2 _ p2, ex _ p2 p1 p3, e31]
  exact ⟨⟨p1, by omega, p3⟩, p4⟩
theorem aL_gr (h : aLk C n K J R) (h1 : n ≤ n') (h2 : ∀ x, x < n → K' x = K x) (h3 : ∀ j, R' (C + 8) j = R (C + 8) j) (e : ∀ x j, aS C n K x j → J0 x j = J x j) : aLk C n' K' J0 R' := by
  refine ⟨?_, ?_, fun j => ?_, aT_gr h.2.2.2 h1 h2 h3 (e _ _ (by unfold aS; omega)) (fun i => e _ _ (by unfold aS; omega)) (fun x q1 q2 q3 => e _ _ (Or.inl ⟨q1, q2, q3⟩))⟩
  · rw [e (C + 11) 2 (by unfold aS; omega), e (C + 44) 40 (by unfold aS; omega)]
    exact h.1
  · rw [e (C + 7) 3 (by unfold aS; omega), e (C + 44) 41 (by unfold aS; omega)]
    exact h.2.1
  · rw [e (C + 12) _ (by unfold aS; omega), e (C + 44 + 27) _ (by unfold aS; omega)]
    exact h.2.2.1 j
theorem aL_eq (h : aLk C n K J R) (e : ∀ x j, aS C n K x j → J0 x j = J x j) : aLk C n K J0 R := aL_gr h (Nat.le_refl _) (fun _ _ => rfl) (fun _ => rfl) e
theorem aS_kA {x j : Nat} (h : aS C n K x j) : kA C K n x j := by
  unfold aS at h
  unfold kA
  rcases h with q | q | q | q | q | q | q
  · exact Or.inl q
  · exact Or.inr (Or.inr (Or.inr (Or.inr (Or.inr (Or.inr (Or.inr (Or.inr (Or.inr (Or.inr (Or.inr (Or.inr (Or.inr (Or.inl q)))))))))))))
  · exact Or.inr (Or.inr (Or.inr (Or.inr (Or.inr (Or.inr (Or.inr (Or.inr (Or.inr (Or.inr (Or.inr (Or.inr (Or.inr (Or.inr (q))))))))))))))
  · exact Or.inr (Or.inr (Or.inr (Or.inr (Or.inr (Or.inr (Or.inr (Or.inr (Or.inr (Or.inr (Or.inr (Or.inr (Or.inl q))))))))))))
  · exact Or.inr (Or.inl ⟨by omega, by omega⟩)
  · exact Or.inr (Or.inl ⟨by omega, by omega⟩)
  · exact Or.inr (Or.inl ⟨by omega, by omega⟩)
theorem aS_eC {x j : Nat} (h : aS C n K x j) : eC (C + 44) x j := by
  unfold aS at h
  unfold eC
  rcases h with q | q | q | q | q | q | q
  · exact Or.inr (Or.inl (by omega))
  · exact Or.inl (by omega)
  · exact Or.inl (by omega)
  · exact Or.inl (by omega)
  · exact Or.inr (Or.inr (Or.inr (Or.inr (Or.inr (Or.inr (Or.inr (Or.inr (Or.inr (Or.inr (Or.inr (Or.inr (Or.inr (Or.inr (Or.inr (⟨q.1, by omega⟩)))))))))))))))
  · exact Or.inr (Or.inr (Or.inr (Or.inr (Or.inr (Or.inr (Or.inr (Or.inr (Or.inr (Or.inr (Or.inl q))))))))))
  · exact Or.inr (Or.inr (Or.inr (Or.inr (Or.inr (Or.inr (Or.inr (Or.inr (Or.inr (Or.inr (Or.inr (Or.inr (Or.inr (Or.inr (Or.inl q))))))))))))))
theorem AL_W {O : Nat → Nat → Prop} (h : aLk C n K J R) (w : dW C n K L J R n' K' L' J0 R' O) (o : ∀ x j, aS C n K x j → ¬ O x j) : aLk C n' K' J0 R' := aL_gr h w.1 w.2.1 (fun j => w.2.2.2.1 _ _ (Or.inl rfl) (by omega)) (fun x j p => w.2.2.2.2 x j (aS_kA p) (o x j p))
theorem AL_Z (h : aLk C (n + 1) K J R) (z : cZ C c (n + 1) K L J R n' t' K' L' J0 R') : aLk C n' K' J0 R' := AL_W (O := fun _ _ => False) h (dW_Z z) (fun _ _ _ e => e)
theorem fr_X {c1 : Nat} (g : mF (C + 44) c1 J J0) (x j : Nat) (p : x < C + 44 ∨ C + 44 + 52 < x) : J0 x j = J x j := g.1.2 x j (by unfold eC; omega)
theorem lawI_F (h : lawM b C c n t K L J R) (hA : aLk C (n + 1) K J R) (g : mF (C + 44) (120 * c + 120) J J0) : lawI b C (c + 1) n t K L J0 R := lawI_of h g.1.1 g.2 (fr_X g) (aL_eq hA (fun x j p => g.1.2 x j (aS_eC p)))
theorem lawI_r (h : lawM b C c n t K L J R) (hA : aLk C (n + 1) K J R) {k : Nat} {v : Int32} : lawI b C (c + 1) n t K L (a_ui J ((C + 44) + 23) k v) R := lawI_E h (sR_refused h.2.2.1) (by rw [ui_ap, if_neg (by omega)]) (fun x j p => by rw [ui_ap, if_neg (by omega)]) (aL_eq hA (fun x j p => by rw [ui_ap, if_neg (by unfold aS at p; omega)]))
theorem a_ok8 {i : Int32} {e : Int32} (h0 : 0 ≤ i) (h1 : i.toInt + 8 ≤ sL) (h2 : sL ≤ 4096) (he : 0 ≤ e ∧ e ≤ 7) : a_ok (i + e) sL := by
  have c0 : (0 : Int32).toInt = 0 := rfl
  have c7 : (7 : Int32).toInt = 7 := rfl
  have e0 := Int32.le_iff_toInt_le.mp h0
  have e1 := Int32.le_iff_toInt_le.mp he.1
  have e2 := Int32.le_iff_toInt_le.mp he.2
  have es : (i + e).toInt = i.toInt + e.toInt := ti_add (by omega)
  exact okI (by rw [Int32.le_iff_toInt_le]; omega) (by omega)
theorem lc_hours (hb : b < C) (h : lawI b C c n t K L J R) (hc : 120 * c + 130 ≤ 84000) {i : Int32} (h0 : 0 ≤ i) (h1 : i.toInt + 8 ≤ sL) (h2 : sL ≤ 4096) (hn : ∀ n t K L J R, lawI b C (c + 1) n t K L J R → a_at 700 (lx b sL sx) 1547 [some (.ref b), some (a_rf C), some (a_rf (C + 44)), some (.int i)] [] (n + 1, t, K, L, J, R) P) : a_at 700 (lx b sL sx) 196 [some (.ref b), some (a_rf C), some (a_rf (C + 44)), some (.int i)] [] (n + 1, t, K, L, J, R) P := by
  have hS := h.1.1.s
  have kb := h.2.2.2.2.1
  have hal := h.2.2.2.2.2
  have o1 : a_ok (i + 1) sL := a_ok8 h0 h1 h2 (by decide)
  have o2 : a_ok (i + 2) sL := a_ok8 h0 h1 h2 (by decide)
  have o3 : a_ok (i + 3) sL := a_ok8 h0 h1 h2 (by decide)
  have o4 : a_ok (i + 4) sL := a_ok8 h0 h1 h2 (by decide)
  have o5 : a_ok (i + 5) sL := a_ok8 h0 h1 h2 (by decide)
  have o6 : a_ok (i + 6) sL := a_ok8 h0 h1 h2 (by decide)
  have o7 : a_ok (i + 7) sL := a_ok8 h0 h1 h2 (by decide)
  simp only [qL_196, qL_197, qL_198, qL_199, qL_200, qL_201, qL_202, as_nil, as_i, as_r, Nat.reduceAdd, Nat.reduceLeDiff, z_eq0, z_eq1, z_or, z_em, Classical.not_not, not_false_eq_true, not_true_eq_false, true_and, and_true, false_and, and_false, and_self, true_implies, false_implies, implies_true, Option.toList_some, Option.toList_none, List.cons_append, List.nil_append, Nat.add_eq_zero_iff, a_nl_i, a_nl_r, a_nl_n, true_or, or_true, eq_self, a_isRA_22, a_isRA_24, a_isRA_32, a_isA_20, kb, o1, o2, o3, o4, o5, o6, o7, k_0 hS, z_C hS]
  refine cw_hours h.1 (fun v n2 t2 K2 L2 J2 R2 z w => ?_)
  have hm := lawM_of hb h z (dS_W w (fun x j p q => by intro e; first | exact e.elim | (dsimp only at e; omega) | omega))
  have ha2 := AL_W hal w (fun x j p => by unfold aS at p; intro e; first | exact e.elim | (dsimp only at e; omega) | omega)
  have hSm := hm.2.1
  have hR := hm.2.2.1
  simp only [qL_205, qL_206, qL_207, qL_208, qL_209, qL_210, qL_211, qL_212, as_nil, as_i, as_r, Nat.reduceAdd, Nat.reduceLeDiff, z_eq0, z_eq1, z_or, z_em, Classical.not_not, not_false_eq_true, not_true_eq_false, true_and, and_true, false_and, and_false, and_self, true_implies, false_implies, implies_true, Option.toList_some, Option.toList_none, List.cons_append, List.nil_append, Nat.add_eq_zero_iff, a_nl_i, a_nl_r, a_nl_n, true_or, or_true, eq_self, a_isRA_22, a_isRA_24, a_isRA_32, a_isA_20, hm.2.2.2.2, o1, o2, o3, o4, o5, o6, o7, m_0 hm.2.1, m_K hm.2.1]
  clear h hS kb o1 o2 o3 o4 o5 o6 o7 z w hal
  refine pe_hours hSm ?_ ?_ ?_
  · intros
    simp only [qL_215, qL_216, as_nil, as_i, as_r, Nat.reduceAdd, Nat.reduceLeDiff, z_eq0, z_eq1, z_or, z_em, Classical.not_not, not_false_eq_true, not_true_eq_false, true_and, and_true, false_and, and_false, and_self, true_implies, false_implies, implies_true, Option.toList_some, Option.toList_none, List.cons_append, List.nil_append, Nat.add_eq_zero_iff, a_nl_i, a_nl_r, a_nl_n, true_or, or_true, eq_self, a_isRA_22, a_isRA_24, a_isRA_32, a_isA_20]
    exact hn _ _ _ _ _ _ (lawI_r hm ha2)
  · intros
    simp only [qL_215, qL_216, as_nil, as_i, as_r, Nat.reduceAdd, Nat.reduceLeDiff, z_eq0, z_eq1, z_or, z_em, Classical.not_not, not_false_eq_true, not_true_eq_false, true_and, and_true, false_and, and_false, and_self, true_implies, false_implies, implies_true, Option.toList_some, Option.toList_none, List.cons_append, List.nil_append, Nat.add_eq_zero_iff, a_nl_i, a_nl_r, a_nl_n, true_or, or_true, eq_self, a_isRA_22, a_isRA_24, a_isRA_32, a_isA_20]
    exact hn _ _ _ _ _ _ (lawI_r hm ha2)
  · intros
    simp only [qL_215, qL_216, as_nil, as_i, as_r, Nat.reduceAdd, Nat.reduceLeDiff, z_eq0, z_eq1, z_or, z_em, Classical.not_not, not_false_eq_true, not_true_eq_false, true_and, and_true, false_and, and_false, and_self, true_implies, false_implies, implies_true, Option.toList_some, Option.toList_none, List.cons_append, List.nil_append, Nat.add_eq_zero_iff, a_nl_i, a_nl_r, a_nl_n, true_or, or_true, eq_self, a_isRA_22, a_isRA_24, a_isRA_32, a_isA_20]
    exact hn _ _ _ _ _ _ (lawI_E hm (sR_now hR (by have g := rg_now hR; clear hm hSm hR hn ha2; grind)) (by simp only [ui_ap]; rw [if_neg (by omega)]) (fun x j p => by simp only [ui_ap]; rw [if_neg (by omega)]) (aL_eq ha2 (fun x j p => by unfold aS at p; simp only [ui_ap]; rw [if_neg (by omega)])))
theorem lc_mode (hb : b < C) (h : lawI b C c n t K L J R) (hc : 120 * c + 130 ≤ 84000) {i : Int32} (h0 : 0 ≤ i) (h1 : i.toInt + 8 ≤ sL) (h2 : sL ≤ 4096) (hn : ∀ n t K L J R, lawI b C (c + 1) n t K L J R → a_at 700 (lx b sL sx) 1547 [some (.ref b), some (a_rf C), some (a_rf (C + 44)), some (.int i)] [] (n + 1, t, K, L, J, R) P) : a_at 700 (lx b sL sx) 219 [some (.ref b), some (a_rf C), some (a_rf (C + 44)), some (.int i)] [] (n + 1, t, K, L, J, R) P := by
  have hS := h.1.1.s
  have kb := h.2.2.2.2.1
  have hal := h.2.2.2.2.2
  have o1 : a_ok (i + 1) sL := a_ok8 h0 h1 h2 (by decide)
  have o2 : a_ok (i + 2) sL := a_ok8 h0 h1 h2 (by decide)
  have o3 : a_ok (i + 3) sL := a_ok8 h0 h1 h2 (by decide)
  have o4 : a_ok (i + 4) sL := a_ok8 h0 h1 h2 (by decide)
  have o5 : a_ok (i + 5) sL := a_ok8 h0 h1 h2 (by decide)
  have o6 : a_ok (i + 6) sL := a_ok8 h0 h1 h2 (by decide)
  have o7 : a_ok (i + 7) sL := a_ok8 h0 h1 h2 (by decide)
  simp only [qL_219, qL_220, qL_221, qL_222, qL_223, qL_224, qL_225, qL_226, qL_227, qL_228, qL_229, qL_230, qL_231, qL_232, qL_233, qL_234, qL_235, as_nil, as_i, as_r, Nat.reduceAdd, Nat.reduceLeDiff, z_eq0, z_eq1, z_or, z_em, Classical.not_not, not_false_eq_true, not_true_eq_false, true_and, and_true, false_and, and_false, and_self, true_implies, false_implies, implies_true, Option.toList_some, Option.toList_none, List.cons_append, List.nil_append, Nat.add_eq_zero_iff, a_nl_i, a_nl_r, a_nl_n, true_or, or_true, eq_self, a_isRA_22, a_isRA_24, a_isRA_32, a_isA_20, kb, o1, o2, o3, o4, o5, o6, o7, k_0 hS, z_C hS]
  refine cw_mode h.1 (fun v n2 t2 K2 L2 J2 R2 z w => ?_)
  have hm := lawM_of hb h z (dS_W w (fun x j p q => by intro e; first | exact e.elim | (dsimp only at e; omega) | omega))
  have ha2 := AL_W hal w (fun x j p => by unfold aS at p; intro e; first | exact e.elim | (dsimp only at e; omega) | omega)
  have hSm := hm.2.1
  have hR := hm.2.2.1
  simp only [qL_238, qL_239, qL_240, qL_241, qL_242, qL_243, qL_244, qL_245, qL_246, qL_247, qL_248, qL_249, qL_250, qL_251, qL_252, qL_253, qL_254, qL_255, as_nil, as_i, as_r, Nat.reduceAdd, Nat.reduceLeDiff, z_eq0, z_eq1, z_or, z_em, Classical.not_not, not_false_eq_true, not_true_eq_false, true_and, and_true, false_and, and_false, and_self, true_implies, false_implies, implies_true, Option.toList_some, Option.toList_none, List.cons_append, List.nil_append, Nat.add_eq_zero_iff, a_nl_i, a_nl_r, a_nl_n, true_or, or_true, eq_self, a_isRA_22, a_isRA_24, a_isRA_32, a_isA_20, hm.2.2.2.2, o1, o2, o3, o4, o5, o6, o7, m_0 hm.2.1, m_K hm.2.1]
  clear h hS kb o1 o2 o3 o4 o5 o6 o7 z w hal
  refine pe_mode hSm (fun _ => ?_) (fun _ _ => ?_) (fun _ _ J3 e1 _ => ?_)
  · simp only [qL_258, qL_259, as_nil, as_i, as_r, Nat.reduceAdd, Nat.reduceLeDiff, z_eq0, z_eq1, z_or, z_em, Classical.not_not, not_false_eq_true, not_true_eq_false, true_and, and_true, false_and, and_false, and_self, true_implies, false_implies, implies_true, Option.toList_some, Option.toList_none, List.cons_append, List.nil_append, Nat.add_eq_zero_iff, a_nl_i, a_nl_r, a_nl_n, true_or, or_true, eq_self, a_isRA_22, a_isRA_24, a_isRA_32, a_isA_20]
    exact hn _ _ _ _ _ _ (lawI_r hm ha2)
  · simp only [qL_258, qL_259, as_nil, as_i, as_r, Nat.reduceAdd, Nat.reduceLeDiff, z_eq0, z_eq1, z_or, z_em, Classical.not_not, not_false_eq_true, not_true_eq_false, true_and, and_true, false_and, and_false, and_self, true_implies, false_implies, implies_true, Option.toList_some, Option.toList_none, List.cons_append, List.nil_append, Nat.add_eq_zero_iff, a_nl_i, a_nl_r, a_nl_n, true_or, or_true, eq_self, a_isRA_22, a_isRA_24, a_isRA_32, a_isA_20]
    exact hn _ _ _ _ _ _ (lawI_r hm ha2)
  · simp only [qL_258, qL_259, as_nil, as_i, as_r, Nat.reduceAdd, Nat.reduceLeDiff, z_eq0, z_eq1, z_or, z_em, Classical.not_not, not_false_eq_true, not_true_eq_false, true_and, and_true, false_and, and_false, and_self, true_implies, false_implies, implies_true, Option.toList_some, Option.toList_none, List.cons_append, List.nil_append, Nat.add_eq_zero_iff, a_nl_i, a_nl_r, a_nl_n, true_or, or_true, eq_self, a_isRA_22, a_isRA_24, a_isRA_32, a_isA_20]
    exact hn _ _ _ _ _ _ (lawI_E hm (mR_eq hR (fun j => e1 _ _ (by omega)) (fun k k2 k52 => by funext j; exact e1 _ _ (by omega))) (e1 _ _ (by omega)) (fun x j p => e1 _ _ (by omega)) (aL_eq ha2 (fun x j p => e1 _ _ (by unfold aS at p; omega))))
theorem lc_trip (hb : b < C) (h : lawI b C c n t K L J R) (hc : 120 * c + 130 ≤ 84000) {i : Int32} (h0 : 0 ≤ i) (h1 : i.toInt + 8 ≤ sL) (h2 : sL ≤ 4096) (hn : ∀ n t K L J R, lawI b C (c + 1) n t K L J R → a_at 700 (lx b sL sx) 1547 [some (.ref b), some (a_rf C), some (a_rf (C + 44)), some (.int i)] [] (n + 1, t, K, L, J, R) P) : a_at 700 (lx b sL sx) 262 [some (.ref b), some (a_rf C), some (a_rf (C + 44)), some (.int i)] [] (n + 1, t, K, L, J, R) P := by
  have hS := h.1.1.s
  have kb := h.2.2.2.2.1
  have hal := h.2.2.2.2.2
  have o1 : a_ok (i + 1) sL := a_ok8 h0 h1 h2 (by decide)
  have o2 : a_ok (i + 2) sL := a_ok8 h0 h1 h2 (by decide)
  have o3 : a_ok (i + 3) sL := a_ok8 h0 h1 h2 (by decide)
  have o4 : a_ok (i + 4) sL := a_ok8 h0 h1 h2 (by decide)
  have o5 : a_ok (i + 5) sL := a_ok8 h0 h1 h2 (by decide)
  have o6 : a_ok (i + 6) sL := a_ok8 h0 h1 h2 (by decide)
  have o7 : a_ok (i + 7) sL := a_ok8 h0 h1 h2 (by decide)
  simp only [qL_262, qL_263, qL_264, qL_265, qL_266, qL_267, qL_268, qL_269, qL_270, qL_271, qL_272, qL_273, as_nil, as_i, as_r, Nat.reduceAdd, Nat.reduceLeDiff, z_eq0, z_eq1, z_or, z_em, Classical.not_not, not_false_eq_true, not_true_eq_false, true_and, and_true, false_and, and_false, and_self, true_implies, false_implies, implies_true, Option.toList_some, Option.toList_none, List.cons_append, List.nil_append, Nat.add_eq_zero_iff, a_nl_i, a_nl_r, a_nl_n, true_or, or_true, eq_self, a_isRA_22, a_isRA_24, a_isRA_32, a_isA_20, kb, o1, o2, o3, o4, o5, o6, o7, k_0 hS, z_C hS]
  refine cw_trip h.1 (fun v n2 t2 K2 L2 J2 R2 z w => ?_)
  have hm := lawM_of hb h z (dS_W w (fun x j p q => by intro e; first | exact e.elim | (dsimp only at e; omega) | omega))
  have ha2 := AL_W hal w (fun x j p => by unfold aS at p; intro e; first | exact e.elim | (dsimp only at e; omega) | omega)
  have hSm := hm.2.1
  have hR := hm.2.2.1
  simp only [qL_276, qL_277, qL_278, qL_279, qL_280, qL_281, qL_282, qL_283, qL_284, qL_285, qL_286, qL_287, qL_288, as_nil, as_i, as_r, Nat.reduceAdd, Nat.reduceLeDiff, z_eq0, z_eq1, z_or, z_em, Classical.not_not, not_false_eq_true, not_true_eq_false, true_and, and_true, false_and, and_false, and_self, true_implies, false_implies, implies_true, Option.toList_some, Option.toList_none, List.cons_append, List.nil_append, Nat.add_eq_zero_iff, a_nl_i, a_nl_r, a_nl_n, true_or, or_true, eq_self, a_isRA_22, a_isRA_24, a_isRA_32, a_isA_20, hm.2.2.2.2, o1, o2, o3, o4, o5, o6, o7, m_0 hm.2.1, m_K hm.2.1]
  clear h hS kb o1 o2 o3 o4 o5 o6 o7 z w hal
  refine pe_trip hSm (rg_trips hR) ?_ ?_ ?_
  · intros
    simp only [qL_291, qL_292, as_nil, as_i, as_r, Nat.reduceAdd, Nat.reduceLeDiff, z_eq0, z_eq1, z_or, z_em, Classical.not_not, not_false_eq_true, not_true_eq_false, true_and, and_true, false_and, and_false, and_self, true_implies, false_implies, implies_true, Option.toList_some, Option.toList_none, List.cons_append, List.nil_append, Nat.add_eq_zero_iff, a_nl_i, a_nl_r, a_nl_n, true_or, or_true, eq_self, a_isRA_22, a_isRA_24, a_isRA_32, a_isA_20]
    exact hn _ _ _ _ _ _ (lawI_r hm ha2)
  · intros
    simp only [qL_291, qL_292, as_nil, as_i, as_r, Nat.reduceAdd, Nat.reduceLeDiff, z_eq0, z_eq1, z_or, z_em, Classical.not_not, not_false_eq_true, not_true_eq_false, true_and, and_true, false_and, and_false, and_self, true_implies, false_implies, implies_true, Option.toList_some, Option.toList_none, List.cons_append, List.nil_append, Nat.add_eq_zero_iff, a_nl_i, a_nl_r, a_nl_n, true_or, or_true, eq_self, a_isRA_22, a_isRA_24, a_isRA_32, a_isA_20]
    exact hn _ _ _ _ _ _ (lawI_r hm ha2)
  · intros
    simp only [qL_291, qL_292, as_nil, as_i, as_r, Nat.reduceAdd, Nat.reduceLeDiff, z_eq0, z_eq1, z_or, z_em, Classical.not_not, not_false_eq_true, not_true_eq_false, true_and, and_true, false_and, and_false, and_self, true_implies, false_implies, implies_true, Option.toList_some, Option.toList_none, List.cons_append, List.nil_append, Nat.add_eq_zero_iff, a_nl_i, a_nl_r, a_nl_n, true_or, or_true, eq_self, a_isRA_22, a_isRA_24, a_isRA_32, a_isA_20]
    exact hn _ _ _ _ _ _ (lawI_E hm (sR_trips (sR_tFound (sR_tMany (sR_tHour hR))) (by have g := rg_trips hR; clear hm hSm hR hn ha2; grind)) (by simp only [ui_ap]; rw [if_neg (by omega), if_neg (by omega), if_neg (by omega), if_neg (by omega)]) (fun x j p => by simp only [ui_ap]; rw [if_neg (by omega), if_neg (by omega), if_neg (by omega), if_neg (by omega)]) (aL_eq ha2 (fun x j p => by unfold aS at p; simp only [ui_ap]; rw [if_neg (by omega), if_neg (by omega), if_neg (by omega), if_neg (by omega)])))
theorem lc_shiftOf (hb : b < C) (h : lawI b C c n t K L J R) (hc : 120 * c + 130 ≤ 84000) {i : Int32} (h0 : 0 ≤ i) (h1 : i.toInt + 8 ≤ sL) (h2 : sL ≤ 4096) (hn : ∀ n t K L J R, lawI b C (c + 1) n t K L J R → a_at 700 (lx b sL sx) 1547 [some (.ref b), some (a_rf C), some (a_rf (C + 44)), some (.int i)] [] (n + 1, t, K, L, J, R) P) : a_at 700 (lx b sL sx) 295 [some (.ref b), some (a_rf C), some (a_rf (C + 44)), some (.int i)] [] (n + 1, t, K, L, J, R) P := by
  have hS := h.1.1.s
  have kb := h.2.2.2.2.1
  have hal := h.2.2.2.2.2
  have o1 : a_ok (i + 1) sL := a_ok8 h0 h1 h2 (by decide)
  have o2 : a_ok (i + 2) sL := a_ok8 h0 h1 h2 (by decide)
  have o3 : a_ok (i + 3) sL := a_ok8 h0 h1 h2 (by decide)
  have o4 : a_ok (i + 4) sL := a_ok8 h0 h1 h2 (by decide)
  have o5 : a_ok (i + 5) sL := a_ok8 h0 h1 h2 (by decide)
  have o6 : a_ok (i + 6) sL := a_ok8 h0 h1 h2 (by decide)
  have o7 : a_ok (i + 7) sL := a_ok8 h0 h1 h2 (by decide)
  simp only [qL_295, qL_296, qL_297, qL_298, qL_299, qL_300, qL_301, qL_302, qL_303, qL_304, qL_305, qL_306, qL_307, qL_308, qL_309, qL_310, qL_311, as_nil, as_i, as_r, Nat.reduceAdd, Nat.reduceLeDiff, z_eq0, z_eq1, z_or, z_em, Classical.not_not, not_false_eq_true, not_true_eq_false, true_and, and_true, false_and, and_false, and_self, true_implies, false_implies, implies_true, Option.toList_some, Option.toList_none, List.cons_append, List.nil_append, Nat.add_eq_zero_iff, a_nl_i, a_nl_r, a_nl_n, true_or, or_true, eq_self, a_isRA_22, a_isRA_24, a_isRA_32, a_isA_20, kb, o1, o2, o3, o4, o5, o6, o7, k_0 hS, z_C hS]
  refine cu_shiftOf h.1 (fun v n2 t2 K2 L2 J2 R2 z => ?_)
  have hm := lawM_of hb h (cH_le z.2.1 (by omega)) (dS_W (dW_Z z) (fun _ _ _ _ e => e))
  have ha2 := AL_Z hal z
  simp only [qL_314, qL_315, qL_316, qL_317, qL_318, qL_319, qL_320, qL_321, qL_322, qL_323, qL_324, qL_325, qL_326, qL_327, qL_328, qL_329, qL_330, qL_331, as_nil, as_i, as_r, Nat.reduceAdd, Nat.reduceLeDiff, z_eq0, z_eq1, z_or, z_em, Classical.not_not, not_false_eq_true, not_true_eq_false, true_and, and_true, false_and, and_false, and_self, true_implies, false_implies, implies_true, Option.toList_some, Option.toList_none, List.cons_append, List.nil_append, Nat.add_eq_zero_iff, a_nl_i, a_nl_r, a_nl_n, true_or, or_true, eq_self, a_isRA_22, a_isRA_24, a_isRA_32, a_isA_20, hm.2.2.2.2, o1, o2, o3, o4, o5, o6, o7, m_0 hm.2.1, m_K hm.2.1]
  refine pu_shiftOf hm.2.1 ⟨mG_refl hm.2.2.1, hm.2.2.2.1⟩ hc (fun v2 J3 g => ?_)
  simp only [qL_334, qL_335, as_nil, as_i, as_r, Nat.reduceAdd, Nat.reduceLeDiff, z_eq0, z_eq1, z_or, z_em, Classical.not_not, not_false_eq_true, not_true_eq_false, true_and, and_true, false_and, and_false, and_self, true_implies, false_implies, implies_true, Option.toList_some, Option.toList_none, List.cons_append, List.nil_append, Nat.add_eq_zero_iff, a_nl_i, a_nl_r, a_nl_n, true_or, or_true, eq_self, a_isRA_22, a_isRA_24, a_isRA_32, a_isA_20]
  exact hn _ _ _ _ _ _ (lawI_F hm ha2 g)
theorem lc_bench (hb : b < C) (h : lawI b C c n t K L J R) (hc : 120 * c + 130 ≤ 84000) {i : Int32} (h0 : 0 ≤ i) (h1 : i.toInt + 8 ≤ sL) (h2 : sL ≤ 4096) (hn : ∀ n t K L J R, lawI b C (c + 1) n t K L J R → a_at 700 (lx b sL sx) 1547 [some (.ref b), some (a_rf C), some (a_rf (C + 44)), some (.int i)] [] (n + 1, t, K, L, J, R) P) : a_at 700 (lx b sL sx) 338 [some (.ref b), some (a_rf C), some (a_rf (C + 44)), some (.int i)] [] (n + 1, t, K, L, J, R) P := by
  have hS := h.1.1.s
  have kb := h.2.2.2.2.1
  have hal := h.2.2.2.2.2
  have o1 : a_ok (i + 1) sL := a_ok8 h0 h1 h2 (by decide)
  have o2 : a_ok (i + 2) sL := a_ok8 h0 h1 h2 (by decide)
  have o3 : a_ok (i + 3) sL := a_ok8 h0 h1 h2 (by decide)
  have o4 : a_ok (i + 4) sL := a_ok8 h0 h1 h2 (by decide)
  have o5 : a_ok (i + 5) sL := a_ok8 h0 h1 h2 (by decide)
  have o6 : a_ok (i + 6) sL := a_ok8 h0 h1 h2 (by decide)
  have o7 : a_ok (i + 7) sL := a_ok8 h0 h1 h2 (by decide)
  simp only [qL_338, qL_339, qL_340, qL_341, qL_342, qL_343, qL_344, qL_345, qL_346, qL_347, qL_348, qL_349, as_nil, as_i, as_r, Nat.reduceAdd, Nat.reduceLeDiff, z_eq0, z_eq1, z_or, z_em, Classical.not_not, not_false_eq_true, not_true_eq_false, true_and, and_true, false_and, and_false, and_self, true_implies, false_implies, implies_true, Option.toList_some, Option.toList_none, List.cons_append, List.nil_append, Nat.add_eq_zero_iff, a_nl_i, a_nl_r, a_nl_n, true_or, or_true, eq_self, a_isRA_22, a_isRA_24, a_isRA_32, a_isA_20, kb, o1, o2, o3, o4, o5, o6, o7, k_0 hS, z_C hS]
  refine cw_bench h.1 (fun v n2 t2 K2 L2 J2 R2 z w => ?_)
  have hm := lawM_of hb h z (dS_W w (fun x j p q => by intro e; first | exact e.elim | (dsimp only at e; omega) | omega))
  have ha2 := AL_W hal w (fun x j p => by unfold aS at p; intro e; first | exact e.elim | (dsimp only at e; omega) | omega)
  have hSm := hm.2.1
  have hR := hm.2.2.1
  simp only [qL_352, qL_353, qL_354, qL_355, qL_356, qL_357, qL_358, qL_359, qL_360, qL_361, qL_362, qL_363, qL_364, as_nil, as_i, as_r, Nat.reduceAdd, Nat.reduceLeDiff, z_eq0, z_eq1, z_or, z_em, Classical.not_not, not_false_eq_true, not_true_eq_false, true_and, and_true, false_and, and_false, and_self, true_implies, false_implies, implies_true, Option.toList_some, Option.toList_none, List.cons_append, List.nil_append, Nat.add_eq_zero_iff, a_nl_i, a_nl_r, a_nl_n, true_or, or_true, eq_self, a_isRA_22, a_isRA_24, a_isRA_32, a_isA_20, hm.2.2.2.2, o1, o2, o3, o4, o5, o6, o7, m_0 hm.2.1, m_K hm.2.1]
  clear h hS kb o1 o2 o3 o4 o5 o6 o7 z w hal
  refine pe_bench hSm (rg_benches hR) ?_ ?_ ?_
  · intros
    simp only [qL_367, qL_368, as_nil, as_i, as_r, Nat.reduceAdd, Nat.reduceLeDiff, z_eq0, z_eq1, z_or, z_em, Classical.not_not, not_false_eq_true, not_true_eq_false, true_and, and_true, false_and, and_false, and_self, true_implies, false_implies, implies_true, Option.toList_some, Option.toList_none, List.cons_append, List.nil_append, Nat.add_eq_zero_iff, a_nl_i, a_nl_r, a_nl_n, true_or, or_true, eq_self, a_isRA_22, a_isRA_24, a_isRA_32, a_isA_20]
    exact hn _ _ _ _ _ _ (lawI_r hm ha2)
  · intros
    simp only [qL_367, qL_368, as_nil, as_i, as_r, Nat.reduceAdd, Nat.reduceLeDiff, z_eq0, z_eq1, z_or, z_em, Classical.not_not, not_false_eq_true, not_true_eq_false, true_and, and_true, false_and, and_false, and_self, true_implies, false_implies, implies_true, Option.toList_some, Option.toList_none, List.cons_append, List.nil_append, Nat.add_eq_zero_iff, a_nl_i, a_nl_r, a_nl_n, true_or, or_true, eq_self, a_isRA_22, a_isRA_24, a_isRA_32, a_isA_20]
    exact hn _ _ _ _ _ _ (lawI_r hm ha2)
  · intros
    simp only [qL_367, qL_368, as_nil, as_i, as_r, Nat.reduceAdd, Nat.reduceLeDiff, z_eq0, z_eq1, z_or, z_em, Classical.not_not, not_false_eq_true, not_true_eq_false, true_and, and_true, false_and, and_false, and_self, true_implies, false_implies, implies_true, Option.toList_some, Option.toList_none, List.cons_append, List.nil_append, Nat.add_eq_zero_iff, a_nl_i, a_nl_r, a_nl_n, true_or, or_true, eq_self, a_isRA_22, a_isRA_24, a_isRA_32, a_isA_20]
    exact hn _ _ _ _ _ _ (lawI_E hm (sR_benches (sR_hostsOf (sR_can hR)) (by have g := rg_benches hR; clear hm hSm hR hn ha2; grind)) (by simp only [ui_ap]; rw [if_neg (by omega), if_neg (by omega), if_neg (by omega)]) (fun x j p => by simp only [ui_ap]; rw [if_neg (by omega), if_neg (by omega), if_neg (by omega)]) (aL_eq ha2 (fun x j p => by unfold aS at p; simp only [ui_ap]; rw [if_neg (by omega), if_neg (by omega), if_neg (by omega)])))
theorem lc_set (hb : b < C) (h : lawI b C c n t K L J R) (hc : 120 * c + 130 ≤ 84000) {i : Int32} (h0 : 0 ≤ i) (h1 : i.toInt + 8 ≤ sL) (h2 : sL ≤ 4096) (hn : ∀ n t K L J R, lawI b C (c + 1) n t K L J R → a_at 700 (lx b sL sx) 1547 [some (.ref b), some (a_rf C), some (a_rf (C + 44)), some (.int i)] [] (n + 1, t, K, L, J, R) P) : a_at 700 (lx b sL sx) 371 [some (.ref b), some (a_rf C), some (a_rf (C + 44)), some (.int i)] [] (n + 1, t, K, L, J, R) P := by
  have hS := h.1.1.s
  have kb := h.2.2.2.2.1
  have hal := h.2.2.2.2.2
  have o1 : a_ok (i + 1) sL := a_ok8 h0 h1 h2 (by decide)
  have o2 : a_ok (i + 2) sL := a_ok8 h0 h1 h2 (by decide)
  have o3 : a_ok (i + 3) sL := a_ok8 h0 h1 h2 (by decide)
  have o4 : a_ok (i + 4) sL := a_ok8 h0 h1 h2 (by decide)
  have o5 : a_ok (i + 5) sL := a_ok8 h0 h1 h2 (by decide)
  have o6 : a_ok (i + 6) sL := a_ok8 h0 h1 h2 (by decide)
  have o7 : a_ok (i + 7) sL := a_ok8 h0 h1 h2 (by decide)
  simp only [qL_371, qL_372, qL_373, qL_374, qL_375, qL_376, qL_377, qL_378, qL_379, qL_380, qL_381, qL_382, as_nil, as_i, as_r, Nat.reduceAdd, Nat.reduceLeDiff, z_eq0, z_eq1, z_or, z_em, Classical.not_not, not_false_eq_true, not_true_eq_false, true_and, and_true, false_and, and_false, and_self, true_implies, false_implies, implies_true, Option.toList_some, Option.toList_none, List.cons_append, List.nil_append, Nat.add_eq_zero_iff, a_nl_i, a_nl_r, a_nl_n, true_or, or_true, eq_self, a_isRA_22, a_isRA_24, a_isRA_32, a_isA_20, kb, o1, o2, o3, o4, o5, o6, o7, k_0 hS, z_C hS]
  refine cw_set h.1 (fun v n2 t2 K2 L2 J2 R2 z w => ?_)
  have hm := lawM_of hb h z (dS_W w (fun x j p q => by intro e; first | exact e.elim | (dsimp only at e; omega) | omega))
  have ha2 := AL_W hal w (fun x j p => by unfold aS at p; intro e; first | exact e.elim | (dsimp only at e; omega) | omega)
  have hSm := hm.2.1
  have hR := hm.2.2.1
  simp only [qL_385, qL_386, qL_387, qL_388, qL_389, qL_390, qL_391, qL_392, qL_393, qL_394, qL_395, qL_396, qL_397, as_nil, as_i, as_r, Nat.reduceAdd, Nat.reduceLeDiff, z_eq0, z_eq1, z_or, z_em, Classical.not_not, not_false_eq_true, not_true_eq_false, true_and, and_true, false_and, and_false, and_self, true_implies, false_implies, implies_true, Option.toList_some, Option.toList_none, List.cons_append, List.nil_append, Nat.add_eq_zero_iff, a_nl_i, a_nl_r, a_nl_n, true_or, or_true, eq_self, a_isRA_22, a_isRA_24, a_isRA_32, a_isA_20, hm.2.2.2.2, o1, o2, o3, o4, o5, o6, o7, m_0 hm.2.1, m_K hm.2.1]
  clear h hS kb o1 o2 o3 o4 o5 o6 o7 z w hal
  refine pe_set hSm ?_ ?_ ?_ ?_ ?_ ?_
  · intros
    simp only [qL_400, qL_401, as_nil, as_i, as_r, Nat.reduceAdd, Nat.reduceLeDiff, z_eq0, z_eq1, z_or, z_em, Classical.not_not, not_false_eq_true, not_true_eq_false, true_and, and_true, false_and, and_false, and_self, true_implies, false_implies, implies_true, Option.toList_some, Option.toList_none, List.cons_append, List.nil_append, Nat.add_eq_zero_iff, a_nl_i, a_nl_r, a_nl_n, true_or, or_true, eq_self, a_isRA_22, a_isRA_24, a_isRA_32, a_isA_20]
    exact hn _ _ _ _ _ _ (lawI_r hm ha2)
  · intros
    simp only [qL_400, qL_401, as_nil, as_i, as_r, Nat.reduceAdd, Nat.reduceLeDiff, z_eq0, z_eq1, z_or, z_em, Classical.not_not, not_false_eq_true, not_true_eq_false, true_and, and_true, false_and, and_false, and_self, true_implies, false_implies, implies_true, Option.toList_some, Option.toList_none, List.cons_append, List.nil_append, Nat.add_eq_zero_iff, a_nl_i, a_nl_r, a_nl_n, true_or, or_true, eq_self, a_isRA_22, a_isRA_24, a_isRA_32, a_isA_20]
    exact hn _ _ _ _ _ _ (lawI_r hm ha2)
  · intros
    simp only [qL_400, qL_401, as_nil, as_i, as_r, Nat.reduceAdd, Nat.reduceLeDiff, z_eq0, z_eq1, z_or, z_em, Classical.not_not, not_false_eq_true, not_true_eq_false, true_and, and_true, false_and, and_false, and_self, true_implies, false_implies, implies_true, Option.toList_some, Option.toList_none, List.cons_append, List.nil_append, Nat.add_eq_zero_iff, a_nl_i, a_nl_r, a_nl_n, true_or, or_true, eq_self, a_isRA_22, a_isRA_24, a_isRA_32, a_isA_20]
    exact hn _ _ _ _ _ _ (lawI_r hm ha2)
  · intros
    simp only [qL_400, qL_401, as_nil, as_i, as_r, Nat.reduceAdd, Nat.reduceLeDiff, z_eq0, z_eq1, z_or, z_em, Classical.not_not, not_false_eq_true, not_true_eq_false, true_and, and_true, false_and, and_false, and_self, true_implies, false_implies, implies_true, Option.toList_some, Option.toList_none, List.cons_append, List.nil_append, Nat.add_eq_zero_iff, a_nl_i, a_nl_r, a_nl_n, true_or, or_true, eq_self, a_isRA_22, a_isRA_24, a_isRA_32, a_isA_20]
    exact hn _ _ _ _ _ _ (lawI_E hm (sR_scaled (sR_share (sR_rest hR (by have g := rg_rest hR; clear hm hSm hR hn ha2; first | exact g | grind)))) (by simp only [ui_ap]; rw [if_neg (by omega), if_neg (by omega), if_neg (by omega)]) (fun x j p => by simp only [ui_ap]; rw [if_neg (by omega), if_neg (by omega), if_neg (by omega)]) (aL_eq ha2 (fun x j p => by unfold aS at p; simp only [ui_ap]; rw [if_neg (by omega), if_neg (by omega), if_neg (by omega)])))
  · intros
    simp only [qL_400, qL_401, as_nil, as_i, as_r, Nat.reduceAdd, Nat.reduceLeDiff, z_eq0, z_eq1, z_or, z_em, Classical.not_not, not_false_eq_true, not_true_eq_false, true_and, and_true, false_and, and_false, and_self, true_implies, false_implies, implies_true, Option.toList_some, Option.toList_none, List.cons_append, List.nil_append, Nat.add_eq_zero_iff, a_nl_i, a_nl_r, a_nl_n, true_or, or_true, eq_self, a_isRA_22, a_isRA_24, a_isRA_32, a_isA_20]
    exact hn _ _ _ _ _ _ (lawI_E hm (sR_scaled (sR_share (sR_rest hR (by have g := rg_rest hR; clear hm hSm hR hn ha2; first | exact g | grind)))) (by simp only [ui_ap]; rw [if_neg (by omega), if_neg (by omega), if_neg (by omega)]) (fun x j p => by simp only [ui_ap]; rw [if_neg (by omega), if_neg (by omega), if_neg (by omega)]) (aL_eq ha2 (fun x j p => by unfold aS at p; simp only [ui_ap]; rw [if_neg (by omega), if_neg (by omega), if_neg (by omega)])))
  · intros
    simp only [qL_400, qL_401, as_nil, as_i, as_r, Nat.reduceAdd, Nat.reduceLeDiff, z_eq0, z_eq1, z_or, z_em, Classical.not_not, not_false_eq_true, not_true_eq_false, true_and, and_true, false_and, and_false, and_self, true_implies, false_implies, implies_true, Option.toList_some, Option.toList_none, List.cons_append, List.nil_append, Nat.add_eq_zero_iff, a_nl_i, a_nl_r, a_nl_n, true_or, or_true, eq_self, a_isRA_22, a_isRA_24, a_isRA_32, a_isA_20]
    exact hn _ _ _ _ _ _ (lawI_E hm (sR_scaled (sR_share (sR_rest hR (by have g := rg_rest hR; clear hm hSm hR hn ha2; first | exact g | grind)))) (by simp only [ui_ap]; rw [if_neg (by omega), if_neg (by omega), if_neg (by omega)]) (fun x j p => by simp only [ui_ap]; rw [if_neg (by omega), if_neg (by omega), if_neg (by omega)]) (aL_eq ha2 (fun x j p => by unfold aS at p; simp only [ui_ap]; rw [if_neg (by omega), if_neg (by omega), if_neg (by omega)])))
theorem lc_draft (hb : b < C) (h : lawI b C c n t K L J R) (hc : 120 * c + 130 ≤ 84000) {i : Int32} (h0 : 0 ≤ i) (h1 : i.toInt + 8 ≤ sL) (h2 : sL ≤ 4096) (hn : ∀ n t K L J R, lawI b C (c + 1) n t K L J R → a_at 700 (lx b sL sx) 1547 [some (.ref b), some (a_rf C), some (a_rf (C + 44)), some (.int i)] [] (n + 1, t, K, L, J, R) P) : a_at 700 (lx b sL sx) 404 [some (.ref b), some (a_rf C), some (a_rf (C + 44)), some (.int i)] [] (n + 1, t, K, L, J, R) P := by
  have hS := h.1.1.s
  have kb := h.2.2.2.2.1
  have hal := h.2.2.2.2.2
  have o1 : a_ok (i + 1) sL := a_ok8 h0 h1 h2 (by decide)
  have o2 : a_ok (i + 2) sL := a_ok8 h0 h1 h2 (by decide)
  have o3 : a_ok (i + 3) sL := a_ok8 h0 h1 h2 (by decide)
  have o4 : a_ok (i + 4) sL := a_ok8 h0 h1 h2 (by decide)
  have o5 : a_ok (i + 5) sL := a_ok8 h0 h1 h2 (by decide)
  have o6 : a_ok (i + 6) sL := a_ok8 h0 h1 h2 (by decide)
  have o7 : a_ok (i + 7) sL := a_ok8 h0 h1 h2 (by decide)
  simp only [qL_404, qL_405, qL_406, qL_407, qL_408, qL_409, qL_410, qL_411, qL_412, qL_413, qL_414, qL_415, qL_416, qL_417, qL_418, qL_419, qL_420, qL_421, qL_422, qL_423, qL_424, qL_425, as_nil, as_i, as_r, Nat.reduceAdd, Nat.reduceLeDiff, z_eq0, z_eq1, z_or, z_em, Classical.not_not, not_false_eq_true, not_true_eq_false, true_and, and_true, false_and, and_false, and_self, true_implies, false_implies, implies_true, Option.toList_some, Option.toList_none, List.cons_append, List.nil_append, Nat.add_eq_zero_iff, a_nl_i, a_nl_r, a_nl_n, true_or, or_true, eq_self, a_isRA_22, a_isRA_24, a_isRA_32, a_isA_20, kb, o1, o2, o3, o4, o5, o6, o7, k_0 hS, z_C hS]
  refine cu_draft h.1 (fun v n2 t2 K2 L2 J2 R2 z => ?_)
  have hm := lawM_of hb h (cH_le z.2.1 (by omega)) (dS_W (dW_Z z) (fun _ _ _ _ e => e))
  have ha2 := AL_Z hal z
  simp only [qL_428, qL_429, qL_430, qL_431, qL_432, qL_433, qL_434, qL_435, qL_436, qL_437, qL_438, qL_439, qL_440, qL_441, qL_442, qL_443, qL_444, qL_445, qL_446, qL_447, qL_448, qL_449, qL_450, as_nil, as_i, as_r, Nat.reduceAdd, Nat.reduceLeDiff, z_eq0, z_eq1, z_or, z_em, Classical.not_not, not_false_eq_true, not_true_eq_false, true_and, and_true, false_and, and_false, and_self, true_implies, false_implies, implies_true, Option.toList_some, Option.toList_none, List.cons_append, List.nil_append, Nat.add_eq_zero_iff, a_nl_i, a_nl_r, a_nl_n, true_or, or_true, eq_self, a_isRA_22, a_isRA_24, a_isRA_32, a_isA_20, hm.2.2.2.2, o1, o2, o3, o4, o5, o6, o7, m_0 hm.2.1, m_K hm.2.1]
  refine pu_draft hm.2.1 ⟨mG_refl hm.2.2.1, hm.2.2.2.1⟩ hc (fun v2 J3 g => ?_)
  simp only [qL_453, qL_454, as_nil, as_i, as_r, Nat.reduceAdd, Nat.reduceLeDiff, z_eq0, z_eq1, z_or, z_em, Classical.not_not, not_false_eq_true, not_true_eq_false, true_and, and_true, false_and, and_false, and_self, true_implies, false_implies, implies_true, Option.toList_some, Option.toList_none, List.cons_append, List.nil_append, Nat.add_eq_zero_iff, a_nl_i, a_nl_r, a_nl_n, true_or, or_true, eq_self, a_isRA_22, a_isRA_24, a_isRA_32, a_isA_20]
  exact hn _ _ _ _ _ _ (lawI_F hm ha2 g)
theorem lc_ask (hb : b < C) (h : lawI b C c n t K L J R) (hc : 120 * c + 130 ≤ 84000) {i : Int32} (h0 : 0 ≤ i) (h1 : i.toInt + 8 ≤ sL) (h2 : sL ≤ 4096) (hn : ∀ n t K L J R, lawI b C (c + 1) n t K L J R → a_at 700 (lx b sL sx) 1547 [some (.ref b), some (a_rf C), some (a_rf (C + 44)), some (.int i)] [] (n + 1, t, K, L, J, R) P) : a_at 700 (lx b sL sx) 457 [some (.ref b), some (a_rf C), some (a_rf (C + 44)), some (.int i)] [] (n + 1, t, K, L, J, R) P := by
  have hS := h.1.1.s
  have kb := h.2.2.2.2.1
  have hal := h.2.2.2.2.2
  have o1 : a_ok (i + 1) sL := a_ok8 h0 h1 h2 (by decide)
  have o2 : a_ok (i + 2) sL := a_ok8 h0 h1 h2 (by decide)
  have o3 : a_ok (i + 3) sL := a_ok8 h0 h1 h2 (by decide)
  have o4 : a_ok (i + 4) sL := a_ok8 h0 h1 h2 (by decide)
  have o5 : a_ok (i + 5) sL := a_ok8 h0 h1 h2 (by decide)
  have o6 : a_ok (i + 6) sL := a_ok8 h0 h1 h2 (by decide)
  have o7 : a_ok (i + 7) sL := a_ok8 h0 h1 h2 (by decide)
  simp only [qL_457, qL_458, qL_459, qL_460, qL_461, qL_462, qL_463, qL_464, qL_465, qL_466, qL_467, qL_468, qL_469, qL_470, qL_471, qL_472, qL_473, qL_474, qL_475, qL_476, qL_477, qL_478, qL_479, qL_480, qL_481, qL_482, qL_483, qL_484, qL_485, qL_487, qL_488, qL_489, qL_490, qL_491, qL_493, qL_494, qL_495, as_nil, as_i, as_r, Nat.reduceAdd, Nat.reduceLeDiff, z_eq0, z_eq1, z_or, z_em, Classical.not_not, not_false_eq_true, not_true_eq_false, true_and, and_true, false_and, and_false, and_self, true_implies, false_implies, implies_true, Option.toList_some, Option.toList_none, List.cons_append, List.nil_append, Nat.add_eq_zero_iff, a_nl_i, a_nl_r, a_nl_n, true_or, or_true, eq_self, a_isRA_22, a_isRA_24, a_isRA_32, a_isA_20, kb, o1, o2, o3, o4, o5, o6, o7, k_0 hS, z_C hS]
  refine cu_ask h.1 (fun v n2 t2 K2 L2 J2 R2 z => ?_)
  have hm := lawM_of hb h (cH_le z.2.1 (by omega)) (dS_W (dW_Z z) (fun _ _ _ _ e => e))
  have ha2 := AL_Z hal z
  simp only [qL_498, qL_499, qL_500, qL_501, qL_502, qL_503, qL_504, qL_505, qL_506, qL_507, qL_508, qL_509, qL_510, qL_511, qL_512, qL_513, qL_514, qL_515, qL_516, qL_517, qL_518, qL_519, qL_520, qL_521, qL_522, qL_523, qL_524, qL_525, qL_526, qL_527, qL_529, qL_530, qL_531, qL_532, qL_533, qL_535, qL_536, qL_537, as_nil, as_i, as_r, Nat.reduceAdd, Nat.reduceLeDiff, z_eq0, z_eq1, z_or, z_em, Classical.not_not, not_false_eq_true, not_true_eq_false, true_and, and_true, false_and, and_false, and_self, true_implies, false_implies, implies_true, Option.toList_some, Option.toList_none, List.cons_append, List.nil_append, Nat.add_eq_zero_iff, a_nl_i, a_nl_r, a_nl_n, true_or, or_true, eq_self, a_isRA_22, a_isRA_24, a_isRA_32, a_isA_20, hm.2.2.2.2, o1, o2, o3, o4, o5, o6, o7, m_0 hm.2.1, m_K hm.2.1]
  refine pu_ask hm.2.1 ⟨mG_refl hm.2.2.1, hm.2.2.2.1⟩ hc (fun v2 J3 g => ?_)
  simp only [qL_540, qL_541, as_nil, as_i, as_r, Nat.reduceAdd, Nat.reduceLeDiff, z_eq0, z_eq1, z_or, z_em, Classical.not_not, not_false_eq_true, not_true_eq_false, true_and, and_true, false_and, and_false, and_self, true_implies, false_implies, implies_true, Option.toList_some, Option.toList_none, List.cons_append, List.nil_append, Nat.add_eq_zero_iff, a_nl_i, a_nl_r, a_nl_n, true_or, or_true, eq_self, a_isRA_22, a_isRA_24, a_isRA_32, a_isA_20]
  exact hn _ _ _ _ _ _ (lawI_F hm ha2 g)
theorem lc_withdraw (hb : b < C) (h : lawI b C c n t K L J R) (hc : 120 * c + 130 ≤ 84000) {i : Int32} (h0 : 0 ≤ i) (h1 : i.toInt + 8 ≤ sL) (h2 : sL ≤ 4096) (hn : ∀ n t K L J R, lawI b C (c + 1) n t K L J R → a_at 700 (lx b sL sx) 1547 [some (.ref b), some (a_rf C), some (a_rf (C + 44)), some (.int i)] [] (n + 1, t, K, L, J, R) P) : a_at 700 (lx b sL sx) 544 [some (.ref b), some (a_rf C), some (a_rf (C + 44)), some (.int i)] [] (n + 1, t, K, L, J, R) P := by
  have hS := h.1.1.s
  have kb := h.2.2.2.2.1
  have hal := h.2.2.2.2.2
  have o1 : a_ok (i + 1) sL := a_ok8 h0 h1 h2 (by decide)
  have o2 : a_ok (i + 2) sL := a_ok8 h0 h1 h2 (by decide)
  have o3 : a_ok (i + 3) sL := a_ok8 h0 h1 h2 (by decide)
  have o4 : a_ok (i + 4) sL := a_ok8 h0 h1 h2 (by decide)
  have o5 : a_ok (i + 5) sL := a_ok8 h0 h1 h2 (by decide)
  have o6 : a_ok (i + 6) sL := a_ok8 h0 h1 h2 (by decide)
  have o7 : a_ok (i + 7) sL := a_ok8 h0 h1 h2 (by decide)
  simp only [qL_544, qL_545, qL_546, qL_547, qL_548, qL_549, qL_550, as_nil, as_i, as_r, Nat.reduceAdd, Nat.reduceLeDiff, z_eq0, z_eq1, z_or, z_em, Classical.not_not, not_false_eq_true, not_true_eq_false, true_and, and_true, false_and, and_false, and_self, true_implies, false_implies, implies_true, Option.toList_some, Option.toList_none, List.cons_append, List.nil_append, Nat.add_eq_zero_iff, a_nl_i, a_nl_r, a_nl_n, true_or, or_true, eq_self, a_isRA_22, a_isRA_24, a_isRA_32, a_isA_20, kb, o1, o2, o3, o4, o5, o6, o7, k_0 hS, z_C hS]
  refine cu_withdraw h.1 (fun v n2 t2 K2 L2 J2 R2 z => ?_)
  have hm := lawM_of hb h (cH_le z.2.1 (by omega)) (dS_W (dW_Z z) (fun _ _ _ _ e => e))
  have ha2 := AL_Z hal z
  simp only [qL_553, qL_554, qL_555, qL_556, qL_557, qL_558, qL_559, qL_560, as_nil, as_i, as_r, Nat.reduceAdd, Nat.reduceLeDiff, z_eq0, z_eq1, z_or, z_em, Classical.not_not, not_false_eq_true, not_true_eq_false, true_and, and_true, false_and, and_false, and_self, true_implies, false_implies, implies_true, Option.toList_some, Option.toList_none, List.cons_append, List.nil_append, Nat.add_eq_zero_iff, a_nl_i, a_nl_r, a_nl_n, true_or, or_true, eq_self, a_isRA_22, a_isRA_24, a_isRA_32, a_isA_20, hm.2.2.2.2, o1, o2, o3, o4, o5, o6, o7, m_0 hm.2.1, m_K hm.2.1]
  refine pu_withdraw hm.2.1 ⟨mG_refl hm.2.2.1, hm.2.2.2.1⟩ hc (fun v2 J3 g => ?_)
  simp only [qL_563, qL_564, as_nil, as_i, as_r, Nat.reduceAdd, Nat.reduceLeDiff, z_eq0, z_eq1, z_or, z_em, Classical.not_not, not_false_eq_true, not_true_eq_false, true_and, and_true, false_and, and_false, and_self, true_implies, false_implies, implies_true, Option.toList_some, Option.toList_none, List.cons_append, List.nil_append, Nat.add_eq_zero_iff, a_nl_i, a_nl_r, a_nl_n, true_or, or_true, eq_self, a_isRA_22, a_isRA_24, a_isRA_32, a_isA_20]
  exact hn _ _ _ _ _ _ (lawI_F hm ha2 g)
theorem lc_askOf (hb : b < C) (h : lawI b C c n t K L J R) (hc : 120 * c + 130 ≤ 84000) {i : Int32} (h0 : 0 ≤ i) (h1 : i.toInt + 8 ≤ sL) (h2 : sL ≤ 4096) (hn : ∀ n t K L J R, lawI b C (c + 1) n t K L J R → a_at 700 (lx b sL sx) 1547 [some (.ref b), some (a_rf C), some (a_rf (C + 44)), some (.int i)] [] (n + 1, t, K, L, J, R) P) : a_at 700 (lx b sL sx) 567 [some (.ref b), some (a_rf C), some (a_rf (C + 44)), some (.int i)] [] (n + 1, t, K, L, J, R) P := by
  have hS := h.1.1.s
  have kb := h.2.2.2.2.1
  have hal := h.2.2.2.2.2
  have o1 : a_ok (i + 1) sL := a_ok8 h0 h1 h2 (by decide)
  have o2 : a_ok (i + 2) sL := a_ok8 h0 h1 h2 (by decide)
  have o3 : a_ok (i + 3) sL := a_ok8 h0 h1 h2 (by decide)
  have o4 : a_ok (i + 4) sL := a_ok8 h0 h1 h2 (by decide)
  have o5 : a_ok (i + 5) sL := a_ok8 h0 h1 h2 (by decide)
  have o6 : a_ok (i + 6) sL := a_ok8 h0 h1 h2 (by decide)
  have o7 : a_ok (i + 7) sL := a_ok8 h0 h1 h2 (by decide)
  simp only [qL_567, qL_568, qL_569, qL_570, qL_571, qL_572, qL_573, qL_574, qL_575, qL_576, qL_577, qL_578, as_nil, as_i, as_r, Nat.reduceAdd, Nat.reduceLeDiff, z_eq0, z_eq1, z_or, z_em, Classical.not_not, not_false_eq_true, not_true_eq_false, true_and, and_true, false_and, and_false, and_self, true_implies, false_implies, implies_true, Option.toList_some, Option.toList_none, List.cons_append, List.nil_append, Nat.add_eq_zero_iff, a_nl_i, a_nl_r, a_nl_n, true_or, or_true, eq_self, a_isRA_22, a_isRA_24, a_isRA_32, a_isA_20, kb, o1, o2, o3, o4, o5, o6, o7, k_0 hS, z_C hS]
  refine cu_askOf h.1 (fun v n2 t2 K2 L2 J2 R2 z => ?_)
  have hm := lawM_of hb h (cH_le z.2.1 (by omega)) (dS_W (dW_Z z) (fun _ _ _ _ e => e))
  have ha2 := AL_Z hal z
  simp only [qL_581, qL_582, qL_583, qL_584, qL_585, qL_586, qL_587, qL_588, qL_589, qL_590, qL_591, qL_592, qL_593, as_nil, as_i, as_r, Nat.reduceAdd, Nat.reduceLeDiff, z_eq0, z_eq1, z_or, z_em, Classical.not_not, not_false_eq_true, not_true_eq_false, true_and, and_true, false_and, and_false, and_self, true_implies, false_implies, implies_true, Option.toList_some, Option.toList_none, List.cons_append, List.nil_append, Nat.add_eq_zero_iff, a_nl_i, a_nl_r, a_nl_n, true_or, or_true, eq_self, a_isRA_22, a_isRA_24, a_isRA_32, a_isA_20, hm.2.2.2.2, o1, o2, o3, o4, o5, o6, o7, m_0 hm.2.1, m_K hm.2.1]
  refine pu_askOf hm.2.1 ⟨mG_refl hm.2.2.1, hm.2.2.2.1⟩ hc (fun v2 J3 g => ?_)
  simp only [qL_596, qL_597, as_nil, as_i, as_r, Nat.reduceAdd, Nat.reduceLeDiff, z_eq0, z_eq1, z_or, z_em, Classical.not_not, not_false_eq_true, not_true_eq_false, true_and, and_true, false_and, and_false, and_self, true_implies, false_implies, implies_true, Option.toList_some, Option.toList_none, List.cons_append, List.nil_append, Nat.add_eq_zero_iff, a_nl_i, a_nl_r, a_nl_n, true_or, or_true, eq_self, a_isRA_22, a_isRA_24, a_isRA_32, a_isA_20]
  exact hn _ _ _ _ _ _ (lawI_F hm ha2 g)
theorem lc_feed (hb : b < C) (h : lawI b C c n t K L J R) (hc : 120 * c + 130 ≤ 84000) {i : Int32} (h0 : 0 ≤ i) (h1 : i.toInt + 8 ≤ sL) (h2 : sL ≤ 4096) (hn : ∀ n t K L J R, lawI b C (c + 1) n t K L J R → a_at 700 (lx b sL sx) 1547 [some (.ref b), some (a_rf C), some (a_rf (C + 44)), some (.int i)] [] (n + 1, t, K, L, J, R) P) : a_at 700 (lx b sL sx) 600 [some (.ref b), some (a_rf C), some (a_rf (C + 44)), some (.int i)] [] (n + 1, t, K, L, J, R) P := by
  have hS := h.1.1.s
  have kb := h.2.2.2.2.1
  have hal := h.2.2.2.2.2
  have o1 : a_ok (i + 1) sL := a_ok8 h0 h1 h2 (by decide)
  have o2 : a_ok (i + 2) sL := a_ok8 h0 h1 h2 (by decide)
  have o3 : a_ok (i + 3) sL := a_ok8 h0 h1 h2 (by decide)
  have o4 : a_ok (i + 4) sL := a_ok8 h0 h1 h2 (by decide)
  have o5 : a_ok (i + 5) sL := a_ok8 h0 h1 h2 (by decide)
  have o6 : a_ok (i + 6) sL := a_ok8 h0 h1 h2 (by decide)
  have o7 : a_ok (i + 7) sL := a_ok8 h0 h1 h2 (by decide)
  simp only [qL_600, qL_601, qL_602, qL_603, qL_604, qL_605, qL_606, qL_607, qL_608, qL_609, qL_610, qL_611, qL_612, qL_614, qL_615, qL_616, qL_617, qL_618, qL_619, qL_620, qL_621, qL_624, qL_625, qL_626, as_nil, as_i, as_r, Nat.reduceAdd, Nat.reduceLeDiff, z_eq0, z_eq1, z_or, z_em, Classical.not_not, not_false_eq_true, not_true_eq_false, true_and, and_true, false_and, and_false, and_self, true_implies, false_implies, implies_true, Option.toList_some, Option.toList_none, List.cons_append, List.nil_append, Nat.add_eq_zero_iff, a_nl_i, a_nl_r, a_nl_n, true_or, or_true, eq_self, a_isRA_22, a_isRA_24, a_isRA_32, a_isA_20, kb, o1, o2, o3, o4, o5, o6, o7, k_0 hS, z_C hS]
  have gt0 := h.1.1.g_size
  have gt1 := h.1.1.g_texts
  refine ke_feed h.1 (fun q J2 z => ?_) (fun q1 q2 J2 z => ?_) (fun q1 q2 J2 g f e5 e6 => ?_)
  · have hm := lawM_of hb h (cH_le z.2.1 (by omega)) (dS_W (dW_Z z) (fun _ _ _ _ e => e))
    have ha2 := AL_Z hal z
    have hSm := hm.2.1
    have hR := hm.2.2.1
    have hw := (dW_Z z).2.2.2.2
    have e0 : J2 (C + 44) 40 = J (C + 11) 2 := (hw _ _ (by unfold kA; omega) (fun e => e)).trans (hal.1).symm
    have e1 : J2 (C + 44) 41 = J (C + 7) 3 := (hw _ _ (by unfold kA; omega) (fun e => e)).trans (hal.2.1).symm
    simp only [qL_629, qL_630, qL_631, qL_632, qL_633, qL_634, qL_635, qL_636, qL_637, qL_638, qL_639, qL_640, qL_641, qL_642, qL_644, qL_645, qL_646, qL_647, qL_648, qL_649, qL_650, qL_651, qL_654, qL_655, qL_656, as_nil, as_i, as_r, Nat.reduceAdd, Nat.reduceLeDiff, z_eq0, z_eq1, z_or, z_em, Classical.not_not, not_false_eq_true, not_true_eq_false, true_and, and_true, false_and, and_false, and_self, true_implies, false_implies, implies_true, Option.toList_some, Option.toList_none, List.cons_append, List.nil_append, Nat.add_eq_zero_iff, a_nl_i, a_nl_r, a_nl_n, true_or, or_true, eq_self, a_isRA_22, a_isRA_24, a_isRA_32, a_isA_20, hm.2.2.2.2, o1, o2, o3, o4, o5, o6, o7, m_0 hm.2.1, m_K hm.2.1]
    refine pe_feed hSm hR (rg_tapeMany hR) (fun r => ?_) (fun r1 r2 => ?_) (fun r1 r2 J3 m1 m2 m3 m4 => ?_)
    · intros
      simp only [qL_659, qL_660, as_nil, as_i, as_r, Nat.reduceAdd, Nat.reduceLeDiff, z_eq0, z_eq1, z_or, z_em, Classical.not_not, not_false_eq_true, not_true_eq_false, true_and, and_true, false_and, and_false, and_self, true_implies, false_implies, implies_true, Option.toList_some, Option.toList_none, List.cons_append, List.nil_append, Nat.add_eq_zero_iff, a_nl_i, a_nl_r, a_nl_n, true_or, or_true, eq_self, a_isRA_22, a_isRA_24, a_isRA_32, a_isA_20]
      exact hn _ _ _ _ _ _ (lawI_r hm ha2)
    · exfalso
      (try clear hT4); (try clear hx); (try clear hb); (try clear hc); (try clear h0); (try clear h1); (try clear h2); (try clear hn); (try clear hm); (try clear ha2); (try clear ha3); (try clear z); (try clear g); (try clear w); (try clear f); (try clear h); (try clear hal); (try clear hSm); (try clear hR); (try clear hS); (try clear hC); (try clear o1); (try clear o2); (try clear o3); (try clear o4); (try clear o5); (try clear o6); (try clear o7); (try clear kb); (try clear hw)
      grind
    · exfalso
      (try clear hT4); (try clear hx); (try clear hb); (try clear hc); (try clear h0); (try clear h1); (try clear h2); (try clear hn); (try clear hm); (try clear ha2); (try clear ha3); (try clear z); (try clear g); (try clear w); (try clear f); (try clear h); (try clear hal); (try clear hSm); (try clear hR); (try clear hS); (try clear hC); (try clear o1); (try clear o2); (try clear o3); (try clear o4); (try clear o5); (try clear o6); (try clear o7); (try clear kb); (try clear hw)
      grind
  · have hm := lawM_of hb h (cH_le z.2.1 (by omega)) (dS_W (dW_Z z) (fun _ _ _ _ e => e))
    have ha2 := AL_Z hal z
    have hSm := hm.2.1
    have hR := hm.2.2.1
    have hw := (dW_Z z).2.2.2.2
    have e0 : J2 (C + 44) 40 = J (C + 11) 2 := (hw _ _ (by unfold kA; omega) (fun e => e)).trans (hal.1).symm
    have e1 : J2 (C + 44) 41 = J (C + 7) 3 := (hw _ _ (by unfold kA; omega) (fun e => e)).trans (hal.2.1).symm
    simp only [qL_629, qL_630, qL_631, qL_632, qL_633, qL_634, qL_635, qL_636, qL_637, qL_638, qL_639, qL_640, qL_641, qL_642, qL_644, qL_645, qL_646, qL_647, qL_648, qL_649, qL_650, qL_651, qL_654, qL_655, qL_656, as_nil, as_i, as_r, Nat.reduceAdd, Nat.reduceLeDiff, z_eq0, z_eq1, z_or, z_em, Classical.not_not, not_false_eq_true, not_true_eq_false, true_and, and_true, false_and, and_false, and_self, true_implies, false_implies, implies_true, Option.toList_some, Option.toList_none, List.cons_append, List.nil_append, Nat.add_eq_zero_iff, a_nl_i, a_nl_r, a_nl_n, true_or, or_true, eq_self, a_isRA_22, a_isRA_24, a_isRA_32, a_isA_20, hm.2.2.2.2, o1, o2, o3, o4, o5, o6, o7, m_0 hm.2.1, m_K hm.2.1]
    refine pe_feed hSm hR (rg_tapeMany hR) (fun r => ?_) (fun r1 r2 => ?_) (fun r1 r2 J3 m1 m2 m3 m4 => ?_)
    · exfalso
      (try clear hT4); (try clear hx); (try clear hb); (try clear hc); (try clear h0); (try clear h1); (try clear h2); (try clear hn); (try clear hm); (try clear ha2); (try clear ha3); (try clear z); (try clear g); (try clear w); (try clear f); (try clear h); (try clear hal); (try clear hSm); (try clear hR); (try clear hS); (try clear hC); (try clear o1); (try clear o2); (try clear o3); (try clear o4); (try clear o5); (try clear o6); (try clear o7); (try clear kb); (try clear hw)
      grind
    · intros
      simp only [qL_659, qL_660, as_nil, as_i, as_r, Nat.reduceAdd, Nat.reduceLeDiff, z_eq0, z_eq1, z_or, z_em, Classical.not_not, not_false_eq_true, not_true_eq_false, true_and, and_true, false_and, and_false, and_self, true_implies, false_implies, implies_true, Option.toList_some, Option.toList_none, List.cons_append, List.nil_append, Nat.add_eq_zero_iff, a_nl_i, a_nl_r, a_nl_n, true_or, or_true, eq_self, a_isRA_22, a_isRA_24, a_isRA_32, a_isA_20]
      exact hn _ _ _ _ _ _ (lawI_r hm ha2)
    · exfalso
      (try clear hT4); (try clear hx); (try clear hb); (try clear hc); (try clear h0); (try clear h1); (try clear h2); (try clear hn); (try clear hm); (try clear ha2); (try clear ha3); (try clear z); (try clear g); (try clear w); (try clear f); (try clear h); (try clear hal); (try clear hSm); (try clear hR); (try clear hS); (try clear hC); (try clear o1); (try clear o2); (try clear o3); (try clear o4); (try clear o5); (try clear o6); (try clear o7); (try clear kb); (try clear hw)
      grind
  · have hm := lawM_of hb h (cH_le (cH_J h.1 g) (by omega)) (dS_J (fun x j p q => f x j (by omega) (by omega)))
    have hSm := hm.2.1
    have hR := hm.2.2.1
    have e0 : J2 (C + 44) 40 = J (C + 11) 2 := (f _ _ (by omega) (by omega)).trans hal.1.symm
    simp only [qL_629, qL_630, qL_631, qL_632, qL_633, qL_634, qL_635, qL_636, qL_637, qL_638, qL_639, qL_640, qL_641, qL_642, qL_644, qL_645, qL_646, qL_647, qL_648, qL_649, qL_650, qL_651, qL_654, qL_655, qL_656, as_nil, as_i, as_r, Nat.reduceAdd, Nat.reduceLeDiff, z_eq0, z_eq1, z_or, z_em, Classical.not_not, not_false_eq_true, not_true_eq_false, true_and, and_true, false_and, and_false, and_self, true_implies, false_implies, implies_true, Option.toList_some, Option.toList_none, List.cons_append, List.nil_append, Nat.add_eq_zero_iff, a_nl_i, a_nl_r, a_nl_n, true_or, or_true, eq_self, a_isRA_22, a_isRA_24, a_isRA_32, a_isA_20, hm.2.2.2.2, o1, o2, o3, o4, o5, o6, o7, m_0 hm.2.1, m_K hm.2.1]
    refine pe_feed hSm hR (rg_tapeMany hR) (fun r => ?_) (fun r1 r2 => ?_) (fun r1 r2 J3 m1 m2 m3 m4 => ?_)
    · exfalso
      clear f e5 e6
      (try clear hT4); (try clear hx); (try clear hb); (try clear hc); (try clear h0); (try clear h1); (try clear h2); (try clear hn); (try clear hm); (try clear ha2); (try clear ha3); (try clear z); (try clear g); (try clear w); (try clear f); (try clear h); (try clear hal); (try clear hSm); (try clear hR); (try clear hS); (try clear hC); (try clear o1); (try clear o2); (try clear o3); (try clear o4); (try clear o5); (try clear o6); (try clear o7); (try clear kb); (try clear hw)
      grind
    · exfalso
      clear f e5 e6
      (try clear hT4); (try clear hx); (try clear hb); (try clear hc); (try clear h0); (try clear h1); (try clear h2); (try clear hn); (try clear hm); (try clear ha2); (try clear ha3); (try clear z); (try clear g); (try clear w); (try clear f); (try clear h); (try clear hal); (try clear hSm); (try clear hR); (try clear hS); (try clear hC); (try clear o1); (try clear o2); (try clear o3); (try clear o4); (try clear o5); (try clear o6); (try clear o7); (try clear kb); (try clear hw)
      grind
    · have hA3 : aLk C (n + 1) K J3 R := by
        rw [e0] at m3 m4
        refine ⟨?_, ?_, fun j => ?_, aT_gr hal.2.2.2 (Nat.le_refl _) (fun _ _ => rfl) (fun _ => rfl) ((m2 _ _ (by omega) (by omega)).trans (f _ _ (by omega) (by omega))) (fun i => (m2 _ _ (by omega) (by omega)).trans (f _ _ (by omega) (by omega))) (fun x q1 q2 q3 => (m2 _ _ (by omega) (by omega)).trans (f _ _ (by omega) (by omega)))⟩
        · rw [m2 _ _ (by omega) (by omega), e5, m3]
        · rw [m2 _ _ (by omega) (by omega), m2 _ _ (by omega) (by omega), f _ _ (by omega) (by omega), f _ _ (by omega) (by omega)]
          exact hal.2.1
        · rw [m2 _ _ (by omega) (by omega), e6, m4, f (C + 44 + 27) _ (by omega) (by omega), hal.2.2.1]
      have hfin := hn _ _ _ _ _ _ (lawI_E hm m1 (m2 _ _ (by omega) (by omega)) (fun x j p => m2 _ _ (by omega) (by omega)) hA3)
      have ev : J (C + 11) 2 + sx (i + 1).toNatClampNeg = J2 (C + 44) 40 + sx (i + 1).toNatClampNeg := by rw [e0]
      simp only [qL_659, qL_660, as_nil, as_i, as_r, Nat.reduceAdd, Nat.reduceLeDiff, z_eq0, z_eq1, z_or, z_em, Classical.not_not, not_false_eq_true, not_true_eq_false, true_and, and_true, false_and, and_false, and_self, true_implies, false_implies, implies_true, Option.toList_some, Option.toList_none, List.cons_append, List.nil_append, Nat.add_eq_zero_iff, a_nl_i, a_nl_r, a_nl_n, true_or, or_true, eq_self, a_isRA_22, a_isRA_24, a_isRA_32, a_isA_20]
      first
        | exact hfin
        | exact ⟨fun _ => hfin, fun q9 => absurd ev q9⟩
theorem lc_text (hb : b < C) (h : lawI b C c n t K L J R) (hc : 120 * c + 130 ≤ 84000) {i : Int32} (h0 : 0 ≤ i) (h1 : i.toInt + 8 ≤ sL) (h2 : sL ≤ 4096) (hn : ∀ n t K L J R, lawI b C (c + 1) n t K L J R → a_at 700 (lx b sL sx) 1547 [some (.ref b), some (a_rf C), some (a_rf (C + 44)), some (.int i)] [] (n + 1, t, K, L, J, R) P) : a_at 700 (lx b sL sx) 663 [some (.ref b), some (a_rf C), some (a_rf (C + 44)), some (.int i)] [] (n + 1, t, K, L, J, R) P := by
  have hS := h.1.1.s
  have kb := h.2.2.2.2.1
  have hal := h.2.2.2.2.2
  have o1 : a_ok (i + 1) sL := a_ok8 h0 h1 h2 (by decide)
  have o2 : a_ok (i + 2) sL := a_ok8 h0 h1 h2 (by decide)
  have o3 : a_ok (i + 3) sL := a_ok8 h0 h1 h2 (by decide)
  have o4 : a_ok (i + 4) sL := a_ok8 h0 h1 h2 (by decide)
  have o5 : a_ok (i + 5) sL := a_ok8 h0 h1 h2 (by decide)
  have o6 : a_ok (i + 6) sL := a_ok8 h0 h1 h2 (by decide)
  have o7 : a_ok (i + 7) sL := a_ok8 h0 h1 h2 (by decide)
  simp only [qL_663, qL_664, qL_665, qL_666, qL_667, qL_668, qL_669, as_nil, as_i, as_r, Nat.reduceAdd, Nat.reduceLeDiff, z_eq0, z_eq1, z_or, z_em, Classical.not_not, not_false_eq_true, not_true_eq_false, true_and, and_true, false_and, and_false, and_self, true_implies, false_implies, implies_true, Option.toList_some, Option.toList_none, List.cons_append, List.nil_append, Nat.add_eq_zero_iff, a_nl_i, a_nl_r, a_nl_n, true_or, or_true, eq_self, a_isRA_22, a_isRA_24, a_isRA_32, a_isA_20, kb, o1, o2, o3, o4, o5, o6, o7, k_0 hS, z_C hS]
  have gt0 := h.1.1.g_size
  have gt1 := h.1.1.g_texts
  generalize hx1 : sx (i + 1).toNatClampNeg = x1
  refine ke_text h.1 (fun q J2 z => ?_) (fun q1 q2 J2 z => ?_) (fun q1 q2 q3 J2 t1 g => ?_) (fun q1 q2 q3 n2 t2 K2 L2 J2 R2 z e7 q4 k11 e4 g => ?_)
  · have hm := lawM_of hb h (cH_le z.2.1 (by omega)) (dS_W (dW_Z z) (fun _ _ _ _ e => e))
    have ha2 := AL_Z hal z
    have hSm := hm.2.1
    have hR := hm.2.2.1
    have hw := (dW_Z z).2.2.2.2
    have e0 : J2 (C + 44) 40 = J (C + 11) 2 := (hw _ _ (by unfold kA; omega) (fun e => e)).trans (hal.1).symm
    have e1 : J2 (C + 44) 41 = J (C + 7) 3 := (hw _ _ (by unfold kA; omega) (fun e => e)).trans (hal.2.1).symm
    simp only [hx1, qL_672, qL_673, qL_674, qL_675, qL_676, qL_677, qL_678, qL_679, as_nil, as_i, as_r, Nat.reduceAdd, Nat.reduceLeDiff, z_eq0, z_eq1, z_or, z_em, Classical.not_not, not_false_eq_true, not_true_eq_false, true_and, and_true, false_and, and_false, and_self, true_implies, false_implies, implies_true, Option.toList_some, Option.toList_none, List.cons_append, List.nil_append, Nat.add_eq_zero_iff, a_nl_i, a_nl_r, a_nl_n, true_or, or_true, eq_self, a_isRA_22, a_isRA_24, a_isRA_32, a_isA_20, hm.2.2.2.2, o1, o2, o3, o4, o5, o6, o7, m_0 hm.2.1, m_K hm.2.1]
    refine pe_text hSm hR (fun r => ?_) (fun r1 r2 => ?_) (fun r1 r2 r3 J3 m1 m2 m3 m4 m5 => ?_) (fun r1 r2 r3 J3 m1 m2 m3 m4 m5 m6 m7 m8 => ?_)
    · intros
      simp only [qL_682, qL_683, as_nil, as_i, as_r, Nat.reduceAdd, Nat.reduceLeDiff, z_eq0, z_eq1, z_or, z_em, Classical.not_not, not_false_eq_true, not_true_eq_false, true_and, and_true, false_and, and_false, and_self, true_implies, false_implies, implies_true, Option.toList_some, Option.toList_none, List.cons_append, List.nil_append, Nat.add_eq_zero_iff, a_nl_i, a_nl_r, a_nl_n, true_or, or_true, eq_self, a_isRA_22, a_isRA_24, a_isRA_32, a_isA_20]
      exact hn _ _ _ _ _ _ (lawI_r hm ha2)
    · exfalso
      (try clear hT4); (try clear hx); (try clear hb); (try clear hc); (try clear h0); (try clear h1); (try clear h2); (try clear hn); (try clear hm); (try clear ha2); (try clear ha3); (try clear z); (try clear g); (try clear w); (try clear f); (try clear h); (try clear hal); (try clear hSm); (try clear hR); (try clear hS); (try clear hC); (try clear o1); (try clear o2); (try clear o3); (try clear o4); (try clear o5); (try clear o6); (try clear o7); (try clear kb); (try clear hw)
      grind
    · exfalso
      (try clear hT4); (try clear hx); (try clear hb); (try clear hc); (try clear h0); (try clear h1); (try clear h2); (try clear hn); (try clear hm); (try clear ha2); (try clear ha3); (try clear z); (try clear g); (try clear w); (try clear f); (try clear h); (try clear hal); (try clear hSm); (try clear hR); (try clear hS); (try clear hC); (try clear o1); (try clear o2); (try clear o3); (try clear o4); (try clear o5); (try clear o6); (try clear o7); (try clear kb); (try clear hw)
      grind
    · exfalso
      (try clear hT4); (try clear hx); (try clear hb); (try clear hc); (try clear h0); (try clear h1); (try clear h2); (try clear hn); (try clear hm); (try clear ha2); (try clear ha3); (try clear z); (try clear g); (try clear w); (try clear f); (try clear h); (try clear hal); (try clear hSm); (try clear hR); (try clear hS); (try clear hC); (try clear o1); (try clear o2); (try clear o3); (try clear o4); (try clear o5); (try clear o6); (try clear o7); (try clear kb); (try clear hw)
      grind
  · have hm := lawM_of hb h (cH_le z.2.1 (by omega)) (dS_W (dW_Z z) (fun _ _ _ _ e => e))
    have ha2 := AL_Z hal z
    have hSm := hm.2.1
    have hR := hm.2.2.1
    have hw := (dW_Z z).2.2.2.2
    have e0 : J2 (C + 44) 40 = J (C + 11) 2 := (hw _ _ (by unfold kA; omega) (fun e => e)).trans (hal.1).symm
    have e1 : J2 (C + 44) 41 = J (C + 7) 3 := (hw _ _ (by unfold kA; omega) (fun e => e)).trans (hal.2.1).symm
    simp only [hx1, qL_672, qL_673, qL_674, qL_675, qL_676, qL_677, qL_678, qL_679, as_nil, as_i, as_r, Nat.reduceAdd, Nat.reduceLeDiff, z_eq0, z_eq1, z_or, z_em, Classical.not_not, not_false_eq_true, not_true_eq_false, true_and, and_true, false_and, and_false, and_self, true_implies, false_implies, implies_true, Option.toList_some, Option.toList_none, List.cons_append, List.nil_append, Nat.add_eq_zero_iff, a_nl_i, a_nl_r, a_nl_n, true_or, or_true, eq_self, a_isRA_22, a_isRA_24, a_isRA_32, a_isA_20, hm.2.2.2.2, o1, o2, o3, o4, o5, o6, o7, m_0 hm.2.1, m_K hm.2.1]
    refine pe_text hSm hR (fun r => ?_) (fun r1 r2 => ?_) (fun r1 r2 r3 J3 m1 m2 m3 m4 m5 => ?_) (fun r1 r2 r3 J3 m1 m2 m3 m4 m5 m6 m7 m8 => ?_)
    · exfalso
      (try clear hT4); (try clear hx); (try clear hb); (try clear hc); (try clear h0); (try clear h1); (try clear h2); (try clear hn); (try clear hm); (try clear ha2); (try clear ha3); (try clear z); (try clear g); (try clear w); (try clear f); (try clear h); (try clear hal); (try clear hSm); (try clear hR); (try clear hS); (try clear hC); (try clear o1); (try clear o2); (try clear o3); (try clear o4); (try clear o5); (try clear o6); (try clear o7); (try clear kb); (try clear hw)
      grind
    · intros
      simp only [qL_682, qL_683, as_nil, as_i, as_r, Nat.reduceAdd, Nat.reduceLeDiff, z_eq0, z_eq1, z_or, z_em, Classical.not_not, not_false_eq_true, not_true_eq_false, true_and, and_true, false_and, and_false, and_self, true_implies, false_implies, implies_true, Option.toList_some, Option.toList_none, List.cons_append, List.nil_append, Nat.add_eq_zero_iff, a_nl_i, a_nl_r, a_nl_n, true_or, or_true, eq_self, a_isRA_22, a_isRA_24, a_isRA_32, a_isA_20]
      exact hn _ _ _ _ _ _ (lawI_r hm ha2)
    · exfalso
      (try clear hT4); (try clear hx); (try clear hb); (try clear hc); (try clear h0); (try clear h1); (try clear h2); (try clear hn); (try clear hm); (try clear ha2); (try clear ha3); (try clear z); (try clear g); (try clear w); (try clear f); (try clear h); (try clear hal); (try clear hSm); (try clear hR); (try clear hS); (try clear hC); (try clear o1); (try clear o2); (try clear o3); (try clear o4); (try clear o5); (try clear o6); (try clear o7); (try clear kb); (try clear hw)
      grind
    · exfalso
      (try clear hT4); (try clear hx); (try clear hb); (try clear hc); (try clear h0); (try clear h1); (try clear h2); (try clear hn); (try clear hm); (try clear ha2); (try clear ha3); (try clear z); (try clear g); (try clear w); (try clear f); (try clear h); (try clear hal); (try clear hSm); (try clear hR); (try clear hS); (try clear hC); (try clear o1); (try clear o2); (try clear o3); (try clear o4); (try clear o5); (try clear o6); (try clear o7); (try clear kb); (try clear hw)
      grind
  · have f : ∀ x j, ¬ x = C + 13 → ¬ (x = C + 11 ∧ (j = 2 ∨ j = 3 ∨ j = 4)) → a_ui J2 (C + 11) 2 0 x j = J x j := fun x j p r => by rw [ui_ap, if_neg (by omega)]; exact t1.2 x j p (by omega)
    have hm := lawM_of hb h (cH_le (cH_J h.1 g) (by omega)) (dS_J (fun x j p q => f x j (by omega) (by omega)))
    have hSm := hm.2.1
    have hR := hm.2.2.1
    have sz : a_ui J2 (C + 11) 2 0 (C + 11) 2 = 0 := by rw [ui_ap, if_pos ⟨rfl, rfl⟩]
    generalize a_ui J2 (C + 11) 2 0 = J4 at f hm hR g sz ⊢
    have e0 : J4 (C + 44) 40 = J (C + 11) 2 := (f _ _ (by omega) (by omega)).trans hal.1.symm
    have e1 : J4 (C + 44) 41 = J (C + 7) 3 := (f _ _ (by omega) (by omega)).trans hal.2.1.symm
    have e2 : J4 (C + 44 + 27) = J (C + 12) := funext (fun j => (f _ _ (by omega) (by omega)).trans (hal.2.2.1 j).symm)
    simp only [hx1, qL_672, qL_673, qL_674, qL_675, qL_676, qL_677, qL_678, qL_679, as_nil, as_i, as_r, Nat.reduceAdd, Nat.reduceLeDiff, z_eq0, z_eq1, z_or, z_em, Classical.not_not, not_false_eq_true, not_true_eq_false, true_and, and_true, false_and, and_false, and_self, true_implies, false_implies, implies_true, Option.toList_some, Option.toList_none, List.cons_append, List.nil_append, Nat.add_eq_zero_iff, a_nl_i, a_nl_r, a_nl_n, true_or, or_true, eq_self, a_isRA_22, a_isRA_24, a_isRA_32, a_isA_20, hm.2.2.2.2, o1, o2, o3, o4, o5, o6, o7, m_0 hm.2.1, m_K hm.2.1]
    refine pe_text hSm hR (fun r => ?_) (fun r1 r2 => ?_) (fun r1 r2 r3 J3 m1 m2 m3 m4 m5 => ?_) (fun r1 r2 r3 J3 m1 m2 m3 m4 m5 m6 m7 m8 => ?_)
    · exact absurd q1 r
    · exfalso
      rw [e1] at r2
      clear f e2
      (try clear hT4); (try clear hx); (try clear hb); (try clear hc); (try clear h0); (try clear h1); (try clear h2); (try clear hn); (try clear hm); (try clear ha2); (try clear ha3); (try clear z); (try clear g); (try clear w); (try clear f); (try clear h); (try clear hal); (try clear hSm); (try clear hR); (try clear hS); (try clear hC); (try clear o1); (try clear o2); (try clear o3); (try clear o4); (try clear o5); (try clear o6); (try clear o7); (try clear kb); (try clear hw)
      grind
    · rw [e0, e2] at r3 ⊢
      have hA3 : aLk C (n + 1) K J3 R := by
        refine ⟨?_, ?_, fun j => ?_, aT_gr hal.2.2.2 (Nat.le_refl _) (fun _ _ => rfl) (fun _ => rfl) (by rw [(m2 _ _ (by unfold sC; omega) (by omega) (by omega) (by omega) (by omega) (by omega)), f _ _ (by omega) (by omega)]) (fun i => by rw [m5 _ _ (by omega), f _ _ (by omega) (by omega)]) (fun x q1 q2 q3 => by rw [(m2 _ _ (by unfold sC; omega) (by omega) (by omega) (by omega) (by omega) (by omega)), f _ _ (by omega) (by omega)])⟩
        · rw [m2 _ _ (by unfold sC; omega) (by omega) (by omega) (by omega) (by omega) (by omega), sz, m3]
        · rw [m2 _ _ (by unfold sC; omega) (by omega) (by omega) (by omega) (by omega) (by omega), m4, e1, f _ _ (by omega) (by omega)]
        · rw [m2 _ _ (by unfold sC; omega) (by omega) (by omega) (by omega) (by omega) (by omega), m2 (C + 44 + 27) _ (by unfold sC; omega) (by omega) (by omega) (by omega) (by omega) (by omega), f _ _ (by omega) (by omega), e2]
      have hfin := hn _ _ _ _ _ _ (lawI_E hm m1 (m2 _ _ (by unfold sC; omega) (by omega) (by omega) (by omega) (by omega) (by omega)) (fun x j p => m2 _ _ (by unfold sC; omega) (by omega) (by omega) (by omega) (by omega) (by omega)) hA3)
      have ev : -20 - (xT (J (C + 12)) (J (C + 11) 2)).2.1 = -20 - (xT (J (C + 12)) (J (C + 11) 2)).2.1 := rfl
      simp only [qL_682, qL_683, as_nil, as_i, as_r, Nat.reduceAdd, Nat.reduceLeDiff, z_eq0, z_eq1, z_or, z_em, Classical.not_not, not_false_eq_true, not_true_eq_false, true_and, and_true, false_and, and_false, and_self, true_implies, false_implies, implies_true, Option.toList_some, Option.toList_none, List.cons_append, List.nil_append, Nat.add_eq_zero_iff, a_nl_i, a_nl_r, a_nl_n, true_or, or_true, eq_self, a_isRA_22, a_isRA_24, a_isRA_32, a_isA_20]
      first
        | exact hfin
        | exact ⟨fun _ => hfin, fun q9 => absurd ev q9⟩
    · exfalso
      rw [e0, e2, q3] at r3
      exact absurd r3 (by decide)
  · have zf := z.2.2.2.2.2.2
    have hC := h.1.2.2.1
    have f : ∀ x j, eD C K x j → ¬ (x = C + 7 ∧ j = 3) → ¬ (x = C + 11 ∧ j = 2) → x < n + 1 → a_ui (a_ui J2 (C + 7) 3 (J (C + 7) 3 + 1)) (C + 11) 2 0 x j = J x j := fun x j p r1 r2 hx => by rw [ui_ap, if_neg r2, ui_ap, if_neg r1]; exact zf x j p hx
    have hm := lawM_of hb h (cH_le g (by omega)) ⟨z.2.2.1, z.2.2.2.1, z.2.2.2.2.1, fun x j p q => by rw [ur_ap, if_neg (by omega)]; exact z.2.2.2.2.2.1 x j (Or.inr p) q, fun x j p q => f x j (by unfold eD; omega) (by omega) (by omega) (by omega)⟩
    have hSm := hm.2.1
    have hR := hm.2.2.1
    have sz : a_ui (a_ui J2 (C + 7) 3 (J (C + 7) 3 + 1)) (C + 11) 2 0 (C + 11) 2 = 0 := by rw [ui_ap, if_pos ⟨rfl, rfl⟩]
    have cz : a_ui (a_ui J2 (C + 7) 3 (J (C + 7) 3 + 1)) (C + 11) 2 0 (C + 7) 3 = J (C + 7) 3 + 1 := by rw [ui_ap, if_neg (by omega), ui_ap, if_pos ⟨rfl, rfl⟩]
    have e4' : a_ui (a_ui J2 (C + 7) 3 (J (C + 7) 3 + 1)) (C + 11) 2 0 n2 4 = 0 := by rw [ui_ap, if_neg (by omega), ui_ap, if_neg (by omega)]; exact e4
    have rz : ∀ i, a_ur R2 (C + 8) (J (C + 7) 3).toNatClampNeg n2 (C + 8) i = if i = (J (C + 7) 3).toNatClampNeg then n2 else R (C + 8) i := fun i => by
      rw [ur_ap]
      by_cases e : i = (J (C + 7) 3).toNatClampNeg
      · rw [if_pos ⟨rfl, e⟩, if_pos e]
      · rw [if_neg (fun q => e q.2), if_neg e]
        exact z.2.2.2.2.2.1 _ _ (Or.inl rfl) (by omega)
    have kz := z.2.2.2.1
    generalize a_ui (a_ui J2 (C + 7) 3 (J (C + 7) 3 + 1)) (C + 11) 2 0 = J4 at f hm hR g sz cz e4' ⊢
    generalize a_ur R2 (C + 8) (J (C + 7) 3).toNatClampNeg n2 = R3 at hm hSm g rz ⊢
    have e0 : J4 (C + 44) 40 = J (C + 11) 2 := (f _ _ (by unfold eD; omega) (by omega) (by omega) (by omega)).trans hal.1.symm
    have e1 : J4 (C + 44) 41 = J (C + 7) 3 := (f _ _ (by unfold eD; omega) (by omega) (by omega) (by omega)).trans hal.2.1.symm
    have e2 : J4 (C + 44 + 27) = J (C + 12) := funext (fun j => (f _ _ (by unfold eD; omega) (by omega) (by omega) (by omega)).trans (hal.2.2.1 j).symm)
    simp only [hx1, qL_672, qL_673, qL_674, qL_675, qL_676, qL_677, qL_678, qL_679, as_nil, as_i, as_r, Nat.reduceAdd, Nat.reduceLeDiff, z_eq0, z_eq1, z_or, z_em, Classical.not_not, not_false_eq_true, not_true_eq_false, true_and, and_true, false_and, and_false, and_self, true_implies, false_implies, implies_true, Option.toList_some, Option.toList_none, List.cons_append, List.nil_append, Nat.add_eq_zero_iff, a_nl_i, a_nl_r, a_nl_n, true_or, or_true, eq_self, a_isRA_22, a_isRA_24, a_isRA_32, a_isA_20, hm.2.2.2.2, o1, o2, o3, o4, o5, o6, o7, m_0 hm.2.1, m_K hm.2.1]
    refine pe_text hSm hR (fun r => ?_) (fun r1 r2 => ?_) (fun r1 r2 r3 J3 m1 m2 m3 m4 m5 => ?_) (fun r1 r2 r3 J3 m1 m2 m3 m4 m5 m6 m7 m8 => ?_)
    · exact absurd q1 r
    · exfalso
      rw [e1] at r2
      clear f e2 zf
      (try clear hT4); (try clear hx); (try clear hb); (try clear hc); (try clear h0); (try clear h1); (try clear h2); (try clear hn); (try clear hm); (try clear ha2); (try clear ha3); (try clear z); (try clear g); (try clear w); (try clear f); (try clear h); (try clear hal); (try clear hSm); (try clear hR); (try clear hS); (try clear hC); (try clear o1); (try clear o2); (try clear o3); (try clear o4); (try clear o5); (try clear o6); (try clear o7); (try clear kb); (try clear hw)
      grind
    · exfalso
      rw [e0, e2, q3] at r3
      exact absurd r3 (by decide)
    · have hT4 := hal.2.2.2
      have hup : (J (C + 7) 3 + 1).toNatClampNeg = (J (C + 7) 3).toNatClampNeg + 1 := cl_up gt1.1 (by
        rw [e1] at r2
        clear f e2 zf m2 m5 m6 m7 m8 rz kz
        (try clear hT4); (try clear hx); (try clear hb); (try clear hc); (try clear h0); (try clear h1); (try clear h2); (try clear hn); (try clear hm); (try clear ha2); (try clear ha3); (try clear z); (try clear g); (try clear w); (try clear f); (try clear h); (try clear hal); (try clear hSm); (try clear hR); (try clear hS); (try clear hC); (try clear o1); (try clear o2); (try clear o3); (try clear o4); (try clear o5); (try clear o6); (try clear o7); (try clear kb); (try clear hw)
        grind)
      have c3 : J3 (C + 7) 3 = J (C + 7) 3 + 1 := by rw [m2 (C + 7) 3 (by unfold sC; omega) (by omega) (by omega) (by omega) (by omega) (by omega), cz]
      have x3 : ∀ x, x < n + 1 → C + 96 < x → K x = 11 → J3 x 4 = J x 4 := fun x a1 a2 a3 => by rw [m2 x 4 (by unfold sC; omega) (by omega) (by omega) (by omega) (by omega) (by omega), f _ _ (by unfold eD; omega) (by omega) (by omega) a1]
      have s3 : ∀ i, J3 (C + 44 + 31) i = if i = (J (C + 7) 3).toNatClampNeg then 1000000 else J (C + 44 + 31) i := fun i => by rw [m8, e1, f _ _ (by unfold eD; omega) (by omega) (by omega) (by omega)]
      have hA3 : aLk C (n2 + 1) K2 J3 R3 := by
        refine ⟨?_, ?_, fun j => ?_, ?_⟩
        · rw [m2 _ _ (by unfold sC; omega) (by omega) (by omega) (by omega) (by omega) (by omega), sz, m3]
        · rw [m2 _ _ (by unfold sC; omega) (by omega) (by omega) (by omega) (by omega) (by omega), m4, e1, cz]
        · rw [m2 _ _ (by unfold sC; omega) (by omega) (by omega) (by omega) (by omega) (by omega), m2 (C + 44 + 27) _ (by unfold sC; omega) (by omega) (by omega) (by omega) (by omega) (by omega), f _ _ (by unfold eD; omega) (by omega) (by omega) (by omega), e2]
        · unfold aTx
          rw [c3, hup]
          refine ⟨fun i hi => ?_, fun i j hi hj he => ?_⟩
          · by_cases e : i = (J (C + 7) 3).toNatClampNeg
            · rw [rz, if_pos e, s3, if_pos e, m2 n2 4 (by unfold sC; omega) (by omega) (by omega) (by omega) (by omega) (by omega), e4']
              exact ⟨⟨by omega, by omega, k11⟩, by decide⟩
            · obtain ⟨⟨p1, p2, p3⟩, p4⟩ := hT4.1 i (by omega)
              rw [rz, if_neg e, s3, if_neg e, kz _ p2, x3 _ p2 p1 p3]
              exact ⟨⟨p1, by omega, p3⟩, p4⟩
          · rw [rz, rz] at he
            by_cases e : i = (J (C + 7) 3).toNatClampNeg
            · by_cases e9 : j = (J (C + 7) 3).toNatClampNeg
              · omega
              · rw [if_pos e, if_neg e9] at he
                have := (hT4.1 j (by omega)).1.2.1
                omega
            · by_cases e9 : j = (J (C + 7) 3).toNatClampNeg
              · rw [if_neg e, if_pos e9] at he
                have := (hT4.1 i (by omega)).1.2.1
                omega
              · rw [if_neg e, if_neg e9] at he
                exact hT4.2 i j (by omega) (by omega) he
      have hfin := hn _ _ _ _ _ _ (lawI_E hm m1 (m2 _ _ (by unfold sC; omega) (by omega) (by omega) (by omega) (by omega) (by omega)) (fun x j p => m2 _ _ (by unfold sC; omega) (by omega) (by omega) (by omega) (by omega) (by omega)) hA3)
      have ev : J (C + 7) 3 + 1 - 1 = J4 (C + 44) 41 + 1 - 1 := by rw [e1]
      simp only [qL_682, qL_683, as_nil, as_i, as_r, Nat.reduceAdd, Nat.reduceLeDiff, z_eq0, z_eq1, z_or, z_em, Classical.not_not, not_false_eq_true, not_true_eq_false, true_and, and_true, false_and, and_false, and_self, true_implies, false_implies, implies_true, Option.toList_some, Option.toList_none, List.cons_append, List.nil_append, Nat.add_eq_zero_iff, a_nl_i, a_nl_r, a_nl_n, true_or, or_true, eq_self, a_isRA_22, a_isRA_24, a_isRA_32, a_isA_20]
      first
        | exact hfin
        | exact ⟨fun _ => hfin, fun q9 => absurd ev q9⟩
theorem lc_strike (hb : b < C) (h : lawI b C c n t K L J R) (hc : 120 * c + 130 ≤ 84000) {i : Int32} (h0 : 0 ≤ i) (h1 : i.toInt + 8 ≤ sL) (h2 : sL ≤ 4096) (hn : ∀ n t K L J R, lawI b C (c + 1) n t K L J R → a_at 700 (lx b sL sx) 1547 [some (.ref b), some (a_rf C), some (a_rf (C + 44)), some (.int i)] [] (n + 1, t, K, L, J, R) P) : a_at 700 (lx b sL sx) 686 [some (.ref b), some (a_rf C), some (a_rf (C + 44)), some (.int i)] [] (n + 1, t, K, L, J, R) P := by
  have hS := h.1.1.s
  have kb := h.2.2.2.2.1
  have hal := h.2.2.2.2.2
  have o1 : a_ok (i + 1) sL := a_ok8 h0 h1 h2 (by decide)
  have o2 : a_ok (i + 2) sL := a_ok8 h0 h1 h2 (by decide)
  have o3 : a_ok (i + 3) sL := a_ok8 h0 h1 h2 (by decide)
  have o4 : a_ok (i + 4) sL := a_ok8 h0 h1 h2 (by decide)
  have o5 : a_ok (i + 5) sL := a_ok8 h0 h1 h2 (by decide)
  have o6 : a_ok (i + 6) sL := a_ok8 h0 h1 h2 (by decide)
  have o7 : a_ok (i + 7) sL := a_ok8 h0 h1 h2 (by decide)
  simp only [qL_686, qL_687, qL_688, qL_689, qL_690, qL_691, qL_692, qL_693, qL_694, qL_695, qL_696, qL_697, as_nil, as_i, as_r, Nat.reduceAdd, Nat.reduceLeDiff, z_eq0, z_eq1, z_or, z_em, Classical.not_not, not_false_eq_true, not_true_eq_false, true_and, and_true, false_and, and_false, and_self, true_implies, false_implies, implies_true, Option.toList_some, Option.toList_none, List.cons_append, List.nil_append, Nat.add_eq_zero_iff, a_nl_i, a_nl_r, a_nl_n, true_or, or_true, eq_self, a_isRA_22, a_isRA_24, a_isRA_32, a_isA_20, kb, o1, o2, o3, o4, o5, o6, o7, k_0 hS, z_C hS]
  have gt0 := h.1.1.g_size
  have gt1 := h.1.1.g_texts
  generalize hx1 : sx (i + 1).toNatClampNeg = x1
  generalize hx2 : sx (i + 2).toNatClampNeg = x2
  have hC := h.1.2.2.1
  have hT4 := hal.2.2.2
  have hx : 0 ≤ x1 → x1 < J (C + 7) 3 → ¬ (R (C + 8) x1.toNatClampNeg) = 0 := fun e1 e2 e3 => by
    have := (hT4.1 _ (cl_lt e1 e2)).1.1
    omega
  refine ke_strike h.1 hx (fun q J2 z => ?_) (fun q1 q2 J2 z => ?_) (fun q1 q2 g => ?_)
  · have hm := lawM_of hb h (cH_le z.2.1 (by omega)) (dS_W (dW_Z z) (fun _ _ _ _ e => e))
    have ha2 := AL_Z hal z
    have hSm := hm.2.1
    have hR := hm.2.2.1
    have hw := (dW_Z z).2.2.2.2
    have e0 : J2 (C + 44) 40 = J (C + 11) 2 := (hw _ _ (by unfold kA; omega) (fun e => e)).trans (hal.1).symm
    have e1 : J2 (C + 44) 41 = J (C + 7) 3 := (hw _ _ (by unfold kA; omega) (fun e => e)).trans (hal.2.1).symm
    simp only [hx1, hx2, qL_700, qL_701, qL_702, qL_703, qL_704, qL_705, qL_706, qL_707, qL_708, qL_709, qL_710, qL_711, as_nil, as_i, as_r, Nat.reduceAdd, Nat.reduceLeDiff, z_eq0, z_eq1, z_or, z_em, Classical.not_not, not_false_eq_true, not_true_eq_false, true_and, and_true, false_and, and_false, and_self, true_implies, false_implies, implies_true, Option.toList_some, Option.toList_none, List.cons_append, List.nil_append, Nat.add_eq_zero_iff, a_nl_i, a_nl_r, a_nl_n, true_or, or_true, eq_self, a_isRA_22, a_isRA_24, a_isRA_32, a_isA_20, hm.2.2.2.2, o1, o2, o3, o4, o5, o6, o7, m_0 hm.2.1, m_K hm.2.1]
    refine pe_strike hSm hR ?_ ?_ ?_
    · intros
      simp only [qL_714, qL_717, qL_718, as_nil, as_i, as_r, Nat.reduceAdd, Nat.reduceLeDiff, z_eq0, z_eq1, z_or, z_em, Classical.not_not, not_false_eq_true, not_true_eq_false, true_and, and_true, false_and, and_false, and_self, true_implies, false_implies, implies_true, Option.toList_some, Option.toList_none, List.cons_append, List.nil_append, Nat.add_eq_zero_iff, a_nl_i, a_nl_r, a_nl_n, true_or, or_true, eq_self, a_isRA_22, a_isRA_24, a_isRA_32, a_isA_20]
      first
        | exact hn _ _ _ _ _ _ (lawI_r hm ha2)
        | exact ⟨fun _ => hn _ _ _ _ _ _ (lawI_r hm ha2), fun q9 => absurd rfl q9⟩
    · intros
      exfalso
      (try clear hT4); (try clear hx); (try clear hb); (try clear hc); (try clear h0); (try clear h1); (try clear h2); (try clear hn); (try clear hm); (try clear ha2); (try clear ha3); (try clear z); (try clear g); (try clear w); (try clear f); (try clear h); (try clear hal); (try clear hSm); (try clear hR); (try clear hS); (try clear hC); (try clear o1); (try clear o2); (try clear o3); (try clear o4); (try clear o5); (try clear o6); (try clear o7); (try clear kb); (try clear hw)
      grind
    · intros
      exfalso
      (try clear hT4); (try clear hx); (try clear hb); (try clear hc); (try clear h0); (try clear h1); (try clear h2); (try clear hn); (try clear hm); (try clear ha2); (try clear ha3); (try clear z); (try clear g); (try clear w); (try clear f); (try clear h); (try clear hal); (try clear hSm); (try clear hR); (try clear hS); (try clear hC); (try clear o1); (try clear o2); (try clear o3); (try clear o4); (try clear o5); (try clear o6); (try clear o7); (try clear kb); (try clear hw)
      grind
  · have hm := lawM_of hb h (cH_le z.2.1 (by omega)) (dS_W (dW_Z z) (fun _ _ _ _ e => e))
    have ha2 := AL_Z hal z
    have hSm := hm.2.1
    have hR := hm.2.2.1
    have hw := (dW_Z z).2.2.2.2
    have e0 : J2 (C + 44) 40 = J (C + 11) 2 := (hw _ _ (by unfold kA; omega) (fun e => e)).trans (hal.1).symm
    have e1 : J2 (C + 44) 41 = J (C + 7) 3 := (hw _ _ (by unfold kA; omega) (fun e => e)).trans (hal.2.1).symm
    have h31 : J2 (C + 44 + 31) x1.toNatClampNeg < 1000000 := by
      rw [hw _ _ (by unfold kA; omega) (fun e => e)]
      exact (hT4.1 _ (cl_lt q1.1.1 q1.1.2)).2.mp q2
    simp only [hx1, hx2, qL_700, qL_701, qL_702, qL_703, qL_704, qL_705, qL_706, qL_707, qL_708, qL_709, qL_710, qL_711, as_nil, as_i, as_r, Nat.reduceAdd, Nat.reduceLeDiff, z_eq0, z_eq1, z_or, z_em, Classical.not_not, not_false_eq_true, not_true_eq_false, true_and, and_true, false_and, and_false, and_self, true_implies, false_implies, implies_true, Option.toList_some, Option.toList_none, List.cons_append, List.nil_append, Nat.add_eq_zero_iff, a_nl_i, a_nl_r, a_nl_n, true_or, or_true, eq_self, a_isRA_22, a_isRA_24, a_isRA_32, a_isA_20, hm.2.2.2.2, o1, o2, o3, o4, o5, o6, o7, m_0 hm.2.1, m_K hm.2.1]
    refine pe_strike hSm hR (fun r => ?_) (fun r1 r2 => ?_) (fun r1 r2 => ?_)
    · exfalso
      clear h31 q2
      (try clear hT4); (try clear hx); (try clear hb); (try clear hc); (try clear h0); (try clear h1); (try clear h2); (try clear hn); (try clear hm); (try clear ha2); (try clear ha3); (try clear z); (try clear g); (try clear w); (try clear f); (try clear h); (try clear hal); (try clear hSm); (try clear hR); (try clear hS); (try clear hC); (try clear o1); (try clear o2); (try clear o3); (try clear o4); (try clear o5); (try clear o6); (try clear o7); (try clear kb); (try clear hw)
      grind
    · simp only [qL_714, qL_717, qL_718, as_nil, as_i, as_r, Nat.reduceAdd, Nat.reduceLeDiff, z_eq0, z_eq1, z_or, z_em, Classical.not_not, not_false_eq_true, not_true_eq_false, true_and, and_true, false_and, and_false, and_self, true_implies, false_implies, implies_true, Option.toList_some, Option.toList_none, List.cons_append, List.nil_append, Nat.add_eq_zero_iff, a_nl_i, a_nl_r, a_nl_n, true_or, or_true, eq_self, a_isRA_22, a_isRA_24, a_isRA_32, a_isA_20]
      first
        | exact hn _ _ _ _ _ _ (lawI_r hm ha2)
        | exact ⟨fun _ => hn _ _ _ _ _ _ (lawI_r hm ha2), fun q9 => absurd rfl q9⟩
    · exact absurd h31 r2
  · have p := hT4.1 _ (cl_lt q1.1.1 q1.1.2)
    have nf : ∀ x j, ¬ x = (R (C + 8) x1.toNatClampNeg) → (a_ui (a_ui J (R (C + 8) x1.toNatClampNeg) 4 1) (R (C + 8) x1.toNatClampNeg) 3 x2) x j = J x j := fun x j e => by rw [ui_ap, if_neg (fun q => e q.1), ui_ap, if_neg (fun q => e q.1)]
    have p0 := p.1.1
    have hm := lawM_of hb h (cH_le (cH_J h.1 g) (by omega)) (dS_J (fun x j p2 q => nf x j (by omega)))
    have hSm := hm.2.1
    have hR := hm.2.2.1
    have e1 : (a_ui (a_ui J (R (C + 8) x1.toNatClampNeg) 4 1) (R (C + 8) x1.toNatClampNeg) 3 x2) (C + 44) 41 = J (C + 7) 3 := (nf _ _ (by omega)).trans hal.2.1.symm
    simp only [hx1, hx2, qL_700, qL_701, qL_702, qL_703, qL_704, qL_705, qL_706, qL_707, qL_708, qL_709, qL_710, qL_711, as_nil, as_i, as_r, Nat.reduceAdd, Nat.reduceLeDiff, z_eq0, z_eq1, z_or, z_em, Classical.not_not, not_false_eq_true, not_true_eq_false, true_and, and_true, false_and, and_false, and_self, true_implies, false_implies, implies_true, Option.toList_some, Option.toList_none, List.cons_append, List.nil_append, Nat.add_eq_zero_iff, a_nl_i, a_nl_r, a_nl_n, true_or, or_true, eq_self, a_isRA_22, a_isRA_24, a_isRA_32, a_isA_20, hm.2.2.2.2, o1, o2, o3, o4, o5, o6, o7, m_0 hm.2.1, m_K hm.2.1]
    refine pe_strike hSm hR (fun r => ?_) (fun r1 r2 => ?_) (fun r1 r2 => ?_)
    · exfalso
      rw [e1] at r
      clear nf p q2
      (try clear hT4); (try clear hx); (try clear hb); (try clear hc); (try clear h0); (try clear h1); (try clear h2); (try clear hn); (try clear hm); (try clear ha2); (try clear ha3); (try clear z); (try clear g); (try clear w); (try clear f); (try clear h); (try clear hal); (try clear hSm); (try clear hR); (try clear hS); (try clear hC); (try clear o1); (try clear o2); (try clear o3); (try clear o4); (try clear o5); (try clear o6); (try clear o7); (try clear kb); (try clear hw)
      grind
    · rw [nf _ _ (by omega)] at r2
      exact absurd q2 (p.2.mpr r2)
    · have j3 : ∀ x j, ¬ x = (R (C + 8) x1.toNatClampNeg) → ¬ x = C + 44 + 31 → (a_ui (a_ui (a_ui J (R (C + 8) x1.toNatClampNeg) 4 1) (R (C + 8) x1.toNatClampNeg) 3 x2) (C + 44 + 31) x1.toNatClampNeg x2) x j = J x j := fun x j w1 w2 => by rw [ui_ap, if_neg (fun q => w2 q.1)]; exact nf x j w1
      have hA3 : aLk C (n + 1) K (a_ui (a_ui (a_ui J (R (C + 8) x1.toNatClampNeg) 4 1) (R (C + 8) x1.toNatClampNeg) 3 x2) (C + 44 + 31) x1.toNatClampNeg x2) R := by
        refine ⟨?_, ?_, fun j => ?_, ?_⟩
        · rw [j3 _ _ (by omega) (by omega), j3 _ _ (by omega) (by omega)]
          exact hal.1
        · rw [j3 _ _ (by omega) (by omega), j3 _ _ (by omega) (by omega)]
          exact hal.2.1
        · rw [j3 _ _ (by omega) (by omega), j3 _ _ (by omega) (by omega)]
          exact hal.2.2.1 j
        · unfold aTx
          rw [j3 (C + 7) 3 (by omega) (by omega)]
          refine ⟨fun i hi => ?_, hT4.2⟩
          obtain ⟨p1, p4⟩ := hT4.1 i hi
          refine ⟨p1, ?_⟩
          by_cases e : i = x1.toNatClampNeg
          · rw [e, ui_ap, if_neg (by omega), ui_ap, if_neg (by omega), ui_ap, if_pos ⟨rfl, rfl⟩, ui_ap, if_pos ⟨rfl, rfl⟩]
            refine ⟨fun _ => ?_, fun _ => by decide⟩
            clear nf p p1 p4 j3 q2 r1 r2 e
            (try clear hT4); (try clear hx); (try clear hb); (try clear hc); (try clear h0); (try clear h1); (try clear h2); (try clear hn); (try clear hm); (try clear ha2); (try clear ha3); (try clear z); (try clear g); (try clear w); (try clear f); (try clear h); (try clear hal); (try clear hSm); (try clear hR); (try clear hS); (try clear hC); (try clear o1); (try clear o2); (try clear o3); (try clear o4); (try clear o5); (try clear o6); (try clear o7); (try clear kb); (try clear hw)
            grind
          · have p9 := p1.1
            rw [j3 _ 4 (fun e2 => e (hT4.2 i _ hi (cl_lt q1.1.1 q1.1.2) e2)) (by omega), ui_ap, if_neg (fun q => e q.2), nf _ _ (by omega)]
            exact p4
      have hfin := hn _ _ _ _ _ _ (lawI_E (J0 := (a_ui (a_ui (a_ui J (R (C + 8) x1.toNatClampNeg) 4 1) (R (C + 8) x1.toNatClampNeg) 3 x2) (C + 44 + 31) x1.toNatClampNeg x2)) hm (sR_struckFrom hR) (by rw [ui_ap, if_neg (by omega)]) (fun x j p => by rw [ui_ap, if_neg (by omega)]) hA3)
      simp only [qL_714, qL_717, qL_718, as_nil, as_i, as_r, Nat.reduceAdd, Nat.reduceLeDiff, z_eq0, z_eq1, z_or, z_em, Classical.not_not, not_false_eq_true, not_true_eq_false, true_and, and_true, false_and, and_false, and_self, true_implies, false_implies, implies_true, Option.toList_some, Option.toList_none, List.cons_append, List.nil_append, Nat.add_eq_zero_iff, a_nl_i, a_nl_r, a_nl_n, true_or, or_true, eq_self, a_isRA_22, a_isRA_24, a_isRA_32, a_isA_20]
      first
        | exact hfin
        | exact ⟨fun _ => hfin, fun q9 => absurd rfl q9⟩
theorem lc_barred (hb : b < C) (h : lawI b C c n t K L J R) (hc : 120 * c + 130 ≤ 84000) {i : Int32} (h0 : 0 ≤ i) (h1 : i.toInt + 8 ≤ sL) (h2 : sL ≤ 4096) (hn : ∀ n t K L J R, lawI b C (c + 1) n t K L J R → a_at 700 (lx b sL sx) 1547 [some (.ref b), some (a_rf C), some (a_rf (C + 44)), some (.int i)] [] (n + 1, t, K, L, J, R) P) : a_at 700 (lx b sL sx) 719 [some (.ref b), some (a_rf C), some (a_rf (C + 44)), some (.int i)] [] (n + 1, t, K, L, J, R) P := by
  have hS := h.1.1.s
  have kb := h.2.2.2.2.1
  have hal := h.2.2.2.2.2
  have o1 : a_ok (i + 1) sL := a_ok8 h0 h1 h2 (by decide)
  have o2 : a_ok (i + 2) sL := a_ok8 h0 h1 h2 (by decide)
  have o3 : a_ok (i + 3) sL := a_ok8 h0 h1 h2 (by decide)
  have o4 : a_ok (i + 4) sL := a_ok8 h0 h1 h2 (by decide)
  have o5 : a_ok (i + 5) sL := a_ok8 h0 h1 h2 (by decide)
  have o6 : a_ok (i + 6) sL := a_ok8 h0 h1 h2 (by decide)
  have o7 : a_ok (i + 7) sL := a_ok8 h0 h1 h2 (by decide)
  simp only [qL_719, qL_720, qL_721, qL_722, qL_723, qL_724, qL_725, qL_726, qL_727, qL_728, qL_729, qL_730, qL_731, qL_732, qL_733, qL_734, qL_735, qL_736, qL_737, qL_738, qL_739, qL_740, as_nil, as_i, as_r, Nat.reduceAdd, Nat.reduceLeDiff, z_eq0, z_eq1, z_or, z_em, Classical.not_not, not_false_eq_true, not_true_eq_false, true_and, and_true, false_and, and_false, and_self, true_implies, false_implies, implies_true, Option.toList_some, Option.toList_none, List.cons_append, List.nil_append, Nat.add_eq_zero_iff, a_nl_i, a_nl_r, a_nl_n, true_or, or_true, eq_self, a_isRA_22, a_isRA_24, a_isRA_32, a_isA_20, kb, o1, o2, o3, o4, o5, o6, o7, k_0 hS, z_C hS]
  refine cu_barred h.1 (fun v n2 t2 K2 L2 J2 R2 z => ?_)
  have hm := lawM_of hb h (cH_le z.2.1 (by omega)) (dS_W (dW_Z z) (fun _ _ _ _ e => e))
  have ha2 := AL_Z hal z
  simp only [qL_743, qL_744, qL_745, qL_746, qL_747, qL_748, qL_749, qL_750, qL_751, qL_752, qL_753, qL_754, qL_755, qL_756, qL_757, qL_758, qL_759, qL_760, qL_761, qL_762, qL_763, qL_764, qL_765, as_nil, as_i, as_r, Nat.reduceAdd, Nat.reduceLeDiff, z_eq0, z_eq1, z_or, z_em, Classical.not_not, not_false_eq_true, not_true_eq_false, true_and, and_true, false_and, and_false, and_self, true_implies, false_implies, implies_true, Option.toList_some, Option.toList_none, List.cons_append, List.nil_append, Nat.add_eq_zero_iff, a_nl_i, a_nl_r, a_nl_n, true_or, or_true, eq_self, a_isRA_22, a_isRA_24, a_isRA_32, a_isA_20, hm.2.2.2.2, o1, o2, o3, o4, o5, o6, o7, m_0 hm.2.1, m_K hm.2.1]
  refine pu_barred hm.2.1 ⟨mG_refl hm.2.2.1, hm.2.2.2.1⟩ hc (fun v2 J3 g => ?_)
  simp only [qL_768, qL_769, as_nil, as_i, as_r, Nat.reduceAdd, Nat.reduceLeDiff, z_eq0, z_eq1, z_or, z_em, Classical.not_not, not_false_eq_true, not_true_eq_false, true_and, and_true, false_and, and_false, and_self, true_implies, false_implies, implies_true, Option.toList_some, Option.toList_none, List.cons_append, List.nil_append, Nat.add_eq_zero_iff, a_nl_i, a_nl_r, a_nl_n, true_or, or_true, eq_self, a_isRA_22, a_isRA_24, a_isRA_32, a_isA_20]
  exact hn _ _ _ _ _ _ (lawI_F hm ha2 g)
theorem lc_kin (hb : b < C) (h : lawI b C c n t K L J R) (hc : 120 * c + 130 ≤ 84000) {i : Int32} (h0 : 0 ≤ i) (h1 : i.toInt + 8 ≤ sL) (h2 : sL ≤ 4096) (hn : ∀ n t K L J R, lawI b C (c + 1) n t K L J R → a_at 700 (lx b sL sx) 1547 [some (.ref b), some (a_rf C), some (a_rf (C + 44)), some (.int i)] [] (n + 1, t, K, L, J, R) P) : a_at 700 (lx b sL sx) 772 [some (.ref b), some (a_rf C), some (a_rf (C + 44)), some (.int i)] [] (n + 1, t, K, L, J, R) P := by
  have hS := h.1.1.s
  have kb := h.2.2.2.2.1
  have hal := h.2.2.2.2.2
  have o1 : a_ok (i + 1) sL := a_ok8 h0 h1 h2 (by decide)
  have o2 : a_ok (i + 2) sL := a_ok8 h0 h1 h2 (by decide)
  have o3 : a_ok (i + 3) sL := a_ok8 h0 h1 h2 (by decide)
  have o4 : a_ok (i + 4) sL := a_ok8 h0 h1 h2 (by decide)
  have o5 : a_ok (i + 5) sL := a_ok8 h0 h1 h2 (by decide)
  have o6 : a_ok (i + 6) sL := a_ok8 h0 h1 h2 (by decide)
  have o7 : a_ok (i + 7) sL := a_ok8 h0 h1 h2 (by decide)
  simp only [qL_772, qL_773, qL_774, qL_775, qL_776, qL_777, qL_778, qL_779, qL_780, qL_781, qL_782, qL_783, as_nil, as_i, as_r, Nat.reduceAdd, Nat.reduceLeDiff, z_eq0, z_eq1, z_or, z_em, Classical.not_not, not_false_eq_true, not_true_eq_false, true_and, and_true, false_and, and_false, and_self, true_implies, false_implies, implies_true, Option.toList_some, Option.toList_none, List.cons_append, List.nil_append, Nat.add_eq_zero_iff, a_nl_i, a_nl_r, a_nl_n, true_or, or_true, eq_self, a_isRA_22, a_isRA_24, a_isRA_32, a_isA_20, kb, o1, o2, o3, o4, o5, o6, o7, k_0 hS, z_C hS]
  refine cw_kin h.1 (fun v n2 t2 K2 L2 J2 R2 z w => ?_)
  have hm := lawM_of hb h z (dS_W w (fun x j p q => by intro e; first | exact e.elim | (dsimp only at e; omega) | omega))
  have ha2 := AL_W hal w (fun x j p => by unfold aS at p; intro e; first | exact e.elim | (dsimp only at e; omega) | omega)
  have hSm := hm.2.1
  have hR := hm.2.2.1
  simp only [qL_786, qL_787, qL_788, qL_789, qL_790, qL_791, qL_792, qL_793, qL_794, qL_795, qL_796, qL_797, qL_798, as_nil, as_i, as_r, Nat.reduceAdd, Nat.reduceLeDiff, z_eq0, z_eq1, z_or, z_em, Classical.not_not, not_false_eq_true, not_true_eq_false, true_and, and_true, false_and, and_false, and_self, true_implies, false_implies, implies_true, Option.toList_some, Option.toList_none, List.cons_append, List.nil_append, Nat.add_eq_zero_iff, a_nl_i, a_nl_r, a_nl_n, true_or, or_true, eq_self, a_isRA_22, a_isRA_24, a_isRA_32, a_isA_20, hm.2.2.2.2, o1, o2, o3, o4, o5, o6, o7, m_0 hm.2.1, m_K hm.2.1]
  clear h hS kb o1 o2 o3 o4 o5 o6 o7 z w hal
  refine pe_kin hSm ?_ ?_
  · intros
    simp only [qL_801, qL_802, as_nil, as_i, as_r, Nat.reduceAdd, Nat.reduceLeDiff, z_eq0, z_eq1, z_or, z_em, Classical.not_not, not_false_eq_true, not_true_eq_false, true_and, and_true, false_and, and_false, and_self, true_implies, false_implies, implies_true, Option.toList_some, Option.toList_none, List.cons_append, List.nil_append, Nat.add_eq_zero_iff, a_nl_i, a_nl_r, a_nl_n, true_or, or_true, eq_self, a_isRA_22, a_isRA_24, a_isRA_32, a_isA_20]
    exact hn _ _ _ _ _ _ (lawI_r hm ha2)
  · intros
    simp only [qL_801, qL_802, as_nil, as_i, as_r, Nat.reduceAdd, Nat.reduceLeDiff, z_eq0, z_eq1, z_or, z_em, Classical.not_not, not_false_eq_true, not_true_eq_false, true_and, and_true, false_and, and_false, and_self, true_implies, false_implies, implies_true, Option.toList_some, Option.toList_none, List.cons_append, List.nil_append, Nat.add_eq_zero_iff, a_nl_i, a_nl_r, a_nl_n, true_or, or_true, eq_self, a_isRA_22, a_isRA_24, a_isRA_32, a_isA_20]
    exact hn _ _ _ _ _ _ (lawI_E hm (sR_isKin hR) (by simp only [ui_ap]; rw [if_neg (by omega)]) (fun x j p => by simp only [ui_ap]; rw [if_neg (by omega)]) (aL_eq ha2 (fun x j p => by unfold aS at p; simp only [ui_ap]; rw [if_neg (by omega)])))
theorem lc_mark (hb : b < C) (h : lawI b C c n t K L J R) (hc : 120 * c + 130 ≤ 84000) {i : Int32} (h0 : 0 ≤ i) (h1 : i.toInt + 8 ≤ sL) (h2 : sL ≤ 4096) (hn : ∀ n t K L J R, lawI b C (c + 1) n t K L J R → a_at 700 (lx b sL sx) 1547 [some (.ref b), some (a_rf C), some (a_rf (C + 44)), some (.int i)] [] (n + 1, t, K, L, J, R) P) : a_at 700 (lx b sL sx) 805 [some (.ref b), some (a_rf C), some (a_rf (C + 44)), some (.int i)] [] (n + 1, t, K, L, J, R) P := by
  have hS := h.1.1.s
  have kb := h.2.2.2.2.1
  have hal := h.2.2.2.2.2
  have o1 : a_ok (i + 1) sL := a_ok8 h0 h1 h2 (by decide)
  have o2 : a_ok (i + 2) sL := a_ok8 h0 h1 h2 (by decide)
  have o3 : a_ok (i + 3) sL := a_ok8 h0 h1 h2 (by decide)
  have o4 : a_ok (i + 4) sL := a_ok8 h0 h1 h2 (by decide)
  have o5 : a_ok (i + 5) sL := a_ok8 h0 h1 h2 (by decide)
  have o6 : a_ok (i + 6) sL := a_ok8 h0 h1 h2 (by decide)
  have o7 : a_ok (i + 7) sL := a_ok8 h0 h1 h2 (by decide)
  simp only [qL_805, qL_806, qL_807, qL_808, qL_809, qL_810, qL_811, qL_812, qL_813, qL_814, qL_815, qL_816, qL_817, qL_818, qL_819, qL_820, qL_821, as_nil, as_i, as_r, Nat.reduceAdd, Nat.reduceLeDiff, z_eq0, z_eq1, z_or, z_em, Classical.not_not, not_false_eq_true, not_true_eq_false, true_and, and_true, false_and, and_false, and_self, true_implies, false_implies, implies_true, Option.toList_some, Option.toList_none, List.cons_append, List.nil_append, Nat.add_eq_zero_iff, a_nl_i, a_nl_r, a_nl_n, true_or, or_true, eq_self, a_isRA_22, a_isRA_24, a_isRA_32, a_isA_20, kb, o1, o2, o3, o4, o5, o6, o7, k_0 hS, z_C hS]
  refine cu_mark h.1 (fun v n2 t2 K2 L2 J2 R2 z => ?_)
  have hm := lawM_of hb h (cH_le z.2.1 (by omega)) (dS_W (dW_Z z) (fun _ _ _ _ e => e))
  have ha2 := AL_Z hal z
  simp only [qL_824, qL_825, qL_826, qL_827, qL_828, qL_829, qL_830, qL_831, qL_832, qL_833, qL_834, qL_835, qL_836, qL_837, qL_838, qL_839, qL_840, qL_841, as_nil, as_i, as_r, Nat.reduceAdd, Nat.reduceLeDiff, z_eq0, z_eq1, z_or, z_em, Classical.not_not, not_false_eq_true, not_true_eq_false, true_and, and_true, false_and, and_false, and_self, true_implies, false_implies, implies_true, Option.toList_some, Option.toList_none, List.cons_append, List.nil_append, Nat.add_eq_zero_iff, a_nl_i, a_nl_r, a_nl_n, true_or, or_true, eq_self, a_isRA_22, a_isRA_24, a_isRA_32, a_isA_20, hm.2.2.2.2, o1, o2, o3, o4, o5, o6, o7, m_0 hm.2.1, m_K hm.2.1]
  refine pu_mark hm.2.1 ⟨mG_refl hm.2.2.1, hm.2.2.2.1⟩ hc (fun v2 J3 g => ?_)
  simp only [qL_844, qL_845, as_nil, as_i, as_r, Nat.reduceAdd, Nat.reduceLeDiff, z_eq0, z_eq1, z_or, z_em, Classical.not_not, not_false_eq_true, not_true_eq_false, true_and, and_true, false_and, and_false, and_self, true_implies, false_implies, implies_true, Option.toList_some, Option.toList_none, List.cons_append, List.nil_append, Nat.add_eq_zero_iff, a_nl_i, a_nl_r, a_nl_n, true_or, or_true, eq_self, a_isRA_22, a_isRA_24, a_isRA_32, a_isA_20]
  exact hn _ _ _ _ _ _ (lawI_F hm ha2 g)
theorem lc_markOf (hb : b < C) (h : lawI b C c n t K L J R) (hc : 120 * c + 130 ≤ 84000) {i : Int32} (h0 : 0 ≤ i) (h1 : i.toInt + 8 ≤ sL) (h2 : sL ≤ 4096) (hn : ∀ n t K L J R, lawI b C (c + 1) n t K L J R → a_at 700 (lx b sL sx) 1547 [some (.ref b), some (a_rf C), some (a_rf (C + 44)), some (.int i)] [] (n + 1, t, K, L, J, R) P) : a_at 700 (lx b sL sx) 848 [some (.ref b), some (a_rf C), some (a_rf (C + 44)), some (.int i)] [] (n + 1, t, K, L, J, R) P := by
  have hS := h.1.1.s
  have kb := h.2.2.2.2.1
  have hal := h.2.2.2.2.2
  have o1 : a_ok (i + 1) sL := a_ok8 h0 h1 h2 (by decide)
  have o2 : a_ok (i + 2) sL := a_ok8 h0 h1 h2 (by decide)
  have o3 : a_ok (i + 3) sL := a_ok8 h0 h1 h2 (by decide)
  have o4 : a_ok (i + 4) sL := a_ok8 h0 h1 h2 (by decide)
  have o5 : a_ok (i + 5) sL := a_ok8 h0 h1 h2 (by decide)
  have o6 : a_ok (i + 6) sL := a_ok8 h0 h1 h2 (by decide)
  have o7 : a_ok (i + 7) sL := a_ok8 h0 h1 h2 (by decide)
  simp only [qL_848, qL_849, qL_850, qL_851, qL_852, qL_853, qL_854, as_nil, as_i, as_r, Nat.reduceAdd, Nat.reduceLeDiff, z_eq0, z_eq1, z_or, z_em, Classical.not_not, not_false_eq_true, not_true_eq_false, true_and, and_true, false_and, and_false, and_self, true_implies, false_implies, implies_true, Option.toList_some, Option.toList_none, List.cons_append, List.nil_append, Nat.add_eq_zero_iff, a_nl_i, a_nl_r, a_nl_n, true_or, or_true, eq_self, a_isRA_22, a_isRA_24, a_isRA_32, a_isA_20, kb, o1, o2, o3, o4, o5, o6, o7, k_0 hS, z_C hS]
  refine cu_markOf h.1 (fun v n2 t2 K2 L2 J2 R2 z => ?_)
  have hm := lawM_of hb h (cH_le z.2.1 (by omega)) (dS_W (dW_Z z) (fun _ _ _ _ e => e))
  have ha2 := AL_Z hal z
  simp only [qL_857, qL_858, qL_859, qL_860, qL_861, qL_862, qL_863, qL_864, as_nil, as_i, as_r, Nat.reduceAdd, Nat.reduceLeDiff, z_eq0, z_eq1, z_or, z_em, Classical.not_not, not_false_eq_true, not_true_eq_false, true_and, and_true, false_and, and_false, and_self, true_implies, false_implies, implies_true, Option.toList_some, Option.toList_none, List.cons_append, List.nil_append, Nat.add_eq_zero_iff, a_nl_i, a_nl_r, a_nl_n, true_or, or_true, eq_self, a_isRA_22, a_isRA_24, a_isRA_32, a_isA_20, hm.2.2.2.2, o1, o2, o3, o4, o5, o6, o7, m_0 hm.2.1, m_K hm.2.1]
  refine pu_markOf hm.2.1 ⟨mG_refl hm.2.2.1, hm.2.2.2.1⟩ hc (fun v2 J3 g => ?_)
  simp only [qL_867, qL_868, as_nil, as_i, as_r, Nat.reduceAdd, Nat.reduceLeDiff, z_eq0, z_eq1, z_or, z_em, Classical.not_not, not_false_eq_true, not_true_eq_false, true_and, and_true, false_and, and_false, and_self, true_implies, false_implies, implies_true, Option.toList_some, Option.toList_none, List.cons_append, List.nil_append, Nat.add_eq_zero_iff, a_nl_i, a_nl_r, a_nl_n, true_or, or_true, eq_self, a_isRA_22, a_isRA_24, a_isRA_32, a_isA_20]
  exact hn _ _ _ _ _ _ (lawI_F hm ha2 g)
theorem lc_habit (hb : b < C) (h : lawI b C c n t K L J R) (hc : 120 * c + 130 ≤ 84000) {i : Int32} (h0 : 0 ≤ i) (h1 : i.toInt + 8 ≤ sL) (h2 : sL ≤ 4096) (hn : ∀ n t K L J R, lawI b C (c + 1) n t K L J R → a_at 700 (lx b sL sx) 1547 [some (.ref b), some (a_rf C), some (a_rf (C + 44)), some (.int i)] [] (n + 1, t, K, L, J, R) P) : a_at 700 (lx b sL sx) 871 [some (.ref b), some (a_rf C), some (a_rf (C + 44)), some (.int i)] [] (n + 1, t, K, L, J, R) P := by
  have hS := h.1.1.s
  have kb := h.2.2.2.2.1
  have hal := h.2.2.2.2.2
  have o1 : a_ok (i + 1) sL := a_ok8 h0 h1 h2 (by decide)
  have o2 : a_ok (i + 2) sL := a_ok8 h0 h1 h2 (by decide)
  have o3 : a_ok (i + 3) sL := a_ok8 h0 h1 h2 (by decide)
  have o4 : a_ok (i + 4) sL := a_ok8 h0 h1 h2 (by decide)
  have o5 : a_ok (i + 5) sL := a_ok8 h0 h1 h2 (by decide)
  have o6 : a_ok (i + 6) sL := a_ok8 h0 h1 h2 (by decide)
  have o7 : a_ok (i + 7) sL := a_ok8 h0 h1 h2 (by decide)
  simp only [qL_871, qL_872, qL_873, qL_874, qL_875, qL_876, qL_877, qL_878, qL_879, qL_880, qL_881, qL_882, as_nil, as_i, as_r, Nat.reduceAdd, Nat.reduceLeDiff, z_eq0, z_eq1, z_or, z_em, Classical.not_not, not_false_eq_true, not_true_eq_false, true_and, and_true, false_and, and_false, and_self, true_implies, false_implies, implies_true, Option.toList_some, Option.toList_none, List.cons_append, List.nil_append, Nat.add_eq_zero_iff, a_nl_i, a_nl_r, a_nl_n, true_or, or_true, eq_self, a_isRA_22, a_isRA_24, a_isRA_32, a_isA_20, kb, o1, o2, o3, o4, o5, o6, o7, k_0 hS, z_C hS]
  refine cu_habit h.1 (fun v n2 t2 K2 L2 J2 R2 z => ?_)
  have hm := lawM_of hb h (cH_le z.2.1 (by omega)) (dS_W (dW_Z z) (fun _ _ _ _ e => e))
  have ha2 := AL_Z hal z
  simp only [qL_885, qL_886, qL_887, qL_888, qL_889, qL_890, qL_891, qL_892, qL_893, qL_894, qL_895, qL_896, qL_897, as_nil, as_i, as_r, Nat.reduceAdd, Nat.reduceLeDiff, z_eq0, z_eq1, z_or, z_em, Classical.not_not, not_false_eq_true, not_true_eq_false, true_and, and_true, false_and, and_false, and_self, true_implies, false_implies, implies_true, Option.toList_some, Option.toList_none, List.cons_append, List.nil_append, Nat.add_eq_zero_iff, a_nl_i, a_nl_r, a_nl_n, true_or, or_true, eq_self, a_isRA_22, a_isRA_24, a_isRA_32, a_isA_20, hm.2.2.2.2, o1, o2, o3, o4, o5, o6, o7, m_0 hm.2.1, m_K hm.2.1]
  refine pu_habit hm.2.1 ⟨mG_refl hm.2.2.1, hm.2.2.2.1⟩ hc (fun v2 J3 g => ?_)
  simp only [qL_900, qL_901, as_nil, as_i, as_r, Nat.reduceAdd, Nat.reduceLeDiff, z_eq0, z_eq1, z_or, z_em, Classical.not_not, not_false_eq_true, not_true_eq_false, true_and, and_true, false_and, and_false, and_self, true_implies, false_implies, implies_true, Option.toList_some, Option.toList_none, List.cons_append, List.nil_append, Nat.add_eq_zero_iff, a_nl_i, a_nl_r, a_nl_n, true_or, or_true, eq_self, a_isRA_22, a_isRA_24, a_isRA_32, a_isA_20]
  exact hn _ _ _ _ _ _ (lawI_F hm ha2 g)
theorem lc_fit (hb : b < C) (h : lawI b C c n t K L J R) (hc : 120 * c + 130 ≤ 84000) {i : Int32} (h0 : 0 ≤ i) (h1 : i.toInt + 8 ≤ sL) (h2 : sL ≤ 4096) (hn : ∀ n t K L J R, lawI b C (c + 1) n t K L J R → a_at 700 (lx b sL sx) 1547 [some (.ref b), some (a_rf C), some (a_rf (C + 44)), some (.int i)] [] (n + 1, t, K, L, J, R) P) : a_at 700 (lx b sL sx) 904 [some (.ref b), some (a_rf C), some (a_rf (C + 44)), some (.int i)] [] (n + 1, t, K, L, J, R) P := by
  have hS := h.1.1.s
  have kb := h.2.2.2.2.1
  have hal := h.2.2.2.2.2
  have o1 : a_ok (i + 1) sL := a_ok8 h0 h1 h2 (by decide)
  have o2 : a_ok (i + 2) sL := a_ok8 h0 h1 h2 (by decide)
  have o3 : a_ok (i + 3) sL := a_ok8 h0 h1 h2 (by decide)
  have o4 : a_ok (i + 4) sL := a_ok8 h0 h1 h2 (by decide)
  have o5 : a_ok (i + 5) sL := a_ok8 h0 h1 h2 (by decide)
  have o6 : a_ok (i + 6) sL := a_ok8 h0 h1 h2 (by decide)
  have o7 : a_ok (i + 7) sL := a_ok8 h0 h1 h2 (by decide)
  simp only [qL_904, qL_905, qL_906, qL_907, qL_908, qL_909, qL_910, qL_911, qL_912, qL_913, qL_914, qL_915, qL_916, qL_917, qL_918, qL_919, qL_920, as_nil, as_i, as_r, Nat.reduceAdd, Nat.reduceLeDiff, z_eq0, z_eq1, z_or, z_em, Classical.not_not, not_false_eq_true, not_true_eq_false, true_and, and_true, false_and, and_false, and_self, true_implies, false_implies, implies_true, Option.toList_some, Option.toList_none, List.cons_append, List.nil_append, Nat.add_eq_zero_iff, a_nl_i, a_nl_r, a_nl_n, true_or, or_true, eq_self, a_isRA_22, a_isRA_24, a_isRA_32, a_isA_20, kb, o1, o2, o3, o4, o5, o6, o7, k_0 hS, z_C hS]
  refine cu_fit h.1 (fun v n2 t2 K2 L2 J2 R2 z => ?_)
  have hm := lawM_of hb h (cH_le z.2.1 (by omega)) (dS_W (dW_Z z) (fun _ _ _ _ e => e))
  have ha2 := AL_Z hal z
  simp only [qL_923, qL_924, qL_925, qL_926, qL_927, qL_928, qL_929, qL_930, qL_931, qL_932, qL_933, qL_934, qL_935, qL_936, qL_937, qL_938, qL_939, qL_940, as_nil, as_i, as_r, Nat.reduceAdd, Nat.reduceLeDiff, z_eq0, z_eq1, z_or, z_em, Classical.not_not, not_false_eq_true, not_true_eq_false, true_and, and_true, false_and, and_false, and_self, true_implies, false_implies, implies_true, Option.toList_some, Option.toList_none, List.cons_append, List.nil_append, Nat.add_eq_zero_iff, a_nl_i, a_nl_r, a_nl_n, true_or, or_true, eq_self, a_isRA_22, a_isRA_24, a_isRA_32, a_isA_20, hm.2.2.2.2, o1, o2, o3, o4, o5, o6, o7, m_0 hm.2.1, m_K hm.2.1]
  refine pu_fit hm.2.1 ⟨mG_refl hm.2.2.1, hm.2.2.2.1⟩ hc (fun v2 J3 g => ?_)
  simp only [qL_943, qL_944, as_nil, as_i, as_r, Nat.reduceAdd, Nat.reduceLeDiff, z_eq0, z_eq1, z_or, z_em, Classical.not_not, not_false_eq_true, not_true_eq_false, true_and, and_true, false_and, and_false, and_self, true_implies, false_implies, implies_true, Option.toList_some, Option.toList_none, List.cons_append, List.nil_append, Nat.add_eq_zero_iff, a_nl_i, a_nl_r, a_nl_n, true_or, or_true, eq_self, a_isRA_22, a_isRA_24, a_isRA_32, a_isA_20]
  exact hn _ _ _ _ _ _ (lawI_F hm ha2 g)
theorem lc_give (hb : b < C) (h : lawI b C c n t K L J R) (hc : 120 * c + 130 ≤ 84000) {i : Int32} (h0 : 0 ≤ i) (h1 : i.toInt + 8 ≤ sL) (h2 : sL ≤ 4096) (hn : ∀ n t K L J R, lawI b C (c + 1) n t K L J R → a_at 700 (lx b sL sx) 1547 [some (.ref b), some (a_rf C), some (a_rf (C + 44)), some (.int i)] [] (n + 1, t, K, L, J, R) P) : a_at 700 (lx b sL sx) 947 [some (.ref b), some (a_rf C), some (a_rf (C + 44)), some (.int i)] [] (n + 1, t, K, L, J, R) P := by
  have hS := h.1.1.s
  have kb := h.2.2.2.2.1
  have hal := h.2.2.2.2.2
  have o1 : a_ok (i + 1) sL := a_ok8 h0 h1 h2 (by decide)
  have o2 : a_ok (i + 2) sL := a_ok8 h0 h1 h2 (by decide)
  have o3 : a_ok (i + 3) sL := a_ok8 h0 h1 h2 (by decide)
  have o4 : a_ok (i + 4) sL := a_ok8 h0 h1 h2 (by decide)
  have o5 : a_ok (i + 5) sL := a_ok8 h0 h1 h2 (by decide)
  have o6 : a_ok (i + 6) sL := a_ok8 h0 h1 h2 (by decide)
  have o7 : a_ok (i + 7) sL := a_ok8 h0 h1 h2 (by decide)
  simp only [qL_947, qL_948, qL_949, qL_950, qL_951, qL_952, qL_953, qL_954, qL_955, qL_956, qL_957, qL_958, qL_959, qL_960, qL_961, qL_962, qL_963, as_nil, as_i, as_r, Nat.reduceAdd, Nat.reduceLeDiff, z_eq0, z_eq1, z_or, z_em, Classical.not_not, not_false_eq_true, not_true_eq_false, true_and, and_true, false_and, and_false, and_self, true_implies, false_implies, implies_true, Option.toList_some, Option.toList_none, List.cons_append, List.nil_append, Nat.add_eq_zero_iff, a_nl_i, a_nl_r, a_nl_n, true_or, or_true, eq_self, a_isRA_22, a_isRA_24, a_isRA_32, a_isA_20, kb, o1, o2, o3, o4, o5, o6, o7, k_0 hS, z_C hS]
  refine cu_give h.1 (fun v n2 t2 K2 L2 J2 R2 z => ?_)
  have hm := lawM_of hb h (cH_le z.2.1 (by omega)) (dS_W (dW_Z z) (fun _ _ _ _ e => e))
  have ha2 := AL_Z hal z
  simp only [qL_966, qL_967, qL_968, qL_969, qL_970, qL_971, qL_972, qL_973, qL_974, qL_975, qL_976, qL_977, qL_978, qL_979, qL_980, qL_981, qL_982, qL_983, as_nil, as_i, as_r, Nat.reduceAdd, Nat.reduceLeDiff, z_eq0, z_eq1, z_or, z_em, Classical.not_not, not_false_eq_true, not_true_eq_false, true_and, and_true, false_and, and_false, and_self, true_implies, false_implies, implies_true, Option.toList_some, Option.toList_none, List.cons_append, List.nil_append, Nat.add_eq_zero_iff, a_nl_i, a_nl_r, a_nl_n, true_or, or_true, eq_self, a_isRA_22, a_isRA_24, a_isRA_32, a_isA_20, hm.2.2.2.2, o1, o2, o3, o4, o5, o6, o7, m_0 hm.2.1, m_K hm.2.1]
  refine pu_give hm.2.1 ⟨mG_refl hm.2.2.1, hm.2.2.2.1⟩ hc (fun v2 J3 g => ?_)
  simp only [qL_986, qL_987, as_nil, as_i, as_r, Nat.reduceAdd, Nat.reduceLeDiff, z_eq0, z_eq1, z_or, z_em, Classical.not_not, not_false_eq_true, not_true_eq_false, true_and, and_true, false_and, and_false, and_self, true_implies, false_implies, implies_true, Option.toList_some, Option.toList_none, List.cons_append, List.nil_append, Nat.add_eq_zero_iff, a_nl_i, a_nl_r, a_nl_n, true_or, or_true, eq_self, a_isRA_22, a_isRA_24, a_isRA_32, a_isA_20]
  exact hn _ _ _ _ _ _ (lawI_F hm ha2 g)
theorem lc_take (hb : b < C) (h : lawI b C c n t K L J R) (hc : 120 * c + 130 ≤ 84000) {i : Int32} (h0 : 0 ≤ i) (h1 : i.toInt + 8 ≤ sL) (h2 : sL ≤ 4096) (hn : ∀ n t K L J R, lawI b C (c + 1) n t K L J R → a_at 700 (lx b sL sx) 1547 [some (.ref b), some (a_rf C), some (a_rf (C + 44)), some (.int i)] [] (n + 1, t, K, L, J, R) P) : a_at 700 (lx b sL sx) 990 [some (.ref b), some (a_rf C), some (a_rf (C + 44)), some (.int i)] [] (n + 1, t, K, L, J, R) P := by
  have hS := h.1.1.s
  have kb := h.2.2.2.2.1
  have hal := h.2.2.2.2.2
  have o1 : a_ok (i + 1) sL := a_ok8 h0 h1 h2 (by decide)
  have o2 : a_ok (i + 2) sL := a_ok8 h0 h1 h2 (by decide)
  have o3 : a_ok (i + 3) sL := a_ok8 h0 h1 h2 (by decide)
  have o4 : a_ok (i + 4) sL := a_ok8 h0 h1 h2 (by decide)
  have o5 : a_ok (i + 5) sL := a_ok8 h0 h1 h2 (by decide)
  have o6 : a_ok (i + 6) sL := a_ok8 h0 h1 h2 (by decide)
  have o7 : a_ok (i + 7) sL := a_ok8 h0 h1 h2 (by decide)
  simp only [qL_990, qL_991, qL_992, qL_993, qL_994, qL_995, qL_996, as_nil, as_i, as_r, Nat.reduceAdd, Nat.reduceLeDiff, z_eq0, z_eq1, z_or, z_em, Classical.not_not, not_false_eq_true, not_true_eq_false, true_and, and_true, false_and, and_false, and_self, true_implies, false_implies, implies_true, Option.toList_some, Option.toList_none, List.cons_append, List.nil_append, Nat.add_eq_zero_iff, a_nl_i, a_nl_r, a_nl_n, true_or, or_true, eq_self, a_isRA_22, a_isRA_24, a_isRA_32, a_isA_20, kb, o1, o2, o3, o4, o5, o6, o7, k_0 hS, z_C hS]
  refine cu_take h.1 (fun v n2 t2 K2 L2 J2 R2 z => ?_)
  have hm := lawM_of hb h (cH_le z.2.1 (by omega)) (dS_W (dW_Z z) (fun _ _ _ _ e => e))
  have ha2 := AL_Z hal z
  simp only [qL_999, qL_1000, qL_1001, qL_1002, qL_1003, qL_1004, qL_1005, qL_1006, as_nil, as_i, as_r, Nat.reduceAdd, Nat.reduceLeDiff, z_eq0, z_eq1, z_or, z_em, Classical.not_not, not_false_eq_true, not_true_eq_false, true_and, and_true, false_and, and_false, and_self, true_implies, false_implies, implies_true, Option.toList_some, Option.toList_none, List.cons_append, List.nil_append, Nat.add_eq_zero_iff, a_nl_i, a_nl_r, a_nl_n, true_or, or_true, eq_self, a_isRA_22, a_isRA_24, a_isRA_32, a_isA_20, hm.2.2.2.2, o1, o2, o3, o4, o5, o6, o7, m_0 hm.2.1, m_K hm.2.1]
  refine pu_take hm.2.1 ⟨mG_refl hm.2.2.1, hm.2.2.2.1⟩ hc (fun v2 J3 g => ?_)
  simp only [qL_1009, qL_1010, as_nil, as_i, as_r, Nat.reduceAdd, Nat.reduceLeDiff, z_eq0, z_eq1, z_or, z_em, Classical.not_not, not_false_eq_true, not_true_eq_false, true_and, and_true, false_and, and_false, and_self, true_implies, false_implies, implies_true, Option.toList_some, Option.toList_none, List.cons_append, List.nil_append, Nat.add_eq_zero_iff, a_nl_i, a_nl_r, a_nl_n, true_or, or_true, eq_self, a_isRA_22, a_isRA_24, a_isRA_32, a_isA_20]
  exact hn _ _ _ _ _ _ (lawI_F hm ha2 g)
theorem lc_plan (hb : b < C) (h : lawI b C c n t K L J R) (hc : 120 * c + 130 ≤ 84000) {i : Int32} (h0 : 0 ≤ i) (h1 : i.toInt + 8 ≤ sL) (h2 : sL ≤ 4096) (hn : ∀ n t K L J R, lawI b C (c + 1) n t K L J R → a_at 700 (lx b sL sx) 1547 [some (.ref b), some (a_rf C), some (a_rf (C + 44)), some (.int i)] [] (n + 1, t, K, L, J, R) P) : a_at 700 (lx b sL sx) 1013 [some (.ref b), some (a_rf C), some (a_rf (C + 44)), some (.int i)] [] (n + 1, t, K, L, J, R) P := by
  have hS := h.1.1.s
  have kb := h.2.2.2.2.1
  have hal := h.2.2.2.2.2
  have o1 : a_ok (i + 1) sL := a_ok8 h0 h1 h2 (by decide)
  have o2 : a_ok (i + 2) sL := a_ok8 h0 h1 h2 (by decide)
  have o3 : a_ok (i + 3) sL := a_ok8 h0 h1 h2 (by decide)
  have o4 : a_ok (i + 4) sL := a_ok8 h0 h1 h2 (by decide)
  have o5 : a_ok (i + 5) sL := a_ok8 h0 h1 h2 (by decide)
  have o6 : a_ok (i + 6) sL := a_ok8 h0 h1 h2 (by decide)
  have o7 : a_ok (i + 7) sL := a_ok8 h0 h1 h2 (by decide)
  simp only [qL_1013, qL_1014, qL_1015, qL_1016, qL_1017, qL_1018, qL_1019, qL_1020, qL_1021, qL_1022, qL_1023, qL_1024, as_nil, as_i, as_r, Nat.reduceAdd, Nat.reduceLeDiff, z_eq0, z_eq1, z_or, z_em, Classical.not_not, not_false_eq_true, not_true_eq_false, true_and, and_true, false_and, and_false, and_self, true_implies, false_implies, implies_true, Option.toList_some, Option.toList_none, List.cons_append, List.nil_append, Nat.add_eq_zero_iff, a_nl_i, a_nl_r, a_nl_n, true_or, or_true, eq_self, a_isRA_22, a_isRA_24, a_isRA_32, a_isA_20, kb, o1, o2, o3, o4, o5, o6, o7, k_0 hS, z_C hS]
  refine cu_plan h.1 (fun v n2 t2 K2 L2 J2 R2 z => ?_)
  have hm := lawM_of hb h (cH_le z.2.1 (by omega)) (dS_W (dW_Z z) (fun _ _ _ _ e => e))
  have ha2 := AL_Z hal z
  simp only [qL_1027, qL_1028, qL_1029, qL_1030, qL_1031, qL_1032, qL_1033, qL_1034, qL_1035, qL_1036, qL_1037, qL_1038, qL_1039, as_nil, as_i, as_r, Nat.reduceAdd, Nat.reduceLeDiff, z_eq0, z_eq1, z_or, z_em, Classical.not_not, not_false_eq_true, not_true_eq_false, true_and, and_true, false_and, and_false, and_self, true_implies, false_implies, implies_true, Option.toList_some, Option.toList_none, List.cons_append, List.nil_append, Nat.add_eq_zero_iff, a_nl_i, a_nl_r, a_nl_n, true_or, or_true, eq_self, a_isRA_22, a_isRA_24, a_isRA_32, a_isA_20, hm.2.2.2.2, o1, o2, o3, o4, o5, o6, o7, m_0 hm.2.1, m_K hm.2.1]
  refine pu_plan hm.2.1 ⟨mG_refl hm.2.2.1, hm.2.2.2.1⟩ hc (fun v2 J3 g => ?_)
  simp only [qL_1042, qL_1043, as_nil, as_i, as_r, Nat.reduceAdd, Nat.reduceLeDiff, z_eq0, z_eq1, z_or, z_em, Classical.not_not, not_false_eq_true, not_true_eq_false, true_and, and_true, false_and, and_false, and_self, true_implies, false_implies, implies_true, Option.toList_some, Option.toList_none, List.cons_append, List.nil_append, Nat.add_eq_zero_iff, a_nl_i, a_nl_r, a_nl_n, true_or, or_true, eq_self, a_isRA_22, a_isRA_24, a_isRA_32, a_isA_20]
  exact hn _ _ _ _ _ _ (lawI_F hm ha2 g)
theorem lc_passed (hb : b < C) (h : lawI b C c n t K L J R) (hc : 120 * c + 130 ≤ 84000) {i : Int32} (h0 : 0 ≤ i) (h1 : i.toInt + 8 ≤ sL) (h2 : sL ≤ 4096) (hn : ∀ n t K L J R, lawI b C (c + 1) n t K L J R → a_at 700 (lx b sL sx) 1547 [some (.ref b), some (a_rf C), some (a_rf (C + 44)), some (.int i)] [] (n + 1, t, K, L, J, R) P) : a_at 700 (lx b sL sx) 1046 [some (.ref b), some (a_rf C), some (a_rf (C + 44)), some (.int i)] [] (n + 1, t, K, L, J, R) P := by
  have hS := h.1.1.s
  have kb := h.2.2.2.2.1
  have hal := h.2.2.2.2.2
  have o1 : a_ok (i + 1) sL := a_ok8 h0 h1 h2 (by decide)
  have o2 : a_ok (i + 2) sL := a_ok8 h0 h1 h2 (by decide)
  have o3 : a_ok (i + 3) sL := a_ok8 h0 h1 h2 (by decide)
  have o4 : a_ok (i + 4) sL := a_ok8 h0 h1 h2 (by decide)
  have o5 : a_ok (i + 5) sL := a_ok8 h0 h1 h2 (by decide)
  have o6 : a_ok (i + 6) sL := a_ok8 h0 h1 h2 (by decide)
  have o7 : a_ok (i + 7) sL := a_ok8 h0 h1 h2 (by decide)
  simp only [qL_1046, qL_1047, qL_1048, qL_1049, qL_1050, qL_1051, qL_1052, as_nil, as_i, as_r, Nat.reduceAdd, Nat.reduceLeDiff, z_eq0, z_eq1, z_or, z_em, Classical.not_not, not_false_eq_true, not_true_eq_false, true_and, and_true, false_and, and_false, and_self, true_implies, false_implies, implies_true, Option.toList_some, Option.toList_none, List.cons_append, List.nil_append, Nat.add_eq_zero_iff, a_nl_i, a_nl_r, a_nl_n, true_or, or_true, eq_self, a_isRA_22, a_isRA_24, a_isRA_32, a_isA_20, kb, o1, o2, o3, o4, o5, o6, o7, k_0 hS, z_C hS]
  refine cu_passed h.1 (fun v n2 t2 K2 L2 J2 R2 z => ?_)
  have hm := lawM_of hb h (cH_le z.2.1 (by omega)) (dS_W (dW_Z z) (fun _ _ _ _ e => e))
  have ha2 := AL_Z hal z
  simp only [qL_1055, qL_1056, qL_1057, qL_1058, qL_1059, qL_1060, qL_1061, qL_1062, as_nil, as_i, as_r, Nat.reduceAdd, Nat.reduceLeDiff, z_eq0, z_eq1, z_or, z_em, Classical.not_not, not_false_eq_true, not_true_eq_false, true_and, and_true, false_and, and_false, and_self, true_implies, false_implies, implies_true, Option.toList_some, Option.toList_none, List.cons_append, List.nil_append, Nat.add_eq_zero_iff, a_nl_i, a_nl_r, a_nl_n, true_or, or_true, eq_self, a_isRA_22, a_isRA_24, a_isRA_32, a_isA_20, hm.2.2.2.2, o1, o2, o3, o4, o5, o6, o7, m_0 hm.2.1, m_K hm.2.1]
  refine pu_passed hm.2.1 ⟨mG_refl hm.2.2.1, hm.2.2.2.1⟩ hc (fun v2 J3 g => ?_)
  simp only [qL_1065, qL_1066, as_nil, as_i, as_r, Nat.reduceAdd, Nat.reduceLeDiff, z_eq0, z_eq1, z_or, z_em, Classical.not_not, not_false_eq_true, not_true_eq_false, true_and, and_true, false_and, and_false, and_self, true_implies, false_implies, implies_true, Option.toList_some, Option.toList_none, List.cons_append, List.nil_append, Nat.add_eq_zero_iff, a_nl_i, a_nl_r, a_nl_n, true_or, or_true, eq_self, a_isRA_22, a_isRA_24, a_isRA_32, a_isA_20]
  exact hn _ _ _ _ _ _ (lawI_F hm ha2 g)
theorem lc_why (hb : b < C) (h : lawI b C c n t K L J R) (hc : 120 * c + 130 ≤ 84000) {i : Int32} (h0 : 0 ≤ i) (h1 : i.toInt + 8 ≤ sL) (h2 : sL ≤ 4096) (hn : ∀ n t K L J R, lawI b C (c + 1) n t K L J R → a_at 700 (lx b sL sx) 1547 [some (.ref b), some (a_rf C), some (a_rf (C + 44)), some (.int i)] [] (n + 1, t, K, L, J, R) P) : a_at 700 (lx b sL sx) 1069 [some (.ref b), some (a_rf C), some (a_rf (C + 44)), some (.int i)] [] (n + 1, t, K, L, J, R) P := by
  have hS := h.1.1.s
  have kb := h.2.2.2.2.1
  have hal := h.2.2.2.2.2
  have o1 : a_ok (i + 1) sL := a_ok8 h0 h1 h2 (by decide)
  have o2 : a_ok (i + 2) sL := a_ok8 h0 h1 h2 (by decide)
  have o3 : a_ok (i + 3) sL := a_ok8 h0 h1 h2 (by decide)
  have o4 : a_ok (i + 4) sL := a_ok8 h0 h1 h2 (by decide)
  have o5 : a_ok (i + 5) sL := a_ok8 h0 h1 h2 (by decide)
  have o6 : a_ok (i + 6) sL := a_ok8 h0 h1 h2 (by decide)
  have o7 : a_ok (i + 7) sL := a_ok8 h0 h1 h2 (by decide)
  simp only [qL_1069, qL_1070, qL_1071, qL_1072, qL_1073, qL_1074, qL_1075, qL_1076, qL_1077, qL_1078, qL_1079, qL_1080, qL_1081, qL_1082, qL_1083, qL_1084, qL_1085, qL_1086, qL_1087, qL_1088, qL_1089, qL_1090, qL_1091, qL_1092, qL_1093, qL_1094, qL_1095, as_nil, as_i, as_r, Nat.reduceAdd, Nat.reduceLeDiff, z_eq0, z_eq1, z_or, z_em, Classical.not_not, not_false_eq_true, not_true_eq_false, true_and, and_true, false_and, and_false, and_self, true_implies, false_implies, implies_true, Option.toList_some, Option.toList_none, List.cons_append, List.nil_append, Nat.add_eq_zero_iff, a_nl_i, a_nl_r, a_nl_n, true_or, or_true, eq_self, a_isRA_22, a_isRA_24, a_isRA_32, a_isA_20, kb, o1, o2, o3, o4, o5, o6, o7, k_0 hS, z_C hS]
  refine cu_why h.1 (fun v n2 t2 K2 L2 J2 R2 z => ?_)
  have hm := lawM_of hb h (cH_le z.2.1 (by omega)) (dS_W (dW_Z z) (fun _ _ _ _ e => e))
  have ha2 := AL_Z hal z
  simp only [qL_1098, qL_1099, qL_1100, qL_1101, qL_1102, qL_1103, qL_1104, qL_1105, qL_1106, qL_1107, qL_1108, qL_1109, qL_1110, qL_1111, qL_1112, qL_1113, qL_1114, qL_1115, qL_1116, qL_1117, qL_1118, qL_1119, qL_1120, qL_1121, qL_1122, qL_1123, qL_1124, qL_1125, as_nil, as_i, as_r, Nat.reduceAdd, Nat.reduceLeDiff, z_eq0, z_eq1, z_or, z_em, Classical.not_not, not_false_eq_true, not_true_eq_false, true_and, and_true, false_and, and_false, and_self, true_implies, false_implies, implies_true, Option.toList_some, Option.toList_none, List.cons_append, List.nil_append, Nat.add_eq_zero_iff, a_nl_i, a_nl_r, a_nl_n, true_or, or_true, eq_self, a_isRA_22, a_isRA_24, a_isRA_32, a_isA_20, hm.2.2.2.2, o1, o2, o3, o4, o5, o6, o7, m_0 hm.2.1, m_K hm.2.1]
  refine pu_why hm.2.1 ⟨mG_refl hm.2.2.1, hm.2.2.2.1⟩ hc (fun v2 J3 g => ?_)
  simp only [qL_1128, qL_1129, as_nil, as_i, as_r, Nat.reduceAdd, Nat.reduceLeDiff, z_eq0, z_eq1, z_or, z_em, Classical.not_not, not_false_eq_true, not_true_eq_false, true_and, and_true, false_and, and_false, and_self, true_implies, false_implies, implies_true, Option.toList_some, Option.toList_none, List.cons_append, List.nil_append, Nat.add_eq_zero_iff, a_nl_i, a_nl_r, a_nl_n, true_or, or_true, eq_self, a_isRA_22, a_isRA_24, a_isRA_32, a_isA_20]
  exact hn _ _ _ _ _ _ (lawI_F hm ha2 g)
theorem lc_best (hb : b < C) (h : lawI b C c n t K L J R) (hc : 120 * c + 130 ≤ 84000) {i : Int32} (h0 : 0 ≤ i) (h1 : i.toInt + 8 ≤ sL) (h2 : sL ≤ 4096) (hn : ∀ n t K L J R, lawI b C (c + 1) n t K L J R → a_at 700 (lx b sL sx) 1547 [some (.ref b), some (a_rf C), some (a_rf (C + 44)), some (.int i)] [] (n + 1, t, K, L, J, R) P) : a_at 700 (lx b sL sx) 1132 [some (.ref b), some (a_rf C), some (a_rf (C + 44)), some (.int i)] [] (n + 1, t, K, L, J, R) P := by
  have hS := h.1.1.s
  have kb := h.2.2.2.2.1
  have hal := h.2.2.2.2.2
  have o1 : a_ok (i + 1) sL := a_ok8 h0 h1 h2 (by decide)
  have o2 : a_ok (i + 2) sL := a_ok8 h0 h1 h2 (by decide)
  have o3 : a_ok (i + 3) sL := a_ok8 h0 h1 h2 (by decide)
  have o4 : a_ok (i + 4) sL := a_ok8 h0 h1 h2 (by decide)
  have o5 : a_ok (i + 5) sL := a_ok8 h0 h1 h2 (by decide)
  have o6 : a_ok (i + 6) sL := a_ok8 h0 h1 h2 (by decide)
  have o7 : a_ok (i + 7) sL := a_ok8 h0 h1 h2 (by decide)
  simp only [qL_1132, qL_1133, qL_1134, qL_1135, qL_1136, qL_1137, qL_1138, qL_1139, qL_1140, qL_1141, qL_1142, qL_1143, qL_1144, qL_1145, qL_1146, qL_1147, qL_1148, qL_1149, qL_1150, qL_1151, qL_1152, qL_1153, as_nil, as_i, as_r, Nat.reduceAdd, Nat.reduceLeDiff, z_eq0, z_eq1, z_or, z_em, Classical.not_not, not_false_eq_true, not_true_eq_false, true_and, and_true, false_and, and_false, and_self, true_implies, false_implies, implies_true, Option.toList_some, Option.toList_none, List.cons_append, List.nil_append, Nat.add_eq_zero_iff, a_nl_i, a_nl_r, a_nl_n, true_or, or_true, eq_self, a_isRA_22, a_isRA_24, a_isRA_32, a_isA_20, kb, o1, o2, o3, o4, o5, o6, o7, k_0 hS, z_C hS]
  refine cu_best h.1 (fun v n2 t2 K2 L2 J2 R2 z => ?_)
  have hm := lawM_of hb h (cH_le z.2.1 (by omega)) (dS_W (dW_Z z) (fun _ _ _ _ e => e))
  have ha2 := AL_Z hal z
  simp only [qL_1156, qL_1157, qL_1158, qL_1159, qL_1160, qL_1161, qL_1162, qL_1163, qL_1164, qL_1165, qL_1166, qL_1167, qL_1168, qL_1169, qL_1170, qL_1171, qL_1172, qL_1173, qL_1174, qL_1175, qL_1176, qL_1177, qL_1178, as_nil, as_i, as_r, Nat.reduceAdd, Nat.reduceLeDiff, z_eq0, z_eq1, z_or, z_em, Classical.not_not, not_false_eq_true, not_true_eq_false, true_and, and_true, false_and, and_false, and_self, true_implies, false_implies, implies_true, Option.toList_some, Option.toList_none, List.cons_append, List.nil_append, Nat.add_eq_zero_iff, a_nl_i, a_nl_r, a_nl_n, true_or, or_true, eq_self, a_isRA_22, a_isRA_24, a_isRA_32, a_isA_20, hm.2.2.2.2, o1, o2, o3, o4, o5, o6, o7, m_0 hm.2.1, m_K hm.2.1]
  refine pu_best hm.2.1 ⟨mG_refl hm.2.2.1, hm.2.2.2.1⟩ hc (fun v2 J3 g => ?_)
  simp only [qL_1181, qL_1182, as_nil, as_i, as_r, Nat.reduceAdd, Nat.reduceLeDiff, z_eq0, z_eq1, z_or, z_em, Classical.not_not, not_false_eq_true, not_true_eq_false, true_and, and_true, false_and, and_false, and_self, true_implies, false_implies, implies_true, Option.toList_some, Option.toList_none, List.cons_append, List.nil_append, Nat.add_eq_zero_iff, a_nl_i, a_nl_r, a_nl_n, true_or, or_true, eq_self, a_isRA_22, a_isRA_24, a_isRA_32, a_isA_20]
  exact hn _ _ _ _ _ _ (lawI_F hm ha2 g)
theorem lc_hosts (hb : b < C) (h : lawI b C c n t K L J R) (hc : 120 * c + 130 ≤ 84000) {i : Int32} (h0 : 0 ≤ i) (h1 : i.toInt + 8 ≤ sL) (h2 : sL ≤ 4096) (hn : ∀ n t K L J R, lawI b C (c + 1) n t K L J R → a_at 700 (lx b sL sx) 1547 [some (.ref b), some (a_rf C), some (a_rf (C + 44)), some (.int i)] [] (n + 1, t, K, L, J, R) P) : a_at 700 (lx b sL sx) 1185 [some (.ref b), some (a_rf C), some (a_rf (C + 44)), some (.int i)] [] (n + 1, t, K, L, J, R) P := by
  have hS := h.1.1.s
  have kb := h.2.2.2.2.1
  have hal := h.2.2.2.2.2
  have o1 : a_ok (i + 1) sL := a_ok8 h0 h1 h2 (by decide)
  have o2 : a_ok (i + 2) sL := a_ok8 h0 h1 h2 (by decide)
  have o3 : a_ok (i + 3) sL := a_ok8 h0 h1 h2 (by decide)
  have o4 : a_ok (i + 4) sL := a_ok8 h0 h1 h2 (by decide)
  have o5 : a_ok (i + 5) sL := a_ok8 h0 h1 h2 (by decide)
  have o6 : a_ok (i + 6) sL := a_ok8 h0 h1 h2 (by decide)
  have o7 : a_ok (i + 7) sL := a_ok8 h0 h1 h2 (by decide)
  simp only [qL_1185, qL_1186, qL_1187, qL_1188, qL_1189, qL_1190, qL_1191, qL_1192, qL_1193, qL_1194, qL_1195, qL_1196, as_nil, as_i, as_r, Nat.reduceAdd, Nat.reduceLeDiff, z_eq0, z_eq1, z_or, z_em, Classical.not_not, not_false_eq_true, not_true_eq_false, true_and, and_true, false_and, and_false, and_self, true_implies, false_implies, implies_true, Option.toList_some, Option.toList_none, List.cons_append, List.nil_append, Nat.add_eq_zero_iff, a_nl_i, a_nl_r, a_nl_n, true_or, or_true, eq_self, a_isRA_22, a_isRA_24, a_isRA_32, a_isA_20, kb, o1, o2, o3, o4, o5, o6, o7, k_0 hS, z_C hS]
  refine cu_hosts h.1 (fun v n2 t2 K2 L2 J2 R2 z => ?_)
  have hm := lawM_of hb h (cH_le z.2.1 (by omega)) (dS_W (dW_Z z) (fun _ _ _ _ e => e))
  have ha2 := AL_Z hal z
  simp only [qL_1199, qL_1200, qL_1201, qL_1202, qL_1203, qL_1204, qL_1205, qL_1206, qL_1207, qL_1208, qL_1209, qL_1210, qL_1211, as_nil, as_i, as_r, Nat.reduceAdd, Nat.reduceLeDiff, z_eq0, z_eq1, z_or, z_em, Classical.not_not, not_false_eq_true, not_true_eq_false, true_and, and_true, false_and, and_false, and_self, true_implies, false_implies, implies_true, Option.toList_some, Option.toList_none, List.cons_append, List.nil_append, Nat.add_eq_zero_iff, a_nl_i, a_nl_r, a_nl_n, true_or, or_true, eq_self, a_isRA_22, a_isRA_24, a_isRA_32, a_isA_20, hm.2.2.2.2, o1, o2, o3, o4, o5, o6, o7, m_0 hm.2.1, m_K hm.2.1]
  refine pu_hosts hm.2.1 ⟨mG_refl hm.2.2.1, hm.2.2.2.1⟩ hc (fun v2 J3 g => ?_)
  simp only [qL_1214, qL_1215, as_nil, as_i, as_r, Nat.reduceAdd, Nat.reduceLeDiff, z_eq0, z_eq1, z_or, z_em, Classical.not_not, not_false_eq_true, not_true_eq_false, true_and, and_true, false_and, and_false, and_self, true_implies, false_implies, implies_true, Option.toList_some, Option.toList_none, List.cons_append, List.nil_append, Nat.add_eq_zero_iff, a_nl_i, a_nl_r, a_nl_n, true_or, or_true, eq_self, a_isRA_22, a_isRA_24, a_isRA_32, a_isA_20]
  exact hn _ _ _ _ _ _ (lawI_F hm ha2 g)
theorem lc_owe (hb : b < C) (h : lawI b C c n t K L J R) (hc : 120 * c + 130 ≤ 84000) {i : Int32} (h0 : 0 ≤ i) (h1 : i.toInt + 8 ≤ sL) (h2 : sL ≤ 4096) (hn : ∀ n t K L J R, lawI b C (c + 1) n t K L J R → a_at 700 (lx b sL sx) 1547 [some (.ref b), some (a_rf C), some (a_rf (C + 44)), some (.int i)] [] (n + 1, t, K, L, J, R) P) : a_at 700 (lx b sL sx) 1218 [some (.ref b), some (a_rf C), some (a_rf (C + 44)), some (.int i)] [] (n + 1, t, K, L, J, R) P := by
  have hS := h.1.1.s
  have kb := h.2.2.2.2.1
  have hal := h.2.2.2.2.2
  have o1 : a_ok (i + 1) sL := a_ok8 h0 h1 h2 (by decide)
  have o2 : a_ok (i + 2) sL := a_ok8 h0 h1 h2 (by decide)
  have o3 : a_ok (i + 3) sL := a_ok8 h0 h1 h2 (by decide)
  have o4 : a_ok (i + 4) sL := a_ok8 h0 h1 h2 (by decide)
  have o5 : a_ok (i + 5) sL := a_ok8 h0 h1 h2 (by decide)
  have o6 : a_ok (i + 6) sL := a_ok8 h0 h1 h2 (by decide)
  have o7 : a_ok (i + 7) sL := a_ok8 h0 h1 h2 (by decide)
  simp only [qL_1218, qL_1219, qL_1220, qL_1221, qL_1222, qL_1223, qL_1224, as_nil, as_i, as_r, Nat.reduceAdd, Nat.reduceLeDiff, z_eq0, z_eq1, z_or, z_em, Classical.not_not, not_false_eq_true, not_true_eq_false, true_and, and_true, false_and, and_false, and_self, true_implies, false_implies, implies_true, Option.toList_some, Option.toList_none, List.cons_append, List.nil_append, Nat.add_eq_zero_iff, a_nl_i, a_nl_r, a_nl_n, true_or, or_true, eq_self, a_isRA_22, a_isRA_24, a_isRA_32, a_isA_20, kb, o1, o2, o3, o4, o5, o6, o7, k_0 hS, z_C hS]
  refine cu_owe h.1 (fun v n2 t2 K2 L2 J2 R2 z => ?_)
  have hm := lawM_of hb h (cH_le z.2.1 (by omega)) (dS_W (dW_Z z) (fun _ _ _ _ e => e))
  have ha2 := AL_Z hal z
  simp only [qL_1227, qL_1228, qL_1229, qL_1230, qL_1231, qL_1232, qL_1233, qL_1234, as_nil, as_i, as_r, Nat.reduceAdd, Nat.reduceLeDiff, z_eq0, z_eq1, z_or, z_em, Classical.not_not, not_false_eq_true, not_true_eq_false, true_and, and_true, false_and, and_false, and_self, true_implies, false_implies, implies_true, Option.toList_some, Option.toList_none, List.cons_append, List.nil_append, Nat.add_eq_zero_iff, a_nl_i, a_nl_r, a_nl_n, true_or, or_true, eq_self, a_isRA_22, a_isRA_24, a_isRA_32, a_isA_20, hm.2.2.2.2, o1, o2, o3, o4, o5, o6, o7, m_0 hm.2.1, m_K hm.2.1]
  refine pu_owe hm.2.1 ⟨mG_refl hm.2.2.1, hm.2.2.2.1⟩ hc (fun v2 J3 g => ?_)
  simp only [qL_1237, qL_1238, as_nil, as_i, as_r, Nat.reduceAdd, Nat.reduceLeDiff, z_eq0, z_eq1, z_or, z_em, Classical.not_not, not_false_eq_true, not_true_eq_false, true_and, and_true, false_and, and_false, and_self, true_implies, false_implies, implies_true, Option.toList_some, Option.toList_none, List.cons_append, List.nil_append, Nat.add_eq_zero_iff, a_nl_i, a_nl_r, a_nl_n, true_or, or_true, eq_self, a_isRA_22, a_isRA_24, a_isRA_32, a_isA_20]
  exact hn _ _ _ _ _ _ (lawI_F hm ha2 g)
theorem lc_again (hb : b < C) (h : lawI b C c n t K L J R) (hc : 120 * c + 130 ≤ 84000) {i : Int32} (h0 : 0 ≤ i) (h1 : i.toInt + 8 ≤ sL) (h2 : sL ≤ 4096) (hn : ∀ n t K L J R, lawI b C (c + 1) n t K L J R → a_at 700 (lx b sL sx) 1547 [some (.ref b), some (a_rf C), some (a_rf (C + 44)), some (.int i)] [] (n + 1, t, K, L, J, R) P) : a_at 700 (lx b sL sx) 1241 [some (.ref b), some (a_rf C), some (a_rf (C + 44)), some (.int i)] [] (n + 1, t, K, L, J, R) P := by
  have hS := h.1.1.s
  have kb := h.2.2.2.2.1
  have hal := h.2.2.2.2.2
  have o1 : a_ok (i + 1) sL := a_ok8 h0 h1 h2 (by decide)
  have o2 : a_ok (i + 2) sL := a_ok8 h0 h1 h2 (by decide)
  have o3 : a_ok (i + 3) sL := a_ok8 h0 h1 h2 (by decide)
  have o4 : a_ok (i + 4) sL := a_ok8 h0 h1 h2 (by decide)
  have o5 : a_ok (i + 5) sL := a_ok8 h0 h1 h2 (by decide)
  have o6 : a_ok (i + 6) sL := a_ok8 h0 h1 h2 (by decide)
  have o7 : a_ok (i + 7) sL := a_ok8 h0 h1 h2 (by decide)
  simp only [qL_1241, qL_1242, as_nil, as_i, as_r, Nat.reduceAdd, Nat.reduceLeDiff, z_eq0, z_eq1, z_or, z_em, Classical.not_not, not_false_eq_true, not_true_eq_false, true_and, and_true, false_and, and_false, and_self, true_implies, false_implies, implies_true, Option.toList_some, Option.toList_none, List.cons_append, List.nil_append, Nat.add_eq_zero_iff, a_nl_i, a_nl_r, a_nl_n, true_or, or_true, eq_self, a_isRA_22, a_isRA_24, a_isRA_32, a_isA_20, kb, o1, o2, o3, o4, o5, o6, o7, k_0 hS, z_C hS]
  refine cu_again h.1 (fun v n2 t2 K2 L2 J2 R2 z => ?_)
  have hm := lawM_of hb h (cH_le z.2.1 (by omega)) (dS_W (dW_Z z) (fun _ _ _ _ e => e))
  have ha2 := AL_Z hal z
  simp only [qL_1245, qL_1246, qL_1247, as_nil, as_i, as_r, Nat.reduceAdd, Nat.reduceLeDiff, z_eq0, z_eq1, z_or, z_em, Classical.not_not, not_false_eq_true, not_true_eq_false, true_and, and_true, false_and, and_false, and_self, true_implies, false_implies, implies_true, Option.toList_some, Option.toList_none, List.cons_append, List.nil_append, Nat.add_eq_zero_iff, a_nl_i, a_nl_r, a_nl_n, true_or, or_true, eq_self, a_isRA_22, a_isRA_24, a_isRA_32, a_isA_20, hm.2.2.2.2, o1, o2, o3, o4, o5, o6, o7, m_0 hm.2.1, m_K hm.2.1]
  refine pu_again hm.2.1 ⟨mG_refl hm.2.2.1, hm.2.2.2.1⟩ hc (fun v2 J3 g => ?_)
  simp only [qL_1250, qL_1251, as_nil, as_i, as_r, Nat.reduceAdd, Nat.reduceLeDiff, z_eq0, z_eq1, z_or, z_em, Classical.not_not, not_false_eq_true, not_true_eq_false, true_and, and_true, false_and, and_false, and_self, true_implies, false_implies, implies_true, Option.toList_some, Option.toList_none, List.cons_append, List.nil_append, Nat.add_eq_zero_iff, a_nl_i, a_nl_r, a_nl_n, true_or, or_true, eq_self, a_isRA_22, a_isRA_24, a_isRA_32, a_isA_20]
  exact hn _ _ _ _ _ _ (lawI_F hm ha2 g)
theorem lc_danger (hb : b < C) (h : lawI b C c n t K L J R) (hc : 120 * c + 130 ≤ 84000) {i : Int32} (h0 : 0 ≤ i) (h1 : i.toInt + 8 ≤ sL) (h2 : sL ≤ 4096) (hn : ∀ n t K L J R, lawI b C (c + 1) n t K L J R → a_at 700 (lx b sL sx) 1547 [some (.ref b), some (a_rf C), some (a_rf (C + 44)), some (.int i)] [] (n + 1, t, K, L, J, R) P) : a_at 700 (lx b sL sx) 1254 [some (.ref b), some (a_rf C), some (a_rf (C + 44)), some (.int i)] [] (n + 1, t, K, L, J, R) P := by
  have hS := h.1.1.s
  have kb := h.2.2.2.2.1
  have hal := h.2.2.2.2.2
  have o1 : a_ok (i + 1) sL := a_ok8 h0 h1 h2 (by decide)
  have o2 : a_ok (i + 2) sL := a_ok8 h0 h1 h2 (by decide)
  have o3 : a_ok (i + 3) sL := a_ok8 h0 h1 h2 (by decide)
  have o4 : a_ok (i + 4) sL := a_ok8 h0 h1 h2 (by decide)
  have o5 : a_ok (i + 5) sL := a_ok8 h0 h1 h2 (by decide)
  have o6 : a_ok (i + 6) sL := a_ok8 h0 h1 h2 (by decide)
  have o7 : a_ok (i + 7) sL := a_ok8 h0 h1 h2 (by decide)
  simp only [qL_1254, qL_1255, qL_1256, qL_1257, qL_1258, qL_1259, qL_1260, qL_1261, qL_1262, qL_1263, qL_1264, qL_1265, as_nil, as_i, as_r, Nat.reduceAdd, Nat.reduceLeDiff, z_eq0, z_eq1, z_or, z_em, Classical.not_not, not_false_eq_true, not_true_eq_false, true_and, and_true, false_and, and_false, and_self, true_implies, false_implies, implies_true, Option.toList_some, Option.toList_none, List.cons_append, List.nil_append, Nat.add_eq_zero_iff, a_nl_i, a_nl_r, a_nl_n, true_or, or_true, eq_self, a_isRA_22, a_isRA_24, a_isRA_32, a_isA_20, kb, o1, o2, o3, o4, o5, o6, o7, k_0 hS, z_C hS]
  refine cu_danger h.1 (fun v n2 t2 K2 L2 J2 R2 z => ?_)
  have hm := lawM_of hb h (cH_le z.2.1 (by omega)) (dS_W (dW_Z z) (fun _ _ _ _ e => e))
  have ha2 := AL_Z hal z
  simp only [qL_1268, qL_1269, qL_1270, qL_1271, qL_1272, qL_1273, qL_1274, qL_1275, qL_1276, qL_1277, qL_1278, qL_1279, qL_1280, as_nil, as_i, as_r, Nat.reduceAdd, Nat.reduceLeDiff, z_eq0, z_eq1, z_or, z_em, Classical.not_not, not_false_eq_true, not_true_eq_false, true_and, and_true, false_and, and_false, and_self, true_implies, false_implies, implies_true, Option.toList_some, Option.toList_none, List.cons_append, List.nil_append, Nat.add_eq_zero_iff, a_nl_i, a_nl_r, a_nl_n, true_or, or_true, eq_self, a_isRA_22, a_isRA_24, a_isRA_32, a_isA_20, hm.2.2.2.2, o1, o2, o3, o4, o5, o6, o7, m_0 hm.2.1, m_K hm.2.1]
  refine pu_danger hm.2.1 ⟨mG_refl hm.2.2.1, hm.2.2.2.1⟩ hc (fun v2 J3 g => ?_)
  simp only [qL_1283, qL_1284, as_nil, as_i, as_r, Nat.reduceAdd, Nat.reduceLeDiff, z_eq0, z_eq1, z_or, z_em, Classical.not_not, not_false_eq_true, not_true_eq_false, true_and, and_true, false_and, and_false, and_self, true_implies, false_implies, implies_true, Option.toList_some, Option.toList_none, List.cons_append, List.nil_append, Nat.add_eq_zero_iff, a_nl_i, a_nl_r, a_nl_n, true_or, or_true, eq_self, a_isRA_22, a_isRA_24, a_isRA_32, a_isA_20]
  exact hn _ _ _ _ _ _ (lawI_F hm ha2 g)
theorem lc_wish (hb : b < C) (h : lawI b C c n t K L J R) (hc : 120 * c + 130 ≤ 84000) {i : Int32} (h0 : 0 ≤ i) (h1 : i.toInt + 8 ≤ sL) (h2 : sL ≤ 4096) (hn : ∀ n t K L J R, lawI b C (c + 1) n t K L J R → a_at 700 (lx b sL sx) 1547 [some (.ref b), some (a_rf C), some (a_rf (C + 44)), some (.int i)] [] (n + 1, t, K, L, J, R) P) : a_at 700 (lx b sL sx) 1287 [some (.ref b), some (a_rf C), some (a_rf (C + 44)), some (.int i)] [] (n + 1, t, K, L, J, R) P := by
  have hS := h.1.1.s
  have kb := h.2.2.2.2.1
  have hal := h.2.2.2.2.2
  have o1 : a_ok (i + 1) sL := a_ok8 h0 h1 h2 (by decide)
  have o2 : a_ok (i + 2) sL := a_ok8 h0 h1 h2 (by decide)
  have o3 : a_ok (i + 3) sL := a_ok8 h0 h1 h2 (by decide)
  have o4 : a_ok (i + 4) sL := a_ok8 h0 h1 h2 (by decide)
  have o5 : a_ok (i + 5) sL := a_ok8 h0 h1 h2 (by decide)
  have o6 : a_ok (i + 6) sL := a_ok8 h0 h1 h2 (by decide)
  have o7 : a_ok (i + 7) sL := a_ok8 h0 h1 h2 (by decide)
  simp only [qL_1287, qL_1288, qL_1289, qL_1290, qL_1291, qL_1292, qL_1293, qL_1294, qL_1295, qL_1296, qL_1297, qL_1298, qL_1299, qL_1300, qL_1301, qL_1302, qL_1303, qL_1306, qL_1307, qL_1310, qL_1311, as_nil, as_i, as_r, Nat.reduceAdd, Nat.reduceLeDiff, z_eq0, z_eq1, z_or, z_em, Classical.not_not, not_false_eq_true, not_true_eq_false, true_and, and_true, false_and, and_false, and_self, true_implies, false_implies, implies_true, Option.toList_some, Option.toList_none, List.cons_append, List.nil_append, Nat.add_eq_zero_iff, a_nl_i, a_nl_r, a_nl_n, true_or, or_true, eq_self, a_isRA_22, a_isRA_24, a_isRA_32, a_isA_20, kb, o1, o2, o3, o4, o5, o6, o7, k_0 hS, z_C hS]
  have hgo : ∀ w : Int32, (w = 0 ∨ w = 1) → a_does 700 147 [a_rf C, .int (sx (i + 1).toNatClampNeg), .int (sx (i + 2).toNatClampNeg), .int w] (n + 1, t, K, L, J, R) (fun r h' => a_at 700 (lx b sL sx) 1314 [some (.ref b), some (a_rf C), some (a_rf (C + 44)), some (.int i)] (r.toList ++ []) h' P) := fun w hw => by
    refine cu_wish h.1 hw (fun v n2 t2 K2 L2 J2 R2 z => ?_)
    have hm := lawM_of hb h (cH_le z.2.1 (by omega)) (dS_W (dW_Z z) (fun _ _ _ _ e => e))
    have ha2 := AL_Z hal z
    have hgo2 : ∀ w : Int32, (w = 0 ∨ w = 1) → a_does 700 250 [a_rf (C + 44), .int (sx (i + 1).toNatClampNeg), .int (sx (i + 2).toNatClampNeg), .int w] (n2 + 1, t2, K2, L2, J2, R2) (fun r h' => a_at 700 (lx b sL sx) 1342 [some (.ref b), some (a_rf C), some (a_rf (C + 44)), some (.int i)] (r.toList ++ []) h' P) := fun w hw => by
      refine pu_wish hm.2.1 ⟨mG_refl hm.2.2.1, hm.2.2.2.1⟩ hc (fun v2 J3 g => ?_)
      simp only [qL_1342, qL_1343, as_nil, as_i, as_r, Nat.reduceAdd, Nat.reduceLeDiff, z_eq0, z_eq1, z_or, z_em, Classical.not_not, not_false_eq_true, not_true_eq_false, true_and, and_true, false_and, and_false, and_self, true_implies, false_implies, implies_true, Option.toList_some, Option.toList_none, List.cons_append, List.nil_append, Nat.add_eq_zero_iff, a_nl_i, a_nl_r, a_nl_n, true_or, or_true, eq_self, a_isRA_22, a_isRA_24, a_isRA_32, a_isA_20]
      exact hn _ _ _ _ _ _ (lawI_F hm ha2 g)
    have g0 := hgo2 0 (Or.inl rfl)
    have g1 := hgo2 1 (Or.inr rfl)
    simp only [qL_1314, qL_1315, qL_1316, qL_1317, qL_1318, qL_1319, qL_1320, qL_1321, qL_1322, qL_1323, qL_1324, qL_1325, qL_1326, qL_1327, qL_1328, qL_1329, qL_1330, qL_1331, qL_1334, qL_1335, qL_1338, qL_1339, as_nil, as_i, as_r, Nat.reduceAdd, Nat.reduceLeDiff, z_eq0, z_eq1, z_or, z_em, Classical.not_not, not_false_eq_true, not_true_eq_false, true_and, and_true, false_and, and_false, and_self, true_implies, false_implies, implies_true, Option.toList_some, Option.toList_none, List.cons_append, List.nil_append, Nat.add_eq_zero_iff, a_nl_i, a_nl_r, a_nl_n, true_or, or_true, eq_self, a_isRA_22, a_isRA_24, a_isRA_32, a_isA_20, hm.2.2.2.2, o1, o2, o3, o4, o5, o6, o7, m_0 hm.2.1, m_K hm.2.1]
    exact ⟨fun _ => g0, fun _ => g1⟩
  have g0 := hgo 0 (Or.inl rfl)
  have g1 := hgo 1 (Or.inr rfl)
  exact ⟨fun _ => g0, fun _ => g1⟩
theorem lc_ring (hb : b < C) (h : lawI b C c n t K L J R) (hc : 120 * c + 130 ≤ 84000) {i : Int32} (h0 : 0 ≤ i) (h1 : i.toInt + 8 ≤ sL) (h2 : sL ≤ 4096) (hn : ∀ n t K L J R, lawI b C (c + 1) n t K L J R → a_at 700 (lx b sL sx) 1547 [some (.ref b), some (a_rf C), some (a_rf (C + 44)), some (.int i)] [] (n + 1, t, K, L, J, R) P) : a_at 700 (lx b sL sx) 1346 [some (.ref b), some (a_rf C), some (a_rf (C + 44)), some (.int i)] [] (n + 1, t, K, L, J, R) P := by
  have hS := h.1.1.s
  have kb := h.2.2.2.2.1
  have hal := h.2.2.2.2.2
  have o1 : a_ok (i + 1) sL := a_ok8 h0 h1 h2 (by decide)
  have o2 : a_ok (i + 2) sL := a_ok8 h0 h1 h2 (by decide)
  have o3 : a_ok (i + 3) sL := a_ok8 h0 h1 h2 (by decide)
  have o4 : a_ok (i + 4) sL := a_ok8 h0 h1 h2 (by decide)
  have o5 : a_ok (i + 5) sL := a_ok8 h0 h1 h2 (by decide)
  have o6 : a_ok (i + 6) sL := a_ok8 h0 h1 h2 (by decide)
  have o7 : a_ok (i + 7) sL := a_ok8 h0 h1 h2 (by decide)
  simp only [qL_1346, qL_1347, qL_1348, qL_1349, qL_1350, qL_1351, qL_1352, as_nil, as_i, as_r, Nat.reduceAdd, Nat.reduceLeDiff, z_eq0, z_eq1, z_or, z_em, Classical.not_not, not_false_eq_true, not_true_eq_false, true_and, and_true, false_and, and_false, and_self, true_implies, false_implies, implies_true, Option.toList_some, Option.toList_none, List.cons_append, List.nil_append, Nat.add_eq_zero_iff, a_nl_i, a_nl_r, a_nl_n, true_or, or_true, eq_self, a_isRA_22, a_isRA_24, a_isRA_32, a_isA_20, kb, o1, o2, o3, o4, o5, o6, o7, k_0 hS, z_C hS]
  refine cu_ring h.1 (fun v n2 t2 K2 L2 J2 R2 z => ?_)
  have hm := lawM_of hb h (cH_le z.2.1 (by omega)) (dS_W (dW_Z z) (fun _ _ _ _ e => e))
  have ha2 := AL_Z hal z
  simp only [qL_1355, qL_1356, qL_1357, qL_1358, qL_1359, qL_1360, qL_1361, qL_1362, as_nil, as_i, as_r, Nat.reduceAdd, Nat.reduceLeDiff, z_eq0, z_eq1, z_or, z_em, Classical.not_not, not_false_eq_true, not_true_eq_false, true_and, and_true, false_and, and_false, and_self, true_implies, false_implies, implies_true, Option.toList_some, Option.toList_none, List.cons_append, List.nil_append, Nat.add_eq_zero_iff, a_nl_i, a_nl_r, a_nl_n, true_or, or_true, eq_self, a_isRA_22, a_isRA_24, a_isRA_32, a_isA_20, hm.2.2.2.2, o1, o2, o3, o4, o5, o6, o7, m_0 hm.2.1, m_K hm.2.1]
  refine pu_ring hm.2.1 ⟨mG_refl hm.2.2.1, hm.2.2.2.1⟩ hc (fun v2 J3 g => ?_)
  simp only [qL_1365, qL_1366, as_nil, as_i, as_r, Nat.reduceAdd, Nat.reduceLeDiff, z_eq0, z_eq1, z_or, z_em, Classical.not_not, not_false_eq_true, not_true_eq_false, true_and, and_true, false_and, and_false, and_self, true_implies, false_implies, implies_true, Option.toList_some, Option.toList_none, List.cons_append, List.nil_append, Nat.add_eq_zero_iff, a_nl_i, a_nl_r, a_nl_n, true_or, or_true, eq_self, a_isRA_22, a_isRA_24, a_isRA_32, a_isA_20]
  exact hn _ _ _ _ _ _ (lawI_F hm ha2 g)
theorem lc_swap (hb : b < C) (h : lawI b C c n t K L J R) (hc : 120 * c + 130 ≤ 84000) {i : Int32} (h0 : 0 ≤ i) (h1 : i.toInt + 8 ≤ sL) (h2 : sL ≤ 4096) (hn : ∀ n t K L J R, lawI b C (c + 1) n t K L J R → a_at 700 (lx b sL sx) 1547 [some (.ref b), some (a_rf C), some (a_rf (C + 44)), some (.int i)] [] (n + 1, t, K, L, J, R) P) : a_at 700 (lx b sL sx) 1369 [some (.ref b), some (a_rf C), some (a_rf (C + 44)), some (.int i)] [] (n + 1, t, K, L, J, R) P := by
  have hS := h.1.1.s
  have kb := h.2.2.2.2.1
  have hal := h.2.2.2.2.2
  have o1 : a_ok (i + 1) sL := a_ok8 h0 h1 h2 (by decide)
  have o2 : a_ok (i + 2) sL := a_ok8 h0 h1 h2 (by decide)
  have o3 : a_ok (i + 3) sL := a_ok8 h0 h1 h2 (by decide)
  have o4 : a_ok (i + 4) sL := a_ok8 h0 h1 h2 (by decide)
  have o5 : a_ok (i + 5) sL := a_ok8 h0 h1 h2 (by decide)
  have o6 : a_ok (i + 6) sL := a_ok8 h0 h1 h2 (by decide)
  have o7 : a_ok (i + 7) sL := a_ok8 h0 h1 h2 (by decide)
  simp only [qL_1369, qL_1370, as_nil, as_i, as_r, Nat.reduceAdd, Nat.reduceLeDiff, z_eq0, z_eq1, z_or, z_em, Classical.not_not, not_false_eq_true, not_true_eq_false, true_and, and_true, false_and, and_false, and_self, true_implies, false_implies, implies_true, Option.toList_some, Option.toList_none, List.cons_append, List.nil_append, Nat.add_eq_zero_iff, a_nl_i, a_nl_r, a_nl_n, true_or, or_true, eq_self, a_isRA_22, a_isRA_24, a_isRA_32, a_isA_20, kb, o1, o2, o3, o4, o5, o6, o7, k_0 hS, z_C hS]
  refine cu_swap h.1 (fun v n2 t2 K2 L2 J2 R2 z => ?_)
  have hm := lawM_of hb h (cH_le z.2.1 (by omega)) (dS_W (dW_Z z) (fun _ _ _ _ e => e))
  have ha2 := AL_Z hal z
  simp only [qL_1373, qL_1374, qL_1375, as_nil, as_i, as_r, Nat.reduceAdd, Nat.reduceLeDiff, z_eq0, z_eq1, z_or, z_em, Classical.not_not, not_false_eq_true, not_true_eq_false, true_and, and_true, false_and, and_false, and_self, true_implies, false_implies, implies_true, Option.toList_some, Option.toList_none, List.cons_append, List.nil_append, Nat.add_eq_zero_iff, a_nl_i, a_nl_r, a_nl_n, true_or, or_true, eq_self, a_isRA_22, a_isRA_24, a_isRA_32, a_isA_20, hm.2.2.2.2, o1, o2, o3, o4, o5, o6, o7, m_0 hm.2.1, m_K hm.2.1]
  refine pu_swap hm.2.1 ⟨mG_refl hm.2.2.1, hm.2.2.2.1⟩ hc (fun v2 J3 g => ?_)
  simp only [qL_1378, qL_1379, as_nil, as_i, as_r, Nat.reduceAdd, Nat.reduceLeDiff, z_eq0, z_eq1, z_or, z_em, Classical.not_not, not_false_eq_true, not_true_eq_false, true_and, and_true, false_and, and_false, and_self, true_implies, false_implies, implies_true, Option.toList_some, Option.toList_none, List.cons_append, List.nil_append, Nat.add_eq_zero_iff, a_nl_i, a_nl_r, a_nl_n, true_or, or_true, eq_self, a_isRA_22, a_isRA_24, a_isRA_32, a_isA_20]
  exact hn _ _ _ _ _ _ (lawI_F hm ha2 g)
theorem lc_had (hb : b < C) (h : lawI b C c n t K L J R) (hc : 120 * c + 130 ≤ 84000) {i : Int32} (h0 : 0 ≤ i) (h1 : i.toInt + 8 ≤ sL) (h2 : sL ≤ 4096) (hn : ∀ n t K L J R, lawI b C (c + 1) n t K L J R → a_at 700 (lx b sL sx) 1547 [some (.ref b), some (a_rf C), some (a_rf (C + 44)), some (.int i)] [] (n + 1, t, K, L, J, R) P) : a_at 700 (lx b sL sx) 1382 [some (.ref b), some (a_rf C), some (a_rf (C + 44)), some (.int i)] [] (n + 1, t, K, L, J, R) P := by
  have hS := h.1.1.s
  have kb := h.2.2.2.2.1
  have hal := h.2.2.2.2.2
  have o1 : a_ok (i + 1) sL := a_ok8 h0 h1 h2 (by decide)
  have o2 : a_ok (i + 2) sL := a_ok8 h0 h1 h2 (by decide)
  have o3 : a_ok (i + 3) sL := a_ok8 h0 h1 h2 (by decide)
  have o4 : a_ok (i + 4) sL := a_ok8 h0 h1 h2 (by decide)
  have o5 : a_ok (i + 5) sL := a_ok8 h0 h1 h2 (by decide)
  have o6 : a_ok (i + 6) sL := a_ok8 h0 h1 h2 (by decide)
  have o7 : a_ok (i + 7) sL := a_ok8 h0 h1 h2 (by decide)
  simp only [qL_1382, qL_1383, qL_1384, qL_1385, qL_1386, qL_1387, qL_1388, qL_1389, qL_1390, qL_1391, qL_1392, qL_1393, qL_1394, qL_1395, qL_1396, qL_1397, qL_1398, as_nil, as_i, as_r, Nat.reduceAdd, Nat.reduceLeDiff, z_eq0, z_eq1, z_or, z_em, Classical.not_not, not_false_eq_true, not_true_eq_false, true_and, and_true, false_and, and_false, and_self, true_implies, false_implies, implies_true, Option.toList_some, Option.toList_none, List.cons_append, List.nil_append, Nat.add_eq_zero_iff, a_nl_i, a_nl_r, a_nl_n, true_or, or_true, eq_self, a_isRA_22, a_isRA_24, a_isRA_32, a_isA_20, kb, o1, o2, o3, o4, o5, o6, o7, k_0 hS, z_C hS]
  refine cu_had h.1 (fun v n2 t2 K2 L2 J2 R2 z => ?_)
  have hm := lawM_of hb h (cH_le z.2.1 (by omega)) (dS_W (dW_Z z) (fun _ _ _ _ e => e))
  have ha2 := AL_Z hal z
  simp only [qL_1401, qL_1402, qL_1403, qL_1404, qL_1405, qL_1406, qL_1407, qL_1408, qL_1409, qL_1410, qL_1411, qL_1412, qL_1413, qL_1414, qL_1415, qL_1416, qL_1417, qL_1418, as_nil, as_i, as_r, Nat.reduceAdd, Nat.reduceLeDiff, z_eq0, z_eq1, z_or, z_em, Classical.not_not, not_false_eq_true, not_true_eq_false, true_and, and_true, false_and, and_false, and_self, true_implies, false_implies, implies_true, Option.toList_some, Option.toList_none, List.cons_append, List.nil_append, Nat.add_eq_zero_iff, a_nl_i, a_nl_r, a_nl_n, true_or, or_true, eq_self, a_isRA_22, a_isRA_24, a_isRA_32, a_isA_20, hm.2.2.2.2, o1, o2, o3, o4, o5, o6, o7, m_0 hm.2.1, m_K hm.2.1]
  refine pu_had hm.2.1 ⟨mG_refl hm.2.2.1, hm.2.2.2.1⟩ hc (fun v2 J3 g => ?_)
  simp only [qL_1421, qL_1422, as_nil, as_i, as_r, Nat.reduceAdd, Nat.reduceLeDiff, z_eq0, z_eq1, z_or, z_em, Classical.not_not, not_false_eq_true, not_true_eq_false, true_and, and_true, false_and, and_false, and_self, true_implies, false_implies, implies_true, Option.toList_some, Option.toList_none, List.cons_append, List.nil_append, Nat.add_eq_zero_iff, a_nl_i, a_nl_r, a_nl_n, true_or, or_true, eq_self, a_isRA_22, a_isRA_24, a_isRA_32, a_isA_20]
  exact hn _ _ _ _ _ _ (lawI_F hm ha2 g)
theorem lc_lead (hb : b < C) (h : lawI b C c n t K L J R) (hc : 120 * c + 130 ≤ 84000) {i : Int32} (h0 : 0 ≤ i) (h1 : i.toInt + 8 ≤ sL) (h2 : sL ≤ 4096) (hn : ∀ n t K L J R, lawI b C (c + 1) n t K L J R → a_at 700 (lx b sL sx) 1547 [some (.ref b), some (a_rf C), some (a_rf (C + 44)), some (.int i)] [] (n + 1, t, K, L, J, R) P) : a_at 700 (lx b sL sx) 1425 [some (.ref b), some (a_rf C), some (a_rf (C + 44)), some (.int i)] [] (n + 1, t, K, L, J, R) P := by
  have hS := h.1.1.s
  have kb := h.2.2.2.2.1
  have hal := h.2.2.2.2.2
  have o1 : a_ok (i + 1) sL := a_ok8 h0 h1 h2 (by decide)
  have o2 : a_ok (i + 2) sL := a_ok8 h0 h1 h2 (by decide)
  have o3 : a_ok (i + 3) sL := a_ok8 h0 h1 h2 (by decide)
  have o4 : a_ok (i + 4) sL := a_ok8 h0 h1 h2 (by decide)
  have o5 : a_ok (i + 5) sL := a_ok8 h0 h1 h2 (by decide)
  have o6 : a_ok (i + 6) sL := a_ok8 h0 h1 h2 (by decide)
  have o7 : a_ok (i + 7) sL := a_ok8 h0 h1 h2 (by decide)
  simp only [qL_1425, qL_1426, qL_1427, qL_1428, qL_1429, qL_1430, qL_1431, qL_1432, qL_1433, qL_1434, qL_1435, qL_1436, as_nil, as_i, as_r, Nat.reduceAdd, Nat.reduceLeDiff, z_eq0, z_eq1, z_or, z_em, Classical.not_not, not_false_eq_true, not_true_eq_false, true_and, and_true, false_and, and_false, and_self, true_implies, false_implies, implies_true, Option.toList_some, Option.toList_none, List.cons_append, List.nil_append, Nat.add_eq_zero_iff, a_nl_i, a_nl_r, a_nl_n, true_or, or_true, eq_self, a_isRA_22, a_isRA_24, a_isRA_32, a_isA_20, kb, o1, o2, o3, o4, o5, o6, o7, k_0 hS, z_C hS]
  refine cu_lead h.1 (fun v n2 t2 K2 L2 J2 R2 z => ?_)
  have hm := lawM_of hb h (cH_le z.2.1 (by omega)) (dS_W (dW_Z z) (fun _ _ _ _ e => e))
  have ha2 := AL_Z hal z
  simp only [qL_1439, qL_1440, qL_1441, qL_1442, qL_1443, qL_1444, qL_1445, qL_1446, qL_1447, qL_1448, qL_1449, qL_1450, qL_1451, as_nil, as_i, as_r, Nat.reduceAdd, Nat.reduceLeDiff, z_eq0, z_eq1, z_or, z_em, Classical.not_not, not_false_eq_true, not_true_eq_false, true_and, and_true, false_and, and_false, and_self, true_implies, false_implies, implies_true, Option.toList_some, Option.toList_none, List.cons_append, List.nil_append, Nat.add_eq_zero_iff, a_nl_i, a_nl_r, a_nl_n, true_or, or_true, eq_self, a_isRA_22, a_isRA_24, a_isRA_32, a_isA_20, hm.2.2.2.2, o1, o2, o3, o4, o5, o6, o7, m_0 hm.2.1, m_K hm.2.1]
  refine pu_lead hm.2.1 ⟨mG_refl hm.2.2.1, hm.2.2.2.1⟩ hc (fun v2 J3 g => ?_)
  simp only [qL_1454, qL_1455, as_nil, as_i, as_r, Nat.reduceAdd, Nat.reduceLeDiff, z_eq0, z_eq1, z_or, z_em, Classical.not_not, not_false_eq_true, not_true_eq_false, true_and, and_true, false_and, and_false, and_self, true_implies, false_implies, implies_true, Option.toList_some, Option.toList_none, List.cons_append, List.nil_append, Nat.add_eq_zero_iff, a_nl_i, a_nl_r, a_nl_n, true_or, or_true, eq_self, a_isRA_22, a_isRA_24, a_isRA_32, a_isA_20]
  exact hn _ _ _ _ _ _ (lawI_F hm ha2 g)
theorem lc_put (hb : b < C) (h : lawI b C c n t K L J R) (hc : 120 * c + 130 ≤ 84000) {i : Int32} (h0 : 0 ≤ i) (h1 : i.toInt + 8 ≤ sL) (h2 : sL ≤ 4096) (hn : ∀ n t K L J R, lawI b C (c + 1) n t K L J R → a_at 700 (lx b sL sx) 1547 [some (.ref b), some (a_rf C), some (a_rf (C + 44)), some (.int i)] [] (n + 1, t, K, L, J, R) P) : a_at 700 (lx b sL sx) 1458 [some (.ref b), some (a_rf C), some (a_rf (C + 44)), some (.int i)] [] (n + 1, t, K, L, J, R) P := by
  have hS := h.1.1.s
  have kb := h.2.2.2.2.1
  have hal := h.2.2.2.2.2
  have o1 : a_ok (i + 1) sL := a_ok8 h0 h1 h2 (by decide)
  have o2 : a_ok (i + 2) sL := a_ok8 h0 h1 h2 (by decide)
  have o3 : a_ok (i + 3) sL := a_ok8 h0 h1 h2 (by decide)
  have o4 : a_ok (i + 4) sL := a_ok8 h0 h1 h2 (by decide)
  have o5 : a_ok (i + 5) sL := a_ok8 h0 h1 h2 (by decide)
  have o6 : a_ok (i + 6) sL := a_ok8 h0 h1 h2 (by decide)
  have o7 : a_ok (i + 7) sL := a_ok8 h0 h1 h2 (by decide)
  simp only [qL_1458, qL_1459, qL_1460, qL_1461, qL_1462, qL_1463, qL_1464, as_nil, as_i, as_r, Nat.reduceAdd, Nat.reduceLeDiff, z_eq0, z_eq1, z_or, z_em, Classical.not_not, not_false_eq_true, not_true_eq_false, true_and, and_true, false_and, and_false, and_self, true_implies, false_implies, implies_true, Option.toList_some, Option.toList_none, List.cons_append, List.nil_append, Nat.add_eq_zero_iff, a_nl_i, a_nl_r, a_nl_n, true_or, or_true, eq_self, a_isRA_22, a_isRA_24, a_isRA_32, a_isA_20, kb, o1, o2, o3, o4, o5, o6, o7, k_0 hS, z_C hS]
  refine cw_put h.1 (fun v n2 t2 K2 L2 J2 R2 z w => ?_)
  have hm := lawM_of hb h z (dS_W w (fun x j p q => by intro e; first | exact e.elim | (dsimp only at e; omega) | omega))
  have ha2 := AL_W hal w (fun x j p => by unfold aS at p; intro e; first | exact e.elim | (dsimp only at e; omega) | omega)
  have hSm := hm.2.1
  have hR := hm.2.2.1
  simp only [qL_1467, qL_1468, qL_1469, qL_1470, qL_1471, qL_1472, qL_1473, qL_1474, as_nil, as_i, as_r, Nat.reduceAdd, Nat.reduceLeDiff, z_eq0, z_eq1, z_or, z_em, Classical.not_not, not_false_eq_true, not_true_eq_false, true_and, and_true, false_and, and_false, and_self, true_implies, false_implies, implies_true, Option.toList_some, Option.toList_none, List.cons_append, List.nil_append, Nat.add_eq_zero_iff, a_nl_i, a_nl_r, a_nl_n, true_or, or_true, eq_self, a_isRA_22, a_isRA_24, a_isRA_32, a_isA_20, hm.2.2.2.2, o1, o2, o3, o4, o5, o6, o7, m_0 hm.2.1, m_K hm.2.1]
  clear h hS kb o1 o2 o3 o4 o5 o6 o7 z w hal
  refine pe_put hSm (rg_rowMany hR) ?_ ?_
  · intros
    simp only [qL_1477, qL_1478, as_nil, as_i, as_r, Nat.reduceAdd, Nat.reduceLeDiff, z_eq0, z_eq1, z_or, z_em, Classical.not_not, not_false_eq_true, not_true_eq_false, true_and, and_true, false_and, and_false, and_self, true_implies, false_implies, implies_true, Option.toList_some, Option.toList_none, List.cons_append, List.nil_append, Nat.add_eq_zero_iff, a_nl_i, a_nl_r, a_nl_n, true_or, or_true, eq_self, a_isRA_22, a_isRA_24, a_isRA_32, a_isA_20]
    exact hn _ _ _ _ _ _ (lawI_r hm ha2)
  · intros
    simp only [qL_1477, qL_1478, as_nil, as_i, as_r, Nat.reduceAdd, Nat.reduceLeDiff, z_eq0, z_eq1, z_or, z_em, Classical.not_not, not_false_eq_true, not_true_eq_false, true_and, and_true, false_and, and_false, and_self, true_implies, false_implies, implies_true, Option.toList_some, Option.toList_none, List.cons_append, List.nil_append, Nat.add_eq_zero_iff, a_nl_i, a_nl_r, a_nl_n, true_or, or_true, eq_self, a_isRA_22, a_isRA_24, a_isRA_32, a_isA_20]
    exact hn _ _ _ _ _ _ (lawI_E hm (sR_rowMany (sR_row hR) (by have g := rg_rowMany hR; clear hm hSm hR hn ha2; grind)) (by simp only [ui_ap]; rw [if_neg (by omega), if_neg (by omega)]) (fun x j p => by simp only [ui_ap]; rw [if_neg (by omega), if_neg (by omega)]) (aL_eq ha2 (fun x j p => by unfold aS at p; simp only [ui_ap]; rw [if_neg (by omega), if_neg (by omega)])))
theorem lc_check (hb : b < C) (h : lawI b C c n t K L J R) (hc : 120 * c + 130 ≤ 84000) {i : Int32} (h0 : 0 ≤ i) (h1 : i.toInt + 8 ≤ sL) (h2 : sL ≤ 4096) (hn : ∀ n t K L J R, lawI b C (c + 1) n t K L J R → a_at 700 (lx b sL sx) 1547 [some (.ref b), some (a_rf C), some (a_rf (C + 44)), some (.int i)] [] (n + 1, t, K, L, J, R) P) : a_at 700 (lx b sL sx) 1481 [some (.ref b), some (a_rf C), some (a_rf (C + 44)), some (.int i)] [] (n + 1, t, K, L, J, R) P := by
  have hS := h.1.1.s
  have kb := h.2.2.2.2.1
  have hal := h.2.2.2.2.2
  have o1 : a_ok (i + 1) sL := a_ok8 h0 h1 h2 (by decide)
  have o2 : a_ok (i + 2) sL := a_ok8 h0 h1 h2 (by decide)
  have o3 : a_ok (i + 3) sL := a_ok8 h0 h1 h2 (by decide)
  have o4 : a_ok (i + 4) sL := a_ok8 h0 h1 h2 (by decide)
  have o5 : a_ok (i + 5) sL := a_ok8 h0 h1 h2 (by decide)
  have o6 : a_ok (i + 6) sL := a_ok8 h0 h1 h2 (by decide)
  have o7 : a_ok (i + 7) sL := a_ok8 h0 h1 h2 (by decide)
  simp only [qL_1481, qL_1482, qL_1483, qL_1484, qL_1485, qL_1486, qL_1487, qL_1488, qL_1489, qL_1490, qL_1491, qL_1492, qL_1493, qL_1494, qL_1495, qL_1496, qL_1497, as_nil, as_i, as_r, Nat.reduceAdd, Nat.reduceLeDiff, z_eq0, z_eq1, z_or, z_em, Classical.not_not, not_false_eq_true, not_true_eq_false, true_and, and_true, false_and, and_false, and_self, true_implies, false_implies, implies_true, Option.toList_some, Option.toList_none, List.cons_append, List.nil_append, Nat.add_eq_zero_iff, a_nl_i, a_nl_r, a_nl_n, true_or, or_true, eq_self, a_isRA_22, a_isRA_24, a_isRA_32, a_isA_20, kb, o1, o2, o3, o4, o5, o6, o7, k_0 hS, z_C hS]
  refine cw_check h.1 (fun v n2 t2 K2 L2 J2 R2 z w => ?_)
  have hm := lawM_of hb h z (dS_W w (fun x j p q => by intro e; first | exact e.elim | (dsimp only at e; omega) | omega))
  have ha2 := AL_W hal w (fun x j p => by unfold aS at p; intro e; first | exact e.elim | (dsimp only at e; omega) | omega)
  have hSm := hm.2.1
  have hR := hm.2.2.1
  simp only [qL_1500, qL_1501, qL_1502, qL_1503, qL_1504, qL_1505, qL_1506, qL_1507, qL_1508, qL_1509, qL_1510, qL_1511, qL_1512, qL_1513, qL_1514, qL_1515, qL_1516, qL_1517, as_nil, as_i, as_r, Nat.reduceAdd, Nat.reduceLeDiff, z_eq0, z_eq1, z_or, z_em, Classical.not_not, not_false_eq_true, not_true_eq_false, true_and, and_true, false_and, and_false, and_self, true_implies, false_implies, implies_true, Option.toList_some, Option.toList_none, List.cons_append, List.nil_append, Nat.add_eq_zero_iff, a_nl_i, a_nl_r, a_nl_n, true_or, or_true, eq_self, a_isRA_22, a_isRA_24, a_isRA_32, a_isA_20, hm.2.2.2.2, o1, o2, o3, o4, o5, o6, o7, m_0 hm.2.1, m_K hm.2.1]
  clear h hS kb o1 o2 o3 o4 o5 o6 o7 z w hal
  refine pe_check hSm hR ?_ ?_ ?_ ?_
  · intros
    simp only [qL_1520, qL_1521, as_nil, as_i, as_r, Nat.reduceAdd, Nat.reduceLeDiff, z_eq0, z_eq1, z_or, z_em, Classical.not_not, not_false_eq_true, not_true_eq_false, true_and, and_true, false_and, and_false, and_self, true_implies, false_implies, implies_true, Option.toList_some, Option.toList_none, List.cons_append, List.nil_append, Nat.add_eq_zero_iff, a_nl_i, a_nl_r, a_nl_n, true_or, or_true, eq_self, a_isRA_22, a_isRA_24, a_isRA_32, a_isA_20]
    exact hn _ _ _ _ _ _ (lawI_r hm ha2)
  · intros
    simp only [qL_1520, qL_1521, as_nil, as_i, as_r, Nat.reduceAdd, Nat.reduceLeDiff, z_eq0, z_eq1, z_or, z_em, Classical.not_not, not_false_eq_true, not_true_eq_false, true_and, and_true, false_and, and_false, and_self, true_implies, false_implies, implies_true, Option.toList_some, Option.toList_none, List.cons_append, List.nil_append, Nat.add_eq_zero_iff, a_nl_i, a_nl_r, a_nl_n, true_or, or_true, eq_self, a_isRA_22, a_isRA_24, a_isRA_32, a_isA_20]
    exact hn _ _ _ _ _ _ (lawI_r hm ha2)
  · intros
    simp only [qL_1520, qL_1521, as_nil, as_i, as_r, Nat.reduceAdd, Nat.reduceLeDiff, z_eq0, z_eq1, z_or, z_em, Classical.not_not, not_false_eq_true, not_true_eq_false, true_and, and_true, false_and, and_false, and_self, true_implies, false_implies, implies_true, Option.toList_some, Option.toList_none, List.cons_append, List.nil_append, Nat.add_eq_zero_iff, a_nl_i, a_nl_r, a_nl_n, true_or, or_true, eq_self, a_isRA_22, a_isRA_24, a_isRA_32, a_isA_20]
    exact hn _ _ _ _ _ _ (lawI_r hm ha2)
  · intros
    simp only [qL_1520, qL_1521, as_nil, as_i, as_r, Nat.reduceAdd, Nat.reduceLeDiff, z_eq0, z_eq1, z_or, z_em, Classical.not_not, not_false_eq_true, not_true_eq_false, true_and, and_true, false_and, and_false, and_self, true_implies, false_implies, implies_true, Option.toList_some, Option.toList_none, List.cons_append, List.nil_append, Nat.add_eq_zero_iff, a_nl_i, a_nl_r, a_nl_n, true_or, or_true, eq_self, a_isRA_22, a_isRA_24, a_isRA_32, a_isA_20]
    exact hn _ _ _ _ _ _ (lawI_E hm (sR_rowMany hR (by decide)) (by simp only [ui_ap]; rw [if_neg (by omega)]) (fun x j p => by simp only [ui_ap]; rw [if_neg (by omega)]) (aL_eq ha2 (fun x j p => by unfold aS at p; simp only [ui_ap]; rw [if_neg (by omega)])))
theorem lc_count (hb : b < C) (h : lawI b C c n t K L J R) (hc : 120 * c + 130 ≤ 84000) {i : Int32} (h0 : 0 ≤ i) (h1 : i.toInt + 8 ≤ sL) (h2 : sL ≤ 4096) (hn : ∀ n t K L J R, lawI b C (c + 1) n t K L J R → a_at 700 (lx b sL sx) 1547 [some (.ref b), some (a_rf C), some (a_rf (C + 44)), some (.int i)] [] (n + 1, t, K, L, J, R) P) : a_at 700 (lx b sL sx) 1524 [some (.ref b), some (a_rf C), some (a_rf (C + 44)), some (.int i)] [] (n + 1, t, K, L, J, R) P := by
  have hS := h.1.1.s
  have kb := h.2.2.2.2.1
  have hal := h.2.2.2.2.2
  have o1 : a_ok (i + 1) sL := a_ok8 h0 h1 h2 (by decide)
  have o2 : a_ok (i + 2) sL := a_ok8 h0 h1 h2 (by decide)
  have o3 : a_ok (i + 3) sL := a_ok8 h0 h1 h2 (by decide)
  have o4 : a_ok (i + 4) sL := a_ok8 h0 h1 h2 (by decide)
  have o5 : a_ok (i + 5) sL := a_ok8 h0 h1 h2 (by decide)
  have o6 : a_ok (i + 6) sL := a_ok8 h0 h1 h2 (by decide)
  have o7 : a_ok (i + 7) sL := a_ok8 h0 h1 h2 (by decide)
  simp only [qL_1524, qL_1525, qL_1526, qL_1527, qL_1528, qL_1529, qL_1530, as_nil, as_i, as_r, Nat.reduceAdd, Nat.reduceLeDiff, z_eq0, z_eq1, z_or, z_em, Classical.not_not, not_false_eq_true, not_true_eq_false, true_and, and_true, false_and, and_false, and_self, true_implies, false_implies, implies_true, Option.toList_some, Option.toList_none, List.cons_append, List.nil_append, Nat.add_eq_zero_iff, a_nl_i, a_nl_r, a_nl_n, true_or, or_true, eq_self, a_isRA_22, a_isRA_24, a_isRA_32, a_isA_20, kb, o1, o2, o3, o4, o5, o6, o7, k_0 hS, z_C hS]
  refine cu_count h.1 (fun v n2 t2 K2 L2 J2 R2 z => ?_)
  have hm := lawM_of hb h (cH_le z.2.1 (by omega)) (dS_W (dW_Z z) (fun _ _ _ _ e => e))
  have ha2 := AL_Z hal z
  simp only [qL_1533, qL_1534, qL_1535, qL_1536, qL_1537, qL_1538, qL_1539, qL_1540, as_nil, as_i, as_r, Nat.reduceAdd, Nat.reduceLeDiff, z_eq0, z_eq1, z_or, z_em, Classical.not_not, not_false_eq_true, not_true_eq_false, true_and, and_true, false_and, and_false, and_self, true_implies, false_implies, implies_true, Option.toList_some, Option.toList_none, List.cons_append, List.nil_append, Nat.add_eq_zero_iff, a_nl_i, a_nl_r, a_nl_n, true_or, or_true, eq_self, a_isRA_22, a_isRA_24, a_isRA_32, a_isA_20, hm.2.2.2.2, o1, o2, o3, o4, o5, o6, o7, m_0 hm.2.1, m_K hm.2.1]
  refine pu_count hm.2.1 ⟨mG_refl hm.2.2.1, hm.2.2.2.1⟩ hc (fun v2 J3 g => ?_)
  simp only [qL_1543, qL_1544, as_nil, as_i, as_r, Nat.reduceAdd, Nat.reduceLeDiff, z_eq0, z_eq1, z_or, z_em, Classical.not_not, not_false_eq_true, not_true_eq_false, true_and, and_true, false_and, and_false, and_self, true_implies, false_implies, implies_true, Option.toList_some, Option.toList_none, List.cons_append, List.nil_append, Nat.add_eq_zero_iff, a_nl_i, a_nl_r, a_nl_n, true_or, or_true, eq_self, a_isRA_22, a_isRA_24, a_isRA_32, a_isA_20]
  exact hn _ _ _ _ _ _ (lawI_F hm ha2 g)
end KO
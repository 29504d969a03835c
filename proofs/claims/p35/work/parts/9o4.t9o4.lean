/-! what was had: each call carries it -/
section HK0
variable {d n t C c : Nat} {K L : Nat → Nat} {I I0 J J0 J1 J2 : Nat → Nat → Int32} {R : Nat → Nat → Nat} {P : Option Value → AH → Prop}
variable {Y Z W W1 : Nat → Nat → Int32} {b n' t' c' m m' : Nat} {K' L' : Nat → Nat} {R' R1 R2 : Nat → Nat → Nat}
theorem rdh_gen {D mid : Nat} {as : List Value} {Q : Int32 → (Nat → Nat → Int32) → Prop} {B : AH → Prop} (A : a_does D mid as (n + 1, t, K, L, J, R) (fun r h' => ∃ v J3, r = some (.int v) ∧ h' = (n + 1, t, K, L, J3, R) ∧ Q v J3)) (hB : a_does D mid as (n + 1, t, K, L, J, R) (fun _ h' => B h')) (hP : ∀ v J3, Q v J3 → B (n + 1, t, K, L, J3, R) → P (some (.int v)) (n + 1, t, K, L, J3, R)) : a_does D mid as (n + 1, t, K, L, J, R) P := by
  refine does_mono (does_and A hB) (fun r h' q => ?_)
  obtain ⟨⟨v, J3, e1, e2, g⟩, w⟩ := q
  rw [e2] at w
  rw [e1, e2]
  exact hP v _ g w
def kcX (C : Nat) (J : Nat → Nat → Int32) (R : Nat → Nat → Nat) (Y : Nat → Nat → Int32) (m : Nat) (W1 Z : Nat → Nat → Int32) (h' : AH) : Prop := ∃ n2 t2 K2 L2 J2 R2, h' = (n2 + 1, t2, K2, L2, J2, R2) ∧ hxK C J R Y m J2 R2 W1 Z ∧ ∀ x j, C + 44 ≤ x → x ≤ C + 96 → J2 x j = J x j
theorem kcX_in {n2 t2 : Nat} {K2 L2 : Nat → Nat} (h : kcX C J R Y m W1 Z (n2 + 1, t2, K2, L2, J2, R2)) : hxK C J R Y m J2 R2 W1 Z ∧ ∀ x j, C + 44 ≤ x → x ≤ C + 96 → J2 x j = J x j := by
  obtain ⟨m1, m2, K3, L3, J3, R3, e, f⟩ := h
  simp only [Prod.mk.injEq, Nat.add_right_cancel_iff] at e
  obtain ⟨i1, i2, i3, i4, i5, i6⟩ := e
  subst i5 i6
  exact f
theorem kcX_of {n2 t2 : Nat} {K2 L2 : Nat → Nat} {r : Option Value} (x : hxK C J R Y m J2 R2 W1 Z) (h : cB C n K L J R r (n2 + 1, t2, K2, L2, J2, R2)) : kcX C J R Y m W1 Z (n2 + 1, t2, K2, L2, J2, R2) := ⟨_, _, _, _, _, _, rfl, x, cB_in h⟩
theorem law_17 (h : lawI b C c n t K L J R) : 0 ≤ (yv (C + 44) J) 0 17 ∧ (yv (C + 44) J) 0 17 ≤ 30 := (lawI_ok h).1.2.2.2.2.1
theorem rPh_in (h : rPh C n t K L R J (n + 1, t, K, L, J2, R)) : ∀ x j, eRh (C + 44) x j → J2 x j = J x j := by
  obtain ⟨J3, e, f⟩ := h
  simp only [Prod.mk.injEq, true_and, and_true] at e
  subst e
  exact f
def xqX (C n t : Nat) (K L : Nat → Nat) (R : Nat → Nat → Nat) (J Y W1 Z : Nat → Nat → Int32) (h' : AH) : Prop := ∃ J4, h' = (n + 1, t, K, L, J4, R) ∧ hxQ (C + 44) J J4 Y W1 Z ∧ ∀ x j, (x < (C + 44) ∨ (C + 44) + 52 < x) → J4 x j = J x j
theorem xqX_in (h : xqX C n t K L R J Y W1 Z (n + 1, t, K, L, J2, R)) : hxQ (C + 44) J J2 Y W1 Z ∧ ∀ x j, (x < (C + 44) ∨ (C + 44) + 52 < x) → J2 x j = J x j := by
  obtain ⟨J3, e, f⟩ := h
  simp only [Prod.mk.injEq, true_and, and_true] at e
  subst e
  exact f
theorem lawH_n {J3 : Nat → Nat → Int32} (hI : lawI b C (c + 1) n t K L J3 R) (g : hcG C (30 * c + 30) J3 R (yv (C + 44) J3)) : lawH b C (c + 1) n t K L J3 R := ⟨hI, by rw [show 30 * (c + 1) = 30 * c + 30 by omega]; exact g⟩
/-- hours, the class -/
def hoX (C n t : Nat) (K L : Nat → Nat) (J : Nat → Nat → Int32) (R : Nat → Nat → Nat) (h' : AH) : Prop := cFh C K J R h' ∨ ∃ w, J (C + 1) 6 ≤ w ∧ h' = (n + 1, t, K, L, a_ui J (C + 1) 6 w, R)
theorem now_le {a v : Int32} (ha : 0 ≤ a ∧ a ≤ 1600) (h0 : ¬ v < 0) (h1 : ¬ 1600 - a < v) : a ≤ a + v := by
  have z0 : (0 : Int32).toInt = 0 := rfl
  have z1 : (1600 : Int32).toInt = 1600 := rfl
  have a0 := Int32.le_iff_toInt_le.mp ha.1
  have a1 := Int32.le_iff_toInt_le.mp ha.2
  have v0 := Int32.le_iff_toInt_le.mp (Int32.not_lt.mp h0)
  have v1 := Int32.le_iff_toInt_le.mp (Int32.not_lt.mp h1)
  have e : ((1600 : Int32) - a).toInt = 1600 - a.toInt := by
    rw [Int32.toInt_sub, z1]
    simp only [Int.bmod_def]
    omega
  rw [e] at v1
  rw [Int32.le_iff_toInt_le, ti_add (by omega)]
  omega
theorem kf_hours {u1 : Int32} (hH : cH C c (n + 1) t K L J R) : a_does 700 9 [a_rf C, .int u1] (n + 1, t, K, L, J, R) (fun _ h' => hoX C n t K L J R h') := ke_hoursh hH (fun _ _ z => Or.inl (cf_Zh hH z)) (fun _ _ _ z => Or.inl (cf_Zh hH z)) (fun q1 q2 _ => Or.inr ⟨_, now_le hH.1.g_now q1 q2, rfl⟩)
theorem hoX_g {u1 : Int32} {n2 t2 : Nat} {K2 L2 : Nat → Nat} (h : lawH b C c n t K L J R) (w : hoX C n t K L J R (n2 + 1, t2, K2, L2, J2, R2)) : hcG C (30 * c + 30) J2 R2 (hrY (yv (C + 44) J) u1) := by
  have hT := h.1.1.1
  have hcp := h.1.2.2.2.2.2.1.1
  rcases w with w | ⟨w, hw, e⟩
  · exact hg_c hT hcp h.2 (cF_in w) pz_hours (Nat.le_add_right _ _)
  · simp only [Prod.mk.injEq, Nat.add_right_cancel_iff] at e
    obtain ⟨i1, i2, i3, i4, i5, i6⟩ := e
    subst i5 i6
    exact hg_hc hT hcp h.2 hw pz_hours (Nat.le_add_right _ _)
/-- hours, the reference -/
def hrX (C n t : Nat) (K L : Nat → Nat) (J : Nat → Nat → Int32) (R : Nat → Nat → Nat) (h' : AH) : Prop := rPh C n t K L R J h' ∨ ∃ w, J (C + 44) 0 ≤ w ∧ h' = (n + 1, t, K, L, a_ui J (C + 44) 0 w, R)
theorem rj_hours {u1 : Int32} (hS : m_S (C + 44) K L R) (hR : mR (C + 44) J) : a_does 700 170 [a_rf (C + 44), .int u1] (n + 1, t, K, L, J, R) (fun _ h' => hrX C n t K L J R h') := pe_hours hS (fun _ => Or.inl (rh_J (fun x j hx => by rw [ui_ap, if_neg (by unfold eRh hC at hx; omega)]))) (fun _ _ => Or.inl (rh_J (fun x j hx => by rw [ui_ap, if_neg (by unfold eRh hC at hx; omega)]))) (fun q1 q2 => Or.inr ⟨_, now_le (rg_now hR) (fun q => q1 (Int32.lt_trans q (by decide))) q2, rfl⟩)
theorem hrX_g (hT : cT C K L J R) (hc : cpP C K L J R Z) (h : hcG C m J R Z) (w : hrX C n t K L J R (n + 1, t, K, L, J2, R)) (hc2 : cpP C K L J2 R W) : hcG C m J2 R W := by
  rcases w with w | ⟨w, hw, e⟩
  · have w2 := rPh_in w
    exact hg_r hT hc h w2 (pz_cu hT hc (fun x j q => w2 x j (by unfold eRh; omega)) hc2)
  · simp only [Prod.mk.injEq, true_and, and_true] at e
    subst e
    exact hg_hr hT hc h hw (pz_cu hT hc (fun x j q => by rw [ui_ap, if_neg (by omega)]) hc2)
/-- a new bench -/
def bnX (C n t : Nat) (K L : Nat → Nat) (J : Nat → Nat → Int32) (R : Nat → Nat → Nat) (Y : Nat → Nat → Int32) (p q : Int32) (h' : AH) : Prop := ((p < 0 ∨ q < 0) ∨ (255 < p ∨ 255 < q ∨ Y 0 6 = 6)) ∧ cFh C K J R h' ∨ ¬ ((p < 0 ∨ q < 0) ∨ (255 < p ∨ 255 < q ∨ Y 0 6 = 6)) ∧ ∃ t' K' L' J0 R0, h' = (n + 1 + 5, t', K', L', a_ui J0 (C + 14) 5 (J (C + 14) 5 + 1), a_ur R0 (C + 16) (J (C + 14) 5).toNatClampNeg (n + 1)) ∧ (∀ x j, x < n + 1 → J0 x j = J x j) ∧ (∀ x j, x < n + 1 → R0 x j = R x j) ∧ (R0 (n + 1) 2 = n + 2 ∧ R0 (n + 1) 4 = n + 4 ∧ R0 (n + 1) 5 = n + 5) ∧ (∀ j, j < 200 → J0 (n + 2) j = -9 ∧ J0 (n + 4) j = -9) ∧ J0 (n + 1) 6 = 0
theorem kf_bench {u1 u2 : Int32} (hH : cH C c (n + 1) t K L J R) (hc : cpP C K L J R Y) (h6 : Y 0 6 ≤ 6) : a_does 700 20 [a_rf C, .int u1, .int u2] (n + 1, t, K, L, J, R) (fun _ h' => bnX C n t K L J R Y u1 u2 h') := by
  have e5 : J (C + 14) 5 = Y 0 6 := hc.2.1.1
  have hr : ∀ J', rfQ C c (n + 1) t K L J R J' → cFh C K J R (n + 1, t, K, L, J', R) := fun J' z => cf_Jh (fun x j p _ => z.2 x j (by omega)) (z.2 _ _ (by omega))
  refine ky_bench hH (fun q J' z => Or.inl ⟨Or.inl q, hr J' z⟩) (fun q q2 J' z => Or.inl ⟨Or.inr ?_, hr J' z⟩) (fun q1 q2 t' K' L' J0 R0 _ _ _ _ _ z1 z2 z3 _ z5 z6 _ z8 _ z10 => Or.inr ⟨fun q => ?_, t', K', L', J0, R0, rfl, z1, z2, ⟨z3, z5, z6⟩, z8, z10⟩)
  · rcases q2 with q2 | q2 | q2
    · exact Or.inl q2
    · exact Or.inr (Or.inl q2)
    · exact Or.inr (Or.inr (Int32.le_antisymm h6 (by rw [← e5]; exact q2)))
  · rcases q with q | q | q | q
    · exact q1 q
    · exact q2 (Or.inl q)
    · exact q2 (Or.inr (Or.inl q))
    · exact q2 (Or.inr (Or.inr (by rw [e5, q]; exact Int32.le_refl _)))
theorem bn_g {u1 u2 : Int32} {J0 : Nat → Nat → Int32} {R0 : Nat → Nat → Nat} (hH : cH C c' (n + 1) t K L J R) (hc : cpP C K L J R Y) (h : hcG C m J R Y) (h6 : 0 ≤ Y 0 6 ∧ Y 0 6 < 6) (hm : m ≤ m') (z1 : ∀ x j, x < n + 1 → J0 x j = J x j) (z2 : ∀ x j, x < n + 1 → R0 x j = R x j) (z3 : R0 (n + 1) 2 = n + 2 ∧ R0 (n + 1) 4 = n + 4 ∧ R0 (n + 1) 5 = n + 5) (z8 : ∀ j, j < 200 → J0 (n + 2) j = -9 ∧ J0 (n + 4) j = -9) (z10 : J0 (n + 1) 6 = 0) : hcG C m' (a_ui J0 (C + 14) 5 (J (C + 14) 5 + 1)) (a_ur R0 (C + 16) (J (C + 14) 5).toNatClampNeg (n + 1)) (bnW Y u1 u2) := by
  have hT := hH.1
  have hC := hH.2.2.1
  have e5 : J (C + 14) 5 = Y 0 6 := hc.2.1.1
  have fr : ∀ x, ¬ K x = 0 → x < n + 1 := fun x h => Classical.byContradiction (fun q => h (hH.2.1 x (by omega)))
  have c1 : bnW Y u1 u2 0 6 = Y 0 6 + 1 := bn_at.2.2
  have c17 : bnW Y u1 u2 0 17 = Y 0 17 := bn_no (by omega) (by omega)
  have cr : ∀ k, k = 20 ∨ k = 21 ∨ k = 10 → bnW Y u1 u2 k = Y k := fun k hk => funext (fun j => bn_no (by omega) (by omega))
  have ho : ∀ x c t, hoY (bnW Y u1 u2) x c t = hoY Y x c t := fun x c t => ho_e (fun k hk => by rw [cr k hk])
  obtain ⟨h1, h2, h3, h4, h5⟩ := h
  rw [e5]
  generalize eJ : a_ui J0 (C + 14) 5 (Y 0 6 + 1) = J2
  generalize eR : a_ur R0 (C + 16) (Y 0 6).toNatClampNeg (n + 1) = R2
  generalize eW : bnW Y u1 u2 = Z at c1 c17 cr ho
  have fJ : ∀ x j, x < n + 1 → ¬ (x = C + 14 ∧ j = 5) → J2 x j = J x j := fun x j q q2 => by rw [← eJ, ui_ap, if_neg q2]; exact z1 x j q
  have gJ : ∀ x j, n + 1 ≤ x → J2 x j = J0 x j := fun x j q => by rw [← eJ, ui_ap, if_neg (by omega)]
  have fR : ∀ x j, x < n + 1 → ¬ (x = C + 16 ∧ j = (Y 0 6).toNatClampNeg) → R2 x j = R x j := fun x j q q2 => by rw [← eR, ur_ap, if_neg q2]; exact z2 x j q
  have gR : ∀ j, R2 (n + 1) j = R0 (n + 1) j := fun j => by rw [← eR, ur_ap, if_neg (by omega)]
  have nb : R2 (C + 16) (Y 0 6).toNatClampNeg = n + 1 := by rw [← eR, ur_ap, if_pos ⟨rfl, rfl⟩]
  ((try clear eJ); (try clear eR); (try clear eW); (try clear z1); (try clear z2))
  obtain ⟨e1, e2, e3, e4⟩ := mR_same (C := C) (J2 := J2) (J := J) (fun x j p q => fJ x j (by omega) (by omega))
  have en : J2 (C + 1) 6 = J (C + 1) 6 := fJ _ _ (by omega) (by omega)
  -- the benches that were there
  have hv : ∀ c : Int32, 0 ≤ c → c < Y 0 6 → (chC C J2 R2 c = chC C J R c ∧ whC C J2 R2 c = whC C J R c ∧ paC C J2 R2 c = paC C J R c ∧ pcC C J2 R2 c = pcC C J R c) ∧ R2 (R2 (C + 16) c.toNatClampNeg) 5 = R (R (C + 16) c.toNatClampNeg) 5 ∧ R (R (C + 16) c.toNatClampNeg) 5 < n + 1 := fun c c0 c1 => by
    have k := (hc.2.1.2.2.1 c c0 c1).1
    obtain ⟨b1, ⟨w1, w2, -⟩, -, ⟨h1, h2, -⟩, ⟨p1, p2, -⟩, -⟩ := hT.g_bnc _ k
    have ne : ¬ c.toNatClampNeg = (Y 0 6).toNatClampNeg := fun e => by
      have := cl_lt c0 c1
      omega
    have e16 : R2 (C + 16) c.toNatClampNeg = R (C + 16) c.toNatClampNeg := fR _ _ (by omega) (fun q => ne q.2)
    have lb := fr _ (by rw [k]; decide)
    have eB : ∀ j, R2 (R (C + 16) c.toNatClampNeg) j = R (R (C + 16) c.toNatClampNeg) j := fun j => fR _ _ lb (by omega)
    have l2 := fr _ (by rw [w2]; decide)
    have l4 := fr _ (by rw [h2]; decide)
    have l5 := fr _ (by rw [p2]; decide)
    unfold chC whC paC pcC
    rw [e16, eB, eB, eB]
    exact ⟨⟨funext (fun j => fJ _ _ l4 (by omega)), funext (fun j => fJ _ _ l2 (by omega)), funext (fun j => fJ _ _ l5 (by omega)), by rw [fJ _ _ lb (by omega)]⟩, rfl, l5⟩
  -- the one that is new
  have hn : (∀ j, j < 200 → chC C J2 R2 (Y 0 6) j = -9 ∧ whC C J2 R2 (Y 0 6) j = -9) ∧ pcC C J2 R2 (Y 0 6) = 0 ∧ R2 (R2 (C + 16) (Y 0 6).toNatClampNeg) 5 = n + 5 := by
    unfold chC whC pcC
    rw [nb, gR, gR, gR, z3.1, z3.2.1, z3.2.2, gJ (n + 1) 6 (by omega), z10]
    exact ⟨fun j hj => ⟨(gJ _ _ (by omega)).trans (z8 j hj).2, (gJ _ _ (by omega)).trans (z8 j hj).1⟩, rfl, rfl⟩
  have old : ∀ c : Int32, c < Z 0 6 → ¬ c = Y 0 6 → c < Y 0 6 := fun c q q2 => by
    rw [c1] at q
    (try clear h3); (try clear h4); (try clear h5); (try clear h1); (try clear h2); (try clear hv); (try clear hn)
    grind
  have t200 : ∀ t : Int32, 0 ≤ t → t < 200 → t.toNatClampNeg < 200 := fun t q0 q1 => by
    have := cl_lt q0 q1
    rw [show (200 : Int32).toNatClampNeg = 200 from rfl] at this
    exact this
  have hnow := hT.g_now
  refine ⟨e4 h1, by rw [e1, e3]; exact hsN_w h2 c17 cr, ⟨fun c c0 c1 => ?_, fun x x0 x1 t ht q => ?_, fun b c b0 b1 c0 c1 q => ?_⟩, fun c t hcb ht => ?_, fun c t hcb ht => ?_⟩
  · by_cases e : c = Y 0 6
    · rw [e, hn.2.1, en]
      refine ⟨fun t t0 t1 => ?_, fun x hx => absurd hx (Nat.not_lt_zero _), Nat.zero_le _⟩
      rw [(hn.1 _ (t200 t t0 t1)).1]
      exact Int32.le_trans (by decide) hnow.1
    · have c2 := old c c1 e
      obtain ⟨⟨v1, v2, v3, v4⟩, -⟩ := hv c c0 c2
      rw [v1, v3, v4, en]
      exact ⟨(h3.1 c c0 c2).1, (h3.1 c c0 c2).2.1, Nat.le_trans (h3.1 c c0 c2).2.2 hm⟩
  · rw [cr 20 (by omega), cr 21 (by omega)]
    rw [cr 20 (by omega), ho] at q
    rw [c17] at x1
    have p1 := (hc.2.1.2.2.2.1 x x0 x1 q.1).1
    rw [(hv _ q.1 p1).1.1]
    exact h3.2.1 x x0 x1 t ht q
  · by_cases eb : b = Y 0 6
    · by_cases ec : c = Y 0 6
      · rw [eb, ec]
      · obtain ⟨-, r1, r2⟩ := hv c c0 (old c c1 ec)
        rw [eb, hn.2.2, r1] at q
        omega
    · obtain ⟨-, r1, r2⟩ := hv b b0 (old b b1 eb)
      by_cases ec : c = Y 0 6
      · rw [ec, hn.2.2, r1] at q
        omega
      · rw [r1, (hv c c0 (old c c1 ec)).2.1] at q
        exact h3.2.2 b c b0 (old b b1 eb) c0 (old c c1 ec) q
  · by_cases e : c = Y 0 6
    · obtain ⟨q1, q2⟩ := h5 c t ⟨by rw [e]; exact Int32.le_refl _, by rw [e]; exact h6.2⟩ ht
      rw [e1, e2]
      have q3 := (hn.1 _ (t200 t ht.1 ht.2))
      refine ⟨fun k => ?_, ?_⟩
      · rw [q1 k]
        unfold hdC
        rw [e, hn.2.1, q3.1, q3.2]
        split <;> rfl
      · rw [q2]
        unfold ldC
        rw [e]
        exact q3.1
    · have c2 := old c hcb.2 e
      obtain ⟨⟨v1, v2, v3, v4⟩, -⟩ := hv c hcb.1 c2
      unfold hdC ldC
      rw [v1, v2, v3, v4, e1, e2]
      exact h4 c t ⟨hcb.1, c2⟩ ht
  · rw [e1, e2]
    exact h5 c t ⟨by rw [c1] at hcb; (try clear h3); (try clear h4); (try clear h5); (try clear h1); (try clear h2); (try clear hv); (try clear hn); (try clear old); grind, hcb.2⟩ ht
theorem bnX_g {u1 u2 : Int32} {n2 t2 : Nat} {K2 L2 : Nat → Nat} (h : lawH b C c n t K L J R) (w : bnX C n t K L J R (yv (C + 44) J) u1 u2 (n2 + 1, t2, K2, L2, J2, R2)) : hcG C (30 * c + 30) J2 R2 (bnY (yv (C + 44) J) u1 u2) := by
  have hT := h.1.1.1
  have hcp := h.1.2.2.2.2.2.1.1
  have h6 := (lawI_ok h.1).1.2.2.2.2.2.1
  unfold bnY
  rcases w with ⟨q, w⟩ | ⟨q, t', K', L', J0, R0, e, z1, z2, z3, z8, z10⟩
  · rw [if_pos q]
    exact hg_c hT hcp h.2 (cF_in w) pz_0 (Nat.le_add_right _ _)
  · rw [if_neg q]
    simp only [Prod.mk.injEq] at e
    obtain ⟨i1, i2, i3, i4, i5, i6⟩ := e
    subst i5 i6
    refine bn_g h.1.1 hcp h.2 ⟨h6.1, ?_⟩ (Nat.le_add_right _ _) z1 z2 z3 z8 z10
    exact Int32.lt_of_le_of_ne h6.2 (fun e => q (Or.inr (Or.inr (Or.inr e))))
theorem cdh_hours {u1 : Int32} (hb : b < C) (hc : 120 * c + 130 ≤ 62000) (h : lawH b C c n t K L J R) (hP : ∀ v n2 t2 K2 L2 J2 R2, aNx b C c n2 t2 K2 L2 J2 R2 (yv (C + 44) J) (hrY (yv (C + 44) J) u1) → (hcG C (30 * c + 30) J2 R2 (hrY (yv (C + 44) J) u1)) → P (some (.int v)) (n2 + 1, t2, K2, L2, J2, R2)) : a_does 700 9 [a_rf C, .int u1] (n + 1, t, K, L, J, R) P := by
  have hT := h.1.1.1
  have hcp := h.1.2.2.2.2.2.1.1
  exact cdh_gen (Q := fun v n2 t2 K2 L2 J2 R2 => aNx b C c n2 t2 K2 L2 J2 R2 (yv (C + 44) J) (hrY (yv (C + 44) J) u1)) (B := hoX C n t K L J R) (cd_hours hb h.1 (fun v n2 t2 K2 L2 J2 R2 hx => ⟨v, n2, t2, K2, L2, J2, R2, rfl, rfl, hx⟩)) (kf_hours h.1.1) (fun v n2 t2 K2 L2 J2 R2 q w => hP _ _ _ _ _ _ _ q (hoX_g h w))
theorem rdh_hours {u1 : Int32} (hx : aNx b C c n t K L J R Y (hrY Y u1)) (hc : 120 * c + 130 ≤ 62000) (g : hcG C (30 * c + 30) J R (hrY Y u1)) (hP : ∀ v J3, lawH b C (c + 1) n t K L J3 R → P (some (.int v)) (n + 1, t, K, L, J3, R)) : a_does 700 170 [a_rf (C + 44), .int u1] (n + 1, t, K, L, J, R) P := by
  have hc8 : 120 * c + 130 ≤ 84000 := by omega
  have hT := hx.1.1.1
  have hcZ := hx.2.2.2.1.1
  have h6 : Y 0 6 ≤ 6 := hx.2.2.1.1.2.2.2.2.2.1.2
  exact rdh_gen (Q := fun w J3 => lawI b C (c + 1) n t K L J3 R) (B := hrX C n t K L J R) (rd_hours hx hc8 (fun v J3 hI => ⟨v, J3, rfl, rfl, hI⟩)) (rj_hours hx.1.2.1 hx.1.2.2.1) (fun v0 J3 hI w => hP _ _ (lawH_n hI (hrX_g hT hcZ g w hI.2.2.2.2.2.1.1)))
theorem cdh_mode {u1 u2 u3 : Int32} (hb : b < C) (hc : 120 * c + 130 ≤ 62000) (h : lawH b C c n t K L J R) (hP : ∀ v n2 t2 K2 L2 J2 R2, aNx b C c n2 t2 K2 L2 J2 R2 (yv (C + 44) J) (mdY (yv (C + 44) J) u1 u2 u3) → (hcG C (30 * c + 30) J2 R2 (mdY (yv (C + 44) J) u1 u2 u3)) → P (some (.int v)) (n2 + 1, t2, K2, L2, J2, R2)) : a_does 700 11 [a_rf C, .int u1, .int u2, .int u3] (n + 1, t, K, L, J, R) P := by
  have hT := h.1.1.1
  have hcp := h.1.2.2.2.2.2.1.1
  exact cdh_gen (Q := fun v n2 t2 K2 L2 J2 R2 => aNx b C c n2 t2 K2 L2 J2 R2 (yv (C + 44) J) (mdY (yv (C + 44) J) u1 u2 u3)) (B := cFh C K J R) (cd_mode hb h.1 (fun v n2 t2 K2 L2 J2 R2 hx => ⟨v, n2, t2, K2, L2, J2, R2, rfl, rfl, hx⟩)) (kf_mode h.1.1) (fun v n2 t2 K2 L2 J2 R2 q w => hP _ _ _ _ _ _ _ q (hg_c hT hcp h.2 (cF_in w) pz_mode (Nat.le_add_right _ _)))
theorem rdh_mode {u1 u2 u3 : Int32} (hx : aNx b C c n t K L J R Y (mdY Y u1 u2 u3)) (hc : 120 * c + 130 ≤ 62000) (g : hcG C (30 * c + 30) J R (mdY Y u1 u2 u3)) (hP : ∀ v J3, lawH b C (c + 1) n t K L J3 R → P (some (.int v)) (n + 1, t, K, L, J3, R)) : a_does 700 172 [a_rf (C + 44), .int u1, .int u2, .int u3] (n + 1, t, K, L, J, R) P := by
  have hc8 : 120 * c + 130 ≤ 84000 := by omega
  have hT := hx.1.1.1
  have hcZ := hx.2.2.2.1.1
  have h6 : Y 0 6 ≤ 6 := hx.2.2.1.1.2.2.2.2.2.1.2
  exact rdh_gen (Q := fun w J3 => lawI b C (c + 1) n t K L J3 R) (B := rPh C n t K L R J) (rd_mode hx hc8 (fun v J3 hI => ⟨v, J3, rfl, rfl, hI⟩)) (rj_mode hx.1.2.1 hx.1.2.2.1 hx.1.2.2.2.1 hc8) (fun v0 J3 hI w => hP _ _ (lawH_n hI (hg_r hT hcZ g (rPh_in w) (pz_cu hT hcZ (fun x j q => rPh_in w x j (by unfold eRh; omega)) hI.2.2.2.2.2.1.1))))
theorem cdh_trip {u1 u2 : Int32} (hb : b < C) (hc : 120 * c + 130 ≤ 62000) (h : lawH b C c n t K L J R) (hP : ∀ v n2 t2 K2 L2 J2 R2, aNx b C c n2 t2 K2 L2 J2 R2 (yv (C + 44) J) (tpY (yv (C + 44) J) u1 u2) → (hcG C (30 * c + 30) J2 R2 (tpY (yv (C + 44) J) u1 u2)) → P (some (.int v)) (n2 + 1, t2, K2, L2, J2, R2)) : a_does 700 15 [a_rf C, .int u1, .int u2] (n + 1, t, K, L, J, R) P := by
  have hT := h.1.1.1
  have hcp := h.1.2.2.2.2.2.1.1
  exact cdh_gen (Q := fun v n2 t2 K2 L2 J2 R2 => aNx b C c n2 t2 K2 L2 J2 R2 (yv (C + 44) J) (tpY (yv (C + 44) J) u1 u2)) (B := cFh C K J R) (cd_trip hb h.1 (fun v n2 t2 K2 L2 J2 R2 hx => ⟨v, n2, t2, K2, L2, J2, R2, rfl, rfl, hx⟩)) (kf_trip h.1.1) (fun v n2 t2 K2 L2 J2 R2 q w => hP _ _ _ _ _ _ _ q (hg_c hT hcp h.2 (cF_in w) pz_trip (Nat.le_add_right _ _)))
theorem rdh_trip {u1 u2 : Int32} (hx : aNx b C c n t K L J R Y (tpY Y u1 u2)) (hc : 120 * c + 130 ≤ 62000) (g : hcG C (30 * c + 30) J R (tpY Y u1 u2)) (hP : ∀ v J3, lawH b C (c + 1) n t K L J3 R → P (some (.int v)) (n + 1, t, K, L, J3, R)) : a_does 700 175 [a_rf (C + 44), .int u1, .int u2] (n + 1, t, K, L, J, R) P := by
  have hc8 : 120 * c + 130 ≤ 84000 := by omega
  have hT := hx.1.1.1
  have hcZ := hx.2.2.2.1.1
  have h6 : Y 0 6 ≤ 6 := hx.2.2.1.1.2.2.2.2.2.1.2
  exact rdh_gen (Q := fun w J3 => lawI b C (c + 1) n t K L J3 R) (B := rPh C n t K L R J) (rd_trip hx hc8 (fun v J3 hI => ⟨v, J3, rfl, rfl, hI⟩)) (rj_trip hx.1.2.1 hx.1.2.2.1 hx.1.2.2.2.1 hc8) (fun v0 J3 hI w => hP _ _ (lawH_n hI (hg_r hT hcZ g (rPh_in w) (pz_cu hT hcZ (fun x j q => rPh_in w x j (by unfold eRh; omega)) hI.2.2.2.2.2.1.1))))
theorem cdh_shiftOf {u1 u2 u3 : Int32} (hb : b < C) (hc : 120 * c + 130 ≤ 62000) (h : lawH b C c n t K L J R) (hP : ∀ v n2 t2 K2 L2 J2 R2, aNx b C c n2 t2 K2 L2 J2 R2 (yv (C + 44) J) ((yv (C + 44) J)) → (hcG C (30 * c + 30) J2 R2 ((yv (C + 44) J))) → P (some (.int v)) (n2 + 1, t2, K2, L2, J2, R2)) : a_does 700 17 [a_rf C, .int u1, .int u2, .int u3] (n + 1, t, K, L, J, R) P := by
  have hT := h.1.1.1
  have hcp := h.1.2.2.2.2.2.1.1
  exact cdh_gen (Q := fun v n2 t2 K2 L2 J2 R2 => aNx b C c n2 t2 K2 L2 J2 R2 (yv (C + 44) J) ((yv (C + 44) J))) (B := cFh C K J R) (cd_shiftOf hb h.1 (fun v n2 t2 K2 L2 J2 R2 hx => ⟨v, n2, t2, K2, L2, J2, R2, rfl, rfl, hx⟩)) (kf_shiftOf h.1.1) (fun v n2 t2 K2 L2 J2 R2 q w => hP _ _ _ _ _ _ _ q (hg_c hT hcp h.2 (cF_in w) pz_0 (Nat.le_add_right _ _)))
theorem rdh_shiftOf {u1 u2 u3 : Int32} (hx : aNx b C c n t K L J R Y (Y)) (hc : 120 * c + 130 ≤ 62000) (g : hcG C (30 * c + 30) J R (Y)) (hP : ∀ v J3, lawH b C (c + 1) n t K L J3 R → P (some (.int v)) (n + 1, t, K, L, J3, R)) : a_does 700 176 [a_rf (C + 44), .int u1, .int u2, .int u3] (n + 1, t, K, L, J, R) P := by
  have hc8 : 120 * c + 130 ≤ 84000 := by omega
  have hT := hx.1.1.1
  have hcZ := hx.2.2.2.1.1
  have h6 : Y 0 6 ≤ 6 := hx.2.2.1.1.2.2.2.2.2.1.2
  exact rdh_gen (Q := fun w J3 => lawI b C (c + 1) n t K L J3 R) (B := rPh C n t K L R J) (rd_shiftOf hx hc8 (fun v J3 hI => ⟨v, J3, rfl, rfl, hI⟩)) (rj_shiftOf hx.1.2.1 hx.1.2.2.1 hx.1.2.2.2.1 hc8) (fun v0 J3 hI w => hP _ _ (lawH_n hI (hg_r hT hcZ g (rPh_in w) (pz_cu hT hcZ (fun x j q => rPh_in w x j (by unfold eRh; omega)) hI.2.2.2.2.2.1.1))))
theorem cdh_bench {u1 u2 : Int32} (hb : b < C) (hc : 120 * c + 130 ≤ 62000) (h : lawH b C c n t K L J R) (hP : ∀ v n2 t2 K2 L2 J2 R2, aNx b C c n2 t2 K2 L2 J2 R2 (yv (C + 44) J) (bnY (yv (C + 44) J) u1 u2) → (hcG C (30 * c + 30) J2 R2 (bnY (yv (C + 44) J) u1 u2)) → P (some (.int v)) (n2 + 1, t2, K2, L2, J2, R2)) : a_does 700 20 [a_rf C, .int u1, .int u2] (n + 1, t, K, L, J, R) P := by
  have hT := h.1.1.1
  have hcp := h.1.2.2.2.2.2.1.1
  exact cdh_gen (Q := fun v n2 t2 K2 L2 J2 R2 => aNx b C c n2 t2 K2 L2 J2 R2 (yv (C + 44) J) (bnY (yv (C + 44) J) u1 u2)) (B := bnX C n t K L J R (yv (C + 44) J) u1 u2) (cd_bench hb h.1 (fun v n2 t2 K2 L2 J2 R2 hx => ⟨v, n2, t2, K2, L2, J2, R2, rfl, rfl, hx⟩)) (kf_bench h.1.1 hcp (lawI_ok h.1).1.2.2.2.2.2.1.2) (fun v n2 t2 K2 L2 J2 R2 q w => hP _ _ _ _ _ _ _ q (bnX_g h w))
theorem rdh_bench {u1 u2 : Int32} (hx : aNx b C c n t K L J R Y (bnY Y u1 u2)) (hc : 120 * c + 130 ≤ 62000) (g : hcG C (30 * c + 30) J R (bnY Y u1 u2)) (hP : ∀ v J3, lawH b C (c + 1) n t K L J3 R → P (some (.int v)) (n + 1, t, K, L, J3, R)) : a_does 700 178 [a_rf (C + 44), .int u1, .int u2] (n + 1, t, K, L, J, R) P := by
  have hc8 : 120 * c + 130 ≤ 84000 := by omega
  have hT := hx.1.1.1
  have hcZ := hx.2.2.2.1.1
  have h6 : Y 0 6 ≤ 6 := hx.2.2.1.1.2.2.2.2.2.1.2
  exact rdh_gen (Q := fun w J3 => lawI b C (c + 1) n t K L J3 R) (B := rPh C n t K L R J) (rd_bench hx hc8 (fun v J3 hI => ⟨v, J3, rfl, rfl, hI⟩)) (rj_bench hx.1.2.1 hx.1.2.2.1 hx.1.2.2.2.1 hc8) (fun v0 J3 hI w => hP _ _ (lawH_n hI (hg_r hT hcZ g (rPh_in w) (pz_cu hT hcZ (fun x j q => rPh_in w x j (by unfold eRh; omega)) hI.2.2.2.2.2.1.1))))
theorem cdh_set {u1 u2 : Int32} (hb : b < C) (hc : 120 * c + 130 ≤ 62000) (h : lawH b C c n t K L J R) (hP : ∀ v n2 t2 K2 L2 J2 R2, aNx b C c n2 t2 K2 L2 J2 R2 (yv (C + 44) J) (seY (yv (C + 44) J) u1 u2) → (hcG C (30 * c + 30) J2 R2 (seY (yv (C + 44) J) u1 u2)) → P (some (.int v)) (n2 + 1, t2, K2, L2, J2, R2)) : a_does 700 23 [a_rf C, .int u1, .int u2] (n + 1, t, K, L, J, R) P := by
  have hT := h.1.1.1
  have hcp := h.1.2.2.2.2.2.1.1
  exact cdh_gen (Q := fun v n2 t2 K2 L2 J2 R2 => aNx b C c n2 t2 K2 L2 J2 R2 (yv (C + 44) J) (seY (yv (C + 44) J) u1 u2)) (B := cFh C K J R) (cd_set hb h.1 (fun v n2 t2 K2 L2 J2 R2 hx => ⟨v, n2, t2, K2, L2, J2, R2, rfl, rfl, hx⟩)) (kf_set h.1.1) (fun v n2 t2 K2 L2 J2 R2 q w => hP _ _ _ _ _ _ _ q (hg_c hT hcp h.2 (cF_in w) pz_set (Nat.le_add_right _ _)))
theorem rdh_set {u1 u2 : Int32} (hx : aNx b C c n t K L J R Y (seY Y u1 u2)) (hc : 120 * c + 130 ≤ 62000) (g : hcG C (30 * c + 30) J R (seY Y u1 u2)) (hP : ∀ v J3, lawH b C (c + 1) n t K L J3 R → P (some (.int v)) (n + 1, t, K, L, J3, R)) : a_does 700 179 [a_rf (C + 44), .int u1, .int u2] (n + 1, t, K, L, J, R) P := by
  have hc8 : 120 * c + 130 ≤ 84000 := by omega
  have hT := hx.1.1.1
  have hcZ := hx.2.2.2.1.1
  have h6 : Y 0 6 ≤ 6 := hx.2.2.1.1.2.2.2.2.2.1.2
  exact rdh_gen (Q := fun w J3 => lawI b C (c + 1) n t K L J3 R) (B := rPh C n t K L R J) (rd_set hx hc8 (fun v J3 hI => ⟨v, J3, rfl, rfl, hI⟩)) (rj_set hx.1.2.1 hx.1.2.2.1 hx.1.2.2.2.1 hc8) (fun v0 J3 hI w => hP _ _ (lawH_n hI (hg_r hT hcZ g (rPh_in w) (pz_cu hT hcZ (fun x j q => rPh_in w x j (by unfold eRh; omega)) hI.2.2.2.2.2.1.1))))
theorem cdh_draft {u1 u2 u3 u4 : Int32} (hb : b < C) (hc : 120 * c + 130 ≤ 62000) (h : lawH b C c n t K L J R) (hP : ∀ v n2 t2 K2 L2 J2 R2, aNx b C c n2 t2 K2 L2 J2 R2 (yv (C + 44) J) (drY (yv (C + 44) J) u1 u2 u3 u4) → (hcG C (30 * c + 30) J2 R2 (drY (yv (C + 44) J) u1 u2 u3 u4)) → P (some (.int v)) (n2 + 1, t2, K2, L2, J2, R2)) : a_does 700 36 [a_rf C, .int u1, .int u2, .int u3, .int u4] (n + 1, t, K, L, J, R) P := by
  have hT := h.1.1.1
  have hcp := h.1.2.2.2.2.2.1.1
  exact cdh_gen (Q := fun v n2 t2 K2 L2 J2 R2 => aNx b C c n2 t2 K2 L2 J2 R2 (yv (C + 44) J) (drY (yv (C + 44) J) u1 u2 u3 u4)) (B := cFh C K J R) (cd_draft hb h.1 (fun v n2 t2 K2 L2 J2 R2 hx => ⟨v, n2, t2, K2, L2, J2, R2, rfl, rfl, hx⟩)) (kf_draft h.1.1) (fun v n2 t2 K2 L2 J2 R2 q w => hP _ _ _ _ _ _ _ q (hg_c hT hcp h.2 (cF_in w) pz_draft (Nat.le_add_right _ _)))
theorem rdh_draft {u1 u2 u3 u4 : Int32} (hx : aNx b C c n t K L J R Y (drY Y u1 u2 u3 u4)) (hc : 120 * c + 130 ≤ 62000) (g : hcG C (30 * c + 30) J R (drY Y u1 u2 u3 u4)) (hP : ∀ v J3, lawH b C (c + 1) n t K L J3 R → P (some (.int v)) (n + 1, t, K, L, J3, R)) : a_does 700 180 [a_rf (C + 44), .int u1, .int u2, .int u3, .int u4] (n + 1, t, K, L, J, R) P := by
  have hc8 : 120 * c + 130 ≤ 84000 := by omega
  have hT := hx.1.1.1
  have hcZ := hx.2.2.2.1.1
  have h6 : Y 0 6 ≤ 6 := hx.2.2.1.1.2.2.2.2.2.1.2
  exact rdh_gen (Q := fun w J3 => lawI b C (c + 1) n t K L J3 R) (B := rPh C n t K L R J) (rd_draft hx hc8 (fun v J3 hI => ⟨v, J3, rfl, rfl, hI⟩)) (rj_draft hx.1.2.1 hx.1.2.2.1 hx.1.2.2.2.1 hc8) (fun v0 J3 hI w => hP _ _ (lawH_n hI (hg_r hT hcZ g (rPh_in w) (pz_cu hT hcZ (fun x j q => rPh_in w x j (by unfold eRh; omega)) hI.2.2.2.2.2.1.1))))
theorem cdh_ask {u1 u2 u3 u4 u5 u6 u7 : Int32} (hb : b < C) (hc : 120 * c + 130 ≤ 62000) (h : lawH b C c n t K L J R) (hP : ∀ n2 t2 K2 L2 J2 R2, aNx b C c n2 t2 K2 L2 J2 R2 (yv (C + 44) J) ((akY (yv (C + 44) J) u1 u2 u3 u4 u5 u6 u7).2) → (hcG C (30 * c + 30) J2 R2 ((akY (yv (C + 44) J) u1 u2 u3 u4 u5 u6 u7).2)) → P (some (.int ((akY (yv (C + 44) J) u1 u2 u3 u4 u5 u6 u7).1))) (n2 + 1, t2, K2, L2, J2, R2)) : a_does 700 38 [a_rf C, .int u1, .int u2, .int u3, .int u4, .int u5, .int u6, .int u7] (n + 1, t, K, L, J, R) P := by
  have hT := h.1.1.1
  have hcp := h.1.2.2.2.2.2.1.1
  exact cdh_gen (Q := fun v n2 t2 K2 L2 J2 R2 => v = (akY (yv (C + 44) J) u1 u2 u3 u4 u5 u6 u7).1 ∧ aNx b C c n2 t2 K2 L2 J2 R2 (yv (C + 44) J) ((akY (yv (C + 44) J) u1 u2 u3 u4 u5 u6 u7).2)) (B := cFh C K J R) (cd_ask hb h.1 (fun n2 t2 K2 L2 J2 R2 hx => ⟨_, n2, t2, K2, L2, J2, R2, rfl, rfl, rfl, hx⟩)) (kf_ask h.1.1) (fun v n2 t2 K2 L2 J2 R2 q w => by
    obtain ⟨rfl, hx⟩ := q
    exact hP _ _ _ _ _ _ hx (hg_c hT hcp h.2 (cF_in w) (pz_ask (law_17 h.1)) (Nat.le_add_right _ _)))
theorem rdh_ask {u1 u2 u3 u4 u5 u6 u7 : Int32} (hx : aNx b C c n t K L J R Y ((akY Y u1 u2 u3 u4 u5 u6 u7).2)) (hc : 120 * c + 130 ≤ 62000) (g : hcG C (30 * c + 30) J R ((akY Y u1 u2 u3 u4 u5 u6 u7).2)) (hP : ∀ J3, lawH b C (c + 1) n t K L J3 R → P (some (.int ((akY Y u1 u2 u3 u4 u5 u6 u7).1))) (n + 1, t, K, L, J3, R)) : a_does 700 181 [a_rf (C + 44), .int u1, .int u2, .int u3, .int u4, .int u5, .int u6, .int u7] (n + 1, t, K, L, J, R) P := by
  have hc8 : 120 * c + 130 ≤ 84000 := by omega
  have hT := hx.1.1.1
  have hcZ := hx.2.2.2.1.1
  have h6 : Y 0 6 ≤ 6 := hx.2.2.1.1.2.2.2.2.2.1.2
  exact rdh_gen (Q := fun w J3 => w = (akY Y u1 u2 u3 u4 u5 u6 u7).1 ∧ lawI b C (c + 1) n t K L J3 R) (B := rPh C n t K L R J) (rd_ask hx hc8 (fun J3 hI => ⟨_, J3, rfl, rfl, rfl, hI⟩)) (rj_ask hx.1.2.1 hx.1.2.2.1 hx.1.2.2.2.1 hc8) (fun v0 J3 q w => by
    obtain ⟨rfl, hI⟩ := q
    exact hP _ (lawH_n hI (hg_r hT hcZ g (rPh_in w) (pz_cu hT hcZ (fun x j q => rPh_in w x j (by unfold eRh; omega)) hI.2.2.2.2.2.1.1))))
theorem kc_withdraw {u1 : Int32} (hc : 120 * c + 130 ≤ 62000) (h : lawH b C c n t K L J R) : a_does 700 44 [a_rf C, .int u1] (n + 1, t, K, L, J, R) (fun _ h' => kcX C J R (yv (C + 44) J) (30 * c) ((wdY (yv (C + 44) J) u1).2) ((wdY (yv (C + 44) J) u1).2) h') := by
  exact does_mono (does_and (gk_withdraw (P := fun _ h' => ∃ n2 t2 K2 L2 J2 R2, h' = (n2 + 1, t2, K2, L2, J2, R2) ∧ hxK C J R (yv (C + 44) J) (30 * c) J2 R2 ((wdY (yv (C + 44) J) u1).2) ((wdY (yv (C + 44) J) u1).2)) h.1.1 h.1.2.2.2.2.2.1 h.2.2.2.1 (by omega) (fun n2 t2 K2 L2 J2 R2 _ _ x => ⟨n2, t2, K2, L2, J2, R2, rfl, x⟩)) (cu_withdraw (P := fun _ h' => cB C n K L J R none h') h.1.1 (fun _ _ _ _ _ _ _ z => cb_Z z))) (fun r h' q => by
    obtain ⟨⟨n2, t2, K2, L2, J2, R2, e, x⟩, q3⟩ := q
    rw [e] at q3 ⊢
    exact kcX_of x q3)
theorem cdh_withdraw {u1 : Int32} (hb : b < C) (hc : 120 * c + 130 ≤ 62000) (h : lawH b C c n t K L J R) (hP : ∀ n2 t2 K2 L2 J2 R2, aNx b C c n2 t2 K2 L2 J2 R2 (yv (C + 44) J) ((wdY (yv (C + 44) J) u1).2) → (hcR C (30 * c + 30) J2 R2 (yv (C + 44) J) ((wdY (yv (C + 44) J) u1).2) ((wdY (yv (C + 44) J) u1).2)) → P (some (.int ((wdY (yv (C + 44) J) u1).1))) (n2 + 1, t2, K2, L2, J2, R2)) : a_does 700 44 [a_rf C, .int u1] (n + 1, t, K, L, J, R) P := by
  have hT := h.1.1.1
  have hcp := h.1.2.2.2.2.2.1.1
  exact cdh_gen (Q := fun v n2 t2 K2 L2 J2 R2 => v = (wdY (yv (C + 44) J) u1).1 ∧ aNx b C c n2 t2 K2 L2 J2 R2 (yv (C + 44) J) ((wdY (yv (C + 44) J) u1).2)) (B := (kcX C J R (yv (C + 44) J) (30 * c) ((wdY (yv (C + 44) J) u1).2) ((wdY (yv (C + 44) J) u1).2))) (cd_withdraw hb h.1 (fun n2 t2 K2 L2 J2 R2 hx => ⟨_, n2, t2, K2, L2, J2, R2, rfl, rfl, rfl, hx⟩)) (kc_withdraw hc h) (fun v n2 t2 K2 L2 J2 R2 q w => by
    obtain ⟨rfl, hx⟩ := q
    exact hP _ _ _ _ _ _ hx (hr_c hcp h.2 (law_now h.1) (law_pl h.1) (kcX_in w).1 (kcX_in w).2))
theorem rdh_withdraw {u1 : Int32} (hx : aNx b C c n t K L J R Y ((wdY Y u1).2)) (hc : 120 * c + 130 ≤ 62000) (g : hcR C (30 * c + 30) J R Y ((wdY Y u1).2) ((wdY Y u1).2)) (hP : ∀ J3, lawH b C (c + 1) n t K L J3 R → P (some (.int ((wdY Y u1).1))) (n + 1, t, K, L, J3, R)) : a_does 700 184 [a_rf (C + 44), .int u1] (n + 1, t, K, L, J, R) P := by
  have hc8 : 120 * c + 130 ≤ 84000 := by omega
  have hT := hx.1.1.1
  have hcZ := hx.2.2.2.1.1
  have h6 : Y 0 6 ≤ 6 := hx.2.2.1.1.2.2.2.2.2.1.2
  exact rdh_gen (Q := fun w J3 => w = (wdY Y u1).1 ∧ lawI b C (c + 1) n t K L J3 R) (B := xqX C n t K L R J Y ((wdY Y u1).2) ((wdY Y u1).2)) (rd_withdraw hx hc8 (fun J3 hI => ⟨_, J3, rfl, rfl, rfl, hI⟩)) (xp_withdraw9 (P := fun _ h' => xqX C n t K L R J Y ((wdY Y u1).2) ((wdY Y u1).2) h') hx.1.2.1 hx.2.2.1 hc8 ⟨mG_refl hx.1.2.2.1, hx.1.2.2.2.1⟩ hx.2.1 g.1 g.2.1 (fun J4 _ gs x => ⟨J4, rfl, x, gs.2.1⟩)) (fun v0 J3 q w => by
    obtain ⟨rfl, hI⟩ := q
    exact hP _ (lawH_n hI (hr_r hT hcZ h6 g (xqX_in w).1 (xqX_in w).2 (pz_cu hT hcZ (xqX_in w).2 hI.2.2.2.2.2.1.1))))
theorem cdh_askOf {u1 u2 : Int32} (hb : b < C) (hc : 120 * c + 130 ≤ 62000) (h : lawH b C c n t K L J R) (hP : ∀ v n2 t2 K2 L2 J2 R2, aNx b C c n2 t2 K2 L2 J2 R2 (yv (C + 44) J) ((yv (C + 44) J)) → (hcG C (30 * c + 30) J2 R2 ((yv (C + 44) J))) → P (some (.int v)) (n2 + 1, t2, K2, L2, J2, R2)) : a_does 700 53 [a_rf C, .int u1, .int u2] (n + 1, t, K, L, J, R) P := by
  have hT := h.1.1.1
  have hcp := h.1.2.2.2.2.2.1.1
  exact cdh_gen (Q := fun v n2 t2 K2 L2 J2 R2 => aNx b C c n2 t2 K2 L2 J2 R2 (yv (C + 44) J) ((yv (C + 44) J))) (B := cFh C K J R) (cd_askOf hb h.1 (fun v n2 t2 K2 L2 J2 R2 hx => ⟨v, n2, t2, K2, L2, J2, R2, rfl, rfl, hx⟩)) (kf_askOf h.1.1) (fun v n2 t2 K2 L2 J2 R2 q w => hP _ _ _ _ _ _ _ q (hg_c hT hcp h.2 (cF_in w) pz_0 (Nat.le_add_right _ _)))
theorem rdh_askOf {u1 u2 : Int32} (hx : aNx b C c n t K L J R Y (Y)) (hc : 120 * c + 130 ≤ 62000) (g : hcG C (30 * c + 30) J R (Y)) (hP : ∀ v J3, lawH b C (c + 1) n t K L J3 R → P (some (.int v)) (n + 1, t, K, L, J3, R)) : a_does 700 188 [a_rf (C + 44), .int u1, .int u2] (n + 1, t, K, L, J, R) P := by
  have hc8 : 120 * c + 130 ≤ 84000 := by omega
  have hT := hx.1.1.1
  have hcZ := hx.2.2.2.1.1
  have h6 : Y 0 6 ≤ 6 := hx.2.2.1.1.2.2.2.2.2.1.2
  exact rdh_gen (Q := fun w J3 => lawI b C (c + 1) n t K L J3 R) (B := rPh C n t K L R J) (rd_askOf hx hc8 (fun v J3 hI => ⟨v, J3, rfl, rfl, hI⟩)) (rj_askOf hx.1.2.1 hx.1.2.2.1 hx.1.2.2.2.1 hc8) (fun v0 J3 hI w => hP _ _ (lawH_n hI (hg_r hT hcZ g (rPh_in w) (pz_cu hT hcZ (fun x j q => rPh_in w x j (by unfold eRh; omega)) hI.2.2.2.2.2.1.1))))
theorem cdh_feed {u1 : Int32} {u2 : Int64} (hb : b < C) (hc : 120 * c + 130 ≤ 62000) (h : lawH b C c n t K L J R) (hP : ∀ v n2 t2 K2 L2 J2 R2, aNx b C c n2 t2 K2 L2 J2 R2 (yv (C + 44) J) (feY (yv (C + 44) J) u1 u2) → (hcG C (30 * c + 30) J2 R2 (feY (yv (C + 44) J) u1 u2)) → P (some (.int v)) (n2 + 1, t2, K2, L2, J2, R2)) : a_does 700 66 [a_rf C, .int u1, .long u2] (n + 1, t, K, L, J, R) P := by
  have hT := h.1.1.1
  have hcp := h.1.2.2.2.2.2.1.1
  exact cdh_gen (Q := fun v n2 t2 K2 L2 J2 R2 => aNx b C c n2 t2 K2 L2 J2 R2 (yv (C + 44) J) (feY (yv (C + 44) J) u1 u2)) (B := cFh C K J R) (cd_feed hb h.1 (fun v n2 t2 K2 L2 J2 R2 hx => ⟨v, n2, t2, K2, L2, J2, R2, rfl, rfl, hx⟩)) (kf_feed h.1.1) (fun v n2 t2 K2 L2 J2 R2 q w => hP _ _ _ _ _ _ _ q (hg_c hT hcp h.2 (cF_in w) pz_feed (Nat.le_add_right _ _)))
theorem rdh_feed {u1 : Int32} {u2 : Int64} (hx : aNx b C c n t K L J R Y (feY Y u1 u2)) (hc : 120 * c + 130 ≤ 62000) (g : hcG C (30 * c + 30) J R (feY Y u1 u2)) (hP : ∀ v J3, lawH b C (c + 1) n t K L J3 R → P (some (.int v)) (n + 1, t, K, L, J3, R)) : a_does 700 200 [a_rf (C + 44), .int u1, .long u2] (n + 1, t, K, L, J, R) P := by
  have hc8 : 120 * c + 130 ≤ 84000 := by omega
  have hT := hx.1.1.1
  have hcZ := hx.2.2.2.1.1
  have h6 : Y 0 6 ≤ 6 := hx.2.2.1.1.2.2.2.2.2.1.2
  exact rdh_gen (Q := fun w J3 => lawI b C (c + 1) n t K L J3 R) (B := rPh C n t K L R J) (rd_feed hx hc8 (fun v J3 hI => ⟨v, J3, rfl, rfl, hI⟩)) (rj_feed hx.1.2.1 hx.1.2.2.1 hx.1.2.2.2.1 hc8) (fun v0 J3 hI w => hP _ _ (lawH_n hI (hg_r hT hcZ g (rPh_in w) (pz_cu hT hcZ (fun x j q => rPh_in w x j (by unfold eRh; omega)) hI.2.2.2.2.2.1.1))))
theorem cdh_text {u1 : Int32} (hb : b < C) (hc : 120 * c + 130 ≤ 62000) (h : lawH b C c n t K L J R) (hP : ∀ v n2 t2 K2 L2 J2 R2, aNx b C c n2 t2 K2 L2 J2 R2 (yv (C + 44) J) (txY (yv (C + 44) J) u1) → (hcG C (30 * c + 30) J2 R2 (txY (yv (C + 44) J) u1)) → P (some (.int v)) (n2 + 1, t2, K2, L2, J2, R2)) : a_does 700 68 [a_rf C, .int u1] (n + 1, t, K, L, J, R) P := by
  have hT := h.1.1.1
  have hcp := h.1.2.2.2.2.2.1.1
  exact cdh_gen (Q := fun v n2 t2 K2 L2 J2 R2 => aNx b C c n2 t2 K2 L2 J2 R2 (yv (C + 44) J) (txY (yv (C + 44) J) u1)) (B := cFh C K J R) (cd_text hb h.1 (fun v n2 t2 K2 L2 J2 R2 hx => ⟨v, n2, t2, K2, L2, J2, R2, rfl, rfl, hx⟩)) (kf_text h.1.1) (fun v n2 t2 K2 L2 J2 R2 q w => hP _ _ _ _ _ _ _ q (hg_c hT hcp h.2 (cF_in w) pz_text (Nat.le_add_right _ _)))
theorem rdh_text {u1 : Int32} (hx : aNx b C c n t K L J R Y (txY Y u1)) (hc : 120 * c + 130 ≤ 62000) (g : hcG C (30 * c + 30) J R (txY Y u1)) (hP : ∀ v J3, lawH b C (c + 1) n t K L J3 R → P (some (.int v)) (n + 1, t, K, L, J3, R)) : a_does 700 201 [a_rf (C + 44), .int u1] (n + 1, t, K, L, J, R) P := by
  have hc8 : 120 * c + 130 ≤ 84000 := by omega
  have hT := hx.1.1.1
  have hcZ := hx.2.2.2.1.1
  have h6 : Y 0 6 ≤ 6 := hx.2.2.1.1.2.2.2.2.2.1.2
  exact rdh_gen (Q := fun w J3 => lawI b C (c + 1) n t K L J3 R) (B := rPh C n t K L R J) (rd_text hx hc8 (fun v J3 hI => ⟨v, J3, rfl, rfl, hI⟩)) (rj_text hx.1.2.1 hx.1.2.2.1 hx.1.2.2.2.1 hc8) (fun v0 J3 hI w => hP _ _ (lawH_n hI (hg_r hT hcZ g (rPh_in w) (pz_cu hT hcZ (fun x j q => rPh_in w x j (by unfold eRh; omega)) hI.2.2.2.2.2.1.1))))
theorem cdh_strike {u1 u2 : Int32} (hb : b < C) (hc : 120 * c + 130 ≤ 62000) (h : lawH b C c n t K L J R) (hP : ∀ n2 t2 K2 L2 J2 R2, aNx b C c n2 t2 K2 L2 J2 R2 (yv (C + 44) J) ((skY (yv (C + 44) J) u1 u2).2) → (hcG C (30 * c + 30) J2 R2 ((skY (yv (C + 44) J) u1 u2).2)) → P (some (.int ((skY (yv (C + 44) J) u1 u2).1))) (n2 + 1, t2, K2, L2, J2, R2)) : a_does 700 84 [a_rf C, .int u1, .int u2] (n + 1, t, K, L, J, R) P := by
  have hT := h.1.1.1
  have hcp := h.1.2.2.2.2.2.1.1
  have hx : 0 ≤ u1 → u1 < J (C + 7) 3 → C + 96 < R (C + 8) u1.toNatClampNeg ∧ K (R (C + 8) u1.toNatClampNeg) = 11 ∧ ¬ R (C + 8) u1.toNatClampNeg = 0 := fun x0 x1 => by
    rw [hcp.2.2.2.1.1] at x1
    have q := hcp.2.2.2.1.2 u1 x0 x1
    exact ⟨(hT.g_txt _ q.1).1, q.1, q.2.1⟩
  exact cdh_gen (Q := fun v n2 t2 K2 L2 J2 R2 => v = (skY (yv (C + 44) J) u1 u2).1 ∧ aNx b C c n2 t2 K2 L2 J2 R2 (yv (C + 44) J) ((skY (yv (C + 44) J) u1 u2).2)) (B := cFh C K J R) (cd_strike hb h.1 (fun n2 t2 K2 L2 J2 R2 hx => ⟨_, n2, t2, K2, L2, J2, R2, rfl, rfl, rfl, hx⟩)) (kf_strike h.1.1 hx) (fun v n2 t2 K2 L2 J2 R2 q w => by
    obtain ⟨rfl, hx⟩ := q
    exact hP _ _ _ _ _ _ hx (hg_c hT hcp h.2 (cF_in w) pz_strike (Nat.le_add_right _ _)))
theorem rdh_strike {u1 u2 : Int32} (hx : aNx b C c n t K L J R Y ((skY Y u1 u2).2)) (hc : 120 * c + 130 ≤ 62000) (g : hcG C (30 * c + 30) J R ((skY Y u1 u2).2)) (hP : ∀ J3, lawH b C (c + 1) n t K L J3 R → P (some (.int ((skY Y u1 u2).1))) (n + 1, t, K, L, J3, R)) : a_does 700 207 [a_rf (C + 44), .int u1, .int u2] (n + 1, t, K, L, J, R) P := by
  have hc8 : 120 * c + 130 ≤ 84000 := by omega
  have hT := hx.1.1.1
  have hcZ := hx.2.2.2.1.1
  have h6 : Y 0 6 ≤ 6 := hx.2.2.1.1.2.2.2.2.2.1.2
  exact rdh_gen (Q := fun w J3 => w = (skY Y u1 u2).1 ∧ lawI b C (c + 1) n t K L J3 R) (B := rPh C n t K L R J) (rd_strike hx hc8 (fun J3 hI => ⟨_, J3, rfl, rfl, rfl, hI⟩)) (rj_strike hx.1.2.1 hx.1.2.2.1 hx.1.2.2.2.1 hc8) (fun v0 J3 q w => by
    obtain ⟨rfl, hI⟩ := q
    exact hP _ (lawH_n hI (hg_r hT hcZ g (rPh_in w) (pz_cu hT hcZ (fun x j q => rPh_in w x j (by unfold eRh; omega)) hI.2.2.2.2.2.1.1))))
theorem cdh_barred {u1 u2 u3 u4 : Int32} (hb : b < C) (hc : 120 * c + 130 ≤ 62000) (h : lawH b C c n t K L J R) (hP : ∀ v n2 t2 K2 L2 J2 R2, aNx b C c n2 t2 K2 L2 J2 R2 (yv (C + 44) J) ((yv (C + 44) J)) → (hcG C (30 * c + 30) J2 R2 ((yv (C + 44) J))) → P (some (.int v)) (n2 + 1, t2, K2, L2, J2, R2)) : a_does 700 85 [a_rf C, .int u1, .int u2, .int u3, .int u4] (n + 1, t, K, L, J, R) P := by
  have hT := h.1.1.1
  have hcp := h.1.2.2.2.2.2.1.1
  exact cdh_gen (Q := fun v n2 t2 K2 L2 J2 R2 => aNx b C c n2 t2 K2 L2 J2 R2 (yv (C + 44) J) ((yv (C + 44) J))) (B := cFh C K J R) (cd_barred hb h.1 (fun v n2 t2 K2 L2 J2 R2 hx => ⟨v, n2, t2, K2, L2, J2, R2, rfl, rfl, hx⟩)) (kf_barred h.1.1) (fun v n2 t2 K2 L2 J2 R2 q w => hP _ _ _ _ _ _ _ q (hg_c hT hcp h.2 (cF_in w) pz_0 (Nat.le_add_right _ _)))
theorem rdh_barred {u1 u2 u3 u4 : Int32} (hx : aNx b C c n t K L J R Y (Y)) (hc : 120 * c + 130 ≤ 62000) (g : hcG C (30 * c + 30) J R (Y)) (hP : ∀ v J3, lawH b C (c + 1) n t K L J3 R → P (some (.int v)) (n + 1, t, K, L, J3, R)) : a_does 700 208 [a_rf (C + 44), .int u1, .int u2, .int u3, .int u4] (n + 1, t, K, L, J, R) P := by
  have hc8 : 120 * c + 130 ≤ 84000 := by omega
  have hT := hx.1.1.1
  have hcZ := hx.2.2.2.1.1
  have h6 : Y 0 6 ≤ 6 := hx.2.2.1.1.2.2.2.2.2.1.2
  exact rdh_gen (Q := fun w J3 => lawI b C (c + 1) n t K L J3 R) (B := rPh C n t K L R J) (rd_barred hx hc8 (fun v J3 hI => ⟨v, J3, rfl, rfl, hI⟩)) (rj_barred hx.1.2.1 hx.1.2.2.1 hx.1.2.2.2.1 hc8) (fun v0 J3 hI w => hP _ _ (lawH_n hI (hg_r hT hcZ g (rPh_in w) (pz_cu hT hcZ (fun x j q => rPh_in w x j (by unfold eRh; omega)) hI.2.2.2.2.2.1.1))))
theorem cdh_kin {u1 u2 : Int32} (hb : b < C) (hc : 120 * c + 130 ≤ 62000) (h : lawH b C c n t K L J R) (hP : ∀ v n2 t2 K2 L2 J2 R2, aNx b C c n2 t2 K2 L2 J2 R2 (yv (C + 44) J) (kiY (yv (C + 44) J) u1 u2) → (hcG C (30 * c + 30) J2 R2 (kiY (yv (C + 44) J) u1 u2)) → P (some (.int v)) (n2 + 1, t2, K2, L2, J2, R2)) : a_does 700 89 [a_rf C, .int u1, .int u2] (n + 1, t, K, L, J, R) P := by
  have hT := h.1.1.1
  have hcp := h.1.2.2.2.2.2.1.1
  exact cdh_gen (Q := fun v n2 t2 K2 L2 J2 R2 => aNx b C c n2 t2 K2 L2 J2 R2 (yv (C + 44) J) (kiY (yv (C + 44) J) u1 u2)) (B := cFh C K J R) (cd_kin hb h.1 (fun v n2 t2 K2 L2 J2 R2 hx => ⟨v, n2, t2, K2, L2, J2, R2, rfl, rfl, hx⟩)) (kf_kin h.1.1) (fun v n2 t2 K2 L2 J2 R2 q w => hP _ _ _ _ _ _ _ q (hg_c hT hcp h.2 (cF_in w) pz_kin (Nat.le_add_right _ _)))
theorem rdh_kin {u1 u2 : Int32} (hx : aNx b C c n t K L J R Y (kiY Y u1 u2)) (hc : 120 * c + 130 ≤ 62000) (g : hcG C (30 * c + 30) J R (kiY Y u1 u2)) (hP : ∀ v J3, lawH b C (c + 1) n t K L J3 R → P (some (.int v)) (n + 1, t, K, L, J3, R)) : a_does 700 213 [a_rf (C + 44), .int u1, .int u2] (n + 1, t, K, L, J, R) P := by
  have hc8 : 120 * c + 130 ≤ 84000 := by omega
  have hT := hx.1.1.1
  have hcZ := hx.2.2.2.1.1
  have h6 : Y 0 6 ≤ 6 := hx.2.2.1.1.2.2.2.2.2.1.2
  exact rdh_gen (Q := fun w J3 => lawI b C (c + 1) n t K L J3 R) (B := rPh C n t K L R J) (rd_kin hx hc8 (fun v J3 hI => ⟨v, J3, rfl, rfl, hI⟩)) (rj_kin hx.1.2.1 hx.1.2.2.1 hx.1.2.2.2.1 hc8) (fun v0 J3 hI w => hP _ _ (lawH_n hI (hg_r hT hcZ g (rPh_in w) (pz_cu hT hcZ (fun x j q => rPh_in w x j (by unfold eRh; omega)) hI.2.2.2.2.2.1.1))))
theorem cdh_mark {u1 u2 u3 : Int32} (hb : b < C) (hc : 120 * c + 130 ≤ 62000) (h : lawH b C c n t K L J R) (hP : ∀ n2 t2 K2 L2 J2 R2, aNx b C c n2 t2 K2 L2 J2 R2 (yv (C + 44) J) ((mrY (yv (C + 44) J) u1 u2 u3).2) → (hcG C (30 * c + 30) J2 R2 ((mrY (yv (C + 44) J) u1 u2 u3).2)) → P (some (.int ((mrY (yv (C + 44) J) u1 u2 u3).1))) (n2 + 1, t2, K2, L2, J2, R2)) : a_does 700 92 [a_rf C, .int u1, .int u2, .int u3] (n + 1, t, K, L, J, R) P := by
  have hT := h.1.1.1
  have hcp := h.1.2.2.2.2.2.1.1
  exact cdh_gen (Q := fun v n2 t2 K2 L2 J2 R2 => v = (mrY (yv (C + 44) J) u1 u2 u3).1 ∧ aNx b C c n2 t2 K2 L2 J2 R2 (yv (C + 44) J) ((mrY (yv (C + 44) J) u1 u2 u3).2)) (B := cFh C K J R) (cd_mark hb h.1 (fun n2 t2 K2 L2 J2 R2 hx => ⟨_, n2, t2, K2, L2, J2, R2, rfl, rfl, rfl, hx⟩)) (kf_mark h.1.1) (fun v n2 t2 K2 L2 J2 R2 q w => by
    obtain ⟨rfl, hx⟩ := q
    exact hP _ _ _ _ _ _ hx (hg_c hT hcp h.2 (cF_in w) pz_mark (Nat.le_add_right _ _)))
theorem rdh_mark {u1 u2 u3 : Int32} (hx : aNx b C c n t K L J R Y ((mrY Y u1 u2 u3).2)) (hc : 120 * c + 130 ≤ 62000) (g : hcG C (30 * c + 30) J R ((mrY Y u1 u2 u3).2)) (hP : ∀ J3, lawH b C (c + 1) n t K L J3 R → P (some (.int ((mrY Y u1 u2 u3).1))) (n + 1, t, K, L, J3, R)) : a_does 700 215 [a_rf (C + 44), .int u1, .int u2, .int u3] (n + 1, t, K, L, J, R) P := by
  have hc8 : 120 * c + 130 ≤ 84000 := by omega
  have hT := hx.1.1.1
  have hcZ := hx.2.2.2.1.1
  have h6 : Y 0 6 ≤ 6 := hx.2.2.1.1.2.2.2.2.2.1.2
  exact rdh_gen (Q := fun w J3 => w = (mrY Y u1 u2 u3).1 ∧ lawI b C (c + 1) n t K L J3 R) (B := rPh C n t K L R J) (rd_mark hx hc8 (fun J3 hI => ⟨_, J3, rfl, rfl, rfl, hI⟩)) (rj_mark hx.1.2.1 hx.1.2.2.1 hx.1.2.2.2.1 hc8) (fun v0 J3 q w => by
    obtain ⟨rfl, hI⟩ := q
    exact hP _ (lawH_n hI (hg_r hT hcZ g (rPh_in w) (pz_cu hT hcZ (fun x j q => rPh_in w x j (by unfold eRh; omega)) hI.2.2.2.2.2.1.1))))
theorem cdh_markOf {u1 : Int32} (hb : b < C) (hc : 120 * c + 130 ≤ 62000) (h : lawH b C c n t K L J R) (hP : ∀ n2 t2 K2 L2 J2 R2, aNx b C c n2 t2 K2 L2 J2 R2 (yv (C + 44) J) ((yv (C + 44) J)) → (hcG C (30 * c + 30) J2 R2 ((yv (C + 44) J))) → P (some (.int (mkV (yv (C + 44) J) u1))) (n2 + 1, t2, K2, L2, J2, R2)) : a_does 700 96 [a_rf C, .int u1] (n + 1, t, K, L, J, R) P := by
  have hT := h.1.1.1
  have hcp := h.1.2.2.2.2.2.1.1
  exact cdh_gen (Q := fun v n2 t2 K2 L2 J2 R2 => v = mkV (yv (C + 44) J) u1 ∧ aNx b C c n2 t2 K2 L2 J2 R2 (yv (C + 44) J) ((yv (C + 44) J))) (B := cFh C K J R) (cd_markOf hb h.1 (fun n2 t2 K2 L2 J2 R2 hx => ⟨_, n2, t2, K2, L2, J2, R2, rfl, rfl, rfl, hx⟩)) (kf_markOf h.1.1) (fun v n2 t2 K2 L2 J2 R2 q w => by
    obtain ⟨rfl, hx⟩ := q
    exact hP _ _ _ _ _ _ hx (hg_c hT hcp h.2 (cF_in w) pz_0 (Nat.le_add_right _ _)))
theorem rdh_markOf {u1 : Int32} (hx : aNx b C c n t K L J R Y (Y)) (hc : 120 * c + 130 ≤ 62000) (g : hcG C (30 * c + 30) J R (Y)) (hP : ∀ J3, lawH b C (c + 1) n t K L J3 R → P (some (.int (mkV Y u1))) (n + 1, t, K, L, J3, R)) : a_does 700 216 [a_rf (C + 44), .int u1] (n + 1, t, K, L, J, R) P := by
  have hc8 : 120 * c + 130 ≤ 84000 := by omega
  have hT := hx.1.1.1
  have hcZ := hx.2.2.2.1.1
  have h6 : Y 0 6 ≤ 6 := hx.2.2.1.1.2.2.2.2.2.1.2
  exact rdh_gen (Q := fun w J3 => w = mkV Y u1 ∧ lawI b C (c + 1) n t K L J3 R) (B := rPh C n t K L R J) (rd_markOf hx hc8 (fun J3 hI => ⟨_, J3, rfl, rfl, rfl, hI⟩)) (rj_markOf hx.1.2.1 hx.1.2.2.1 hx.1.2.2.2.1 hc8) (fun v0 J3 q w => by
    obtain ⟨rfl, hI⟩ := q
    exact hP _ (lawH_n hI (hg_r hT hcZ g (rPh_in w) (pz_cu hT hcZ (fun x j q => rPh_in w x j (by unfold eRh; omega)) hI.2.2.2.2.2.1.1))))
theorem cdh_habit {u1 u2 : Int32} (hb : b < C) (hc : 120 * c + 130 ≤ 62000) (h : lawH b C c n t K L J R) (hP : ∀ v n2 t2 K2 L2 J2 R2, aNx b C c n2 t2 K2 L2 J2 R2 (yv (C + 44) J) ((yv (C + 44) J)) → (hcG C (30 * c + 30) J2 R2 ((yv (C + 44) J))) → P (some (.int v)) (n2 + 1, t2, K2, L2, J2, R2)) : a_does 700 97 [a_rf C, .int u1, .int u2] (n + 1, t, K, L, J, R) P := by
  have hT := h.1.1.1
  have hcp := h.1.2.2.2.2.2.1.1
  exact cdh_gen (Q := fun v n2 t2 K2 L2 J2 R2 => aNx b C c n2 t2 K2 L2 J2 R2 (yv (C + 44) J) ((yv (C + 44) J))) (B := cFh C K J R) (cd_habit hb h.1 (fun v n2 t2 K2 L2 J2 R2 hx => ⟨v, n2, t2, K2, L2, J2, R2, rfl, rfl, hx⟩)) (kf_habit h.1.1) (fun v n2 t2 K2 L2 J2 R2 q w => hP _ _ _ _ _ _ _ q (hg_c hT hcp h.2 (cF_in w) pz_0 (Nat.le_add_right _ _)))
theorem rdh_habit {u1 u2 : Int32} (hx : aNx b C c n t K L J R Y (Y)) (hc : 120 * c + 130 ≤ 62000) (g : hcG C (30 * c + 30) J R (Y)) (hP : ∀ v J3, lawH b C (c + 1) n t K L J3 R → P (some (.int v)) (n + 1, t, K, L, J3, R)) : a_does 700 217 [a_rf (C + 44), .int u1, .int u2] (n + 1, t, K, L, J, R) P := by
  have hc8 : 120 * c + 130 ≤ 84000 := by omega
  have hT := hx.1.1.1
  have hcZ := hx.2.2.2.1.1
  have h6 : Y 0 6 ≤ 6 := hx.2.2.1.1.2.2.2.2.2.1.2
  exact rdh_gen (Q := fun w J3 => lawI b C (c + 1) n t K L J3 R) (B := rPh C n t K L R J) (rd_habit hx hc8 (fun v J3 hI => ⟨v, J3, rfl, rfl, hI⟩)) (rj_habit hx.1.2.1 hx.1.2.2.1 hx.1.2.2.2.1 hc8) (fun v0 J3 hI w => hP _ _ (lawH_n hI (hg_r hT hcZ g (rPh_in w) (pz_cu hT hcZ (fun x j q => rPh_in w x j (by unfold eRh; omega)) hI.2.2.2.2.2.1.1))))
theorem cdh_fit {u1 u2 u3 : Int32} (hb : b < C) (hc : 120 * c + 130 ≤ 62000) (h : lawH b C c n t K L J R) (hP : ∀ n2 t2 K2 L2 J2 R2, aNx b C c n2 t2 K2 L2 J2 R2 (yv (C + 44) J) ((yv (C + 44) J)) → (hcG C (30 * c + 30) J2 R2 ((yv (C + 44) J))) → P (some (.int (ftV (yv (C + 44) J) u1 u2 u3))) (n2 + 1, t2, K2, L2, J2, R2)) : a_does 700 99 [a_rf C, .int u1, .int u2, .int u3] (n + 1, t, K, L, J, R) P := by
  have hT := h.1.1.1
  have hcp := h.1.2.2.2.2.2.1.1
  exact cdh_gen (Q := fun v n2 t2 K2 L2 J2 R2 => v = ftV (yv (C + 44) J) u1 u2 u3 ∧ aNx b C c n2 t2 K2 L2 J2 R2 (yv (C + 44) J) ((yv (C + 44) J))) (B := cFh C K J R) (cd_fit hb h.1 (fun n2 t2 K2 L2 J2 R2 hx => ⟨_, n2, t2, K2, L2, J2, R2, rfl, rfl, rfl, hx⟩)) (kf_fit h.1.1) (fun v n2 t2 K2 L2 J2 R2 q w => by
    obtain ⟨rfl, hx⟩ := q
    exact hP _ _ _ _ _ _ hx (hg_c hT hcp h.2 (cF_in w) pz_0 (Nat.le_add_right _ _)))
theorem rdh_fit {u1 u2 u3 : Int32} (hx : aNx b C c n t K L J R Y (Y)) (hc : 120 * c + 130 ≤ 62000) (g : hcG C (30 * c + 30) J R (Y)) (hP : ∀ J3, lawH b C (c + 1) n t K L J3 R → P (some (.int (ftV Y u1 u2 u3))) (n + 1, t, K, L, J3, R)) : a_does 700 220 [a_rf (C + 44), .int u1, .int u2, .int u3] (n + 1, t, K, L, J, R) P := by
  have hc8 : 120 * c + 130 ≤ 84000 := by omega
  have hT := hx.1.1.1
  have hcZ := hx.2.2.2.1.1
  have h6 : Y 0 6 ≤ 6 := hx.2.2.1.1.2.2.2.2.2.1.2
  exact rdh_gen (Q := fun w J3 => w = ftV Y u1 u2 u3 ∧ lawI b C (c + 1) n t K L J3 R) (B := rPh C n t K L R J) (rd_fit hx hc8 (fun J3 hI => ⟨_, J3, rfl, rfl, rfl, hI⟩)) (rj_fit hx.1.2.1 hx.1.2.2.1 hx.1.2.2.2.1 hc8) (fun v0 J3 q w => by
    obtain ⟨rfl, hI⟩ := q
    exact hP _ (lawH_n hI (hg_r hT hcZ g (rPh_in w) (pz_cu hT hcZ (fun x j q => rPh_in w x j (by unfold eRh; omega)) hI.2.2.2.2.2.1.1))))
theorem kc_give {u1 u2 u3 : Int32} (hc : 120 * c + 130 ≤ 62000) (h : lawH b C c n t K L J R) : a_does 700 112 [a_rf C, .int u1, .int u2, .int u3] (n + 1, t, K, L, J, R) (fun _ h' => kcX C J R (yv (C + 44) J) (30 * c) ((yv (C + 44) J)) ((gvY (yv (C + 44) J) u1 u2 u3).2) h') := by
  exact does_mono (does_and (gk_give (P := fun _ h' => ∃ n2 t2 K2 L2 J2 R2, h' = (n2 + 1, t2, K2, L2, J2, R2) ∧ hxK C J R (yv (C + 44) J) (30 * c) J2 R2 ((yv (C + 44) J)) ((gvY (yv (C + 44) J) u1 u2 u3).2)) h.1.1 h.1.2.2.2.2.2.1 h.2.2.2.1 (by omega) (fun n2 t2 K2 L2 J2 R2 _ _ x => ⟨n2, t2, K2, L2, J2, R2, rfl, x⟩)) (cu_give (P := fun _ h' => cB C n K L J R none h') h.1.1 (fun _ _ _ _ _ _ _ z => cb_Z z))) (fun r h' q => by
    obtain ⟨⟨n2, t2, K2, L2, J2, R2, e, x⟩, q3⟩ := q
    rw [e] at q3 ⊢
    exact kcX_of x q3)
theorem cdh_give {u1 u2 u3 : Int32} (hb : b < C) (hc : 120 * c + 130 ≤ 62000) (h : lawH b C c n t K L J R) (hP : ∀ n2 t2 K2 L2 J2 R2, aNx b C c n2 t2 K2 L2 J2 R2 (yv (C + 44) J) ((gvY (yv (C + 44) J) u1 u2 u3).2) → (hcR C (30 * c + 30) J2 R2 (yv (C + 44) J) ((yv (C + 44) J)) ((gvY (yv (C + 44) J) u1 u2 u3).2)) → P (some (.int ((gvY (yv (C + 44) J) u1 u2 u3).1))) (n2 + 1, t2, K2, L2, J2, R2)) : a_does 700 112 [a_rf C, .int u1, .int u2, .int u3] (n + 1, t, K, L, J, R) P := by
  have hT := h.1.1.1
  have hcp := h.1.2.2.2.2.2.1.1
  exact cdh_gen (Q := fun v n2 t2 K2 L2 J2 R2 => v = (gvY (yv (C + 44) J) u1 u2 u3).1 ∧ aNx b C c n2 t2 K2 L2 J2 R2 (yv (C + 44) J) ((gvY (yv (C + 44) J) u1 u2 u3).2)) (B := (kcX C J R (yv (C + 44) J) (30 * c) ((yv (C + 44) J)) ((gvY (yv (C + 44) J) u1 u2 u3).2))) (cd_give hb h.1 (fun n2 t2 K2 L2 J2 R2 hx => ⟨_, n2, t2, K2, L2, J2, R2, rfl, rfl, rfl, hx⟩)) (kc_give hc h) (fun v n2 t2 K2 L2 J2 R2 q w => by
    obtain ⟨rfl, hx⟩ := q
    exact hP _ _ _ _ _ _ hx (hr_c hcp h.2 (law_now h.1) (law_pl h.1) (kcX_in w).1 (kcX_in w).2))
theorem rdh_give {u1 u2 u3 : Int32} (hx : aNx b C c n t K L J R Y ((gvY Y u1 u2 u3).2)) (hc : 120 * c + 130 ≤ 62000) (g : hcR C (30 * c + 30) J R Y (Y) ((gvY Y u1 u2 u3).2)) (hP : ∀ J3, lawH b C (c + 1) n t K L J3 R → P (some (.int ((gvY Y u1 u2 u3).1))) (n + 1, t, K, L, J3, R)) : a_does 700 229 [a_rf (C + 44), .int u1, .int u2, .int u3] (n + 1, t, K, L, J, R) P := by
  have hc8 : 120 * c + 130 ≤ 84000 := by omega
  have hT := hx.1.1.1
  have hcZ := hx.2.2.2.1.1
  have h6 : Y 0 6 ≤ 6 := hx.2.2.1.1.2.2.2.2.2.1.2
  exact rdh_gen (Q := fun w J3 => w = (gvY Y u1 u2 u3).1 ∧ lawI b C (c + 1) n t K L J3 R) (B := xqX C n t K L R J Y (Y) ((gvY Y u1 u2 u3).2)) (rd_give hx hc8 (fun J3 hI => ⟨_, J3, rfl, rfl, rfl, hI⟩)) (xp_give9 (P := fun _ h' => xqX C n t K L R J Y (Y) ((gvY Y u1 u2 u3).2) h') hx.1.2.1 hx.2.2.1 hc8 ⟨mG_refl hx.1.2.2.1, hx.1.2.2.2.1⟩ hx.2.1 g.1 g.2.1 (fun J4 _ gs x => ⟨J4, rfl, x, gs.2.1⟩)) (fun v0 J3 q w => by
    obtain ⟨rfl, hI⟩ := q
    exact hP _ (lawH_n hI (hr_r hT hcZ h6 g (xqX_in w).1 (xqX_in w).2 (pz_cu hT hcZ (xqX_in w).2 hI.2.2.2.2.2.1.1))))
theorem kc_take {u1 : Int32} (hc : 120 * c + 130 ≤ 62000) (h : lawH b C c n t K L J R) : a_does 700 116 [a_rf C, .int u1] (n + 1, t, K, L, J, R) (fun _ h' => kcX C J R (yv (C + 44) J) (30 * c) ((tkY (yv (C + 44) J) u1).2) ((tkY (yv (C + 44) J) u1).2) h') := by
  exact does_mono (does_and (gk_take (P := fun _ h' => ∃ n2 t2 K2 L2 J2 R2, h' = (n2 + 1, t2, K2, L2, J2, R2) ∧ hxK C J R (yv (C + 44) J) (30 * c) J2 R2 ((tkY (yv (C + 44) J) u1).2) ((tkY (yv (C + 44) J) u1).2)) h.1.1 h.1.2.2.2.2.2.1 h.2.2.2.1 (by omega) (fun n2 t2 K2 L2 J2 R2 _ _ x => ⟨n2, t2, K2, L2, J2, R2, rfl, x⟩)) (cu_take (P := fun _ h' => cB C n K L J R none h') h.1.1 (fun _ _ _ _ _ _ _ z => cb_Z z))) (fun r h' q => by
    obtain ⟨⟨n2, t2, K2, L2, J2, R2, e, x⟩, q3⟩ := q
    rw [e] at q3 ⊢
    exact kcX_of x q3)
theorem cdh_take {u1 : Int32} (hb : b < C) (hc : 120 * c + 130 ≤ 62000) (h : lawH b C c n t K L J R) (hP : ∀ n2 t2 K2 L2 J2 R2, aNx b C c n2 t2 K2 L2 J2 R2 (yv (C + 44) J) ((tkY (yv (C + 44) J) u1).2) → (hcR C (30 * c + 30) J2 R2 (yv (C + 44) J) ((tkY (yv (C + 44) J) u1).2) ((tkY (yv (C + 44) J) u1).2)) → P (some (.int ((tkY (yv (C + 44) J) u1).1))) (n2 + 1, t2, K2, L2, J2, R2)) : a_does 700 116 [a_rf C, .int u1] (n + 1, t, K, L, J, R) P := by
  have hT := h.1.1.1
  have hcp := h.1.2.2.2.2.2.1.1
  exact cdh_gen (Q := fun v n2 t2 K2 L2 J2 R2 => v = (tkY (yv (C + 44) J) u1).1 ∧ aNx b C c n2 t2 K2 L2 J2 R2 (yv (C + 44) J) ((tkY (yv (C + 44) J) u1).2)) (B := (kcX C J R (yv (C + 44) J) (30 * c) ((tkY (yv (C + 44) J) u1).2) ((tkY (yv (C + 44) J) u1).2))) (cd_take hb h.1 (fun n2 t2 K2 L2 J2 R2 hx => ⟨_, n2, t2, K2, L2, J2, R2, rfl, rfl, rfl, hx⟩)) (kc_take hc h) (fun v n2 t2 K2 L2 J2 R2 q w => by
    obtain ⟨rfl, hx⟩ := q
    exact hP _ _ _ _ _ _ hx (hr_c hcp h.2 (law_now h.1) (law_pl h.1) (kcX_in w).1 (kcX_in w).2))
theorem rdh_take {u1 : Int32} (hx : aNx b C c n t K L J R Y ((tkY Y u1).2)) (hc : 120 * c + 130 ≤ 62000) (g : hcR C (30 * c + 30) J R Y ((tkY Y u1).2) ((tkY Y u1).2)) (hP : ∀ J3, lawH b C (c + 1) n t K L J3 R → P (some (.int ((tkY Y u1).1))) (n + 1, t, K, L, J3, R)) : a_does 700 233 [a_rf (C + 44), .int u1] (n + 1, t, K, L, J, R) P := by
  have hc8 : 120 * c + 130 ≤ 84000 := by omega
  have hT := hx.1.1.1
  have hcZ := hx.2.2.2.1.1
  have h6 : Y 0 6 ≤ 6 := hx.2.2.1.1.2.2.2.2.2.1.2
  exact rdh_gen (Q := fun w J3 => w = (tkY Y u1).1 ∧ lawI b C (c + 1) n t K L J3 R) (B := xqX C n t K L R J Y ((tkY Y u1).2) ((tkY Y u1).2)) (rd_take hx hc8 (fun J3 hI => ⟨_, J3, rfl, rfl, rfl, hI⟩)) (xp_take9 (P := fun _ h' => xqX C n t K L R J Y ((tkY Y u1).2) ((tkY Y u1).2) h') hx.1.2.1 hx.2.2.1 hc8 ⟨mG_refl hx.1.2.2.1, hx.1.2.2.2.1⟩ hx.2.1 g.1 g.2.1 (fun J4 _ gs x => ⟨J4, rfl, x, gs.2.1⟩)) (fun v0 J3 q w => by
    obtain ⟨rfl, hI⟩ := q
    exact hP _ (lawH_n hI (hr_r hT hcZ h6 g (xqX_in w).1 (xqX_in w).2 (pz_cu hT hcZ (xqX_in w).2 hI.2.2.2.2.2.1.1))))
theorem kc_plan {u1 u2 : Int32} (hc : 120 * c + 130 ≤ 62000) (h : lawH b C c n t K L J R) : a_does 700 118 [a_rf C, .int u1, .int u2] (n + 1, t, K, L, J, R) (fun _ h' => kcX C J R (yv (C + 44) J) (30 * c) ((yv (C + 44) J)) ((plO (yv (C + 44) J) u1 u2).2) h') := by
  exact does_mono (does_and (gk_plan (P := fun _ h' => ∃ n2 t2 K2 L2 J2 R2, h' = (n2 + 1, t2, K2, L2, J2, R2) ∧ hxK C J R (yv (C + 44) J) (30 * c) J2 R2 ((yv (C + 44) J)) ((plO (yv (C + 44) J) u1 u2).2)) h.1.1 h.1.2.2.2.2.2.1 h.2.2.2.1 (by omega) (fun n2 t2 K2 L2 J2 R2 _ _ x => ⟨n2, t2, K2, L2, J2, R2, rfl, x⟩)) (cu_plan (P := fun _ h' => cB C n K L J R none h') h.1.1 (fun _ _ _ _ _ _ _ z => cb_Z z))) (fun r h' q => by
    obtain ⟨⟨n2, t2, K2, L2, J2, R2, e, x⟩, q3⟩ := q
    rw [e] at q3 ⊢
    exact kcX_of x q3)
theorem cdh_plan {u1 u2 : Int32} (hb : b < C) (hc : 120 * c + 130 ≤ 62000) (h : lawH b C c n t K L J R) (hP : ∀ n2 t2 K2 L2 J2 R2, aNx b C c n2 t2 K2 L2 J2 R2 (yv (C + 44) J) ((plO (yv (C + 44) J) u1 u2).2) → (hcR C (30 * c + 30) J2 R2 (yv (C + 44) J) ((yv (C + 44) J)) ((plO (yv (C + 44) J) u1 u2).2)) → P (some (.int ((plO (yv (C + 44) J) u1 u2).1))) (n2 + 1, t2, K2, L2, J2, R2)) : a_does 700 118 [a_rf C, .int u1, .int u2] (n + 1, t, K, L, J, R) P := by
  have hT := h.1.1.1
  have hcp := h.1.2.2.2.2.2.1.1
  exact cdh_gen (Q := fun v n2 t2 K2 L2 J2 R2 => v = (plO (yv (C + 44) J) u1 u2).1 ∧ aNx b C c n2 t2 K2 L2 J2 R2 (yv (C + 44) J) ((plO (yv (C + 44) J) u1 u2).2)) (B := (kcX C J R (yv (C + 44) J) (30 * c) ((yv (C + 44) J)) ((plO (yv (C + 44) J) u1 u2).2))) (cd_plan hb h.1 (fun n2 t2 K2 L2 J2 R2 hx => ⟨_, n2, t2, K2, L2, J2, R2, rfl, rfl, rfl, hx⟩)) (kc_plan hc h) (fun v n2 t2 K2 L2 J2 R2 q w => by
    obtain ⟨rfl, hx⟩ := q
    exact hP _ _ _ _ _ _ hx (hr_c hcp h.2 (law_now h.1) (law_pl h.1) (kcX_in w).1 (kcX_in w).2))
theorem rdh_plan {u1 u2 : Int32} (hx : aNx b C c n t K L J R Y ((plO Y u1 u2).2)) (hc : 120 * c + 130 ≤ 62000) (g : hcR C (30 * c + 30) J R Y (Y) ((plO Y u1 u2).2)) (hP : ∀ J3, lawH b C (c + 1) n t K L J3 R → P (some (.int ((plO Y u1 u2).1))) (n + 1, t, K, L, J3, R)) : a_does 700 234 [a_rf (C + 44), .int u1, .int u2] (n + 1, t, K, L, J, R) P := by
  have hc8 : 120 * c + 130 ≤ 84000 := by omega
  have hT := hx.1.1.1
  have hcZ := hx.2.2.2.1.1
  have h6 : Y 0 6 ≤ 6 := hx.2.2.1.1.2.2.2.2.2.1.2
  exact rdh_gen (Q := fun w J3 => w = (plO Y u1 u2).1 ∧ lawI b C (c + 1) n t K L J3 R) (B := xqX C n t K L R J Y (Y) ((plO Y u1 u2).2)) (rd_plan hx hc8 (fun J3 hI => ⟨_, J3, rfl, rfl, rfl, hI⟩)) (xp_plan9 (P := fun _ h' => xqX C n t K L R J Y (Y) ((plO Y u1 u2).2) h') hx.1.2.1 hx.2.2.1 hc8 ⟨mG_refl hx.1.2.2.1, hx.1.2.2.2.1⟩ hx.2.1 g.1 g.2.1 (fun J4 _ gs x => ⟨J4, rfl, x, gs.2.1⟩)) (fun v0 J3 q w => by
    obtain ⟨rfl, hI⟩ := q
    exact hP _ (lawH_n hI (hr_r hT hcZ h6 g (xqX_in w).1 (xqX_in w).2 (pz_cu hT hcZ (xqX_in w).2 hI.2.2.2.2.2.1.1))))
theorem cdh_passed {u1 : Int32} (hb : b < C) (hc : 120 * c + 130 ≤ 62000) (h : lawH b C c n t K L J R) (hP : ∀ v n2 t2 K2 L2 J2 R2, aNx b C c n2 t2 K2 L2 J2 R2 (yv (C + 44) J) ((yv (C + 44) J)) → (hcG C (30 * c + 30) J2 R2 ((yv (C + 44) J))) → P (some (.int v)) (n2 + 1, t2, K2, L2, J2, R2)) : a_does 700 125 [a_rf C, .int u1] (n + 1, t, K, L, J, R) P := by
  have hT := h.1.1.1
  have hcp := h.1.2.2.2.2.2.1.1
  exact cdh_gen (Q := fun v n2 t2 K2 L2 J2 R2 => aNx b C c n2 t2 K2 L2 J2 R2 (yv (C + 44) J) ((yv (C + 44) J))) (B := cFh C K J R) (cd_passed hb h.1 (fun v n2 t2 K2 L2 J2 R2 hx => ⟨v, n2, t2, K2, L2, J2, R2, rfl, rfl, hx⟩)) (kf_passed h.1.1) (fun v n2 t2 K2 L2 J2 R2 q w => hP _ _ _ _ _ _ _ q (hg_c hT hcp h.2 (cF_in w) pz_0 (Nat.le_add_right _ _)))
theorem rdh_passed {u1 : Int32} (hx : aNx b C c n t K L J R Y (Y)) (hc : 120 * c + 130 ≤ 62000) (g : hcG C (30 * c + 30) J R (Y)) (hP : ∀ v J3, lawH b C (c + 1) n t K L J3 R → P (some (.int v)) (n + 1, t, K, L, J3, R)) : a_does 700 240 [a_rf (C + 44), .int u1] (n + 1, t, K, L, J, R) P := by
  have hc8 : 120 * c + 130 ≤ 84000 := by omega
  have hT := hx.1.1.1
  have hcZ := hx.2.2.2.1.1
  have h6 : Y 0 6 ≤ 6 := hx.2.2.1.1.2.2.2.2.2.1.2
  exact rdh_gen (Q := fun w J3 => lawI b C (c + 1) n t K L J3 R) (B := rPh C n t K L R J) (rd_passed hx hc8 (fun v J3 hI => ⟨v, J3, rfl, rfl, hI⟩)) (rj_passed hx.1.2.1 hx.1.2.2.1 hx.1.2.2.2.1 hc8) (fun v0 J3 hI w => hP _ _ (lawH_n hI (hg_r hT hcZ g (rPh_in w) (pz_cu hT hcZ (fun x j q => rPh_in w x j (by unfold eRh; omega)) hI.2.2.2.2.2.1.1))))
theorem cdh_why {u1 u2 u3 u4 u5 : Int32} (hb : b < C) (hc : 120 * c + 130 ≤ 62000) (h : lawH b C c n t K L J R) (hP : ∀ n2 t2 K2 L2 J2 R2, aNx b C c n2 t2 K2 L2 J2 R2 (yv (C + 44) J) ((yv (C + 44) J)) → (hcG C (30 * c + 30) J2 R2 ((yv (C + 44) J))) → P (some (.int (whV (yv (C + 44) J) u1 u2 u3 u4 u5))) (n2 + 1, t2, K2, L2, J2, R2)) : a_does 700 127 [a_rf C, .int u1, .int u2, .int u3, .int u4, .int u5] (n + 1, t, K, L, J, R) P := by
  have hT := h.1.1.1
  have hcp := h.1.2.2.2.2.2.1.1
  exact cdh_gen (Q := fun v n2 t2 K2 L2 J2 R2 => v = whV (yv (C + 44) J) u1 u2 u3 u4 u5 ∧ aNx b C c n2 t2 K2 L2 J2 R2 (yv (C + 44) J) ((yv (C + 44) J))) (B := cFh C K J R) (cd_why hb h.1 (fun n2 t2 K2 L2 J2 R2 hx => ⟨_, n2, t2, K2, L2, J2, R2, rfl, rfl, rfl, hx⟩)) (kf_why h.1.1) (fun v n2 t2 K2 L2 J2 R2 q w => by
    obtain ⟨rfl, hx⟩ := q
    exact hP _ _ _ _ _ _ hx (hg_c hT hcp h.2 (cF_in w) pz_0 (Nat.le_add_right _ _)))
theorem rdh_why {u1 u2 u3 u4 u5 : Int32} (hx : aNx b C c n t K L J R Y (Y)) (hc : 120 * c + 130 ≤ 62000) (g : hcG C (30 * c + 30) J R (Y)) (hP : ∀ J3, lawH b C (c + 1) n t K L J3 R → P (some (.int (whV Y u1 u2 u3 u4 u5))) (n + 1, t, K, L, J3, R)) : a_does 700 241 [a_rf (C + 44), .int u1, .int u2, .int u3, .int u4, .int u5] (n + 1, t, K, L, J, R) P := by
  have hc8 : 120 * c + 130 ≤ 84000 := by omega
  have hT := hx.1.1.1
  have hcZ := hx.2.2.2.1.1
  have h6 : Y 0 6 ≤ 6 := hx.2.2.1.1.2.2.2.2.2.1.2
  exact rdh_gen (Q := fun w J3 => w = whV Y u1 u2 u3 u4 u5 ∧ lawI b C (c + 1) n t K L J3 R) (B := rPh C n t K L R J) (rd_why hx hc8 (fun J3 hI => ⟨_, J3, rfl, rfl, rfl, hI⟩)) (rj_why hx.1.2.1 hx.1.2.2.1 hx.1.2.2.2.1 hc8) (fun v0 J3 q w => by
    obtain ⟨rfl, hI⟩ := q
    exact hP _ (lawH_n hI (hg_r hT hcZ g (rPh_in w) (pz_cu hT hcZ (fun x j q => rPh_in w x j (by unfold eRh; omega)) hI.2.2.2.2.2.1.1))))
theorem cdh_best {u1 u2 u3 u4 : Int32} (hb : b < C) (hc : 120 * c + 130 ≤ 62000) (h : lawH b C c n t K L J R) (hP : ∀ v n2 t2 K2 L2 J2 R2, aNx b C c n2 t2 K2 L2 J2 R2 (yv (C + 44) J) ((yv (C + 44) J)) → (hcG C (30 * c + 30) J2 R2 ((yv (C + 44) J))) → P (some (.int v)) (n2 + 1, t2, K2, L2, J2, R2)) : a_does 700 128 [a_rf C, .int u1, .int u2, .int u3, .int u4] (n + 1, t, K, L, J, R) P := by
  have hT := h.1.1.1
  have hcp := h.1.2.2.2.2.2.1.1
  exact cdh_gen (Q := fun v n2 t2 K2 L2 J2 R2 => aNx b C c n2 t2 K2 L2 J2 R2 (yv (C + 44) J) ((yv (C + 44) J))) (B := cFh C K J R) (cd_best hb h.1 (fun v n2 t2 K2 L2 J2 R2 hx => ⟨v, n2, t2, K2, L2, J2, R2, rfl, rfl, hx⟩)) (kf_best h.1.1 h.1.2.2.2.2.2.1) (fun v n2 t2 K2 L2 J2 R2 q w => hP _ _ _ _ _ _ _ q (hg_c hT hcp h.2 (cF_in w) pz_0 (Nat.le_add_right _ _)))
theorem rdh_best {u1 u2 u3 u4 : Int32} (hx : aNx b C c n t K L J R Y (Y)) (hc : 120 * c + 130 ≤ 62000) (g : hcG C (30 * c + 30) J R (Y)) (hP : ∀ v J3, lawH b C (c + 1) n t K L J3 R → P (some (.int v)) (n + 1, t, K, L, J3, R)) : a_does 700 242 [a_rf (C + 44), .int u1, .int u2, .int u3, .int u4] (n + 1, t, K, L, J, R) P := by
  have hc8 : 120 * c + 130 ≤ 84000 := by omega
  have hT := hx.1.1.1
  have hcZ := hx.2.2.2.1.1
  have h6 : Y 0 6 ≤ 6 := hx.2.2.1.1.2.2.2.2.2.1.2
  exact rdh_gen (Q := fun w J3 => lawI b C (c + 1) n t K L J3 R) (B := rPh C n t K L R J) (rd_best hx hc8 (fun v J3 hI => ⟨v, J3, rfl, rfl, hI⟩)) (rj_best hx.1.2.1 hx.1.2.2.1 hx.1.2.2.2.1 hc8) (fun v0 J3 hI w => hP _ _ (lawH_n hI (hg_r hT hcZ g (rPh_in w) (pz_cu hT hcZ (fun x j q => rPh_in w x j (by unfold eRh; omega)) hI.2.2.2.2.2.1.1))))
theorem cdh_hosts {u1 u2 : Int32} (hb : b < C) (hc : 120 * c + 130 ≤ 62000) (h : lawH b C c n t K L J R) (hP : ∀ v n2 t2 K2 L2 J2 R2, aNx b C c n2 t2 K2 L2 J2 R2 (yv (C + 44) J) ((yv (C + 44) J)) → (hcG C (30 * c + 30) J2 R2 ((yv (C + 44) J))) → P (some (.int v)) (n2 + 1, t2, K2, L2, J2, R2)) : a_does 700 140 [a_rf C, .int u1, .int u2] (n + 1, t, K, L, J, R) P := by
  have hT := h.1.1.1
  have hcp := h.1.2.2.2.2.2.1.1
  exact cdh_gen (Q := fun v n2 t2 K2 L2 J2 R2 => aNx b C c n2 t2 K2 L2 J2 R2 (yv (C + 44) J) ((yv (C + 44) J))) (B := cFh C K J R) (cd_hosts hb h.1 (fun v n2 t2 K2 L2 J2 R2 hx => ⟨v, n2, t2, K2, L2, J2, R2, rfl, rfl, hx⟩)) (kf_hosts h.1.1) (fun v n2 t2 K2 L2 J2 R2 q w => hP _ _ _ _ _ _ _ q (hg_c hT hcp h.2 (cF_in w) pz_0 (Nat.le_add_right _ _)))
theorem rdh_hosts {u1 u2 : Int32} (hx : aNx b C c n t K L J R Y (Y)) (hc : 120 * c + 130 ≤ 62000) (g : hcG C (30 * c + 30) J R (Y)) (hP : ∀ v J3, lawH b C (c + 1) n t K L J3 R → P (some (.int v)) (n + 1, t, K, L, J3, R)) : a_does 700 245 [a_rf (C + 44), .int u1, .int u2] (n + 1, t, K, L, J, R) P := by
  have hc8 : 120 * c + 130 ≤ 84000 := by omega
  have hT := hx.1.1.1
  have hcZ := hx.2.2.2.1.1
  have h6 : Y 0 6 ≤ 6 := hx.2.2.1.1.2.2.2.2.2.1.2
  exact rdh_gen (Q := fun w J3 => lawI b C (c + 1) n t K L J3 R) (B := rPh C n t K L R J) (rd_hosts hx hc8 (fun v J3 hI => ⟨v, J3, rfl, rfl, hI⟩)) (rj_hosts hx.1.2.1 hx.1.2.2.1 hx.1.2.2.2.1 hc8) (fun v0 J3 hI w => hP _ _ (lawH_n hI (hg_r hT hcZ g (rPh_in w) (pz_cu hT hcZ (fun x j q => rPh_in w x j (by unfold eRh; omega)) hI.2.2.2.2.2.1.1))))
theorem cdh_owe {u1 : Int32} (hb : b < C) (hc : 120 * c + 130 ≤ 62000) (h : lawH b C c n t K L J R) (hP : ∀ n2 t2 K2 L2 J2 R2, aNx b C c n2 t2 K2 L2 J2 R2 (yv (C + 44) J) ((oeY (yv (C + 44) J) u1).2) → (0 ≤ u1 ∧ u1 < (yv (C + 44) J) 0 17 → 0 ≤ ohY (yv (C + 44) J) u1 ∧ ohY (yv (C + 44) J) u1 ≤ 4) → (hcG C (30 * c + 30) J2 R2 ((oeY (yv (C + 44) J) u1).2)) → P (some (.int ((oeY (yv (C + 44) J) u1).1))) (n2 + 1, t2, K2, L2, J2, R2)) : a_does 700 141 [a_rf C, .int u1] (n + 1, t, K, L, J, R) P := by
  have hT := h.1.1.1
  have hcp := h.1.2.2.2.2.2.1.1
  exact cdh_gen (Q := fun v n2 t2 K2 L2 J2 R2 => v = (oeY (yv (C + 44) J) u1).1 ∧ aNx b C c n2 t2 K2 L2 J2 R2 (yv (C + 44) J) ((oeY (yv (C + 44) J) u1).2) ∧ (0 ≤ u1 ∧ u1 < (yv (C + 44) J) 0 17 → 0 ≤ ohY (yv (C + 44) J) u1 ∧ ohY (yv (C + 44) J) u1 ≤ 4)) (B := cFh C K J R) (cd_owe hb h.1 (fun n2 t2 K2 L2 J2 R2 hx hbd => ⟨_, n2, t2, K2, L2, J2, R2, rfl, rfl, rfl, hx, hbd⟩)) (kf_owe h.1.1) (fun v n2 t2 K2 L2 J2 R2 q w => by
    obtain ⟨rfl, hx, hbd⟩ := q
    exact hP _ _ _ _ _ _ hx hbd (hg_c hT hcp h.2 (cF_in w) (pz_owe (law_17 h.1)) (Nat.le_add_right _ _)))
theorem rdh_owe {u1 : Int32} (hx : aNx b C c n t K L J R Y ((oeY Y u1).2)) (hc : 120 * c + 130 ≤ 62000) (hbd : 0 ≤ u1 ∧ u1 < Y 0 17 → 0 ≤ ohY Y u1 ∧ ohY Y u1 ≤ 4) (g : hcG C (30 * c + 30) J R ((oeY Y u1).2)) (hP : ∀ J3, lawH b C (c + 1) n t K L J3 R → P (some (.int ((oeY Y u1).1))) (n + 1, t, K, L, J3, R)) : a_does 700 246 [a_rf (C + 44), .int u1] (n + 1, t, K, L, J, R) P := by
  have hc8 : 120 * c + 130 ≤ 84000 := by omega
  have hT := hx.1.1.1
  have hcZ := hx.2.2.2.1.1
  have h6 : Y 0 6 ≤ 6 := hx.2.2.1.1.2.2.2.2.2.1.2
  exact rdh_gen (Q := fun w J3 => w = (oeY Y u1).1 ∧ lawI b C (c + 1) n t K L J3 R) (B := rPh C n t K L R J) (rd_owe hx hc8 hbd (fun J3 hI => ⟨_, J3, rfl, rfl, rfl, hI⟩)) (rj_owe hx.1.2.1 hx.1.2.2.1 hx.1.2.2.2.1 hc8) (fun v0 J3 q w => by
    obtain ⟨rfl, hI⟩ := q
    exact hP _ (lawH_n hI (hg_r hT hcZ g (rPh_in w) (pz_cu hT hcZ (fun x j q => rPh_in w x j (by unfold eRh; omega)) hI.2.2.2.2.2.1.1))))
theorem kc_again  (hc : 120 * c + 130 ≤ 62000) (h : lawH b C c n t K L J R) : a_does 700 143 [a_rf C] (n + 1, t, K, L, J, R) (fun _ h' => kcX C J R (yv (C + 44) J) (30 * c) ((agP (yv (C + 44) J)).1) ((agY (yv (C + 44) J)).1) h') := by
  exact does_mono (does_and (gk_again (P := fun _ h' => ∃ n2 t2 K2 L2 J2 R2, h' = (n2 + 1, t2, K2, L2, J2, R2) ∧ hxK C J R (yv (C + 44) J) (30 * c) J2 R2 ((agP (yv (C + 44) J)).1) ((agY (yv (C + 44) J)).1)) h.1.1 h.1.2.2.2.2.2.1 h.2.2.2.1 (by omega) (fun n2 t2 K2 L2 J2 R2 _ _ x => ⟨n2, t2, K2, L2, J2, R2, rfl, x⟩)) (cu_again (P := fun _ h' => cB C n K L J R none h') h.1.1 (fun _ _ _ _ _ _ _ z => cb_Z z))) (fun r h' q => by
    obtain ⟨⟨n2, t2, K2, L2, J2, R2, e, x⟩, q3⟩ := q
    rw [e] at q3 ⊢
    exact kcX_of x q3)
theorem cdh_again  (hb : b < C) (hc : 120 * c + 130 ≤ 62000) (h : lawH b C c n t K L J R) (hP : ∀ n2 t2 K2 L2 J2 R2, aNx b C c n2 t2 K2 L2 J2 R2 (yv (C + 44) J) ((agY (yv (C + 44) J)).1) → (hcR C (30 * c + 30) J2 R2 (yv (C + 44) J) ((agP (yv (C + 44) J)).1) ((agY (yv (C + 44) J)).1)) → P (some (.int (Int32.ofNat (agY (yv (C + 44) J)).2))) (n2 + 1, t2, K2, L2, J2, R2)) : a_does 700 143 [a_rf C] (n + 1, t, K, L, J, R) P := by
  have hT := h.1.1.1
  have hcp := h.1.2.2.2.2.2.1.1
  exact cdh_gen (Q := fun v n2 t2 K2 L2 J2 R2 => v = Int32.ofNat (agY (yv (C + 44) J)).2 ∧ aNx b C c n2 t2 K2 L2 J2 R2 (yv (C + 44) J) ((agY (yv (C + 44) J)).1)) (B := (kcX C J R (yv (C + 44) J) (30 * c) ((agP (yv (C + 44) J)).1) ((agY (yv (C + 44) J)).1))) (cd_again hb h.1 (fun n2 t2 K2 L2 J2 R2 hx => ⟨_, n2, t2, K2, L2, J2, R2, rfl, rfl, rfl, hx⟩)) (kc_again hc h) (fun v n2 t2 K2 L2 J2 R2 q w => by
    obtain ⟨rfl, hx⟩ := q
    exact hP _ _ _ _ _ _ hx (hr_c hcp h.2 (law_now h.1) (law_pl h.1) (kcX_in w).1 (kcX_in w).2))
theorem rdh_again  (hx : aNx b C c n t K L J R Y ((agY Y).1)) (hc : 120 * c + 130 ≤ 62000) (g : hcR C (30 * c + 30) J R Y ((agP Y).1) ((agY Y).1)) (hP : ∀ J3, lawH b C (c + 1) n t K L J3 R → P (some (.int (Int32.ofNat (agY Y).2))) (n + 1, t, K, L, J3, R)) : a_does 700 247 [a_rf (C + 44)] (n + 1, t, K, L, J, R) P := by
  have hc8 : 120 * c + 130 ≤ 84000 := by omega
  have hT := hx.1.1.1
  have hcZ := hx.2.2.2.1.1
  have h6 : Y 0 6 ≤ 6 := hx.2.2.1.1.2.2.2.2.2.1.2
  exact rdh_gen (Q := fun w J3 => w = Int32.ofNat (agY Y).2 ∧ lawI b C (c + 1) n t K L J3 R) (B := xqX C n t K L R J Y ((agP Y).1) ((agY Y).1)) (rd_again hx hc8 (fun J3 hI => ⟨_, J3, rfl, rfl, rfl, hI⟩)) (xp_again9 (P := fun _ h' => xqX C n t K L R J Y ((agP Y).1) ((agY Y).1) h') hx.1.2.1 hx.2.2.1 hc8 ⟨mG_refl hx.1.2.2.1, hx.1.2.2.2.1⟩ hx.2.1 g.1 g.2.1 (fun J4 _ gs x => ⟨J4, rfl, x, gs.2.1⟩)) (fun v0 J3 q w => by
    obtain ⟨rfl, hI⟩ := q
    exact hP _ (lawH_n hI (hr_r hT hcZ h6 g (xqX_in w).1 (xqX_in w).2 (pz_cu hT hcZ (xqX_in w).2 hI.2.2.2.2.2.1.1))))
theorem kc_danger {u1 u2 : Int32} (hc : 120 * c + 130 ≤ 62000) (h : lawH b C c n t K L J R) : a_does 700 146 [a_rf C, .int u1, .int u2] (n + 1, t, K, L, J, R) (fun _ h' => kcX C J R (yv (C + 44) J) (30 * c) ((dgY (yv (C + 44) J) u1 u2).2) ((dgY (yv (C + 44) J) u1 u2).2) h') := by
  exact does_mono (does_and (gk_danger (P := fun _ h' => ∃ n2 t2 K2 L2 J2 R2, h' = (n2 + 1, t2, K2, L2, J2, R2) ∧ hxK C J R (yv (C + 44) J) (30 * c) J2 R2 ((dgY (yv (C + 44) J) u1 u2).2) ((dgY (yv (C + 44) J) u1 u2).2)) h.1.1 h.1.2.2.2.2.2.1 h.2.2.2.1 (by omega) (fun n2 t2 K2 L2 J2 R2 _ _ x => ⟨n2, t2, K2, L2, J2, R2, rfl, x⟩)) (cu_danger (P := fun _ h' => cB C n K L J R none h') h.1.1 (fun _ _ _ _ _ _ _ z => cb_Z z))) (fun r h' q => by
    obtain ⟨⟨n2, t2, K2, L2, J2, R2, e, x⟩, q3⟩ := q
    rw [e] at q3 ⊢
    exact kcX_of x q3)
theorem cdh_danger {u1 u2 : Int32} (hb : b < C) (hc : 120 * c + 130 ≤ 62000) (h : lawH b C c n t K L J R) (hP : ∀ n2 t2 K2 L2 J2 R2, aNx b C c n2 t2 K2 L2 J2 R2 (yv (C + 44) J) ((dgY (yv (C + 44) J) u1 u2).2) → (hcR C (30 * c + 30) J2 R2 (yv (C + 44) J) ((dgY (yv (C + 44) J) u1 u2).2) ((dgY (yv (C + 44) J) u1 u2).2)) → P (some (.int ((dgY (yv (C + 44) J) u1 u2).1))) (n2 + 1, t2, K2, L2, J2, R2)) : a_does 700 146 [a_rf C, .int u1, .int u2] (n + 1, t, K, L, J, R) P := by
  have hT := h.1.1.1
  have hcp := h.1.2.2.2.2.2.1.1
  exact cdh_gen (Q := fun v n2 t2 K2 L2 J2 R2 => v = (dgY (yv (C + 44) J) u1 u2).1 ∧ aNx b C c n2 t2 K2 L2 J2 R2 (yv (C + 44) J) ((dgY (yv (C + 44) J) u1 u2).2)) (B := (kcX C J R (yv (C + 44) J) (30 * c) ((dgY (yv (C + 44) J) u1 u2).2) ((dgY (yv (C + 44) J) u1 u2).2))) (cd_danger hb h.1 (fun n2 t2 K2 L2 J2 R2 hx => ⟨_, n2, t2, K2, L2, J2, R2, rfl, rfl, rfl, hx⟩)) (kc_danger hc h) (fun v n2 t2 K2 L2 J2 R2 q w => by
    obtain ⟨rfl, hx⟩ := q
    exact hP _ _ _ _ _ _ hx (hr_c hcp h.2 (law_now h.1) (law_pl h.1) (kcX_in w).1 (kcX_in w).2))
theorem rdh_danger {u1 u2 : Int32} (hx : aNx b C c n t K L J R Y ((dgY Y u1 u2).2)) (hc : 120 * c + 130 ≤ 62000) (g : hcR C (30 * c + 30) J R Y ((dgY Y u1 u2).2) ((dgY Y u1 u2).2)) (hP : ∀ J3, lawH b C (c + 1) n t K L J3 R → P (some (.int ((dgY Y u1 u2).1))) (n + 1, t, K, L, J3, R)) : a_does 700 249 [a_rf (C + 44), .int u1, .int u2] (n + 1, t, K, L, J, R) P := by
  have hc8 : 120 * c + 130 ≤ 84000 := by omega
  have hT := hx.1.1.1
  have hcZ := hx.2.2.2.1.1
  have h6 : Y 0 6 ≤ 6 := hx.2.2.1.1.2.2.2.2.2.1.2
  exact rdh_gen (Q := fun w J3 => w = (dgY Y u1 u2).1 ∧ lawI b C (c + 1) n t K L J3 R) (B := xqX C n t K L R J Y ((dgY Y u1 u2).2) ((dgY Y u1 u2).2)) (rd_danger hx hc8 (fun J3 hI => ⟨_, J3, rfl, rfl, rfl, hI⟩)) (xp_danger9 (P := fun _ h' => xqX C n t K L R J Y ((dgY Y u1 u2).2) ((dgY Y u1 u2).2) h') hx.1.2.1 hx.2.2.1 hc8 ⟨mG_refl hx.1.2.2.1, hx.1.2.2.2.1⟩ hx.2.1 g.1 g.2.1 (fun J4 _ gs x => ⟨J4, rfl, x, gs.2.1⟩)) (fun v0 J3 q w => by
    obtain ⟨rfl, hI⟩ := q
    exact hP _ (lawH_n hI (hr_r hT hcZ h6 g (xqX_in w).1 (xqX_in w).2 (pz_cu hT hcZ (xqX_in w).2 hI.2.2.2.2.2.1.1))))
theorem cdh_wish {u1 u2 u3 : Int32} (hw : u3 = 0 ∨ u3 = 1) (hb : b < C) (hc : 120 * c + 130 ≤ 62000) (h : lawH b C c n t K L J R) (hP : ∀ n2 t2 K2 L2 J2 R2, aNx b C c n2 t2 K2 L2 J2 R2 (yv (C + 44) J) ((wsY (yv (C + 44) J) u1 u2 u3).2) → (hcG C (30 * c + 30) J2 R2 ((wsY (yv (C + 44) J) u1 u2 u3).2)) → P (some (.int ((wsY (yv (C + 44) J) u1 u2 u3).1))) (n2 + 1, t2, K2, L2, J2, R2)) : a_does 700 147 [a_rf C, .int u1, .int u2, .int u3] (n + 1, t, K, L, J, R) P := by
  have hT := h.1.1.1
  have hcp := h.1.2.2.2.2.2.1.1
  exact cdh_gen (Q := fun v n2 t2 K2 L2 J2 R2 => v = (wsY (yv (C + 44) J) u1 u2 u3).1 ∧ aNx b C c n2 t2 K2 L2 J2 R2 (yv (C + 44) J) ((wsY (yv (C + 44) J) u1 u2 u3).2)) (B := cFh C K J R) (cd_wish hw hb h.1 (fun n2 t2 K2 L2 J2 R2 hx => ⟨_, n2, t2, K2, L2, J2, R2, rfl, rfl, rfl, hx⟩)) (kf_wish hw h.1.1) (fun v n2 t2 K2 L2 J2 R2 q w => by
    obtain ⟨rfl, hx⟩ := q
    exact hP _ _ _ _ _ _ hx (hg_c hT hcp h.2 (cF_in w) pz_wish (Nat.le_add_right _ _)))
theorem rdh_wish {u1 u2 u3 : Int32} (hw : u3 = 0 ∨ u3 = 1) (hx : aNx b C c n t K L J R Y ((wsY Y u1 u2 u3).2)) (hc : 120 * c + 130 ≤ 62000) (g : hcG C (30 * c + 30) J R ((wsY Y u1 u2 u3).2)) (hP : ∀ J3, lawH b C (c + 1) n t K L J3 R → P (some (.int ((wsY Y u1 u2 u3).1))) (n + 1, t, K, L, J3, R)) : a_does 700 250 [a_rf (C + 44), .int u1, .int u2, .int u3] (n + 1, t, K, L, J, R) P := by
  have hc8 : 120 * c + 130 ≤ 84000 := by omega
  have hT := hx.1.1.1
  have hcZ := hx.2.2.2.1.1
  have h6 : Y 0 6 ≤ 6 := hx.2.2.1.1.2.2.2.2.2.1.2
  exact rdh_gen (Q := fun w J3 => w = (wsY Y u1 u2 u3).1 ∧ lawI b C (c + 1) n t K L J3 R) (B := rPh C n t K L R J) (rd_wish hw hx hc8 (fun J3 hI => ⟨_, J3, rfl, rfl, rfl, hI⟩)) (rj_wish hw hx.1.2.1 hx.1.2.2.1 hx.1.2.2.2.1 hc8) (fun v0 J3 q w => by
    obtain ⟨rfl, hI⟩ := q
    exact hP _ (lawH_n hI (hg_r hT hcZ g (rPh_in w) (pz_cu hT hcZ (fun x j q => rPh_in w x j (by unfold eRh; omega)) hI.2.2.2.2.2.1.1))))
theorem cdh_ring {u1 : Int32} (hb : b < C) (hc : 120 * c + 130 ≤ 62000) (h : lawH b C c n t K L J R) (hP : ∀ v n2 t2 K2 L2 J2 R2, rgO (yv (C + 44) J) u1 v → aNx b C c n2 t2 K2 L2 J2 R2 (yv (C + 44) J) ((yv (C + 44) J)) → (hcG C (30 * c + 30) J2 R2 ((yv (C + 44) J))) → P (some (.int v)) (n2 + 1, t2, K2, L2, J2, R2)) : a_does 700 149 [a_rf C, .int u1] (n + 1, t, K, L, J, R) P := by
  have hT := h.1.1.1
  have hcp := h.1.2.2.2.2.2.1.1
  exact cdh_gen (Q := fun v n2 t2 K2 L2 J2 R2 => rgO (yv (C + 44) J) u1 v ∧ aNx b C c n2 t2 K2 L2 J2 R2 (yv (C + 44) J) ((yv (C + 44) J))) (B := cFh C K J R) (cd_ring hb h.1 (fun v n2 t2 K2 L2 J2 R2 ho hx => ⟨v, n2, t2, K2, L2, J2, R2, rfl, rfl, ho, hx⟩)) (kf_ring h.1.1 h.1.2.2.2.2.2.1) (fun v n2 t2 K2 L2 J2 R2 q w => hP _ _ _ _ _ _ _ q.1 q.2 (hg_c hT hcp h.2 (cF_in w) pz_0 (Nat.le_add_right _ _)))
theorem rdh_ring {u1 : Int32} (hx : aNx b C c n t K L J R Y (Y)) (hc : 120 * c + 130 ≤ 62000) {v : Int32} (ho : rgO Y u1 v) (g : hcG C (30 * c + 30) J R (Y)) (hP : ∀ J3, lawH b C (c + 1) n t K L J3 R → P (some (.int (v))) (n + 1, t, K, L, J3, R)) : a_does 700 251 [a_rf (C + 44), .int u1] (n + 1, t, K, L, J, R) P := by
  have hc8 : 120 * c + 130 ≤ 84000 := by omega
  have hT := hx.1.1.1
  have hcZ := hx.2.2.2.1.1
  have h6 : Y 0 6 ≤ 6 := hx.2.2.1.1.2.2.2.2.2.1.2
  exact rdh_gen (Q := fun w J3 => w = v ∧ lawI b C (c + 1) n t K L J3 R) (B := rPh C n t K L R J) (rd_ring hx hc8 ho (fun J3 hI => ⟨_, J3, rfl, rfl, rfl, hI⟩)) (rj_ring hx.1.2.1 hx.1.2.2.1 hx.1.2.2.2.1 hc8) (fun v0 J3 q w => by
    obtain ⟨rfl, hI⟩ := q
    exact hP _ (lawH_n hI (hg_r hT hcZ g (rPh_in w) (pz_cu hT hcZ (fun x j q => rPh_in w x j (by unfold eRh; omega)) hI.2.2.2.2.2.1.1))))
theorem kc_swap  (hc : 120 * c + 130 ≤ 62000) (h : lawH b C c n t K L J R) : a_does 700 158 [a_rf C] (n + 1, t, K, L, J, R) (fun _ h' => (fun h' => ∃ v Z W1, swO (yv (C + 44) J) v Z ∧ swW (yv (C + 44) J) W1 ∧ kcX C J R (yv (C + 44) J) (30 * c) (W1) Z h') h') := by
  exact does_mono (does_and (gk_swap (P := fun _ h' => ∃ v Z W1 n2 t2 K2 L2 J2 R2, h' = (n2 + 1, t2, K2, L2, J2, R2) ∧ swO (yv (C + 44) J) v Z ∧ swW (yv (C + 44) J) W1 ∧ hxK C J R (yv (C + 44) J) (30 * c) J2 R2 W1 Z) h.1.1 h.1.2.2.2.2.2.1 h.2.2.2.1 (by omega) (fun v Z W1 n2 t2 K2 L2 J2 R2 q1 q2 _ _ x => ⟨v, Z, W1, n2, t2, K2, L2, J2, R2, rfl, q1, q2, x⟩)) (cu_swap (P := fun _ h' => cB C n K L J R none h') h.1.1 (fun _ _ _ _ _ _ _ z => cb_Z z))) (fun r h' q => by
    obtain ⟨⟨v, Z, W1, n2, t2, K2, L2, J2, R2, e, q1, q2, x⟩, q3⟩ := q
    rw [e] at q3 ⊢
    exact ⟨v, Z, W1, q1, q2, kcX_of x q3⟩)
theorem cdh_swap  (hb : b < C) (hc : 120 * c + 130 ≤ 62000) (h : lawH b C c n t K L J R) (hP : ∀ v Z2 n2 t2 K2 L2 J2 R2, swO (yv (C + 44) J) v Z2 → aNx b C c n2 t2 K2 L2 J2 R2 (yv (C + 44) J) (Z2) → (∃ W1, swW (yv (C + 44) J) W1 ∧ hcR C (30 * c + 30) J2 R2 (yv (C + 44) J) W1 Z2) → P (some (.int v)) (n2 + 1, t2, K2, L2, J2, R2)) : a_does 700 158 [a_rf C] (n + 1, t, K, L, J, R) P := by
  have hT := h.1.1.1
  have hcp := h.1.2.2.2.2.2.1.1
  exact cdh_gen (Q := fun v n2 t2 K2 L2 J2 R2 => ∃ Z2, swO (yv (C + 44) J) v Z2 ∧ aNx b C c n2 t2 K2 L2 J2 R2 (yv (C + 44) J) (Z2)) (B := (fun h' => ∃ v Z W1, swO (yv (C + 44) J) v Z ∧ swW (yv (C + 44) J) W1 ∧ kcX C J R (yv (C + 44) J) (30 * c) (W1) Z h')) (cd_swap hb h.1 (fun v Z2 n2 t2 K2 L2 J2 R2 ho hx => ⟨v, n2, t2, K2, L2, J2, R2, rfl, rfl, Z2, ho, hx⟩)) (kc_swap hc h) (fun v n2 t2 K2 L2 J2 R2 q w => by
    obtain ⟨Z2, ho, hx⟩ := q
    obtain ⟨v3, Z3, W1, s1, s2, w⟩ := w
    rw [(swO_u ho s1).2] at w
    exact hP _ _ _ _ _ _ _ _ ho hx ⟨W1, s2, hr_c hcp h.2 (law_now h.1) (law_pl h.1) (kcX_in w).1 (kcX_in w).2⟩)
theorem rdh_swap  (hx : aNx b C c n t K L J R Y (Z)) (hc : 120 * c + 130 ≤ 62000) {v : Int32} (ho : swO Y v Z) (g : ∃ W1, swW Y W1 ∧ hcR C (30 * c + 30) J R Y W1 Z) (hP : ∀ J3, lawH b C (c + 1) n t K L J3 R → P (some (.int (v))) (n + 1, t, K, L, J3, R)) : a_does 700 255 [a_rf (C + 44)] (n + 1, t, K, L, J, R) P := by
  have hc8 : 120 * c + 130 ≤ 84000 := by omega
  have hT := hx.1.1.1
  have hcZ := hx.2.2.2.1.1
  have h6 : Y 0 6 ≤ 6 := hx.2.2.1.1.2.2.2.2.2.1.2
  obtain ⟨W1, gw, g⟩ := g
  exact rdh_gen (Q := fun w J3 => w = v ∧ lawI b C (c + 1) n t K L J3 R) (B := xqX C n t K L R J Y (W1) (Z)) (rd_swap hx hc8 ho (fun J3 hI => ⟨_, J3, rfl, rfl, rfl, hI⟩)) (xp_swap9 (P := fun _ h' => xqX C n t K L R J Y (W1) (Z) h') hx.1.2.1 hx.2.2.1 hc8 ⟨mG_refl hx.1.2.2.1, hx.1.2.2.2.1⟩ hx.2.1 g.1 g.2.1 ho (fun J4 W2 sw _ gs x => by
    rw [swW_u sw gw] at x
    exact ⟨J4, rfl, x, gs.2.1⟩)) (fun v0 J3 q w => by
    obtain ⟨rfl, hI⟩ := q
    exact hP _ (lawH_n hI (hr_r hT hcZ h6 g (xqX_in w).1 (xqX_in w).2 (pz_cu hT hcZ (xqX_in w).2 hI.2.2.2.2.2.1.1))))
theorem cdh_had {u1 u2 u3 : Int32} (hb : b < C) (hc : 120 * c + 130 ≤ 62000) (h : lawH b C c n t K L J R) (hP : ∀ v n2 t2 K2 L2 J2 R2, aNx b C c n2 t2 K2 L2 J2 R2 (yv (C + 44) J) ((yv (C + 44) J)) → (hcG C (30 * c + 30) J2 R2 ((yv (C + 44) J))) → P (some (.int v)) (n2 + 1, t2, K2, L2, J2, R2)) : a_does 700 160 [a_rf C, .int u1, .int u2, .int u3] (n + 1, t, K, L, J, R) P := by
  have hT := h.1.1.1
  have hcp := h.1.2.2.2.2.2.1.1
  exact cdh_gen (Q := fun v n2 t2 K2 L2 J2 R2 => aNx b C c n2 t2 K2 L2 J2 R2 (yv (C + 44) J) ((yv (C + 44) J))) (B := cFh C K J R) (cd_had hb h.1 (fun v n2 t2 K2 L2 J2 R2 hx => ⟨v, n2, t2, K2, L2, J2, R2, rfl, rfl, hx⟩)) (kf_had h.1.1) (fun v n2 t2 K2 L2 J2 R2 q w => hP _ _ _ _ _ _ _ q (hg_c hT hcp h.2 (cF_in w) pz_0 (Nat.le_add_right _ _)))
theorem rdh_had {u1 u2 u3 : Int32} (hx : aNx b C c n t K L J R Y (Y)) (hc : 120 * c + 130 ≤ 62000) (g : hcG C (30 * c + 30) J R (Y)) (hP : ∀ v J3, lawH b C (c + 1) n t K L J3 R → P (some (.int v)) (n + 1, t, K, L, J3, R)) : a_does 700 256 [a_rf (C + 44), .int u1, .int u2, .int u3] (n + 1, t, K, L, J, R) P := by
  have hc8 : 120 * c + 130 ≤ 84000 := by omega
  have hT := hx.1.1.1
  have hcZ := hx.2.2.2.1.1
  have h6 : Y 0 6 ≤ 6 := hx.2.2.1.1.2.2.2.2.2.1.2
  exact rdh_gen (Q := fun w J3 => lawI b C (c + 1) n t K L J3 R) (B := rPh C n t K L R J) (rd_had hx hc8 (fun v J3 hI => ⟨v, J3, rfl, rfl, hI⟩)) (rj_had hx.1.2.1 hx.1.2.2.1 hx.1.2.2.2.1 hc8) (fun v0 J3 hI w => hP _ _ (lawH_n hI (hg_r hT hcZ g (rPh_in w) (pz_cu hT hcZ (fun x j q => rPh_in w x j (by unfold eRh; omega)) hI.2.2.2.2.2.1.1))))
theorem cdh_lead {u1 u2 : Int32} (hb : b < C) (hc : 120 * c + 130 ≤ 62000) (h : lawH b C c n t K L J R) (hP : ∀ v n2 t2 K2 L2 J2 R2, aNx b C c n2 t2 K2 L2 J2 R2 (yv (C + 44) J) ((yv (C + 44) J)) → (hcG C (30 * c + 30) J2 R2 ((yv (C + 44) J))) → P (some (.int v)) (n2 + 1, t2, K2, L2, J2, R2)) : a_does 700 162 [a_rf C, .int u1, .int u2] (n + 1, t, K, L, J, R) P := by
  have hT := h.1.1.1
  have hcp := h.1.2.2.2.2.2.1.1
  exact cdh_gen (Q := fun v n2 t2 K2 L2 J2 R2 => aNx b C c n2 t2 K2 L2 J2 R2 (yv (C + 44) J) ((yv (C + 44) J))) (B := cFh C K J R) (cd_lead hb h.1 (fun v n2 t2 K2 L2 J2 R2 hx => ⟨v, n2, t2, K2, L2, J2, R2, rfl, rfl, hx⟩)) (kf_lead h.1.1) (fun v n2 t2 K2 L2 J2 R2 q w => hP _ _ _ _ _ _ _ q (hg_c hT hcp h.2 (cF_in w) pz_0 (Nat.le_add_right _ _)))
theorem rdh_lead {u1 u2 : Int32} (hx : aNx b C c n t K L J R Y (Y)) (hc : 120 * c + 130 ≤ 62000) (g : hcG C (30 * c + 30) J R (Y)) (hP : ∀ v J3, lawH b C (c + 1) n t K L J3 R → P (some (.int v)) (n + 1, t, K, L, J3, R)) : a_does 700 258 [a_rf (C + 44), .int u1, .int u2] (n + 1, t, K, L, J, R) P := by
  have hc8 : 120 * c + 130 ≤ 84000 := by omega
  have hT := hx.1.1.1
  have hcZ := hx.2.2.2.1.1
  have h6 : Y 0 6 ≤ 6 := hx.2.2.1.1.2.2.2.2.2.1.2
  exact rdh_gen (Q := fun w J3 => lawI b C (c + 1) n t K L J3 R) (B := rPh C n t K L R J) (rd_lead hx hc8 (fun v J3 hI => ⟨v, J3, rfl, rfl, hI⟩)) (rj_lead hx.1.2.1 hx.1.2.2.1 hx.1.2.2.2.1 hc8) (fun v0 J3 hI w => hP _ _ (lawH_n hI (hg_r hT hcZ g (rPh_in w) (pz_cu hT hcZ (fun x j q => rPh_in w x j (by unfold eRh; omega)) hI.2.2.2.2.2.1.1))))
theorem cdh_put {u1 : Int32} (hb : b < C) (hc : 120 * c + 130 ≤ 62000) (h : lawH b C c n t K L J R) (hP : ∀ n2 t2 K2 L2 J2 R2, aNx b C c n2 t2 K2 L2 J2 R2 (yv (C + 44) J) ((ptY (yv (C + 44) J) u1).2) → (hcG C (30 * c + 30) J2 R2 ((ptY (yv (C + 44) J) u1).2)) → P (some (.int ((ptY (yv (C + 44) J) u1).1))) (n2 + 1, t2, K2, L2, J2, R2)) : a_does 700 163 [a_rf C, .int u1] (n + 1, t, K, L, J, R) P := by
  have hT := h.1.1.1
  have hcp := h.1.2.2.2.2.2.1.1
  exact cdh_gen (Q := fun v n2 t2 K2 L2 J2 R2 => v = (ptY (yv (C + 44) J) u1).1 ∧ aNx b C c n2 t2 K2 L2 J2 R2 (yv (C + 44) J) ((ptY (yv (C + 44) J) u1).2)) (B := cFh C K J R) (cd_put hb h.1 (fun n2 t2 K2 L2 J2 R2 hx => ⟨_, n2, t2, K2, L2, J2, R2, rfl, rfl, rfl, hx⟩)) (kf_put h.1.1) (fun v n2 t2 K2 L2 J2 R2 q w => by
    obtain ⟨rfl, hx⟩ := q
    exact hP _ _ _ _ _ _ hx (hg_c hT hcp h.2 (cF_in w) pz_put (Nat.le_add_right _ _)))
theorem rdh_put {u1 : Int32} (hx : aNx b C c n t K L J R Y ((ptY Y u1).2)) (hc : 120 * c + 130 ≤ 62000) (g : hcG C (30 * c + 30) J R ((ptY Y u1).2)) (hP : ∀ J3, lawH b C (c + 1) n t K L J3 R → P (some (.int ((ptY Y u1).1))) (n + 1, t, K, L, J3, R)) : a_does 700 259 [a_rf (C + 44), .int u1] (n + 1, t, K, L, J, R) P := by
  have hc8 : 120 * c + 130 ≤ 84000 := by omega
  have hT := hx.1.1.1
  have hcZ := hx.2.2.2.1.1
  have h6 : Y 0 6 ≤ 6 := hx.2.2.1.1.2.2.2.2.2.1.2
  exact rdh_gen (Q := fun w J3 => w = (ptY Y u1).1 ∧ lawI b C (c + 1) n t K L J3 R) (B := rPh C n t K L R J) (rd_put hx hc8 (fun J3 hI => ⟨_, J3, rfl, rfl, rfl, hI⟩)) (rj_put hx.1.2.1 hx.1.2.2.1 hx.1.2.2.2.1 hc8) (fun v0 J3 q w => by
    obtain ⟨rfl, hI⟩ := q
    exact hP _ (lawH_n hI (hg_r hT hcZ g (rPh_in w) (pz_cu hT hcZ (fun x j q => rPh_in w x j (by unfold eRh; omega)) hI.2.2.2.2.2.1.1))))
theorem cdh_check {u1 u2 u3 : Int32} (hb : b < C) (hc : 120 * c + 130 ≤ 62000) (h : lawH b C c n t K L J R) (hP : ∀ v n2 t2 K2 L2 J2 R2, aNx b C c n2 t2 K2 L2 J2 R2 (yv (C + 44) J) (ckY (yv (C + 44) J) u1 u2 u3) → (hcG C (30 * c + 30) J2 R2 (ckY (yv (C + 44) J) u1 u2 u3)) → P (some (.int v)) (n2 + 1, t2, K2, L2, J2, R2)) : a_does 700 164 [a_rf C, .int u1, .int u2, .int u3] (n + 1, t, K, L, J, R) P := by
  have hT := h.1.1.1
  have hcp := h.1.2.2.2.2.2.1.1
  exact cdh_gen (Q := fun v n2 t2 K2 L2 J2 R2 => aNx b C c n2 t2 K2 L2 J2 R2 (yv (C + 44) J) (ckY (yv (C + 44) J) u1 u2 u3)) (B := cFh C K J R) (cd_check hb h.1 (fun v n2 t2 K2 L2 J2 R2 hx => ⟨v, n2, t2, K2, L2, J2, R2, rfl, rfl, hx⟩)) (kf_check h.1.1) (fun v n2 t2 K2 L2 J2 R2 q w => hP _ _ _ _ _ _ _ q (hg_c hT hcp h.2 (cF_in w) pz_check (Nat.le_add_right _ _)))
theorem rdh_check {u1 u2 u3 : Int32} (hx : aNx b C c n t K L J R Y (ckY Y u1 u2 u3)) (hc : 120 * c + 130 ≤ 62000) (g : hcG C (30 * c + 30) J R (ckY Y u1 u2 u3)) (hP : ∀ v J3, lawH b C (c + 1) n t K L J3 R → P (some (.int v)) (n + 1, t, K, L, J3, R)) : a_does 700 260 [a_rf (C + 44), .int u1, .int u2, .int u3] (n + 1, t, K, L, J, R) P := by
  have hc8 : 120 * c + 130 ≤ 84000 := by omega
  have hT := hx.1.1.1
  have hcZ := hx.2.2.2.1.1
  have h6 : Y 0 6 ≤ 6 := hx.2.2.1.1.2.2.2.2.2.1.2
  exact rdh_gen (Q := fun w J3 => lawI b C (c + 1) n t K L J3 R) (B := rPh C n t K L R J) (rd_check hx hc8 (fun v J3 hI => ⟨v, J3, rfl, rfl, hI⟩)) (rj_check hx.1.2.1 hx.1.2.2.1 hx.1.2.2.2.1 hc8) (fun v0 J3 hI w => hP _ _ (lawH_n hI (hg_r hT hcZ g (rPh_in w) (pz_cu hT hcZ (fun x j q => rPh_in w x j (by unfold eRh; omega)) hI.2.2.2.2.2.1.1))))
theorem cdh_count {u1 : Int32} (hb : b < C) (hc : 120 * c + 130 ≤ 62000) (h : lawH b C c n t K L J R) (hP : ∀ v n2 t2 K2 L2 J2 R2, aNx b C c n2 t2 K2 L2 J2 R2 (yv (C + 44) J) ((yv (C + 44) J)) → (hcG C (30 * c + 30) J2 R2 ((yv (C + 44) J))) → P (some (.int v)) (n2 + 1, t2, K2, L2, J2, R2)) : a_does 700 166 [a_rf C, .int u1] (n + 1, t, K, L, J, R) P := by
  have hT := h.1.1.1
  have hcp := h.1.2.2.2.2.2.1.1
  exact cdh_gen (Q := fun v n2 t2 K2 L2 J2 R2 => aNx b C c n2 t2 K2 L2 J2 R2 (yv (C + 44) J) ((yv (C + 44) J))) (B := cFh C K J R) (cd_count hb h.1 (fun v n2 t2 K2 L2 J2 R2 hx => ⟨v, n2, t2, K2, L2, J2, R2, rfl, rfl, hx⟩)) (kf_count h.1.1) (fun v n2 t2 K2 L2 J2 R2 q w => hP _ _ _ _ _ _ _ q (hg_c hT hcp h.2 (cF_in w) pz_0 (Nat.le_add_right _ _)))
theorem rdh_count {u1 : Int32} (hx : aNx b C c n t K L J R Y (Y)) (hc : 120 * c + 130 ≤ 62000) (g : hcG C (30 * c + 30) J R (Y)) (hP : ∀ v J3, lawH b C (c + 1) n t K L J3 R → P (some (.int v)) (n + 1, t, K, L, J3, R)) : a_does 700 261 [a_rf (C + 44), .int u1] (n + 1, t, K, L, J, R) P := by
  have hc8 : 120 * c + 130 ≤ 84000 := by omega
  have hT := hx.1.1.1
  have hcZ := hx.2.2.2.1.1
  have h6 : Y 0 6 ≤ 6 := hx.2.2.1.1.2.2.2.2.2.1.2
  exact rdh_gen (Q := fun w J3 => lawI b C (c + 1) n t K L J3 R) (B := rPh C n t K L R J) (rd_count hx hc8 (fun v J3 hI => ⟨v, J3, rfl, rfl, hI⟩)) (rj_count hx.1.2.1 hx.1.2.2.1 hx.1.2.2.2.1 hc8) (fun v0 J3 hI w => hP _ _ (lawH_n hI (hg_r hT hcZ g (rPh_in w) (pz_cu hT hcZ (fun x j q => rPh_in w x j (by unfold eRh; omega)) hI.2.2.2.2.2.1.1))))
/-- at the start -/
theorem hg_init (hr : rawQ C K L J R) (hC : C = n + 1) {W : Nat → Nat → Int32} (h6 : W 0 6 = 0) (h17 : W 0 17 = 0) : hcG C 0 (niM (n + 1 + 43) J) R' W := by
  have e35 : niM (n + 1 + 43) J (C + 44) 35 = 0 := nM_J _ _ (by omega) (by omega) (by omega) (by omega)
  have e0 : niM (n + 1 + 43) J (C + 44) 0 = 0 := nM_J _ _ (by omega) (by omega) (by omega) (by omega)
  have hd : ∀ w k, hdM (C + 44) (niM (n + 1 + 43) J) w k = -9 := fun w k => by
    unfold hdM
    rw [e35]
    rfl
  have ld : ∀ w, ldM (C + 44) (niM (n + 1 + 43) J) w = -9 := fun w => by
    unfold ldM
    rw [e35]
    rfl
  refine ⟨fun i hi => ?_, fun c t _ _ => ⟨fun x x0 x1 => ?_, fun _ k _ => hd _ k⟩, ⟨fun c c0 c1 => ?_, fun x x0 x1 => ?_, fun b c b0 b1 => ?_⟩, fun c t hcb _ => ?_, fun c t _ _ => ⟨fun k => hd _ k, ld _⟩⟩
  · rw [e35] at hi
    exact absurd hi (Nat.not_lt_zero i)
  · rw [h17] at x1
    exact absurd (Int32.lt_of_le_of_lt x0 x1) (Int32.lt_irrefl)
  · rw [h6] at c1
    exact absurd (Int32.lt_of_le_of_lt c0 c1) (Int32.lt_irrefl)
  · rw [h17] at x1
    exact absurd (Int32.lt_of_le_of_lt x0 x1) (Int32.lt_irrefl)
  · rw [h6] at b1
    exact absurd (Int32.lt_of_le_of_lt b0 b1) (Int32.lt_irrefl)
  · rw [h6] at hcb
    exact absurd (Int32.lt_of_le_of_lt hcb.1 hcb.2) (Int32.lt_irrefl)
theorem hg_start (hr : rawQ C K L J R) (hC : C = n + 1) : hcG C 0 (niM (n + 1 + 43) J) R' (yv (C + 44) (niM (n + 1 + 43) J)) := hg_init hr hC (nM_J _ _ (by omega) (by omega) (by omega) (by omega)) (nM_J _ _ (by omega) (by omega) (by omega) (by omega))
end HK0
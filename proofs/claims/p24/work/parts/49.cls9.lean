/-! the class: frames of public methods; what is added -/
/-- what most calls may change -/
def dX (C n : Nat) (K L : Nat → Nat) (I : Nat → Nat → Int32) (R : Nat → Nat → Nat) (n' : Nat) (K' L' : Nat → Nat) (J : Nat → Nat → Int32) (R' : Nat → Nat → Nat) : Prop := n ≤ n' ∧ (∀ x, x < n → K' x = K x) ∧ (∀ x, x < n → L' x = L x) ∧ (∀ x j, (x = C + 8 ∨ C + 44 ≤ x) → x ≤ C + 96 → R' x j = R x j) ∧ (∀ x j, eD C K x j → x < n → J x j = I x j)
def cZ (C c n0 : Nat) (K0 L0 : Nat → Nat) (I0 : Nat → Nat → Int32) (R0 : Nat → Nat → Nat) (n t : Nat) (K L : Nat → Nat) (J : Nat → Nat → Int32) (R : Nat → Nat → Nat) : Prop := C + 96 < n0 ∧ cH C c n t K L J R ∧ dX C n0 K0 L0 I0 R0 n K L J R
section KB
variable {d n t C c n0 n' n'' t' : Nat} {K L K0 L0 K' L' K'' L'' : Nat → Nat} {I I0 J J0 J1 J2 : Nat → Nat → Int32} {R R0 R' R'' : Nat → Nat → Nat} {P : Option Value → AH → Prop}
theorem dX_refl : dX C n K L I R n K L I R := ⟨Nat.le_refl _, fun _ _ => rfl, fun _ _ => rfl, fun _ _ _ _ => rfl, fun _ _ _ _ => rfl⟩
theorem eD_K {x j : Nat} (e : K' x = K x) (h : eD C K x j) : eD C K' x j := by
  unfold eD at h ⊢
  rw [e]
  exact h
theorem dX_X (h : dX C n K L I R n' K' L' J R') (h2 : dX C n' K' L' J R' n'' K'' L'' J0 R'') : dX C n K L I R n'' K'' L'' J0 R'' := by
  obtain ⟨p1, p2, p3, p4, p5⟩ := h
  obtain ⟨q1, q2, q3, q4, q5⟩ := h2
  exact ⟨by omega, fun x hx => (q2 x (by omega)).trans (p2 x hx), fun x hx => (q3 x (by omega)).trans (p3 x hx), fun x j h1 h2 => (q4 x j h1 h2).trans (p4 x j h1 h2), fun x j h1 h2 => (q5 x j (eD_K (p2 x h2) h1) (by omega)).trans (p5 x j h1 h2)⟩
theorem cZ_refl (h : cH C c n t K L I R) : cZ C c n K L I R n t K L I R := ⟨h.2.2.1, h, dX_refl⟩
theorem cH_le (h : cH C c n t K L J R) {c2 : Nat} (hc : c ≤ c2) : cH C c2 n t K L J R := by
  obtain ⟨p1, p2, p3, p4, p5, p6⟩ := h
  have : 1000 * c ≤ 1000 * c2 := Nat.mul_le_mul_left _ hc
  have : 800 * c ≤ 800 * c2 := Nat.mul_le_mul_left _ hc
  exact ⟨p1, p2, p3, p4, by omega, by omega⟩
theorem cZ_le (h : cZ C c n0 K0 L0 I0 R0 n t K L J R) {c2 : Nat} (hc : c ≤ c2) : cZ C c2 n0 K0 L0 I0 R0 n t K L J R := ⟨h.1, cH_le h.2.1 hc, h.2.2⟩
theorem cZ_G (h : cZ C c n0 K0 L0 I0 R0 n t K L I R) (g : dG C K L R I J) : cZ C c n0 K0 L0 I0 R0 n t K L J R := ⟨h.1, cH_J h.2.1 g.1, dX_X h.2.2 ⟨Nat.le_refl _, fun _ _ => rfl, fun _ _ => rfl, fun _ _ _ _ => rfl, fun x j h1 _ => g.2 x j h1⟩⟩
theorem cZ_C (h : cZ C c n0 K0 L0 I0 R0 n t K L I R) (g : dC C K L R I J) : cZ C c n0 K0 L0 I0 R0 n t K L J R := cZ_G h (dG_C (dG_refl h.2.1.1) g)
theorem cZ_L (h : cZ C c n0 K0 L0 I0 R0 n t K L I R) (g : dL C K L R I J) : cZ C c n0 K0 L0 I0 R0 n t K L J R := cZ_G h (dG_L (dG_refl h.2.1.1) g)
theorem cZ_Q (h : cZ C c n0 K0 L0 I0 R0 n t K L I R) (g : dQ C n K L I R n' K' L' J R') (h2 : cH C c n' t' K' L' J R') : cZ C c n0 K0 L0 I0 R0 n' t' K' L' J R' := by
  have hC := h.2.1.2.2.1
  have hK : ∀ x, (x = C + 8 ∨ C + 44 ≤ x) → x ≤ C + 96 → ¬ K x = 3 := fun x p q e => by
    have := (h.2.1.1.g_bnc x e).1
    omega
  obtain ⟨q1, q2, q3, q4, q5⟩ := g
  refine ⟨h.1, h2, dX_X h.2.2 ⟨q1, q2, q3, fun x j p q => q4 x j (by omega) (hK x p q), fun x j p q => q5 x j q (by unfold eD at p; omega) (by unfold eD at p; omega) ?_⟩⟩
  intro r
  unfold eD at p
  omega
theorem cV_eq (hL : ∀ j, L' (R' (R' (C + 16) j) 5) = L (R (R (C + 16) j) 5)) : cV C L' R' = cV C L R := by
  unfold cV
  rw [hL 0, hL 1, hL 2, hL 3, hL 4, hL 5]
theorem cH_R (h : cH C c n t K L J R) {k j v : Nat} (hk : k ≤ 43) (h16 : ¬ k = 16) (h2 : cT C K L J (a_ur R (C + k) j v)) : cH C c n t K L J (a_ur R (C + k) j v) := by
  obtain ⟨p1, p2, p3, p4, p5, p6⟩ := h
  have hv : cV C L (a_ur R (C + k) j v) = cV C L R := cV_eq (fun i => by
    have e1 : a_ur R (C + k) j v (C + 16) i = R (C + 16) i := by rw [ur_ap, if_neg (by omega)]
    rw [e1, ur_ap, if_neg ?_]
    intro e
    rcases p1.g_benchesR i with q | q
    · have := p1.s.1
      omega
    · have := (p1.g_bnc _ q).1
      omega)
  have hC := p1.s.1
  exact ⟨h2, p2, p3, by rw [ur_ap, if_neg (by omega)]; exact p4, by rw [hv]; exact p5, by rw [hv]; exact p6⟩
theorem cZ_R (h : cZ C c n0 K0 L0 I0 R0 n t K L J R) {k j v : Nat} (hk : k ≤ 43) (h16 : ¬ k = 16) (h8 : ¬ k = 8) (h2 : cT C K L J (a_ur R (C + k) j v)) : cZ C c n0 K0 L0 I0 R0 n t K L J (a_ur R (C + k) j v) := ⟨h.1, cH_R h.2.1 hk h16 h2, dX_X h.2.2 ⟨Nat.le_refl _, fun _ _ => rfl, fun _ _ => rfl, fun x i p q => by rw [ur_ap, if_neg (by omega)], fun _ _ _ _ => rfl⟩⟩
theorem cZ_R23 (h : cZ C c n0 K0 L0 I0 R0 n t K L J R) {j v : Nat} (hv : v = 0 ∨ K v = 1) : cZ C c n0 K0 L0 I0 R0 n t K L J (a_ur R (C + 23) j v) := cZ_R h (by decide) (by decide) (by decide) (sT_Rorder h.2.1.1 hv)
theorem cZ_R28 (h : cZ C c n0 K0 L0 I0 R0 n t K L J R) {j v : Nat} (hv : v = 0 ∨ K v = 1) : cZ C c n0 K0 L0 I0 R0 n t K L J (a_ur R (C + 28) j v) := cZ_R h (by decide) (by decide) (by decide) (sT_Rbest h.2.1.1 hv)
theorem cZ_R38 (h : cZ C c n0 K0 L0 I0 R0 n t K L J R) {j v : Nat} (hv : v = 0 ∨ K v = 1) : cZ C c n0 K0 L0 I0 R0 n t K L J (a_ur R (C + 38) j v) := cZ_R h (by decide) (by decide) (by decide) (sT_Rring h.2.1.1 hv)
theorem cH_R8 (h : cH C c n t K L J R) {j v : Nat} (hv : v = 0 ∨ K v = 11) : cH C c n t K L J (a_ur R (C + 8) j v) := cH_R h (by decide) (by decide) (sT_Rtexts h.1 hv)
theorem cZ_Rd (h : cZ C c n0 K0 L0 I0 R0 n t K L J R) {v : Nat} (hv : v = 0 ∨ K v = 1) : cZ C c n0 K0 L0 I0 R0 n t K L J (a_ur R C 11 v) := cZ_R (k := 0) h (by decide) (by decide) (by decide) (sT_Rdraft h.2.1.1 hv)
/-- one more cell, or some -/
theorem cZ_new (h : cZ C c n0 K0 L0 I0 R0 (n + 1) t K L I R) {m s : Nat} (hm : 80 * m ≤ 800) (hs : s ≤ 1000) (hK : ∀ x, x < n + 1 → K' x = K x) (hL : ∀ x, x < n + 1 → L' x = L x) (hJ : ∀ x j, x < n + 1 → J x j = I x j) (hR : ∀ x j, x < n + 1 → R' x j = R x j) (hz : ∀ x, n + 1 + m ≤ x → K' x = 0) (na : ∀ a, n + 1 ≤ a → K' a = 1 → (C + 96 < a ∧ (1 ≤ J a 2 ∧ J a 2 ≤ 4) ∧ (0 ≤ J a 4 ∧ J a 4 ≤ 29) ∧ (0 ≤ J a 13 → 0 ≤ J a 14 ∧ J a 14 ≤ 199 ∧ J a 14 + J a 2 ≤ 200))) (nb : ∀ b, n + 1 ≤ b → K' b = 3 → (C + 96 < b ∧ (C + 96 < R' b 2 ∧ K' (R' b 2) = 20 ∧ L' (R' b 2) = 200) ∧ (C + 96 < R' b 3 ∧ K' (R' b 3) = 20 ∧ L' (R' b 3) = 200) ∧ (C + 96 < R' b 4 ∧ K' (R' b 4) = 20 ∧ L' (R' b 4) = 200) ∧ (C + 96 < R' b 5 ∧ K' (R' b 5) = 20 ∧ (∃ m, L' (R' b 5) = 80 * m ∧ 1 ≤ m ∧ m ≤ 2048)) ∧ (0 ≤ J b 6 ∧ J b 6 ≤ 16384 ∧ 5 * (J b 6).toNatClampNeg ≤ L' (R' b 5)))) (nx : ∀ x, n + 1 ≤ x → K' x = 11 → (C + 96 < x ∧ C + 96 < R' x 2 ∧ K' (R' x 2) = 20 ∧ L' (R' x 2) ≤ 50)) : cZ C (c + 1) n0 K0 L0 I0 R0 (n + 1 + m) (t + s) K' L' J R' := by
  obtain ⟨z1, ⟨p1, p2, p3, p4, p5, p6⟩, z3⟩ := h
  have hT := cT_grow p1 p2 p3 hK hL hJ hR na nb nx
  have hv : cV C L' R' = cV C L R := cV_eq (fun i => by
    rw [hR (C + 16) i (by omega)]
    rcases p1.g_benchesR i with q | q
    · rw [q, hR 0 5 (by omega), p4.1, hL 0 (by omega)]
    · have l1 := kn_lt p2 q (by decide)
      rw [hR _ 5 l1, hL _ (kn_lt p2 (p1.g_bnc _ q).2.2.2.2.1.2.1 (by decide))])
  refine ⟨z1, ⟨hT, hz, by omega, ⟨by rw [hR 0 5 (by omega)]; exact p4.1, by rw [hL 0 (by omega)]; exact p4.2⟩, by rw [hv]; omega, by rw [hv]; omega⟩, dX_X z3 ⟨by omega, hK, hL, fun x j q1 q2 => hR x j (by omega), fun x j _ q => hJ x j q⟩⟩
theorem sT_addAsk (h : cT C K L J R) {v : Nat} (hv : K v = 1) (hc : ¬ 30 ≤ J (C + 14) 4) : cT C K L (a_ui (a_ui J v 4 (J (C + 14) 4)) (C + 14) 4 (J (C + 14) 4 + 1)) (a_ur R (C + 15) (J (C + 14) 4).toNatClampNeg v) := by
  have g := h.g_asks
  have v1 := (h.g_ask v hv).1
  have h1 := sT_Rasks (k := (J (C + 14) 4).toNatClampNeg) (v := v) (sT_number (x := v) (v := J (C + 14) 4) h v1 hv (by clear h; grind)) (Or.inr hv) (by omega)
  have n1 : ¬ v = C + 14 := by omega
  exact cT_mk
    (s := h1.s)
    (g_now := by rw [ui_ap, if_neg (by omega)]; exact h1.g_now)
    (g_trips := by rw [ui_ap, if_neg (by omega)]; exact h1.g_trips)
    (g_texts := by rw [ui_ap, if_neg (by omega)]; exact h1.g_texts)
    (g_size := by rw [ui_ap, if_neg (by omega)]; exact h1.g_size)
    (g_code := by rw [ui_ap, if_neg (by omega)]; exact h1.g_code)
    (g_at := by rw [ui_ap, if_neg (by omega)]; exact h1.g_at)
    (g_asks := by rw [ui_ap, if_pos ⟨rfl, rfl⟩]; clear h h1; grind)
    (g_benches := by rw [ui_ap, if_neg (by omega)]; exact h1.g_benches)
    (g_orderSize := by rw [ui_ap, if_neg (by omega)]; exact h1.g_orderSize)
    (g_passed := by rw [ui_ap, if_neg (by omega)]; exact h1.g_passed)
    (g_best := by rw [ui_ap, if_neg (by omega)]; exact h1.g_best)
    (g_circle := by rw [ui_ap, if_neg (by omega)]; exact h1.g_circle)
    (g_row := by rw [ui_ap, if_neg (by omega)]; exact h1.g_row)
    (g_rest := by rw [ui_ap, if_neg (by omega)]; exact h1.g_rest)
    (g_lost := fun j => by rw [ui_ap, if_neg (by omega)]; exact h1.g_lost j)
    (g_spots := fun j => by rw [ui_ap, if_neg (by omega)]; exact h1.g_spots j)
    (g_ask := fun a ha => by
      have q := h1.g_ask a ha
      have e : ¬ a = C + 14 := by omega
      simp only [ui_ap (a_ui J v 4 (J (C + 14) 4)), e, false_and, if_false]
      exact q)
    (g_bnc := fun b hb => by
      have q := h1.g_bnc b hb
      have e : ¬ b = C + 14 := by omega
      simp only [ui_ap (a_ui J v 4 (J (C + 14) 4)), e, false_and, if_false]
      exact q)
    (g_txt := h1.g_txt)
    (g_asksR := h1.g_asksR)
    (g_asksN := fun i h0 hi => by
      rw [ui_ap, if_pos ⟨rfl, rfl⟩] at hi
      by_cases e : i = J (C + 14) 4
      · rw [ur_ap, if_pos ⟨rfl, by rw [e]⟩]
        omega
      · refine h1.g_asksN i h0 ?_
        rw [ui_ap, if_neg (fun q => n1 q.1.symm)]
        clear h h1
        grind)
    (g_benchesR := h1.g_benchesR) (g_textsR := h1.g_textsR) (g_orderR := h1.g_orderR) (g_bestR := h1.g_bestR) (g_ringR := h1.g_ringR) (g_draft := h1.g_draft)
    (g_benN := fun j hj => by rw [ui_ap, if_neg (by omega)] at hj; exact h1.g_benN j hj)
    (g_benY := fun j hj => by rw [ui_ap, if_neg (by omega)] at hj; exact h1.g_benY j hj)
theorem sT_addBench (h : cT C K L J R) {v : Nat} (hv : K v = 3) (hc : ¬ 6 ≤ J (C + 14) 5) : cT C K L (a_ui J (C + 14) 5 (J (C + 14) 5 + 1)) (a_ur R (C + 16) (J (C + 14) 5).toNatClampNeg v) := by
  have g := h.g_benches
  have hi : (J (C + 14) 5 + 1).toNatClampNeg = (J (C + 14) 5).toNatClampNeg + 1 := by
    have e0 := Int32.le_iff_toInt_le.mp g.1
    have e1 := Int32.lt_iff_toInt_lt.mp (Int32.not_le.mp hc)
    have c0 : (0 : Int32).toInt = 0 := rfl
    have c6 : (6 : Int32).toInt = 6 := rfl
    have c1 : (1 : Int32).toInt = 1 := rfl
    have e : (J (C + 14) 5 + 1).toInt = (J (C + 14) 5).toInt + 1 := by rw [ti_add (by omega)]; omega
    show (J (C + 14) 5 + 1).toInt.toNat = (J (C + 14) 5).toInt.toNat + 1
    rw [e]
    omega
  exact cT_mk
    (s := iR_16 h.s)
    (g_now := by rw [ui_ap, if_neg (by omega)]; exact h.g_now)
    (g_trips := by rw [ui_ap, if_neg (by omega)]; exact h.g_trips)
    (g_texts := by rw [ui_ap, if_neg (by omega)]; exact h.g_texts)
    (g_size := by rw [ui_ap, if_neg (by omega)]; exact h.g_size)
    (g_code := by rw [ui_ap, if_neg (by omega)]; exact h.g_code)
    (g_at := by rw [ui_ap, if_neg (by omega)]; exact h.g_at)
    (g_asks := by rw [ui_ap, if_neg (by omega)]; exact h.g_asks)
    (g_benches := by rw [ui_ap, if_pos ⟨rfl, rfl⟩]; clear h; grind)
    (g_orderSize := by rw [ui_ap, if_neg (by omega)]; exact h.g_orderSize)
    (g_passed := by rw [ui_ap, if_neg (by omega)]; exact h.g_passed)
    (g_best := by rw [ui_ap, if_neg (by omega)]; exact h.g_best)
    (g_circle := by rw [ui_ap, if_neg (by omega)]; exact h.g_circle)
    (g_row := by rw [ui_ap, if_neg (by omega)]; exact h.g_row)
    (g_rest := by rw [ui_ap, if_neg (by omega)]; exact h.g_rest)
    (g_lost := fun j => by rw [ui_ap, if_neg (by omega)]; exact h.g_lost j)
    (g_spots := fun j => by rw [ui_ap, if_neg (by omega)]; exact h.g_spots j)
    (g_ask := fun a ha => by
      have q := h.g_ask a ha
      have e : ¬ a = C + 14 := by omega
      simp only [ui_ap, e, false_and, if_false]
      exact q)
    (g_bnc := fun b hb => by
      have q := h.g_bnc b hb
      have e : ¬ b = C + 14 := by omega
      have e2 : ¬ b = C + 16 := by omega
      simp only [ui_ap, ur_ap, e, e2, false_and, if_false]
      exact q)
    (g_txt := fun b hb => by
      have q := h.g_txt b hb
      have e2 : ¬ b = C + 16 := by omega
      simp only [ur_ap, e2, false_and, if_false]
      exact q)
    (g_asksN := fun i h0 hi => by
      rw [ui_ap, if_neg (by omega)] at hi
      rw [ur_ap, if_neg (by omega)]
      exact h.g_asksN i h0 hi)
    (g_benchesR := fun j => by
      rw [ur_ap]
      split
      · exact Or.inr hv
      · exact h.g_benchesR j)
    (g_draft := by rw [ur_ap, if_neg (by omega)]; exact h.g_draft)
    (g_benN := fun j hj => by
      rw [ui_ap, if_pos ⟨rfl, rfl⟩, hi] at hj
      rw [ur_ap, if_neg (by omega)]
      exact h.g_benN j (by omega))
    (g_benY := fun j hj => by
      rw [ui_ap, if_pos ⟨rfl, rfl⟩, hi] at hj
      rw [ur_ap]
      split
      · intro e
        subst e
        exact absurd (h.g_bnc 0 hv).1 (by omega)
      · exact h.g_benY j (by omega))
    (g_asksR := fun j => by rw [ur_ap, if_neg (by omega)]; exact h.g_asksR j)
    (g_textsR := fun j => by rw [ur_ap, if_neg (by omega)]; exact h.g_textsR j)
    (g_orderR := fun j => by rw [ur_ap, if_neg (by omega)]; exact h.g_orderR j)
    (g_bestR := fun j => by rw [ur_ap, if_neg (by omega)]; exact h.g_bestR j)
    (g_ringR := fun j => by rw [ur_ap, if_neg (by omega)]; exact h.g_ringR j)
end KB

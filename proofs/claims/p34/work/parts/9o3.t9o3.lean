/-! what was had: both sides -/
/-- places alike -/
def plE (Y Z : Nat → Nat → Int32) : Prop := Z 0 6 = Y 0 6 ∧ (∀ x c t : Int32, (0 ≤ x ∧ x < Z 0 17 ∧ hoY Z x c t) ↔ (0 ≤ x ∧ x < Y 0 17 ∧ hoY Y x c t)) ∧ ∀ x : Int32, 0 ≤ x → x < Z 0 17 → 0 ≤ Z 20 x.toNatClampNeg → Z 20 x.toNatClampNeg = Y 20 x.toNatClampNeg ∧ Z 21 x.toNatClampNeg = Y 21 x.toNatClampNeg
def hzP (M : Nat) (J W : Nat → Nat → Int32) : Prop := ∀ c t : Int32, (W 0 6 ≤ c ∧ c < 6) → (0 ≤ t ∧ t < 200) → (∀ k, hdR M J c t k = -9) ∧ ldR M J c t = -9
/-- the histories of both sides are one -/
def hcG (C m : Nat) (J : Nat → Nat → Int32) (R : Nat → Nat → Nat) (W : Nat → Nat → Int32) : Prop := eoM (C + 44) J ∧ hsN 6 (J (C + 44) 0) (hdR (C + 44) J) W ∧ ciP C J R W m ∧ (∀ c t : Int32, (0 ≤ c ∧ c < W 0 6) → (0 ≤ t ∧ t < 200) → (∀ k, hdC C J R c t k = hdR (C + 44) J c t k) ∧ ldC C J R c t = ldR (C + 44) J c t) ∧ hzP (C + 44) J W
/-- the class has given and taken back, the reference not yet -/
def hcR (C m : Nat) (J : Nat → Nat → Int32) (R : Nat → Nat → Nat) (Y W1 Z : Nat → Nat → Int32) : Prop := eoM (C + 44) J ∧ hsN 6 (J (C + 44) 0) (hdR (C + 44) J) Y ∧ ciP C J R Z m ∧ (J (C + 1) 6 = J (C + 44) 0 ∧ Z 0 6 = Y 0 6) ∧ hxF (Y 0 6) (J (C + 44) 0) Y W1 Z (hdR (C + 44) J) (ldR (C + 44) J) (hdC C J R) (ldC C J R) ∧ hzP (C + 44) J Y ∧ ∀ x c t : Int32, 0 ≤ x → x < Y 0 17 → hoY Y x c t → c < Y 0 6
section HJ0
variable {d n t C c : Nat} {K L : Nat → Nat} {I I0 J J0 J1 J2 : Nat → Nat → Int32} {R : Nat → Nat → Nat} {P : Option Value → AH → Prop}
variable {Y Z W W1 : Nat → Nat → Int32} {b n' t' c' m m' : Nat} {K' L' : Nat → Nat} {R' R1 R2 : Nat → Nat → Nat} {nb n0 : Int32} {hd hd' hd1 hd2 : Int32 → Int32 → Int32 → Int32} {ld ld' ld1 ld2 : Int32 → Int32 → Int32}
theorem pz_0 : plE Y Y := ⟨rfl, fun _ _ _ => Iff.rfl, fun _ _ _ _ => ⟨rfl, rfl⟩⟩
theorem pz_r (e6 : Z 0 6 = Y 0 6) (e17 : Z 0 17 = Y 0 17) (er : ∀ k, k = 20 ∨ k = 21 ∨ k = 10 → Z k = Y k) : plE Y Z := by
  have ho : ∀ x c t, hoY Z x c t = hoY Y x c t := fun x c t => ho_e (fun k hk => by rw [er k hk])
  refine ⟨e6, fun x c t => by rw [e17, ho], fun x _ _ _ => by rw [er 20 (by omega), er 21 (by omega)]; exact ⟨rfl, rfl⟩⟩
theorem hsN_pl (h : hsN nb n0 hd Y) (e : plE Y Z) : hsN nb n0 hd Z := by
  intro c t hc ht
  obtain ⟨h1, h2⟩ := h c t hc ht
  refine ⟨fun x x0 x1 x2 => ?_, fun q => h2 (fun x x0 x1 x2 => ?_)⟩
  · obtain ⟨y0, y1, y2⟩ := (e.2.1 x c t).mp ⟨x0, x1, x2⟩
    exact h1 x y0 y1 y2
  · obtain ⟨y0, y1, y2⟩ := (e.2.1 x c t).mpr ⟨x0, x1, x2⟩
    exact q x y0 y1 y2
theorem ci_pl (h : ciP C I R Y m) (e : plE Y Z) : ciP C I R Z m := by
  refine ⟨fun c c0 c1 => h.1 c c0 (by rw [← e.1]; exact c1), fun x x0 x1 t ht q => ?_, fun b c b0 b1 c0 c1 q => h.2.2 b c b0 (by rw [← e.1]; exact b1) c0 (by rw [← e.1]; exact c1) q⟩
  obtain ⟨q1, q2⟩ := e.2.2 x x0 x1 q.1
  obtain ⟨-, y1, y2⟩ := (e.2.1 x _ t).mp ⟨x0, x1, q⟩
  rw [q1] at y2 ⊢
  rw [q2]
  exact h.2.1 x x0 y1 t ht y2
theorem hsN_e (h1 : hsN nb n0 hd1 Z) (h2 : hsN nb n0 hd2 Z) {c t k : Int32} (hc : 0 ≤ c ∧ c < nb) (ht : 0 ≤ t ∧ t < 200) (hk : n0 ≤ k) : hd1 c t k = hd2 c t k := by
  obtain ⟨a1, a2⟩ := h1 c t hc ht
  obtain ⟨b1, b2⟩ := h2 c t hc ht
  by_cases q : ∃ x : Int32, 0 ≤ x ∧ x < Z 0 17 ∧ hoY Z x c t
  · obtain ⟨x, x0, x1, x2⟩ := q
    rw [a1 x x0 x1 x2 k hk, b1 x x0 x1 x2 k hk]
  · rw [a2 (fun x x0 x1 x2 => q ⟨x, x0, x1, x2⟩) k hk, b2 (fun x x0 x1 x2 => q ⟨x, x0, x1, x2⟩) k hk]
theorem hsN_le (h : hsN nb n0 hd Y) {n1 : Int32} (hn : n0 ≤ n1) : hsN nb n1 hd Y := fun c t hc ht => ⟨fun x x0 x1 x2 k hk => (h c t hc ht).1 x x0 x1 x2 k (Int32.le_trans hn hk), fun q k hk => (h c t hc ht).2 q k (Int32.le_trans hn hk)⟩
/-- the model's part of the heap stays -/
theorem mR_same (e : ∀ x j, C + 44 ≤ x → x ≤ C + 96 → J2 x j = J x j) : hdR (C + 44) J2 = hdR (C + 44) J ∧ ldR (C + 44) J2 = ldR (C + 44) J ∧ J2 (C + 44) 0 = J (C + 44) 0 ∧ (eoM (C + 44) J → eoM (C + 44) J2) := hR_eq (fun x j q => e x j (by unfold hC at q; omega) (by unfold hC at q; omega))
/-- the class's call that leaves it all -/
theorem hg_c (hT : cT C K L J R) (hc : cpP C K L J R Y) (h : hcG C m J R Y) (e : hfE C K J R J2 R2) (p : plE Y Z) (hm : m ≤ m') : hcG C m' J2 R2 Z := by
  obtain ⟨h1, h2, h3, h4, h5⟩ := h
  obtain ⟨e1, e2, e3, e4⟩ := mR_same e.2.2.2
  refine ⟨e4 h1, by rw [e1, e3]; exact hsN_pl h2 p, ci_le (ci_pl (ci_fr hT hc e h3) p) hm, fun c t hcb ht => ?_, fun c t hcb ht => ?_⟩
  · rw [p.1] at hcb
    obtain ⟨q1, q2⟩ := hd_vw hT hc e c t hcb ht
    rw [e1, e2, q2]
    exact ⟨fun k => (q1 k).trans ((h4 c t hcb ht).1 k), (h4 c t hcb ht).2⟩
  · rw [p.1] at hcb
    rw [e1, e2]
    exact h5 c t hcb ht
/-- cells of the class that a call of the reference leaves -/
theorem hr_vw (hT : cT C K L J R) (hc : cpP C K L J R W) (hf : ∀ x j, (x < (C + 44) ∨ (C + 44) + 52 < x) → J2 x j = J x j) {c : Int32} (c0 : 0 ≤ c) (c1 : c < W 0 6) : chC C J2 R c = chC C J R c ∧ whC C J2 R c = whC C J R c ∧ paC C J2 R c = paC C J R c ∧ pcC C J2 R c = pcC C J R c := by
  have k := (hc.2.1.2.2.1 c c0 c1).1
  obtain ⟨b1, ⟨w1, w2, -⟩, -, ⟨h1, h2, -⟩, ⟨p1, p2, -⟩, -⟩ := hT.g_bnc _ k
  unfold chC whC paC pcC
  refine ⟨funext (fun j => hf _ _ (by omega)), funext (fun j => hf _ _ (by omega)), funext (fun j => hf _ _ (by omega)), by rw [hf _ _ (by omega)]⟩
theorem ci_rf (hT : cT C K L J R) (hc : cpP C K L J R W) (hf : ∀ x j, (x < (C + 44) ∨ (C + 44) + 52 < x) → J2 x j = J x j) (h : ciP C J R W m) : ciP C J2 R W m := by
  obtain ⟨h1, h2, h3⟩ := h
  refine ⟨fun c c0 c1 => ?_, fun x x0 x1 t ht q => ?_, h3⟩
  · obtain ⟨v1, v2, v3, v4⟩ := hr_vw hT hc hf c0 c1
    rw [v1, v3, v4, hf (C + 1) 6 (by omega)]
    exact h1 c c0 c1
  · have p1 := (hc.2.1.2.2.2.1 x x0 x1 q.1).1
    rw [(hr_vw hT hc hf q.1 p1).1]
    exact h2 x x0 x1 t ht q
/-- the reference's call that leaves it all -/
theorem hg_r (hT : cT C K L J R) (hc : cpP C K L J R Z) (h : hcG C m J R Z) (e : ∀ x j, eRh (C + 44) x j → J2 x j = J x j) (p : plE Z W) : hcG C m J2 R W := by
  obtain ⟨h1, h2, h3, h4, h5⟩ := h
  obtain ⟨e1, e2, e3, e4⟩ := hR_eq (M := (C + 44)) (I := J) (J := J2) (fun x j q => e x j (Or.inr (Or.inr q)))
  have hf : ∀ x j, (x < (C + 44) ∨ (C + 44) + 52 < x) → J2 x j = J x j := fun x j q => e x j (by unfold eRh; omega)
  have hv := fun (c : Int32) c0 c1 => hr_vw (R := R) (W := Z) hT hc hf (c := c) c0 c1
  refine ⟨e4 h1, by rw [e1, e3]; exact hsN_pl h2 p, ci_pl (ci_rf hT hc hf h3) p, fun c t hcb ht => ?_, fun c t hcb ht => ?_⟩
  · rw [p.1] at hcb
    obtain ⟨v1, v2, v3, v4⟩ := hv c hcb.1 hcb.2
    unfold hdC ldC
    rw [v1, v2, v3, v4, e1, e2]
    exact h4 c t hcb ht
  · rw [p.1] at hcb
    rw [e1, e2]
    exact h5 c t hcb ht
/-- the class gives and takes back -/
theorem hr_c (hc : cpP C K L J R Y) (h : hcG C m J R Y) (en : J (C + 1) 6 = J (C + 44) 0) (hbY : ∀ x c t : Int32, 0 ≤ x → x < Y 0 17 → hoY Y x c t → c < Y 0 6) (x : hxK C J R Y m J2 R2 W1 Z) (e : ∀ x j, C + 44 ≤ x → x ≤ C + 96 → J2 x j = J x j) : hcR C (m + 30) J2 R2 Y W1 Z := by
  obtain ⟨h1, h2, h3, h4, h5⟩ := h
  obtain ⟨x1, x2, x3, x4⟩ := x
  obtain ⟨e1, e2, e3, e4⟩ := mR_same e
  refine ⟨e4 h1, by rw [e1, e3]; exact h2, x1, ⟨by rw [x2, e3]; exact en, x3⟩, ?_, by unfold hzP; rw [e1, e2]; exact h5, hbY⟩
  rw [e1, e2, e3, ← en]
  refine ⟨x4.1, fun c t hcb ht => ?_, x4.2.2⟩
  obtain ⟨q1, q2⟩ := h4 c t hcb ht
  have q := x4.2.1 c t hcb ht
  simp only [q1, q2] at q
  exact q
/-- the reference gives and takes back -/
theorem hr_r (hT : cT C K L J R) (hc : cpP C K L J R Z) (h6 : Y 0 6 ≤ 6) (h : hcR C m J R Y W1 Z) (x : hxQ (C + 44) J J2 Y W1 Z) (hf : ∀ x j, (x < (C + 44) ∨ (C + 44) + 52 < x) → J2 x j = J x j) (p : plE Z W) : hcG C m J2 R W := by
  obtain ⟨h1, h2, h3, ⟨h4, h4'⟩, ⟨g1, g2, g3, g4⟩, h5, hbY⟩ := h
  obtain ⟨x1, x2, x3, x4, x5, x6⟩ := x
  have hbZ : ∀ x c t : Int32, 0 ≤ x → x < Z 0 17 → hoY Z x c t → c < Z 0 6 := fun x c t x0 x1 q => by
    have := (hc.2.1.2.2.2.1 x x0 x1 q.1).1
    rw [q.2.1] at this
    exact this
  refine ⟨x1, by rw [x2]; exact hsN_pl x3 p, ci_pl (ci_rf hT hc hf h3) p, fun c t hcb ht => ?_, fun c t hcb ht => ?_⟩
  · rw [p.1] at hcb
    obtain ⟨v1, v2, v3, v4⟩ := hr_vw hT hc hf hcb.1 hcb.2
    have hcb2 : 0 ≤ c ∧ c < Y 0 6 := ⟨hcb.1, by rw [← h4']; exact hcb.2⟩
    have hcb6 : 0 ≤ c ∧ c < 6 := ⟨hcb.1, Int32.lt_of_lt_of_le hcb2.2 h6⟩
    have ed : ∀ k, hdC C J2 R c t k = hdC C J R c t k := fun k => by unfold hdC; rw [v1, v2, v3, v4]
    have el : ldC C J2 R c t = ldC C J R c t := by unfold ldC; rw [v1]
    obtain ⟨a1, a2, a3⟩ := g2 c t hcb2 ht
    obtain ⟨b1, b2, b3⟩ := x4 c t hcb6 ht
    refine ⟨fun k => ?_, ?_⟩
    · rw [ed]
      by_cases hk : J (C + 44) 0 ≤ k
      · have n1 : hsN (Y 0 6) (J (C + 44) 0) (hdR (C + 44) J2) Z := fun c2 t2 hc2 => x3 c2 t2 ⟨hc2.1, Int32.lt_of_lt_of_le hc2.2 h6⟩
        exact hsN_e g1 n1 hcb2 ht hk
      · rw [a1 k hk, b1 k hk]
    · rw [el]
      by_cases q : tkT Y W1 c t ∨ gvT W1 Z c t
      · rw [a2 q, b2 q]
      · rw [a3 q, b3 q]
  · rw [p.1, h4'] at hcb
    have h6' : 0 ≤ Y 0 6 := by rw [← h4']; exact hc.2.2.2.2.2.2.2.2.2.1.1
    have hcb6 : 0 ≤ c ∧ c < 6 := ⟨Int32.le_trans h6' hcb.1, hcb.2⟩
    obtain ⟨b1, b2, b3⟩ := x4 c t hcb6 ht
    obtain ⟨z1, z2⟩ := h5 c t hcb ht
    have nY : ∀ x : Int32, 0 ≤ x → x < Y 0 17 → ¬ hoY Y x c t := fun x x0 x1 q => absurd (Int32.lt_of_lt_of_le (hbY x c t x0 x1 q) hcb.1) Int32.lt_irrefl
    have nZ : ∀ x : Int32, 0 ≤ x → x < Z 0 17 → ¬ hoY Z x c t := fun x x0 x1 q => absurd (Int32.lt_of_lt_of_le (by have := hbZ x c t x0 x1 q; rw [h4'] at this; exact this) hcb.1) Int32.lt_irrefl
    refine ⟨fun k => ?_, ?_⟩
    · by_cases hk : J (C + 44) 0 ≤ k
      · exact (x3 c t hcb6 ht).2 nZ k hk
      · rw [b1 k hk]
        exact z1 k
    · rw [b3 (fun q => by
        rcases q with ⟨x, y0, y1, y2, y3⟩ | ⟨x, y0, y1, y2, y3⟩
        · exact nY x y0 y1 y3
        · exact nZ x y0 (by rw [x6]; exact y1) y3)]
      exact z2
/-- the law's state with it -/
def lawH (b C c n t : Nat) (K L : Nat → Nat) (J : Nat → Nat → Int32) (R : Nat → Nat → Nat) : Prop := lawI b C c n t K L J R ∧ hcG C (30 * c) J R (yv (C + 44) J)
theorem cdh_gen {D mid : Nat} {as : List Value} {Q : Int32 → Nat → Nat → (Nat → Nat) → (Nat → Nat) → (Nat → Nat → Int32) → (Nat → Nat → Nat) → Prop} {B : AH → Prop} (A : a_does D mid as (n + 1, t, K, L, J, R) (fun r h' => ∃ v n2 t2 K2 L2 J2 R2, r = some (.int v) ∧ h' = (n2 + 1, t2, K2, L2, J2, R2) ∧ Q v n2 t2 K2 L2 J2 R2)) (hB : a_does D mid as (n + 1, t, K, L, J, R) (fun _ h' => B h')) (hP : ∀ v n2 t2 K2 L2 J2 R2, Q v n2 t2 K2 L2 J2 R2 → B (n2 + 1, t2, K2, L2, J2, R2) → P (some (.int v)) (n2 + 1, t2, K2, L2, J2, R2)) : a_does D mid as (n + 1, t, K, L, J, R) P := by
  refine does_mono (does_and A hB) (fun r h' q => ?_)
  obtain ⟨⟨v, n2, t2, K2, L2, J2, R2, e1, e2, g⟩, w⟩ := q
  rw [e2] at w
  rw [e1, e2]
  exact hP v _ _ _ _ _ _ g w
theorem cF_in {n2 t2 : Nat} {K2 L2 : Nat → Nat} (h : cFh C K J R (n2 + 1, t2, K2, L2, J2, R2)) : hfE C K J R J2 R2 := by
  obtain ⟨m1, m2, K3, L3, J3, R3, e, f⟩ := h
  simp only [Prod.mk.injEq, Nat.add_right_cancel_iff] at e
  obtain ⟨i1, i2, i3, i4, i5, i6⟩ := e
  subst i5 i6
  exact f
theorem cB_in {n2 t2 : Nat} {K2 L2 : Nat → Nat} {r : Option Value} (h : cB C n K L J R r (n2 + 1, t2, K2, L2, J2, R2)) : ∀ x j, C + 44 ≤ x → x ≤ C + 96 → J2 x j = J x j := by
  obtain ⟨m1, m2, K3, L3, J3, R3, e, f, -⟩ := h
  simp only [Prod.mk.injEq, Nat.add_right_cancel_iff] at e
  obtain ⟨i1, i2, i3, i4, i5, i6⟩ := e
  subst i5
  exact f.2.2.2.2
theorem law_now (h : lawI b C c n t K L J R) : J (C + 1) 6 = J (C + 44) 0 := h.2.2.2.2.2.1.1.1.1
theorem law_pl (h : lawI b C c n t K L J R) : ∀ x c2 t2 : Int32, 0 ≤ x → x < (yv (C + 44) J) 0 17 → hoY (yv (C + 44) J) x c2 t2 → c2 < (yv (C + 44) J) 0 6 := fun x c2 t2 x0 x1 q => by
  have := (h.2.2.2.2.2.1.1.2.1.2.2.2.1 x x0 x1 q.1).1
  rw [q.2.1] at this
  exact this
theorem pz_t (h : plE Y Z) (h2 : plE Z W) (e17 : W 0 17 = Z 0 17) : plE Y W := ⟨h2.1.trans h.1, fun x c t => (h2.2.1 x c t).trans (h.2.1 x c t), fun x x0 x1 x2 => by
  obtain ⟨q1, q2⟩ := h2.2.2 x x0 x1 x2
  have x3 : 0 ≤ Z 20 x.toNatClampNeg := by rw [← q1]; exact x2
  obtain ⟨p1, p2⟩ := h.2.2 x x0 (by rw [← e17]; exact x1) x3
  exact ⟨q1.trans p1, q2.trans p2⟩⟩
theorem pz_mode {u1 u2 u3 : Int32} : plE Y (mdY Y u1 u2 u3) := by
  unfold mdY
  split
  · exact pz_r (by unfold mdW; rw [if_neg (by omega)]) (by unfold mdW; rw [if_neg (by omega)]) (fun q hq => funext (fun j => by unfold mdW; rw [if_neg (by omega)]))
  · exact pz_0
theorem pz_trip {u1 u2 : Int32} : plE Y (tpY Y u1 u2) := by
  unfold tpY
  split
  · exact pz_0
  · exact pz_r (tp_no (by omega)) (tp_no (by omega)) (fun q hq => funext (fun j => tp_no (by omega)))
theorem pz_set {u1 u2 : Int32} : plE Y (seY Y u1 u2) := by
  unfold seY
  split
  · exact pz_0
  · split
    · exact pz_r (up_no (by omega)) (up_no (by omega)) (fun q hq => (up_r (by omega) q hq).symm)
    · split
      · exact pz_r (up_no (by omega)) (up_no (by omega)) (fun q hq => (up_r (by omega) q hq).symm)
      · exact pz_r (up_no (by omega)) (up_no (by omega)) (fun q hq => (up_r (by omega) q hq).symm)
theorem pz_draft {u1 u2 u3 u4 : Int32} : plE Y (drY Y u1 u2 u3 u4) := by
  unfold drY
  split
  · exact pz_r (dr_no (by omega)) (dr_no (by omega)) (fun q hq => funext (fun j => dr_no (by omega)))
  · exact pz_0
theorem pz_feed {u1 : Int32} {u2 : Int64} : plE Y (feY Y u1 u2) := by
  unfold feY
  split
  · exact pz_0
  · exact pz_r (by unfold feW; rw [if_neg (by omega), if_neg (by omega)]) (by unfold feW; rw [if_neg (by omega), if_neg (by omega)]) (fun q hq => funext (fun j => by unfold feW; rw [if_neg (by omega), if_neg (by omega)]))
theorem pz_text {u1 : Int32} : plE Y (txY Y u1) := by
  unfold txY
  split
  · exact pz_0
  · split
    · exact pz_r (tw_no (by omega) (by omega)) (tw_no (by omega) (by omega)) (fun q hq => funext (fun j => tw_no (by omega) (by omega)))
    · exact pz_r (up_no (by omega)) (up_no (by omega)) (fun q hq => (up_r (by omega) q hq).symm)
theorem pz_kin {u1 u2 : Int32} : plE Y (kiY Y u1 u2) := by
  unfold kiY
  split
  · exact pz_r (up_no (by omega)) (up_no (by omega)) (fun q hq => (up_r (by omega) q hq).symm)
  · exact pz_0
theorem pz_put {u1 : Int32} : plE Y ((ptY Y u1).2) := by
  unfold ptY
  split
  · exact pz_0
  · show plE Y (upY (upY Y 52 (Y 0 79).toNatClampNeg u1) 0 79 (Y 0 79 + 1))
    have h1 : plE Y (upY Y 52 (Y 0 79).toNatClampNeg u1) := pz_r (up_no (by omega)) (up_no (by omega)) (fun q hq => (up_r (by omega) q hq).symm)
    have h2 : plE (upY Y 52 (Y 0 79).toNatClampNeg u1) (upY (upY Y 52 (Y 0 79).toNatClampNeg u1) 0 79 (Y 0 79 + 1)) := pz_r (up_no (by omega)) (up_no (by omega)) (fun q hq => (up_r (by omega) q hq).symm)
    exact pz_t h1 h2 (up_no (by omega))
theorem pz_check {u1 u2 u3 : Int32} : plE Y (ckY Y u1 u2 u3) := by
  unfold ckY
  split
  · exact pz_r (up_no (by omega)) (up_no (by omega)) (fun q hq => (up_r (by omega) q hq).symm)
  · exact pz_0
theorem pz_wish {u1 u2 u3 : Int32} : plE Y ((wsY Y u1 u2 u3).2) := by
  unfold wsY
  split
  · exact pz_0
  · show plE Y (upY Y 47 _ _)
    exact pz_r (up_no (by omega)) (up_no (by omega)) (fun q hq => (up_r (by omega) q hq).symm)
theorem pz_strike {u1 u2 : Int32} : plE Y ((skY Y u1 u2).2) := by
  unfold skY
  repeat' split
  all_goals first
    | exact pz_0
    | exact pz_r (up_no (by omega)) (up_no (by omega)) (fun q hq => (up_r (by omega) q hq).symm)
theorem pz_mark {u1 u2 u3 : Int32} : plE Y ((mrY Y u1 u2 u3).2) := by
  unfold mrY
  repeat' split
  all_goals first
    | exact pz_0
    | exact pz_r (mw_no (by omega)) (mw_no (by omega)) (fun q hq => funext (fun j => mw_no (by omega)))
/-- one ASK more, without a place -/
theorem pz_new (hz : 0 ≤ Y 0 17 ∧ Y 0 17 < 30) (e6 : Z 0 6 = Y 0 6) (e17 : Z 0 17 = Y 0 17 + 1) (e20 : Z 20 (Y 0 17).toNatClampNeg = -9) (er : ∀ k j, (k = 20 ∨ k = 21 ∨ k = 10) → ¬ j = (Y 0 17).toNatClampNeg → Z k j = Y k j) : plE Y Z := by
  have hlt : ∀ x : Int32, x < Y 0 17 → x < Z 0 17 := fun x h => by rw [e17]; (try clear er); grind
  have hge : ∀ x : Int32, x < Z 0 17 → ¬ x = Y 0 17 → x < Y 0 17 := fun x h q => by rw [e17] at h; (try clear er); grind
  have hn : ∀ x : Int32, 0 ≤ x → ¬ x = Y 0 17 → ¬ x.toNatClampNeg = (Y 0 17).toNatClampNeg := fun x h q e => q (cl_inj h hz.1 e)
  have hp : ∀ x : Int32, 0 ≤ Z 20 x.toNatClampNeg → ¬ x = Y 0 17 := fun x h e => by
    rw [e, e20] at h
    exact absurd h (by decide)
  refine ⟨e6, fun x c t => ⟨fun ⟨x0, x1, x2⟩ => ?_, fun ⟨x0, x1, x2⟩ => ?_⟩, fun x x0 x1 x2 => ?_⟩
  · have ne := hp x x2.1
    rw [ho_e (W := Y) (fun k hk => er k _ hk (hn x x0 ne))] at x2
    exact ⟨x0, hge x x1 ne, x2⟩
  · have ne : ¬ x = Y 0 17 := fun e => by rw [e] at x1; exact absurd x1 Int32.lt_irrefl
    rw [← ho_e (Z := Z) (W := Y) (fun k hk => er k _ hk (hn x x0 ne))] at x2
    exact ⟨x0, hlt x x1, x2⟩
  · have ne := hp x x2
    exact ⟨er 20 _ (by omega) (hn x x0 ne), er 21 _ (by omega) (hn x x0 ne)⟩
theorem pz_ask (h17 : 0 ≤ Y 0 17 ∧ Y 0 17 ≤ 30) {k b m g e x y : Int32} : plE Y (akY Y k b m g e x y).2 := by
  unfold akY
  split
  · exact pz_0
  · split
    · exact pz_0
    · split
      · exact pz_0
      · split
        · exact pz_0
        · next c4 =>
          split
          · exact pz_0
          · have c5 : ¬ Y 0 17 = 30 := fun q => c4 (Or.inr (Or.inr (Or.inr (Or.inr (Or.inr q)))))
            show plE Y (akW Y k b m g e x y)
            exact pz_new ⟨h17.1, by (try clear c4); grind⟩ (ak_no (by omega) (by omega)) ak_17 ak_at.2.2.2.2.2.1 (fun k j hk hj => ak_no (by omega) (by omega))
theorem pz_owe (h17 : 0 ≤ Y 0 17 ∧ Y 0 17 ≤ 30) {a : Int32} : plE Y (oeY Y a).2 := by
  unfold oeY
  split
  · exact pz_0
  · next c1 =>
    split
    · exact pz_0
    · split
      · exact pz_0
      · next c3 =>
        have c1' : 0 ≤ a ∧ a < Y 0 17 := Classical.byContradiction c1
        have cl := cl_lt c1'.1 c1'.2
        show plE Y (oeW Y a)
        exact pz_new ⟨h17.1, by (try clear c1); grind⟩ ((oe_no (by omega) (by omega)).trans (up_no (by omega))) oe_17 (oe_at (by omega)).2.2.2.2.2.1 (fun k j hk hj => (oe_no (by omega) (by omega)).trans (up_no (by omega)))
theorem pz_hours {v : Int32} : plE Y (hrY Y v) := by
  unfold hrY
  split
  · exact pz_0
  · exact pz_r (up_no (by omega)) (up_no (by omega)) (fun q hq => (up_r (by omega) q hq).symm)
/-- one class, two rows of words: places alike -/
theorem pz_cu (hT : cT C K L J R) (hc : cpP C K L J R Z) (hf : ∀ x j, (x < (C + 44) ∨ (C + 44) + 52 < x) → J2 x j = J x j) (hc2 : cpP C K L J2 R W) : plE Z W := by
  have e6 : W 0 6 = Z 0 6 := hc2.2.1.1.symm.trans ((hf (C + 14) 5 (by omega)).trans hc.2.1.1)
  have e17 : W 0 17 = Z 0 17 := hc2.2.2.1.1.symm.trans ((hf (C + 14) 4 (by omega)).trans hc.2.2.1.1)
  have er : ∀ x : Int32, 0 ≤ x → x < W 0 17 → W 20 x.toNatClampNeg = Z 20 x.toNatClampNeg ∧ W 21 x.toNatClampNeg = Z 21 x.toNatClampNeg ∧ W 10 x.toNatClampNeg = Z 10 x.toNatClampNeg := fun x x0 x1 => by
    have al := hc.2.2.1.2.2.2 x x0 (by rw [← e17]; exact x1)
    have al2 := hc2.2.2.1.2.2.2 x x0 x1
    have k1 := (hc2.2.2.1.2.1 x x0 x1).1
    have a96 := (hT.g_ask _ k1).1
    have eJ : ∀ j, J2 (R (C + 15) x.toNatClampNeg) j = J (R (C + 15) x.toNatClampNeg) j := fun j => hf _ _ (by omega)
    exact ⟨al2.2.2.2.1.1.symm.trans ((eJ 13).trans al.2.2.2.1.1), al2.2.2.2.1.2.symm.trans ((eJ 14).trans al.2.2.2.1.2), al2.1.2.2.1.symm.trans ((eJ 2).trans al.1.2.2.1)⟩
  have ho : ∀ x c t : Int32, 0 ≤ x → x < W 0 17 → hoY W x c t = hoY Z x c t := fun x c t x0 x1 => by
    obtain ⟨q1, q2, q3⟩ := er x x0 x1
    exact ho_e (fun k hk => by rcases hk with h | h | h <;> subst h <;> assumption)
  refine ⟨e6, fun x c t => ⟨fun ⟨x0, x1, x2⟩ => ⟨x0, by rw [← e17]; exact x1, by rw [← ho x c t x0 x1]; exact x2⟩, fun ⟨x0, x1, x2⟩ => ⟨x0, by rw [e17]; exact x1, by rw [ho x c t x0 (by rw [e17]; exact x1)]; exact x2⟩⟩, fun x x0 x1 _ => ⟨(er x x0 x1).1, (er x x0 x1).2.1⟩⟩
theorem hg_le (h : hcG C m J R W) (hm : m ≤ m') : hcG C m' J R W := ⟨h.1, h.2.1, ci_le h.2.2.1 hm, h.2.2.2⟩
/-- hours pass: the class; the reference -/
theorem hg_hc (hT : cT C K L J R) (hc : cpP C K L J R Y) (h : hcG C m J R Y) {w : Int32} (hw : J (C + 1) 6 ≤ w) (p : plE Y Z) (hm : m ≤ m') : hcG C m' (a_ui J (C + 1) 6 w) R Z := by
  obtain ⟨h1, h2, h3, h4, h5⟩ := h
  have eJ : ∀ x j, C + 43 < x → a_ui J (C + 1) 6 w x j = J x j := fun x j q => by rw [ui_ap, if_neg (by omega)]
  obtain ⟨e1, e2, e3, e4⟩ := mR_same (C := C) (J2 := a_ui J (C + 1) 6 w) (J := J) (fun x j p q => eJ x j (by omega))
  have hv : ∀ c : Int32, 0 ≤ c → c < Y 0 6 → chC C (a_ui J (C + 1) 6 w) R c = chC C J R c ∧ whC C (a_ui J (C + 1) 6 w) R c = whC C J R c ∧ paC C (a_ui J (C + 1) 6 w) R c = paC C J R c ∧ pcC C (a_ui J (C + 1) 6 w) R c = pcC C J R c := fun c c0 c1 => by
    have k := (hc.2.1.2.2.1 c c0 c1).1
    obtain ⟨b1, ⟨w1, w2, -⟩, -, ⟨h1, h2, -⟩, ⟨p1, p2, -⟩, -⟩ := hT.g_bnc _ k
    unfold chC whC paC pcC
    refine ⟨funext (fun j => eJ _ _ (by omega)), funext (fun j => eJ _ _ (by omega)), funext (fun j => eJ _ _ (by omega)), by rw [eJ _ _ (by omega)]⟩
  have hci : ciP C (a_ui J (C + 1) 6 w) R Y m := by
    obtain ⟨i1, i2, i3⟩ := h3
    refine ⟨fun c c0 c1 => ?_, fun x x0 x1 t ht q => ?_, i3⟩
    · obtain ⟨v1, v2, v3, v4⟩ := hv c c0 c1
      rw [v1, v3, v4, ui_ap, if_pos ⟨rfl, rfl⟩]
      exact ⟨fun t t0 t1 => Int32.le_trans ((i1 c c0 c1).1 t t0 t1) hw, (i1 c c0 c1).2⟩
    · rw [(hv _ q.1 (hc.2.1.2.2.2.1 x x0 x1 q.1).1).1]
      exact i2 x x0 x1 t ht q
  refine ⟨e4 h1, by rw [e1, e3]; exact hsN_pl h2 p, ci_le (ci_pl hci p) hm, fun c t hcb ht => ?_, fun c t hcb ht => ?_⟩
  · rw [p.1] at hcb
    obtain ⟨v1, v2, v3, v4⟩ := hv c hcb.1 hcb.2
    unfold hdC ldC
    rw [v1, v2, v3, v4, e1, e2]
    exact h4 c t hcb ht
  · rw [p.1] at hcb
    rw [e1, e2]
    exact h5 c t hcb ht
theorem hg_hr (hT : cT C K L J R) (hc : cpP C K L J R Z) (h : hcG C m J R Z) {w : Int32} (hw : J (C + 44) 0 ≤ w) (p : plE Z W) : hcG C m (a_ui J (C + 44) 0 w) R W := by
  obtain ⟨h1, h2, h3, h4, h5⟩ := h
  have eJ : ∀ x j, ¬ (x = (C + 44) ∧ j = 0) → a_ui J (C + 44) 0 w x j = J x j := fun x j q => by rw [ui_ap, if_neg q]
  have e1 : hdR (C + 44) (a_ui J (C + 44) 0 w) = hdR (C + 44) J := funext (fun b => funext (fun s => funext (fun k => hd_eq (eJ _ _ (by omega)) (fun j => eJ _ _ (by omega)) (fun j => eJ _ _ (by omega)) (fun j => eJ _ _ (by omega)) _ k)))
  have e2 : ldR (C + 44) (a_ui J (C + 44) 0 w) = ldR (C + 44) J := funext (fun b => funext (fun s => ld_eq (eJ _ _ (by omega)) (fun j => eJ _ _ (by omega)) (fun j => eJ _ _ (by omega)) _))
  have e0 : a_ui J (C + 44) 0 w (C + 44) 0 = w := by rw [ui_ap, if_pos ⟨rfl, rfl⟩]
  have hf : ∀ x j, (x < (C + 44) ∨ (C + 44) + 52 < x) → a_ui J (C + 44) 0 w x j = J x j := fun x j q => eJ x j (by omega)
  refine ⟨fun i hi => ?_, by rw [e1, e0]; exact hsN_le (hsN_pl h2 p) hw, ci_pl (ci_rf hT hc hf h3) p, fun c t hcb ht => ?_, fun c t hcb ht => ?_⟩
  · rw [eJ _ _ (by omega)] at hi
    rw [eJ _ _ (by omega), e0]
    exact Int32.le_trans (h1 i hi) hw
  · rw [p.1] at hcb
    obtain ⟨v1, v2, v3, v4⟩ := hr_vw (R := R) (W := Z) hT hc hf hcb.1 hcb.2
    unfold hdC ldC
    rw [v1, v2, v3, v4, e1, e2]
    exact h4 c t hcb ht
  · rw [p.1] at hcb
    rw [e1, e2]
    exact h5 c t hcb ht
end HJ0

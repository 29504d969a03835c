/-! the class: what grows -/
def cV (C : Nat) (L : Nat → Nat) (R : Nat → Nat → Nat) : Nat := L (R (R (C + 16) 0) 5) + L (R (R (C + 16) 1) 5) + L (R (R (C + 16) 2) 5) + L (R (R (C + 16) 3) 5) + L (R (R (C + 16) 4) 5) + L (R (R (C + 16) 5) 5)
/-- what holds of the heap: nothing behind n, and the room that c calls took -/
def cH (C c n t : Nat) (K L : Nat → Nat) (J : Nat → Nat → Int32) (R : Nat → Nat → Nat) : Prop := cT C K L J R ∧ (∀ x, n ≤ x → K x = 0) ∧ C + 96 < n ∧ (R 0 5 = 0 ∧ L 0 = 0) ∧ t ≤ 300000 + 1000 * c + 2 * cV C L R ∧ 80 * n ≤ 80 * C + 8000 + 800 * c + cV C L R
/-- what giving and taking back may change -/
def dQ (C n : Nat) (K L : Nat → Nat) (I : Nat → Nat → Int32) (R : Nat → Nat → Nat) (n' : Nat) (K' L' : Nat → Nat) (J : Nat → Nat → Int32) (R' : Nat → Nat → Nat) : Prop := n ≤ n' ∧ (∀ x, x < n → K' x = K x) ∧ (∀ x, x < n → L' x = L x) ∧ (∀ x j, x < n → ¬ K x = 3 → R' x j = R x j) ∧ (∀ x j, x < n → ¬ x = C + 9 → ¬ x = C + 10 → ¬ (C + 96 < x ∧ (K x = 20 ∨ (K x = 1 ∧ (j = 13 ∨ j = 14)) ∨ K x = 3)) → J x j = I x j)
section K7
variable {C c n n' n'' t t' : Nat} {K K' K'' L L' L'' : Nat → Nat} {I J J' : Nat → Nat → Int32} {R R' R'' : Nat → Nat → Nat}
theorem dQ_refl : dQ C n K L I R n K L I R := ⟨Nat.le_refl _, fun _ _ => rfl, fun _ _ => rfl, fun _ _ _ _ => rfl, fun _ _ _ _ _ _ => rfl⟩
theorem dQ_Q (h : dQ C n K L I R n' K' L' J R') (h2 : dQ C n' K' L' J R' n'' K'' L'' J' R'') : dQ C n K L I R n'' K'' L'' J' R'' := by
  obtain ⟨p1, p2, p3, p4, p5⟩ := h
  obtain ⟨q1, q2, q3, q4, q5⟩ := h2
  refine ⟨by omega, fun x hx => (q2 x (by omega)).trans (p2 x hx), fun x hx => (q3 x (by omega)).trans (p3 x hx), fun x j hx hk => (q4 x j (by omega) (by rw [p2 x hx]; exact hk)).trans (p4 x j hx hk), fun x j hx h1 h2 h3 => (q5 x j (by omega) h1 h2 (by rw [p2 x hx]; exact h3)).trans (p5 x j hx h1 h2 h3)⟩
theorem dQ_L (h : dL C K L R I J) : dQ C n K L I R n K L J R := ⟨Nat.le_refl _, fun _ _ => rfl, fun _ _ => rfl, fun _ _ _ _ => rfl, fun x j _ h1 h2 h3 => h.2 x j h1 h2 (fun q => h3 ⟨q.1, q.2.elim Or.inl (fun r => Or.inr (Or.inl r))⟩)⟩
theorem dQ_C (h : dC C K L R I J) : dQ C n K L I R n K L J R := ⟨Nat.le_refl _, fun _ _ => rfl, fun _ _ => rfl, fun _ _ _ _ => rfl, fun x j _ h1 h2 h3 => h.2 x j h1 h2⟩
theorem cH_J (h : cH C c n t K L I R) (h2 : cT C K L J R) : cH C c n t K L J R := ⟨h2, h.2⟩
theorem kn_lt (h : ∀ x, n ≤ x → K x = 0) {x k : Nat} (hk : K x = k) (h0 : ¬ k = 0) : x < n := by
  refine Nat.lt_of_not_le (fun q => h0 ?_)
  rw [← hk, h x q]
theorem cT_grow (h : cT C K L I R) (fresh : ∀ x, n ≤ x → K x = 0) (hC : C + 96 < n) (hK : ∀ x, x < n → K' x = K x) (hL : ∀ x, x < n → L' x = L x) (hJ : ∀ x j, x < n → J x j = I x j) (hR : ∀ x j, x < n → R' x j = R x j) (na : ∀ a, n ≤ a → K' a = 1 → (C + 96 < a ∧ (1 ≤ J a 2 ∧ J a 2 ≤ 4) ∧ (0 ≤ J a 4 ∧ J a 4 ≤ 29) ∧ (0 ≤ J a 13 → 0 ≤ J a 14 ∧ J a 14 ≤ 199 ∧ J a 14 + J a 2 ≤ 200))) (nb : ∀ b, n ≤ b → K' b = 3 → (C + 96 < b ∧ (C + 96 < R' b 2 ∧ K' (R' b 2) = 20 ∧ L' (R' b 2) = 200) ∧ (C + 96 < R' b 3 ∧ K' (R' b 3) = 20 ∧ L' (R' b 3) = 200) ∧ (C + 96 < R' b 4 ∧ K' (R' b 4) = 20 ∧ L' (R' b 4) = 200) ∧ (C + 96 < R' b 5 ∧ K' (R' b 5) = 20 ∧ (∃ m, L' (R' b 5) = 80 * m ∧ 1 ≤ m ∧ m ≤ 2048)) ∧ (0 ≤ J b 6 ∧ J b 6 ≤ 16384 ∧ 5 * (J b 6).toNatClampNeg ≤ L' (R' b 5)))) (nx : ∀ x, n ≤ x → K' x = 11 → (C + 96 < x ∧ C + 96 < R' x 2 ∧ K' (R' x 2) = 20 ∧ L' (R' x 2) ≤ 50)) : cT C K' L' J R' := by
  have f1 : ∀ q ∈ c_ks, q.1 ≤ 43 := by decide
  have f2 : ∀ q ∈ c_ls, q.1 ≤ 43 := by decide
  have f3 : ∀ q ∈ c_rs, q.1 ≤ 43 := by decide
  have lt : ∀ {x k : Nat}, K x = k → ¬ k = 0 → x < n := fun hk h0 => kn_lt fresh hk h0
  exact cT_mk
    (s := ⟨h.s.1, fun q hq => (hK _ (by have := f1 q hq; omega)).trans (h.s.2.1 q hq), fun q hq => (hL _ (by have := f2 q hq; omega)).trans (h.s.2.2.1 q hq), fun q hq => (hR _ _ (by have := f3 q hq; omega)).trans (h.s.2.2.2 q hq)⟩)
    (g_now := by rw [hJ _ _ (by omega)]; exact h.g_now)
    (g_trips := by rw [hJ _ _ (by omega)]; exact h.g_trips)
    (g_texts := by rw [hJ _ _ (by omega)]; exact h.g_texts)
    (g_size := by rw [hJ _ _ (by omega)]; exact h.g_size)
    (g_code := by rw [hJ _ _ (by omega)]; exact h.g_code)
    (g_at := by rw [hJ _ _ (by omega)]; exact h.g_at)
    (g_asks := by rw [hJ _ _ (by omega)]; exact h.g_asks)
    (g_benches := by rw [hJ _ _ (by omega)]; exact h.g_benches)
    (g_orderSize := by rw [hJ _ _ (by omega)]; exact h.g_orderSize)
    (g_passed := by rw [hJ _ _ (by omega)]; exact h.g_passed)
    (g_best := by rw [hJ _ _ (by omega)]; exact h.g_best)
    (g_circle := by rw [hJ _ _ (by omega)]; exact h.g_circle)
    (g_row := by rw [hJ _ _ (by omega)]; exact h.g_row)
    (g_rest := by rw [hJ _ _ (by omega)]; exact h.g_rest)
    (g_lost := fun j => by rw [hJ _ _ (by omega)]; exact h.g_lost j)
    (g_spots := fun j => by rw [hJ _ _ (by omega)]; exact h.g_spots j)
    (g_ask := fun a ha => by
      by_cases ln : a < n
      · rw [hJ _ _ ln, hJ _ _ ln, hJ _ _ ln, hJ _ _ ln]
        exact h.g_ask a ((hK a ln).symm.trans ha)
      · exact na a (by omega) ha)
    (g_bnc := fun b hb => by
      by_cases ln : b < n
      · obtain ⟨b1, ⟨w1, w2, w3⟩, ⟨s1, s2, s3⟩, ⟨h1, h2, h3⟩, ⟨p1, p2, p3⟩, q1⟩ := h.g_bnc b ((hK b ln).symm.trans hb)
        have l2 := lt w2 (by decide)
        have l3 := lt s2 (by decide)
        have l4 := lt h2 (by decide)
        have l5 := lt p2 (by decide)
        rw [hR _ _ ln, hR _ _ ln, hR _ _ ln, hR _ _ ln, hJ _ _ ln, hK _ l2, hL _ l2, hK _ l3, hL _ l3, hK _ l4, hL _ l4, hK _ l5, hL _ l5]
        exact ⟨b1, ⟨w1, w2, w3⟩, ⟨s1, s2, s3⟩, ⟨h1, h2, h3⟩, ⟨p1, p2, p3⟩, q1⟩
      · exact nb b (by omega) hb)
    (g_txt := fun x hx => by
      by_cases ln : x < n
      · obtain ⟨x1, x2, x3, x4⟩ := h.g_txt x ((hK x ln).symm.trans hx)
        have l2 := lt x3 (by decide)
        rw [hR _ _ ln, hK _ l2, hL _ l2]
        exact ⟨x1, x2, x3, x4⟩
      · exact nx x (by omega) hx)
    (g_asksN := fun i h0 h1 => by
      rw [hR _ _ (by omega)]
      rw [hJ _ _ (by omega)] at h1
      exact h.g_asksN i h0 h1)
    (g_asksR := fun j => by
      rw [hR _ _ (by omega)]
      exact (h.g_asksR j).imp id (fun q => (hK _ (lt q (by decide))).trans q))
    (g_benchesR := fun j => by
      rw [hR _ _ (by omega)]
      exact (h.g_benchesR j).imp id (fun q => (hK _ (lt q (by decide))).trans q))
    (g_textsR := fun j => by
      rw [hR _ _ (by omega)]
      exact (h.g_textsR j).imp id (fun q => (hK _ (lt q (by decide))).trans q))
    (g_orderR := fun j => by
      rw [hR _ _ (by omega)]
      exact (h.g_orderR j).imp id (fun q => (hK _ (lt q (by decide))).trans q))
    (g_bestR := fun j => by
      rw [hR _ _ (by omega)]
      exact (h.g_bestR j).imp id (fun q => (hK _ (lt q (by decide))).trans q))
    (g_ringR := fun j => by
      rw [hR _ _ (by omega)]
      exact (h.g_ringR j).imp id (fun q => (hK _ (lt q (by decide))).trans q))
    (g_draft := by
      rw [hR _ _ (by omega)]
      exact h.g_draft.imp id (fun q => (hK _ (lt q (by decide))).trans q))
    (g_benN := fun j h1 => by rw [hR _ _ (by omega)]; rw [hJ _ _ (by omega)] at h1; exact h.g_benN j h1)
    (g_benY := fun j h1 => by rw [hR _ _ (by omega)]; rw [hJ _ _ (by omega)] at h1; exact h.g_benY j h1)
theorem sT_Rpast (h : cT C K L J R) {x v : Nat} (hx : K x = 3) (hv : C + 96 < v ∧ K v = 20 ∧ (∃ m, L v = 80 * m ∧ 1 ≤ m ∧ m ≤ 2048)) (hp : 5 * (J x 6).toNatClampNeg ≤ L v) : cT C K L J (a_ur R x 5 v) := by
  have f3 : ∀ q ∈ c_rs, q.1 ≤ 43 := by decide
  have x1 := (h.g_bnc x hx).1
  exact cT_mk
    (s := ⟨h.s.1, h.s.2.1, h.s.2.2.1, fun q hq => by
      have := f3 q hq
      rw [ur_ap, if_neg (by omega)]
      exact h.s.2.2.2 q hq⟩)
    (g_now := h.g_now)
    (g_trips := h.g_trips)
    (g_texts := h.g_texts)
    (g_size := h.g_size)
    (g_code := h.g_code)
    (g_at := h.g_at)
    (g_asks := h.g_asks)
    (g_benches := h.g_benches)
    (g_orderSize := h.g_orderSize)
    (g_passed := h.g_passed)
    (g_best := h.g_best)
    (g_circle := h.g_circle)
    (g_row := h.g_row)
    (g_rest := h.g_rest)
    (g_lost := h.g_lost) (g_spots := h.g_spots) (g_ask := h.g_ask)
    (g_bnc := fun b hb => by
      have q := h.g_bnc b hb
      by_cases e : b = x
      · subst e
        simp only [ur_ap, true_and, and_self, if_true, Nat.reduceEqDiff, if_false]
        exact ⟨q.1, q.2.1, q.2.2.1, q.2.2.2.1, hv, q.2.2.2.2.2.1, q.2.2.2.2.2.2.1, hp⟩
      · simp only [ur_ap, e, false_and, if_false]
        exact q)
    (g_txt := fun y hy => by
      have q := h.g_txt y hy
      have e : ¬ y = x := fun e => by rw [e, hx] at hy; cases hy
      simp only [ur_ap, e, false_and, if_false]
      exact q)
    (g_asksR := fun j => by rw [ur_ap, if_neg (by omega)]; exact h.g_asksR j)
    (g_benchesR := fun j => by rw [ur_ap, if_neg (by omega)]; exact h.g_benchesR j)
    (g_textsR := fun j => by rw [ur_ap, if_neg (by omega)]; exact h.g_textsR j)
    (g_orderR := fun j => by rw [ur_ap, if_neg (by omega)]; exact h.g_orderR j)
    (g_bestR := fun j => by rw [ur_ap, if_neg (by omega)]; exact h.g_bestR j)
    (g_ringR := fun j => by rw [ur_ap, if_neg (by omega)]; exact h.g_ringR j)
    (g_asksN := fun i h0 h1 => by rw [ur_ap, if_neg (by omega)]; exact h.g_asksN i h0 h1)
    (g_draft := by rw [ur_ap, if_neg (by omega)]; exact h.g_draft)
    (g_benN := fun j h1 => by rw [ur_ap, if_neg (by omega)]; exact h.g_benN j h1)
    (g_benY := fun j h1 => by rw [ur_ap, if_neg (by omega)]; exact h.g_benY j h1)
theorem up_ne {f : Nat → Nat} {a v x : Nat} (h : ¬ x = a) : a_up f a v x = f x := if_neg h
theorem up_eq {f : Nat → Nat} {a v : Nat} : a_up f a v a = v := if_pos rfl
theorem zi_ne {f : Nat → Nat → Int32} {a x j : Nat} (h : ¬ x = a) : a_zi f a x j = f x j := if_neg h
theorem zr_ne {f : Nat → Nat → Nat} {a x j : Nat} (h : ¬ x = a) : a_zr f a x j = f x j := if_neg h
/-- the past of a bench moves into a row of twice its length -/
theorem cH_past (h : cH C c (n + 1) t K L I R) {b m : Nat} (hb : K b = 3) (hm : L (R b 5) = 80 * m) (hm1 : 1 ≤ m) (hm2 : 2 * m ≤ 2048) (hj : ∃ j, j < 6 ∧ R (C + 16) j = b) (hJ : ∀ x j, x < n + 1 → J x j = I x j) : cH C c (n + 1 + 1) (t + 160 * m) (a_up K (n + 1) 20) (a_up L (n + 1) (160 * m)) J (a_ur (a_zr R (n + 1)) b 5 (n + 1)) := by
  obtain ⟨hT, fr, hC, h0, ht, hn⟩ := h
  have bl : b < n + 1 := kn_lt fr hb (by decide)
  obtain ⟨b1, -, -, -, ⟨p1, p2, -⟩, q1⟩ := hT.g_bnc b hb
  have pl : R b 5 < n + 1 := kn_lt fr p2 (by decide)
  have hT2 : cT C (a_up K (n + 1) 20) (a_up L (n + 1) (160 * m)) J (a_zr R (n + 1)) := by
    refine cT_grow hT fr hC (fun x hx => up_ne (by omega)) (fun x hx => up_ne (by omega)) hJ (fun x j hx => zr_ne (by omega)) (fun a h1 h2 => ?_) (fun a h1 h2 => ?_) (fun a h1 h2 => ?_)
    all_goals
      by_cases e : a = n + 1
      · subst e
        rw [up_eq] at h2
        cases h2
      · rw [up_ne e, fr a (by omega)] at h2
        cases h2
  have hT3 := sT_Rpast (x := b) (v := n + 1) hT2 (by rw [up_ne (by omega)]; exact hb) ⟨by omega, up_eq, 2 * m, by rw [up_eq]; omega, by omega, hm2⟩ (by rw [up_eq, hJ _ _ bl]; have := q1.2.2; omega)
  have hv : ∀ j, a_up L (n + 1) (160 * m) (a_ur (a_zr R (n + 1)) b 5 (n + 1) (a_ur (a_zr R (n + 1)) b 5 (n + 1) (C + 16) j) 5) = if R (C + 16) j = b then 160 * m else L (R (R (C + 16) j) 5) := by
    intro j
    have e1 : a_ur (a_zr R (n + 1)) b 5 (n + 1) (C + 16) j = R (C + 16) j := by rw [ur_ap, if_neg (by omega), zr_ne (by omega)]
    rw [e1]
    by_cases e : R (C + 16) j = b
    · rw [if_pos e, ur_ap, if_pos ⟨e, rfl⟩, up_eq]
    · rw [if_neg e, ur_ap, if_neg (fun q => e q.1)]
      have e2 : R (C + 16) j < n + 1 := by
        rcases hT.g_benchesR j with q | q
        · omega
        · exact kn_lt fr q (by decide)
      rw [zr_ne (by omega), up_ne ?_]
      intro e3
      rcases hT.g_benchesR j with q | q
      · rw [q, h0.1] at e3
        omega
      · have := kn_lt fr (hT.g_bnc _ q).2.2.2.2.1.2.1 (by decide)
        omega
  have hV : cV C L R + 80 * m ≤ cV C (a_up L (n + 1) (160 * m)) (a_ur (a_zr R (n + 1)) b 5 (n + 1)) := by
    unfold cV
    simp only [hv]
    have hb5 : ∀ j, R (C + 16) j = b → L (R (R (C + 16) j) 5) = 80 * m := fun j e => by rw [e]; exact hm
    have hge : ∀ j, L (R (R (C + 16) j) 5) ≤ (if R (C + 16) j = b then 160 * m else L (R (R (C + 16) j) 5)) := fun j => by
      by_cases e : R (C + 16) j = b
      · rw [if_pos e, hb5 j e]
        omega
      · rw [if_neg e]
        exact Nat.le_refl _
    have heq : ∀ j, R (C + 16) j = b → (if R (C + 16) j = b then 160 * m else L (R (R (C + 16) j) 5)) = L (R (R (C + 16) j) 5) + 80 * m := fun j e => by
      rw [if_pos e, hb5 j e]
      omega
    obtain ⟨j, hj1, hj2⟩ := hj
    have z0 := hge 0
    have z1 := hge 1
    have z2 := hge 2
    have z3 := hge 3
    have z4 := hge 4
    have z5 := hge 5
    have zz := heq j hj2
    clear hv hT hT2 hT3 fr hJ ht hn hge heq hb5
    generalize hf : (fun j => if R (C + 16) j = b then 160 * m else L (R (R (C + 16) j) 5)) = f at *
    have e : ∀ j, (if R (C + 16) j = b then 160 * m else L (R (R (C + 16) j) 5)) = f j := fun j => by rw [← hf]
    simp only [e] at *
    rcases (by omega : j = 0 ∨ j = 1 ∨ j = 2 ∨ j = 3 ∨ j = 4 ∨ j = 5) with e | e | e | e | e | e <;> subst e <;> omega
  refine ⟨hT3, fun x hx => ?_, by omega, ?_, by omega, by omega⟩
  · rw [up_ne (by omega), fr x (by omega)]
  · rw [ur_ap, if_neg (by omega), zr_ne (by omega), up_ne (by omega)]
    exact h0

end K7

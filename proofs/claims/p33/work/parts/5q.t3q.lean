/-! the class's asks are the model's -/
section YQ
variable {d n t C : Nat} {K L : Nat → Nat} {I I0 J J0 J1 J2 : Nat → Nat → Int32} {R : Nat → Nat → Nat} {P : Option Value → AH → Prop}
variable {Y : Nat → Nat → Int32}
/-- one ASK's fields -/
def alP (I Y : Nat → Nat → Int32) (i : Int32) (a : Nat) : Prop := (I a 0 = Y 8 i.toNatClampNeg ∧ I a 1 = Y 9 i.toNatClampNeg ∧ I a 2 = Y 10 i.toNatClampNeg ∧ I a 3 = Y 11 i.toNatClampNeg ∧ I a 5 = Y 7 i.toNatClampNeg) ∧ (I a 6 = Y 12 i.toNatClampNeg ∧ I a 7 = Y 13 i.toNatClampNeg ∧ I a 8 = Y 14 i.toNatClampNeg ∧ I a 9 = Y 15 i.toNatClampNeg) ∧ ((Y 7 i.toNatClampNeg = 1 ∨ Y 7 i.toNatClampNeg = 2) → I a 10 = Y 16 i.toNatClampNeg ∧ I a 11 = Y 17 i.toNatClampNeg) ∧ (I a 13 = Y 20 i.toNatClampNeg ∧ I a 14 = Y 21 i.toNatClampNeg) ∧ (I a 15 = 0 ↔ Y 18 i.toNatClampNeg = 0) ∧ (I a 16 = 0 ↔ Y 19 i.toNatClampNeg = 0)
def asP (C : Nat) (K : Nat → Nat) (I : Nat → Nat → Int32) (R : Nat → Nat → Nat) (Y : Nat → Nat → Int32) : Prop := I (C + 14) 4 = Y 0 17 ∧ akP C K I R Y ∧ mrP C I R Y ∧ ∀ i : Int32, 0 ≤ i → i < Y 0 17 → alP I Y i (R (C + 15) i.toNatClampNeg)
/-- hours lost are kept bit by bit -/
def lsP (C : Nat) (I Y : Nat → Nat → Int32) : Prop := ∀ s : Int32, 0 ≤ s → s < 200 → bcf (I (C + 3) s.toNatClampNeg) = liY Y s
theorem lq_fc {a : Nat} {i b s w : Int32} (h : alP I Y i a) (hm : I a 12 = mkY (cmY Y) (hsY Y) i) : eq9 (lq I a b s w) (fcA Y i b s w) := by
  obtain ⟨⟨h0, h1, h2, h3, h5⟩, ⟨h6, h7, h8, h9⟩, -⟩ := h
  intro j hj
  unfold lq fcA fcY
  rw [h0, h1, h2, h5, h9, hm]
  generalize mkY (cmY Y) (hsY Y) i = m
  have hm2 : (if 0 < m then m else 0) = (if m < 0 then 0 else m) := by
    clear h0 h1 h2 h3 h5 h6 h7 h8 h9 hm
    grind
  rw [hm2]
  have hc : j = 0 ∨ j = 1 ∨ j = 2 ∨ j = 3 ∨ j = 4 ∨ j = 5 ∨ j = 6 ∨ j = 7 ∨ j = 8 := by omega
  rcases hc with rfl | rfl | rfl | rfl | rfl | rfl | rfl | rfl | rfl <;> simp
theorem lf_lo {g : Nat → Int32} {s0 n : Int32} (hg : ∀ s : Int32, 0 ≤ s → s < 200 → bcf (g s.toNatClampNeg) = liY Y s) (h0 : 0 ≤ s0) (h4 : n ≤ 4) (h1 : s0 + n ≤ 200) (hs : s0 ≤ 200) : ∀ (k f : Nat) (i u : Int32), 0 ≤ i → i ≤ n → n.toNatClampNeg = i.toNatClampNeg + k → k ≤ f → lf g (s0 + n) f (s0 + i) u = loI Y s0 k i u := by
  intro k
  induction k with
  | zero =>
    intro f i u q0 q1 q2 q3
    have e : i = n := cl_inj q0 (Int32.le_trans q0 q1) (by omega)
    subst e
    cases f with
    | zero => rfl
    | succ f =>
      unfold lf loI
      rw [if_neg (show ¬ (s0 + i < s0 + i ∧ s0 + i < 200) from fun w => Int32.lt_irrefl w.1)]
  | succ k ih =>
    intro f i u q0 q1 q2 q3
    cases f with
    | zero => omega
    | succ f =>
      have w : i < n := cl_lt2 q0 (Int32.le_trans q0 q1) (by omega)
      obtain ⟨s1, s2, s3, s4⟩ := lp_st q0 w
      have c : s0 + i < s0 + n ∧ s0 + i < 200 := by
        clear ih hg s1 s4 q2 q3
        grind
      have c0 : 0 ≤ s0 + i := by
        clear ih hg s1 s4 q2 q3 c
        grind
      unfold lf loI
      rw [if_pos c, hg _ c0 c.2, Int32.add_assoc s0 i 1]
      exact ih f (i + 1) _ s2 s3 (by omega) (by omega)
theorem lw_lo {a : Nat} {i : Int32} (hi : 0 ≤ i ∧ i < 30) (h : alP I Y i a) (hl : lsP C I Y) (hin : inP Y) (hn : 0 ≤ Y 10 i.toNatClampNeg ∧ Y 10 i.toNatClampNeg ≤ 4) : lw C I a = loY Y i := by
  obtain ⟨⟨h0, h1, h2, h3, h5⟩, -, -, ⟨h13, h14⟩, -⟩ := h
  unfold lw loY
  rw [h13, h14, h2]
  by_cases c : 0 ≤ Y 20 i.toNatClampNeg
  · rw [if_pos c, if_pos c]
    obtain ⟨⟨g1, gs, g2⟩, -⟩ := hin _ (a_lt30 hi) c
    have := lf_lo (Y := Y) (g := I (C + 3)) (s0 := Y 21 i.toNatClampNeg) (n := Y 10 i.toNatClampNeg) hl g1 hn.2 g2 gs (Y 10 i.toNatClampNeg).toNatClampNeg 200 0 0 (by decide) hn.1 (by rw [show (0 : Int32).toNatClampNeg = 0 from rfl, Nat.zero_add]) (by have := cl_le0 hn.1 hn.2; rw [show (4 : Int32).toNatClampNeg = 4 from rfl] at this; omega)
    rw [Int32.add_zero] at this
    exact this
  · rw [if_neg c, if_neg c]
theorem cf_co (hT : cT C K L I R) (hX : txP C K L I R Y) (ht : 0 ≤ Y 0 41 ∧ Y 0 41 ≤ 20) {s : Int32} (hs : 0 ≤ s ∧ s ≤ 199) : ∀ (k f : Nat) (i b : Int32) (x : Nat), 0 ≤ i → i ≤ Y 0 41 → (Y 0 41).toNatClampNeg = i.toNatClampNeg + k → k < f → -1 ≤ b → b < Y 0 41 → ((b < 0 ∧ x = 0) ∨ (0 ≤ b ∧ x = R (C + 8) b.toNatClampNeg)) → (coI Y s k i b < 0 ∧ cf C R I s f i x = 0) ∨ (0 ≤ coI Y s k i b ∧ cf C R I s f i x = R (C + 8) (coI Y s k i b).toNatClampNeg) := by
  intro k
  induction k with
  | zero =>
    intro f i b x q0 q1 q2 q3 b0 b1 hb
    have e : i = Y 0 41 := cl_inj q0 (Int32.le_trans q0 q1) (by omega)
    cases f with
    | zero => omega
    | succ f =>
      unfold cf coI
      rw [if_pos (show I (C + 7) 3 ≤ i from by rw [hX.1, e]; exact Int32.le_refl _)]
      exact hb
  | succ k ih =>
    intro f i b x q0 q1 q2 q3 b0 b1 hb
    cases f with
    | zero => omega
    | succ f =>
      have w : i < Y 0 41 := cl_lt2 q0 (Int32.le_trans q0 q1) (by omega)
      obtain ⟨s1, s2, s3, s4⟩ := lp_st q0 w
      obtain ⟨k1, k2, k3, k4, k5, k6⟩ := hX.2 i q0 w
      have k5 := k5 s hs.1 hs.2
      have ec : (¬ R (C + 8) i.toNatClampNeg = 0 ∧ I (R (C + 8) i.toNatClampNeg) 0 = 79 ∧ (I (R (C + 8) i.toNatClampNeg) 1 ≤ s ∧ s < I (R (C + 8) i.toNatClampNeg) 3) ∧ (x = 0 ∨ I x 1 ≤ I (R (C + 8) i.toNatClampNeg) 1)) ↔ ((wtY Y i.toNatClampNeg 0 = 79 ∧ Y 30 i.toNatClampNeg ≤ s ∧ s < Y 31 i.toNatClampNeg) ∧ (b < 0 ∨ Y 30 b.toNatClampNeg ≤ Y 30 i.toNatClampNeg)) := by
        rw [k3, k4, k5]
        rcases hb with ⟨r1, r2⟩ | ⟨r1, r2⟩
        · simp [k2, r1, r2, and_assoc]
        · obtain ⟨l1, l2, l3, l4, -⟩ := hX.2 b r1 b1
          rw [r2, l4]
          simp [k2, l2, Int32.not_lt.mpr r1, and_assoc]
      unfold cf coI
      rw [if_neg (show ¬ I (C + 7) 3 ≤ i from by rw [hX.1]; exact Int32.not_le.mpr w)]
      by_cases c : (wtY Y i.toNatClampNeg 0 = 79 ∧ Y 30 i.toNatClampNeg ≤ s ∧ s < Y 31 i.toNatClampNeg) ∧ (b < 0 ∨ Y 30 b.toNatClampNeg ≤ Y 30 i.toNatClampNeg)
      · rw [if_pos c, if_pos (ec.mpr c)]
        exact ih f (i + 1) i _ s2 s3 (by omega) (by omega) (Int32.le_trans (by decide) q0) w (Or.inr ⟨q0, rfl⟩)
      · rw [if_neg c, if_neg (fun q => c (ec.mp q))]
        exact ih f (i + 1) b x s2 s3 (by omega) (by omega) b0 b1 hb
theorem hw_oh (hT : cT C K L I R) (hX : txP C K L I R Y) (ht : 0 ≤ Y 0 41 ∧ Y 0 41 ≤ 20) {a : Nat} {i : Int32} (hi : 0 ≤ i ∧ i < 30) (h : alP I Y i a) (hm : I a 12 = mkY (cmY Y) (hsY Y) i) (hl : lsP C I Y) (hin : inP Y) (hn : 1 ≤ Y 10 i.toNatClampNeg ∧ Y 10 i.toNatClampNeg ≤ 4) : hw C L R I a = ohY Y i := by
  have hn0 : 0 ≤ Y 10 i.toNatClampNeg ∧ Y 10 i.toNatClampNeg ≤ 4 := ⟨Int32.le_trans (by decide) hn.1, hn.2⟩
  have e1 := lw_lo hi h hl hin hn0
  have e2 := fun w => lq_fc (I := I) (b := Y 20 i.toNatClampNeg) (s := Y 21 i.toNatClampNeg) (w := w) h hm
  obtain ⟨⟨h0, h1, h2, h3, h5⟩, -, -, ⟨h13, h14⟩, -⟩ := h
  unfold hw ohY
  rw [h13, e1]
  by_cases c : 0 ≤ Y 20 i.toNatClampNeg
  · rw [if_pos c, if_pos c]
    obtain ⟨⟨g1, gs, g2⟩, -⟩ := hin _ (a_lt30 hi) c
    have gs : 0 ≤ Y 21 i.toNatClampNeg ∧ Y 21 i.toNatClampNeg ≤ 199 := by
      clear hT hX hl hin e1 e2 hm h0 h1 h2 h3 h5 h13 h14
      grind
    have gk := cl_le0 ht.1 ht.2
    rw [show (20 : Int32).toNatClampNeg = 20 from rfl] at gk
    have hc := cf_co hT hX ht gs (Y 0 41).toNatClampNeg 30 0 (-1) 0 (by decide) ht.1 (by rw [show (0 : Int32).toNatClampNeg = 0 from rfl, Nat.zero_add]) (by omega) (by decide) (by clear hT hX hl hin e1 e2; grind) (Or.inl ⟨by decide, rfl⟩)
    unfold owY
    rw [← h14] at hc
    rcases hc with ⟨r1, r2⟩ | ⟨r1, r2⟩
    · rw [ow_zero r2, if_pos (by rw [← h14]; exact r1)]
    · have r1' : 0 ≤ coY Y (I a 14) := r1
      have hx := hX.2 _ r1' (coY_lo ht).2
      obtain ⟨k1, k2, k3, k4, k5, k6⟩ := hx
      rw [ow_pos (by rw [r2]; exact k2), r2]
      rw [show coI Y (I a 14) (Y 0 41).toNatClampNeg 0 (-1) = coY Y (I a 14) from rfl, k6, h13, h14, h2]
      rw [h14] at r1'
      rw [if_neg (Int32.not_lt.mpr r1')]
      have ev : wvY Y (coY Y (Y 21 i.toNatClampNeg)).toNatClampNeg (lq I a (Y 20 i.toNatClampNeg) (Y 21 i.toNatClampNeg) (loY Y i)) = wvY Y (coY Y (Y 21 i.toNatClampNeg)).toNatClampNeg (fcA Y i (Y 20 i.toNatClampNeg) (Y 21 i.toNatClampNeg) (loY Y i)) := xT_q _ _ (e2 _)
      rw [ev]
      unfold owC
      generalize wvY Y (coY Y (Y 21 i.toNatClampNeg)).toNatClampNeg (fcA Y i (Y 20 i.toNatClampNeg) (Y 21 i.toNatClampNeg) (loY Y i)) = v
      clear hT hX hl hin e1 e2 ev k6 k5
      grind
  · rw [if_neg c, if_neg c]
end YQ
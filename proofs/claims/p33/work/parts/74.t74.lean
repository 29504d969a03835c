/-! one ASK more -/
section ZH0
theorem fdO_end {α : Type} {g : Int32 → Int32 → Int32} {st : α → Int32 → α} {r : Int32} : ∀ (k : Nat) (a : Int32) (p : α), g r (a + Int32.ofNat k) = -9 → fdO g st r (k + 1) a p = fdO g st r k a p := by
  intro k
  induction k with
  | zero =>
    intro a p h
    rw [show Int32.ofNat 0 = 0 from rfl, Int32.add_zero] at h
    show fdI g st r a 6 0 p = p
    exact fdI_no h _ _ _
  | succ k ih =>
    intro a p h
    show fdO g st r (k + 1) (a + 1) (fdI g st r a 6 0 p) = fdO g st r k (a + 1) (fdI g st r a 6 0 p)
    refine ih _ _ ?_
    rw [← h, Int32.ofNat_add, Int32.add_assoc, Int32.add_comm (Int32.ofNat k)]
    rfl
theorem mfI_c {g : Int32 → Int32 → Int32} {hb hb' : Int32 → Int32} {a : Int32} (h : ∀ r : Int32, 0 ≤ r → r < 6 → hb r = hb' r) : ∀ (k : Nat) (r : Int32) (p : Int32 × Int32), 0 ≤ r → r ≤ 6 → r.toNatClampNeg + k ≤ 6 → mfI g hb a k r p = mfI g hb' a k r p := by
  intro k
  induction k with
  | zero => intro r p _ _ _; rfl
  | succ k ih =>
    intro r p h0 h6 hk
    have w : r < 6 := cl_lt2 h0 (by decide) (by rw [show (6 : Int32).toNatClampNeg = 6 from rfl]; omega)
    obtain ⟨-, s2, s3, s4⟩ := lp_st h0 w
    unfold mfI
    rw [h r h0 w, ih _ _ s2 s3 (by omega)]
theorem mkY_c {g : Int32 → Int32 → Int32} {hb hb' : Int32 → Int32} {a : Int32} (h : ∀ r : Int32, 0 ≤ r → r < 6 → hb r = hb' r) : mkY g hb a = mkY g hb' a := by
  unfold mkY
  rw [mfI_c h 6 0 (0, 0) (by decide) (by decide) (by decide)]
theorem mfI_no {g : Int32 → Int32 → Int32} {hb : Int32 → Int32} {a : Int32} (h : ∀ r : Int32, 0 ≤ r → r < 6 → g r a = -9) : ∀ (k : Nat) (r : Int32) (p : Int32 × Int32), 0 ≤ r → r ≤ 6 → r.toNatClampNeg + k ≤ 6 → mfI g hb a k r p = p := by
  intro k
  induction k with
  | zero => intro r p _ _ _; rfl
  | succ k ih =>
    intro r p h0 h6 hk
    have w : r < 6 := cl_lt2 h0 (by decide) (by rw [show (6 : Int32).toNatClampNeg = 6 from rfl]; omega)
    obtain ⟨-, s2, s3, s4⟩ := lp_st h0 w
    unfold mfI
    rw [if_pos (h r h0 w), ih _ _ s2 s3 (by omega)]
theorem mkY_no {g : Int32 → Int32 → Int32} {hb : Int32 → Int32} {a : Int32} (h : ∀ r : Int32, 0 ≤ r → r < 6 → g r a = -9) : mkY g hb a = -9 := by
  unfold mkY
  rw [mfI_no h 6 0 (0, 0) (by decide) (by decide) (by decide)]
  rfl
end ZH0
section ZH1
variable {d n t C c : Nat} {K L : Nat → Nat} {I I0 J J0 J1 J2 : Nat → Nat → Int32} {R : Nat → Nat → Nat} {P : Option Value → AH → Prop}
variable {Y Z W : Nat → Nat → Int32} {R' R1 : Nat → Nat → Nat} {K' L' : Nat → Nat}
/-- an ASK to come has no marks -/
theorem cm_nw (hs : siY Y) (h17 : 0 ≤ Y 0 17 ∧ Y 0 17 < 30) : ∀ r : Int32, 0 ≤ r → r < 6 → cmY Y r (Y 0 17) = -9 := fun r r0 r1 => by
  obtain ⟨ex, -, r6, a30⟩ := ix_180 (r := r) (a := Y 0 17) ⟨r0, r1⟩ h17
  unfold cmY
  rw [ex, if_pos]
  exact Classical.byContradiction (fun w => hs.1 _ w (hs.2.1 _ _ r6 a30 (Nat.le_refl _)))
theorem hs_nw (hs : siY Y) (h17 : 0 ≤ Y 0 17 ∧ Y 0 17 < 30) (hc : cmY Z = cmY Y) (h11 : Z 0 11 = Y 0 11) (hz : Z 0 17 = Y 0 17 + 1) : ∀ r : Int32, 0 ≤ r → r < 6 → hsY Z r = hsY Y r := fun r r0 r1 => by
  unfold hsY
  rw [h11, hz, hc]
  have e : hbY (cmY Y) (Y 0 17 + 1) r = hbY (cmY Y) (Y 0 17) r := by
    unfold hbY
    rw [(lp_st h17.1 h17.2).2.2.2, fdO_end]
    rw [Int32.zero_add, ← on_cl h17.1]
    exact cm_nw hs h17 r r0 r1
  rw [e]
theorem cu_more (hT : cT C K L I R) (hu : cuP C K L I R Y) (h17 : 0 ≤ Y 0 17 ∧ Y 0 17 < 30) {A : Nat} (kA : K A = 1) (hA : ∀ i : Int32, 0 ≤ i → i < Y 0 17 → ¬ R (C + 15) i.toNatClampNeg = A) (hJ : ∀ x j, ¬ x = A → ¬ (x = C + 14 ∧ j = 4) → J x j = I x j) (j4 : J (C + 14) 4 = Y 0 17 + 1) (hR : ∀ x j, ¬ (x = C + 15 ∧ j = (Y 0 17).toNatClampNeg) → ¬ (x = C ∧ j = 11) → R' x j = R x j) (rA : R' (C + 15) (Y 0 17).toNatClampNeg = A) (hz : ∀ k j, ¬ ((7 ≤ k ∧ k ≤ 21) ∧ j = (Y 0 17).toNatClampNeg) → ¬ (k = 0 ∧ (j = 17 ∨ j = 12)) → Z k j = Y k j) (z17 : Z 0 17 = Y 0 17 + 1) (f4 : J A 4 = Y 0 17) (f12 : J A 12 = -9) (hal : alP J Z (Y 0 17) A) (z20 : Z 20 (Y 0 17).toNatClampNeg = -9 ∧ Z 21 (Y 0 17).toNatClampNeg = -9) (z10 : 1 ≤ Z 10 (Y 0 17).toNatClampNeg ∧ Z 10 (Y 0 17).toNatClampNeg ≤ 4) (z7 : Z 7 (Y 0 17).toNatClampNeg = 1 → 0 ≤ Z 16 (Y 0 17).toNatClampNeg ∧ Z 16 (Y 0 17).toNatClampNeg < Y 0 17) (hd : siD C K J R' Z) : cuP C K L J R' Z := by
  have hS := hT.s
  have a1 := (hT.g_ask A kA).1
  have n30 : (Y 0 17).toNatClampNeg < 30 := a_lt30 h17
  have n1 : (Y 0 17 + 1).toNatClampNeg = (Y 0 17).toNatClampNeg + 1 := (lp_st h17.1 h17.2).2.2.2
  have u17 : 0 ≤ Y 0 17 + 1 ∧ Y 0 17 + 1 ≤ 30 := ⟨(lp_st h17.1 h17.2).2.1, (lp_st h17.1 h17.2).2.2.1⟩
  have hlt : ∀ o : Int32, 0 ≤ o → o < Y 0 17 + 1 → ¬ o = Y 0 17 → o < Y 0 17 := fun o o0 o1 e => by clear hu hal hd hz hR hJ hA; grind
  have zr : ∀ k, (1 ≤ k ∧ k ≤ 6) ∨ 22 ≤ k → Z k = Y k := fun k hk => funext (fun j => hz k j (by omega) (by omega))
  have z0 : ∀ j, ¬ j = 17 → ¬ j = 12 → Z 0 j = Y 0 j := fun j h h' => hz 0 j (by omega) (by omega)
  have zo : ∀ k j, ¬ k = 0 → ¬ j = (Y 0 17).toNatClampNeg → Z k j = Y k j := fun k j h h' => hz k j (by omega) (by omega)
  have no : ∀ o : Int32, 0 ≤ o → o < Y 0 17 → ¬ o.toNatClampNeg = (Y 0 17).toNatClampNeg := fun o o0 o1 => by have := cl_lt o0 o1; omega
  have cin : ∀ k j, k ≤ 43 → ¬ (k = 14 ∧ j = 4) → J (C + k) j = I (C + k) j := fun k j hk h => hJ _ _ (by omega) (by omega)
  have rin : ∀ k j, 1 ≤ k → ¬ (k = 15 ∧ j = (Y 0 17).toNatClampNeg) → R' (C + k) j = R (C + k) j := fun k j hk h => hR _ _ (by omega) (by omega)
  have rob : ∀ x j, C + 96 < x → R' x j = R x j := fun x j hx => hR _ _ (by omega) (by omega)
  have ro : ∀ o : Int32, 0 ≤ o → o < Y 0 17 → R' (C + 15) o.toNatClampNeg = R (C + 15) o.toNatClampNeg := fun o o0 o1 => rin _ _ (by omega) (by have := no o o0 o1; omega)
  have wt : ∀ x, wtY Z x = wtY Y x := fun x => by
    unfold wtY
    rw [zr 28 (by omega)]
  have wv : ∀ x, wvY Z x = wvY Y x := fun x => by
    funext fc
    unfold wvY
    rw [wt, zr 29 (by omega)]
  have hcm : cmY Z = cmY Y := cmY_eq (fun k => by rw [zr 38 (by omega)]) (fun k => by rw [zr 36 (by omega)])
  obtain ⟨⟨⟨p1, p2, p3⟩, ⟨q1, q2, q3, q4⟩, ⟨r1, r2, r3, r4⟩, ⟨x1, x2⟩, hy⟩, hse, ⟨sM, sT, -, sY⟩, hno, hst⟩ := hu
  have hhs := hs_nw sY h17 hcm (z0 11 (by omega) (by omega)) z17
  have kx : ∀ x, ¬ K x = 1 → ¬ x = A := fun x hx e => hx (by rw [e]; exact kA)
  have jx : ∀ x j, C + 96 < x → ¬ K x = 1 → J x j = I x j := fun x j hx hk => hJ _ _ (kx x hk) (by omega)
  have bq1 : ∀ b : Int32, 0 ≤ b → b < Y 0 6 → C + 96 < R (C + 16) b.toNatClampNeg := fun b b0 b1 => (hT.g_bnc _ (q3 b b0 b1).1).1
  have wh : ∀ b : Int32, 0 ≤ b → b < Y 0 6 → whC C J R' b = whC C I R b := fun b b0 b1 => by
    have g := (hT.g_bnc _ (q3 b b0 b1).1).2.1
    unfold whC
    rw [rin _ _ (by omega) (by omega), rob _ _ (bq1 b b0 b1)]
    exact funext (fun j => jx _ _ g.1 (by rw [g.2.1]; decide))
  have sn : ∀ b : Int32, 0 ≤ b → b < Y 0 6 → snC C J R' b = snC C I R b := fun b b0 b1 => by
    have g := (hT.g_bnc _ (q3 b b0 b1).1).2.2.1
    unfold snC
    rw [rin _ _ (by omega) (by omega), rob _ _ (bq1 b b0 b1)]
    exact funext (fun j => jx _ _ g.1 (by rw [g.2.1]; decide))
  refine ⟨⟨⟨by rw [cin _ _ (by omega) (by omega), z0 0 (by omega) (by omega)]; exact p1, fun j => by rw [cin _ _ (by omega) (by omega), zr 1 (by omega)]; exact p2 j, lsP_e p3 (fun j => cin _ _ (by omega) (by omega)) (fun k j hk => hz k j (by unfold kL at hk; omega) (by unfold kL at hk; omega))⟩, ⟨by rw [cin _ _ (by omega) (by omega), z0 6 (by omega) (by omega)]; exact q1, by rw [cin _ _ (by omega) (by omega), z0 9 (by omega) (by omega)]; exact q2, fun b b0 b1 => ?_, ?_⟩, ⟨by rw [j4, z17], fun o o0 o1 => ?_, fun o o0 o1 => ?_, fun o o0 o1 => ?_⟩, ⟨by rw [cin _ _ (by omega) (by omega), z0 41 (by omega) (by omega)]; exact x1, fun k k0 k1 => ?_⟩, ?_⟩, ?_, ⟨siM_e sM (fun k j hk => cin _ _ (by omega) (by omega)) (fun k j hk => hz k j (by unfold kM at hk; omega) (by unfold kM at hk; omega)), siT_e sT (fun k j hk => cin _ _ (by omega) (by omega)) (fun k j hk => hz k j (by unfold kT at hk; omega) (by unfold kT at hk; omega)), hd, ?_⟩, ?_, ?_⟩
  · rw [z0 6 (by omega) (by omega)] at b1
    obtain ⟨k1, k2, k3, k4⟩ := q3 b b0 b1
    rw [rin _ _ (by omega) (by omega), jx _ _ (bq1 b b0 b1) (by rw [k1]; decide), jx _ _ (bq1 b b0 b1) (by rw [k1]; decide), zr 5 (by omega), zr 6 (by omega)]
    exact ⟨k1, k2, k3, k4⟩
  · refine ⟨fun o o0 o1 o2 => ?_, fun b x b0 b1 y0 y1 => ?_⟩
    · rw [z17] at o1
      by_cases e : o = Y 0 17
      · rw [e, z20.1] at o2
        exact absurd o2 (by decide)
      · have ho := hlt o o0 o1 e
        have n := no o o0 ho
        rw [zo 20 _ (by decide) n] at o2 ⊢
        rw [zo 21 _ (by decide) n, zo 10 _ (by decide) n, z0 6 (by omega) (by omega)]
        obtain ⟨s1, s2, s3, s4⟩ := q4.1 o o0 ho o2
        refine ⟨s1, s2, s3, fun y y0 y1 => ?_⟩
        rw [wh _ o2 s1, sn _ o2 s1, zr 22 (by omega)]
        exact s4 y y0 y1
    · rw [z0 6 (by omega) (by omega)] at b1
      rw [wh _ b0 b1, sn _ b0 b1]
      refine (q4.2 b x b0 b1 y0 y1).imp id (fun ⟨o, i, o0, o1, o2, i0, i1, e⟩ => ⟨o, i, o0, ?_, ?_, i0, ?_, ?_⟩)
      · rw [z17]
        clear hal hd hz hR hJ hA hhs hse hst q4 r3 r4 x2 p3 sY sM sT hno hy
        grind
      · rw [zo 20 _ (by decide) (no o o0 o1)]
        exact o2
      · rw [zo 10 _ (by decide) (no o o0 o1)]
        exact i1
      · rw [zo 21 _ (by decide) (no o o0 o1)]
        exact e
  · rw [z17] at o1
    by_cases e : o = Y 0 17
    · rw [e, rA, f4]
      exact ⟨kA, by omega, rfl⟩
    · have ho := hlt o o0 o1 e
      rw [ro o o0 ho, hJ _ _ (hA o o0 ho) (by have := (hT.g_ask _ (r2 o o0 ho).1).1; omega)]
      exact r2 o o0 ho
  · rw [z17] at o1
    by_cases e : o = Y 0 17
    · rw [e, rA, f12, hcm, mkY_no (cm_nw sY h17)]
    · have ho := hlt o o0 o1 e
      rw [ro o o0 ho, hJ _ _ (hA o o0 ho) (by have := (hT.g_ask _ (r2 o o0 ho).1).1; omega), hcm, mkY_c hhs]
      exact r3 o o0 ho
  · rw [z17] at o1
    by_cases e : o = Y 0 17
    · rw [e, rA]
      exact hal
    · have ho := hlt o o0 o1 e
      have n := no o o0 ho
      have hl := r4 o o0 ho
      have ej : ∀ j, J (R (C + 15) o.toNatClampNeg) j = I (R (C + 15) o.toNatClampNeg) j := fun j => hJ _ _ (hA o o0 ho) (by have := (hT.g_ask _ (r2 o o0 ho).1).1; omega)
      have er : ∀ k, ¬ k = 0 → Z k o.toNatClampNeg = Y k o.toNatClampNeg := fun k hk => zo k _ hk n
      rw [ro o o0 ho]
      unfold alP at hl ⊢
      simp only [ej]
      rw [er 7 (by decide), er 8 (by decide), er 9 (by decide), er 10 (by decide), er 11 (by decide), er 12 (by decide), er 13 (by decide), er 14 (by decide), er 15 (by decide), er 16 (by decide), er 17 (by decide), er 18 (by decide), er 19 (by decide), er 20 (by decide), er 21 (by decide)]
      exact hl
  · rw [z0 41 (by omega) (by omega)] at k1
    obtain ⟨k11, k12, k13, k14, k15, k16⟩ := x2 k k0 k1
    have g := hT.g_txt _ k11
    have hcd : J (R (R (C + 8) k.toNatClampNeg) 2) = I (R (R (C + 8) k.toNatClampNeg) 2) := funext (fun m => jx _ _ g.2.1 (by rw [g.2.2.1]; decide))
    rw [rin _ _ (by omega) (by omega), rob _ _ g.1, jx _ _ g.1 (by rw [k11]; decide), jx _ _ g.1 (by rw [k11]; decide), jx _ _ g.1 (by rw [k11]; decide), hcd, wt, wv, zr 30 (by omega), zr 31 (by omega)]
    exact ⟨k11, k12, k13, k14, k15, k16⟩
  · obtain ⟨h1, h2, h3, h4, h5, h6, h7, h8, h9, h10⟩ := hy
    refine ⟨by rw [z0 41 (by omega) (by omega)]; exact h1, fun j => ?_, fun i i0 i1 => ?_, by rw [z0 9 (by omega) (by omega)]; exact h4, by rw [z17]; exact u17, by rw [z0 6 (by omega) (by omega)]; exact h6, fun a ha a0 => ?_, fun k q => ?_, fun b => by rw [zr 6 (by omega)]; exact h9 b, fun i i0 i1 => ?_⟩
    · by_cases e : j = (Y 0 17).toNatClampNeg
      · rw [e]
        exact ⟨Int32.le_trans (by decide) z10.1, z10.2⟩
      · rw [zo 10 _ (by decide) e]
        exact h2 j
    · rw [z17] at i1
      by_cases e : i = Y 0 17
      · rw [e]
        exact z10.1
      · have ho := hlt i i0 i1 e
        rw [zo 10 _ (by decide) (no i i0 ho)]
        exact h3 i i0 ho
    · by_cases e : a = (Y 0 17).toNatClampNeg
      · rw [e, z20.1] at a0
        exact absurd a0 (by decide)
      · rw [zo 20 _ (by decide) e] at a0 ⊢
        rw [zo 21 _ (by decide) e, zo 10 _ (by decide) e]
        exact h7 a ha a0
    · rw [zr 38 (by omega)] at q
      rw [zr 36 (by omega)]
      exact h8 k q
    · rw [z17] at i1 ⊢
      by_cases e : i = Y 0 17
      · rw [e]
        refine fun q => ⟨(z7 q).1, ?_⟩
        have := (z7 q).2
        clear hal hd hz hR hJ hA hhs hse hst q4 r3 r4 x2 p3 sY sM sT hno h10 z7
        grind
      · have ho := hlt i i0 i1 e
        rw [zo 7 _ (by decide) (no i i0 ho), zo 16 _ (by decide) (no i i0 ho)]
        refine fun q => ⟨(h10 i i0 ho q).1, ?_⟩
        have := (h10 i i0 ho q).2
        clear hal hd hz hR hJ hA hhs hse hst q4 r3 r4 x2 p3 sY sM sT hno h10 z7
        grind
  · obtain ⟨s1, s2, s3, s4⟩ := hse
    unfold seP
    rw [z0 6 (by omega) (by omega), z0 41 (by omega) (by omega)]
    refine ⟨fun b b0 b1 => ?_, fun b c b0 b1 c0 c1 e => ?_, fun k b k0 k1 b0 b1 => ?_, fun b c b0 b1 c0 c1 => ?_⟩
    · rw [rin _ _ (by omega) (by omega), rob _ _ (bq1 b b0 b1), rob _ _ (bq1 b b0 b1), rob _ _ (bq1 b b0 b1)]
      exact s1 b b0 b1
    · rw [rin _ _ (by omega) (by omega), rin _ _ (by omega) (by omega)] at e
      exact s2 b c b0 b1 c0 c1 e
    · rw [rin 8 _ (by omega) (by omega), rin 16 _ (by omega) (by omega), rob _ _ (hT.g_txt _ (x2 k k0 k1).1).1, rob _ _ (bq1 b b0 b1)]
      exact s3 k b k0 k1 b0 b1
    · rw [rin _ _ (by omega) (by omega), rin _ _ (by omega) (by omega), rob _ _ (bq1 b b0 b1)]
      exact s4 b c b0 b1 c0 c1
  · obtain ⟨y1, y2, y3, y4, y5, y6, y7, y8⟩ := sY
    unfold siY
    rw [zr 38 (by omega), zr 37 (by omega), zr 47 (by omega), zr 2 (by omega), zr 3 (by omega), zr 4 (by omega), z0 0 (by omega) (by omega), z0 2 (by omega) (by omega), z17, n1]
    refine ⟨y1, fun r a hr ha hle => y2 r a hr ha (by omega), y3, fun a o ha ho hle => y4 a o ha ho (by omega), fun x hx => ?_, y6, y7, y8⟩
    rw [z0 41 (by omega) (by omega)] at hx
    rw [wt, zr 29 (by omega)]
    exact y5 x hx
  · intro a ha hn
    by_cases e : a = (Y 0 17).toNatClampNeg
    · rw [e]
      exact z20
    · rw [zo 20 _ (by decide) e] at hn ⊢
      rw [zo 21 _ (by decide) e]
      exact hno a ha hn
  · unfold stP at hst ⊢
    rw [z0 41 (by omega) (by omega), zr 31 (by omega)]
    refine ⟨fun i i0 i1 => ?_, fun i o i0 i1 o0 o1 e => ?_⟩
    · have k11 := (x2 i i0 i1).1
      rw [rin _ _ (by omega) (by omega), jx _ _ (hT.g_txt _ k11).1 (by rw [k11]; decide)]
      exact hst.1 i i0 i1
    · rw [rin _ _ (by omega) (by omega), rin _ _ (by omega) (by omega)] at e
      exact hst.2 i o i0 i1 o0 o1 e
end ZH1
section ZH2
variable {d n t M : Nat} {K L : Nat → Nat} {I I0 J J0 J1 J2 : Nat → Nat → Int32} {R : Nat → Nat → Nat} {P : Option Value → AH → Prop} {f : Nat → Int32} {e : Int32}
variable {Y Z W A B : Nat → Nat → Int32}
theorem gs_mk2 {M : Nat} (hg : gs M I0 I Y) (hR : mR M J) (hx : ∀ x j, (x < M ∨ M + 52 < x) → J x j = I x j) (h22 : ∀ j, Z 22 j = Y 22 j) (e22 : ∀ j, J (M + 22) j = I (M + 22) j) (hq : ∀ o : Int32, 0 ≤ o → o < 30 → 0 ≤ Z 20 o.toNatClampNeg → Z 20 o.toNatClampNeg = Y 20 o.toNatClampNeg ∧ Z 10 o.toNatClampNeg = Y 10 o.toNatClampNeg) (hw : ∀ k j, ps1 k j → J (M + k) j = Z k j) : gs M I0 J Z := ⟨hR, fun x j p => (hx x j p).trans (hg.2.1 x j p), hw, fun o o0 o1 o2 i i0 i1 => by
  obtain ⟨e1, e2⟩ := hq o o0 o1 o2
  rw [e1] at o2
  rw [e2] at i1
  rw [h22]
  exact (e22 _).trans (hg.2.2.2 o o0 o1 o2 i i0 i1)⟩
theorem up_S {S : Nat → Nat → Prop} (h : ∀ k j, S k j → A k j = B k j) {x i : Nat} {v w : Int32} (hv : v = w) : ∀ k j, S k j → upY A x i v k j = upY B x i w k j := fun k j p => by
  unfold upY
  by_cases e : k = x ∧ j = i
  · rw [if_pos e, if_pos e, hv]
  · rw [if_neg e, if_neg e]
    exact h k j p
theorem yv_up {M k j : Nat} {v : Int32} : yv M (a_ui I (M + k) j v) = upY (yv M I) k j v := by
  funext x i
  unfold upY
  show a_ui I (M + k) j v (M + x) i = if x = k ∧ i = j then v else I (M + x) i
  rw [ui_ap]
  by_cases e : x = k ∧ i = j
  · rw [if_pos ⟨by omega, e.2⟩, if_pos e]
  · rw [if_neg (fun q => e ⟨by omega, q.2⟩), if_neg e]
theorem yv_up0 {M j : Nat} {v : Int32} : yv M (a_ui I M j v) = upY (yv M I) 0 j v := yv_up (k := 0)
end ZH2
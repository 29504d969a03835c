/-! words that no place hangs in change -/
section ZA0
variable {d n t C c : Nat} {K L : Nat → Nat} {I I0 J J0 J1 J2 : Nat → Nat → Int32} {R : Nat → Nat → Nat} {P : Option Value → AH → Prop}
variable {Y Z W : Nat → Nat → Int32} {R' R1 : Nat → Nat → Nat} {K' L' : Nat → Nat}
/-- rows of asks, benches, texts and places are the same -/
def qE (Y Z : Nat → Nat → Int32) : Prop := (∀ k, (5 ≤ k ∧ k ≤ 22) ∨ (28 ≤ k ∧ k ≤ 31) → Z k = Y k) ∧ (∀ j, j = 6 ∨ j = 17 ∨ j = 41 ∨ (12 ≤ j ∧ j ≤ 16) → Z 0 j = Y 0 j)
/-- objects are the same, but for marks -/
def fE (C : Nat) (K : Nat → Nat) (I J : Nat → Nat → Int32) : Prop := (∀ x j, K x = 1 → ¬ j = 12 → J x j = I x j) ∧ (∀ x j, (K x = 3 ∨ K x = 11 ∨ (C + 96 < x ∧ K x = 20)) → J x j = I x j) ∧ J (C + 14) 4 = I (C + 14) 4 ∧ J (C + 14) 5 = I (C + 14) 5 ∧ J (C + 7) 3 = I (C + 7) 3
def kM (k j : Nat) : Prop := (k = 0 ∧ (j = 10 ∨ j = 11)) ∨ (35 ≤ k ∧ k ≤ 38) ∨ k = 47
def kT (k j : Nat) : Prop := (k = 0 ∧ (j = 2 ∨ j = 40 ∨ j = 79)) ∨ (2 ≤ k ∧ k ≤ 4) ∨ k = 27 ∨ k = 52
def kY (k j : Nat) : Prop := (k = 0 ∧ (j = 0 ∨ j = 2 ∨ j = 17 ∨ j = 41)) ∨ (2 ≤ k ∧ k ≤ 4) ∨ (28 ≤ k ∧ k ≤ 29) ∨ (37 ≤ k ∧ k ≤ 38) ∨ k = 47
def kL (k j : Nat) : Prop := (k = 0 ∧ (j = 0 ∨ j = 2)) ∨ (2 ≤ k ∧ k ≤ 4)
def kK (k j : Nat) : Prop := (k = 0 ∧ (j = 11 ∨ j = 17)) ∨ k = 36 ∨ k = 38
theorem siM_e (hs : siM C I Y) (hJ : ∀ k j, ((18 ≤ k ∧ k ≤ 20) ∨ k = 36 ∨ (k = 22 ∧ j = 8) ∨ (k = 17 ∧ j = 5)) → J (C + k) j = I (C + k) j) (hz : ∀ k j, kM k j → Z k j = Y k j) : siM C J Z := by
  obtain ⟨⟨h1, h2⟩, h3, h4, h5, h6⟩ := hs
  refine ⟨⟨by rw [hJ _ _ (by omega), hz 0 10 (by unfold kM; omega)]; exact h1, by rw [hJ _ _ (by omega), hz 0 11 (by unfold kM; omega)]; exact h2⟩, fun k hk => ?_, fun r g hr hg => ?_, fun r a hr ha => ?_, fun a o ha ho => ?_⟩
  · rw [hJ _ _ (by omega), hz 38 k (by unfold kM; omega), hz 36 k (by unfold kM; omega)]
    exact h3 k hk
  · rw [hJ _ _ (by omega), hz 35 _ (by unfold kM; omega)]
    exact h4 r g hr hg
  · rw [hJ _ _ (by omega), hz 37 _ (by unfold kM; omega)]
    exact h5 r a hr ha
  · rw [hJ _ _ (by omega), hz 47 _ (by unfold kM; omega)]
    exact h6 a o ha ho
theorem siT_e (hs : siT C I Y) (hJ : ∀ k j, ((4 ≤ k ∧ k ≤ 6) ∨ k = 12 ∨ k = 43 ∨ (k = 1 ∧ j = 5) ∨ (k = 11 ∧ j = 2) ∨ (k = 0 ∧ j = 10)) → J (C + k) j = I (C + k) j) (hz : ∀ k j, kT k j → Z k j = Y k j) : siT C J Z := by
  obtain ⟨⟨t1, t2⟩, ⟨t3, t4⟩, t5, t6⟩ := hs
  have c0 : J C 10 = I C 10 := hJ 0 10 (by omega)
  refine ⟨⟨by rw [hJ _ _ (by omega), hz 0 2 (by unfold kT; omega)]; exact t1, fun j hj => ?_⟩, ⟨by rw [hJ _ _ (by omega), hz 0 40 (by unfold kT; omega)]; exact t3, fun j => by rw [hJ _ _ (by omega), hz 27 j (by unfold kT; omega)]; exact t4 j⟩, by rw [c0, hz 0 79 (by unfold kT; omega)]; exact t5, fun j hj => ?_⟩
  · rw [hz 0 2 (by unfold kT; omega)] at hj
    rw [hJ _ _ (by omega), hJ _ _ (by omega), hJ _ _ (by omega), hz 2 j (by unfold kT; omega), hz 3 j (by unfold kT; omega), hz 4 j (by unfold kT; omega)]
    exact t2 j hj
  · rw [hz 0 79 (by unfold kT; omega)] at hj
    rw [hJ _ _ (by omega), hz 52 j (by unfold kT; omega)]
    exact t6 j hj
theorem siY_e (hs : siY Y) (hz : ∀ k j, kY k j → Z k j = Y k j) : siY Z := by
  have zr : ∀ k, ((2 ≤ k ∧ k ≤ 4) ∨ (28 ≤ k ∧ k ≤ 29) ∨ (37 ≤ k ∧ k ≤ 38) ∨ k = 47) → Z k = Y k := fun k hk => funext (fun j => hz k j (by unfold kY; omega))
  have wt : ∀ x, wtY Z x = wtY Y x := fun x => by
    unfold wtY
    rw [zr 28 (by omega)]
  obtain ⟨h1, h2, h3, h4, h5, h6, h7, h8⟩ := hs
  unfold siY
  rw [zr 38 (by omega), zr 37 (by omega), zr 47 (by omega), zr 2 (by omega), zr 3 (by omega), zr 4 (by omega), hz 0 0 (by unfold kY; omega), hz 0 2 (by unfold kY; omega), hz 0 17 (by unfold kY; omega)]
  refine ⟨h1, h2, h3, h4, fun x hx => ?_, h6, h7, h8⟩
  rw [hz 0 41 (by unfold kY; omega)] at hx
  rw [wt, zr 29 (by omega)]
  exact h5 x hx
theorem lk_e (hz : ∀ k j, kL k j → Z k j = Y k j) : lkY Z = lkY Y := by
  have zr : ∀ k, 2 ≤ k ∧ k ≤ 4 → Z k = Y k := fun k hk => funext (fun j => hz k j (by unfold kL; omega))
  funext x
  unfold lkY
  rw [zr 2 (by omega), zr 3 (by omega), zr 4 (by omega), hz 0 0 (by unfold kL; omega), hz 0 2 (by unfold kL; omega)]
theorem lsP_e (hs : lsP C I Y) (hJ : ∀ j, J (C + 3) j = I (C + 3) j) (hz : ∀ k j, kL k j → Z k j = Y k j) : lsP C J Z := fun s s0 s1 => by
  unfold liY
  rw [hJ, lk_e hz]
  exact hs s s0 s1
theorem cmk_e (hz : ∀ k j, kK k j → Z k j = Y k j) : cmY Z = cmY Y ∧ hsY Z = hsY Y := by
  have e : cmY Z = cmY Y := cmY_eq (fun k => by rw [hz 38 _ (by unfold kK; omega)]) (fun k => by rw [hz 36 _ (by unfold kK; omega)])
  refine ⟨e, ?_⟩
  funext r
  unfold hsY
  rw [hz 0 11 (by unfold kK; omega), hz 0 17 (by unfold kK; omega), e]
theorem mr_e (ha : akP C K I R Y) (hs : mrP C I R Y) (hJ : ∀ x, K x = 1 → J x 12 = I x 12) (hz : ∀ k j, kK k j → Z k j = Y k j) : mrP C J R Z := fun i i0 i1 => by
  rw [hz 0 17 (by unfold kK; omega)] at i1
  rw [hJ _ (ha i i0 i1).1, (cmk_e hz).1, (cmk_e hz).2]
  exact hs i i0 i1
theorem mk_e (hs : mkP Y) (hz : ∀ k j, kK k j → Z k j = Y k j) : mkP Z := fun k q => by
  rw [hz 38 _ (by unfold kK; omega)] at q
  rw [hz 36 _ (by unfold kK; omega)]
  exact hs k q
theorem cu_gen (hT : cT C K L I R) (hu : cuP C K L I R Y) (hq : qE Y Z) (hf : fE C K I J) (a1 : J (C + 1) 6 = Z 0 0) (a2 : ∀ j, J (C + 2) j = Z 1 j) (a3 : lsP C J Z) (b2 : J (C + 14) 6 = Z 0 9 ∧ (0 ≤ Z 0 9 ∧ Z 0 9 ≤ 3)) (mr : mrP C J R Z) (mk : mkP Z) (sM : siM C J Z) (sT : siT C J Z) (sY : siY Z) (d12 : ¬ R C 11 = 0 → J (R C 11) 12 = I (R C 11) 12) : cuP C K L J R Z := by
  obtain ⟨⟨⟨p1, p2, p3⟩, ⟨q1, q2, q3, q4⟩, ⟨r1, r2, r3, r4⟩, ⟨x1, x2⟩, hy⟩, hse, ⟨-, -, ⟨d1, d2⟩, -⟩, hno, hst⟩ := hu
  obtain ⟨hr, h0⟩ := hq
  obtain ⟨f1, f2, f3, f4, f5⟩ := hf
  have z6 := h0 6 (by omega)
  have z17 := h0 17 (by omega)
  have z41 := h0 41 (by omega)
  have wt : ∀ x, wtY Z x = wtY Y x := fun x => by
    unfold wtY
    rw [hr 28 (by omega)]
  have wv : ∀ x, wvY Z x = wvY Y x := fun x => by
    funext fc
    unfold wvY
    rw [wt, hr 29 (by omega)]
  refine ⟨⟨⟨a1, a2, a3⟩, ⟨by rw [f4, z6]; exact q1, b2.1, fun b b0 b1 => ?_, ?_⟩, ⟨by rw [f3, z17]; exact r1, fun o o0 o1 => ?_, mr, fun o o0 o1 => ?_⟩, ⟨by rw [f5, z41]; exact x1, fun k k0 k1 => ?_⟩, ?_⟩, ?_, ⟨sM, sT, ⟨by rw [h0 12 (by omega)]; exact d1, fun hd => ?_⟩, sY⟩, ?_, ?_⟩
  · rw [z6] at b1
    obtain ⟨k1, k2, k3, k4⟩ := q3 b b0 b1
    rw [f2 _ _ (Or.inl k1), f2 _ _ (Or.inl k1), hr 5 (by omega), hr 6 (by omega)]
    exact ⟨k1, k2, k3, k4⟩
  · have hq : plP (whC C J R) (snC C J R) Y := plP_eq q4 (fun b b0 b1 => by
      have g := (hT.g_bnc _ (q3 b b0 b1).1).2.1
      unfold whC
      funext m
      exact f2 _ _ (Or.inr (Or.inr ⟨g.1, g.2.1⟩))) (fun b b0 b1 => by
      have g := (hT.g_bnc _ (q3 b b0 b1).1).2.2.1
      unfold snC
      funext m
      exact f2 _ _ (Or.inr (Or.inr ⟨g.1, g.2.1⟩)))
    unfold plP at hq ⊢
    rw [z17, z6, hr 20 (by omega), hr 21 (by omega), hr 10 (by omega), hr 22 (by omega)]
    exact hq
  · rw [z17] at o1
    obtain ⟨k1, k2, k3⟩ := r2 o o0 o1
    exact ⟨k1, k2, by rw [f1 _ _ k1 (by decide)]; exact k3⟩
  · rw [z17] at o1
    have ko := (r2 o o0 o1).1
    have hl := r4 o o0 o1
    have e : ∀ j, ¬ j = 12 → J (R (C + 15) o.toNatClampNeg) j = I (R (C + 15) o.toNatClampNeg) j := fun j hj => f1 _ _ ko hj
    have er : ∀ k, 7 ≤ k ∧ k ≤ 21 → Z k = Y k := fun k hk => hr k (by omega)
    unfold alP at hl ⊢
    rw [e 0 (by decide), e 1 (by decide), e 2 (by decide), e 3 (by decide), e 5 (by decide), e 6 (by decide), e 7 (by decide), e 8 (by decide), e 9 (by decide), e 10 (by decide), e 11 (by decide), e 13 (by decide), e 14 (by decide), e 15 (by decide), e 16 (by decide), er 7 (by omega), er 8 (by omega), er 9 (by omega), er 10 (by omega), er 11 (by omega), er 12 (by omega), er 13 (by omega), er 14 (by omega), er 15 (by omega), er 16 (by omega), er 17 (by omega), er 18 (by omega), er 19 (by omega), er 20 (by omega), er 21 (by omega)]
    exact hl
  · rw [z41] at k1
    obtain ⟨k11, k12, k13, k14, k15, k16⟩ := x2 k k0 k1
    have g := hT.g_txt _ k11
    have hcd : J (R (R (C + 8) k.toNatClampNeg) 2) = I (R (R (C + 8) k.toNatClampNeg) 2) := funext (fun m => f2 _ _ (Or.inr (Or.inr ⟨g.2.1, g.2.2.1⟩)))
    rw [f2 _ _ (Or.inr (Or.inl k11)), f2 _ _ (Or.inr (Or.inl k11)), f2 _ _ (Or.inr (Or.inl k11)), hcd, wt, wv, hr 30 (by omega), hr 31 (by omega)]
    exact ⟨k11, k12, k13, k14, k15, k16⟩
  · obtain ⟨h1, h2, h3, h4, h5, h6, h7, h8, h9, h10⟩ := hy
    refine ⟨by rw [z41]; exact h1, by rw [hr 10 (by omega)]; exact h2, by rw [z17, hr 10 (by omega)]; exact h3, b2.2, by rw [z17]; exact h5, by rw [z6]; exact h6, ?_, mk, ?_, by rw [z17, hr 7 (by omega), hr 16 (by omega)]; exact h10⟩
    · unfold inP at h7 ⊢
      rw [hr 20 (by omega), hr 21 (by omega), hr 10 (by omega)]
      exact h7
    · unfold hbP at h9 ⊢
      rw [hr 6 (by omega)]
      exact h9
  · unfold seP at hse ⊢
    rw [z6, z41]
    exact hse
  · obtain ⟨e1, e2, e3, e4⟩ := d2 hd
    have e : ∀ j, ¬ j = 12 → J (R C 11) j = I (R C 11) j := fun j hj => f1 _ _ e1 hj
    rw [e 0 (by decide), e 1 (by decide), e 2 (by decide), e 3 (by decide), e 13 (by decide), e 14 (by decide), e 15 (by decide), e 16 (by decide), d12 hd, h0 13 (by omega), h0 14 (by omega), h0 15 (by omega), h0 16 (by omega), z17]
    exact ⟨e1, e2, e3, e4⟩
  · unfold noP at hno ⊢
    rw [hr 20 (by omega), hr 21 (by omega)]
    exact hno
  · unfold stP at hst ⊢
    rw [z41, hr 31 (by omega)]
    exact ⟨fun i i0 i1 => by rw [f2 _ _ (Or.inr (Or.inl (x2 i i0 i1).1))]; exact hst.1 i i0 i1, hst.2⟩
/-- a refusal leaves all but its count -/
def rfQ (C c n t : Nat) (K L : Nat → Nat) (I : Nat → Nat → Int32) (R : Nat → Nat → Nat) (J : Nat → Nat → Int32) : Prop := cH C c n t K L J R ∧ ∀ x j, ¬ x = C + 42 → J x j = I x j
theorem fE_of {m : Nat} (hH : cH C c m t K L I R) (hX : ∀ x j, C + 43 < x → J x j = I x j) (h14 : J (C + 14) 4 = I (C + 14) 4 ∧ J (C + 14) 5 = I (C + 14) 5) (h7 : J (C + 7) 3 = I (C + 7) 3) : fE C K I J := by
  have hT := hH.1
  refine ⟨fun x j kx _ => hX _ _ (by have := (hT.g_ask x kx).1; omega), fun x j kx => hX _ _ ?_, h14.1, h14.2, h7⟩
  rcases kx with kx | kx | kx
  · have := (hT.g_bnc x kx).1
    omega
  · have := (hT.g_txt x kx).1
    omega
  · omega
/-- the words stay, and all cells but those that nothing hangs in -/
theorem cu_re {m : Nat} (hH : cH C c m t K L I R) (hu : cuP C K L I R Y) (h : rfQ C c m t K L I R J) : cuP C K L J R Y := by
  have hT := hH.1
  have hJ : ∀ k j, ¬ k = 42 → J (C + k) j = I (C + k) j := fun k j hk => h.2 _ _ (by omega)
  have hX : ∀ x j, C + 43 < x → J x j = I x j := fun x j hx => h.2 _ _ (by omega)
  have hz : ∀ k j : Nat, ¬ (k = 0 ∧ j = 1000) → Y k j = Y k j := fun _ _ _ => rfl
  exact cu_gen hT hu ⟨fun k hk => funext (fun j => hz k j (by omega)), fun j hj => hz 0 j (by omega)⟩ (fE_of hH hX ⟨hJ 14 4 (by omega), hJ 14 5 (by omega)⟩ (hJ 7 3 (by omega))) (by rw [hJ 1 6 (by omega), hz 0 0 (by omega)]; exact hu.1.1.1) (fun j => by rw [hJ 2 j (by omega), hz 1 j (by omega)]; exact hu.1.1.2.1 j) (lsP_e hu.1.1.2.2 (fun j => hJ 3 j (by omega)) (fun k j hk => hz k j (by unfold kL at hk; omega))) ⟨by rw [hJ 14 6 (by omega), hz 0 9 (by omega)]; exact hu.1.2.1.2.1, by rw [hz 0 9 (by omega)]; exact hu.1.2.2.2.2.2.2.2.1⟩ (mr_e hu.1.2.2.1.2.1 hu.1.2.2.1.2.2.1 (fun x kx => hX _ _ (by have := (hT.g_ask x kx).1; omega)) (fun k j hk => hz k j (by unfold kK at hk; omega))) (mk_e hu.1.2.2.2.2.2.2.2.2.2.2.2.1 (fun k j hk => hz k j (by unfold kK at hk; omega))) (siM_e hu.2.2.1.1 (fun k j hk => hJ k j (by omega)) (fun k j hk => hz k j (by unfold kM at hk; omega))) (siT_e hu.2.2.1.2.1 (fun k j hk => hJ k j (by omega)) (fun k j hk => hz k j (by unfold kT at hk; omega))) (siY_e hu.2.2.1.2.2.2 (fun k j hk => hz k j (by unfold kY at hk; omega))) (fun e => hX _ _ (by have := (hT.g_ask _ (hu.2.2.1.2.2.1.2 e).1).1; omega))
theorem cr_refuse (hH : cH C c (n + 1) t K L I R) {v : Int32} (hP : ∀ J, rfQ C c (n + 1) t K L I R J → P (some (.int v)) (n + 1, t, K, L, J, R)) : a_does (d + 1) 10 [a_rf C, .int v] (n + 1, t, K, L, I, R) P := by
  have hT := hH.1
  have hS := hT.s
  have hw : ∀ k w, P (some (.int v)) (n + 1, t, K, L, (a_ui I (C + 42) k w), R) := fun k w => hP _ ⟨cH_J hH (sT_BeamHall_refused hT), fun x j e => by rw [ui_ap, if_neg (fun q => e q.1)]⟩
  have hw0 := hP I ⟨hH, fun _ _ _ => rfl⟩
  clear hP hH hT
  rw [a_enter1 (M := a_m10) rfl (a_cat_rf (a_cat_int a_cat_nil)) (show 2 ≤ 2 by decide)]
  show a_at _ (a_xm a_m10) 0 [some (a_rf C), some (.int v)] [] _ _
  repeat' first
    | with_reducible apply And.intro
    | with_reducible assumption
    | with_reducible intro _
    | with_reducible apply hw0
    | with_reducible apply hw
    | simp only [q10_0, q10_1, q10_4, q10_5, q10_7, q10_10, q10_11, q10_14, q10_15, q10_16, q10_17, q10_18, q10_19, q10_20, q10_21, q10_22, k_0 hS, z_C hS, r_0_8 hS, k_42 hS, l_42 hS, z_42, as_nil, as_i, as_r, Nat.reduceAdd, Nat.reduceLeDiff, z_eq0, z_eq1, z_or, z_em, Classical.not_not, not_false_eq_true, not_true_eq_false, true_and, and_true, false_and, and_false, and_self, true_implies, false_implies, implies_true, Option.toList_some, Option.toList_none, List.cons_append, List.nil_append, Nat.add_eq_zero_iff, a_nl_i, a_nl_r, a_nl_n, true_or, or_true, eq_self, a_isRA_22, a_isRA_24, a_isRA_32, a_isA_20, ok_4, ok_5, ok_6, ok_7, ok_9, ok_20, ok_21, ok_30, ok_50, ok_180, ok_192, ok_200]
  all_goals ((try clear ih); (try clear hP); (try clear hl); (try clear hq); (try clear a3); grind [ui_ap])
end ZA0
section ZA1
variable {d n t C c n0 n' n'' t' : Nat} {K L K0 L0 K' L' K'' L'' : Nat → Nat} {I I0 J J0 J1 J2 : Nat → Nat → Int32} {R R0 R' R'' : Nat → Nat → Nat} {P : Option Value → AH → Prop}
theorem kr_mode (hH : cH C c (n + 1) t K L I R) {a b m : Int32} (h1 : ¬ ((0 ≤ a ∧ a < 200) ∧ (0 ≤ b ∧ b < 200) ∧ a ≤ b) → ∀ J, rfQ C c (n + 1) t K L I R J → P (some (.int (-1))) (n + 1, t, K, L, J, R)) (h2 : ((0 ≤ a ∧ a < 200) ∧ (0 ≤ b ∧ b < 200) ∧ a ≤ b) → (m < 0 ∨ 4 < m) → ∀ J, rfQ C c (n + 1) t K L I R J → P (some (.int (-2))) (n + 1, t, K, L, J, R)) (hP : ((0 ≤ a ∧ a < 200) ∧ (0 ≤ b ∧ b < 200) ∧ a ≤ b) → ¬ (m < 0 ∨ 4 < m) → ∀ J, cH C c (n + 1) t K L J R → (∀ x j, ¬ x = C + 2 → J x j = I x j) → (∀ j, J (C + 2) j = if a.toNatClampNeg ≤ j ∧ j ≤ b.toNatClampNeg then m else I (C + 2) j) → P (some (.int (cn (I (C + 2)) m a.toNatClampNeg (b.toNatClampNeg + 1 - a.toNatClampNeg)))) (n + 1, t, K, L, J, R)) : a_does (d + 70) 11 [a_rf C, .int a, .int b, .int m] (n + 1, t, K, L, I, R) P := by
  have hT := hH.1
  have hS := hT.s
  have hZ := cZ_refl hH
  have hgo : ((0 ≤ a ∧ a < 200) ∧ (0 ≤ b ∧ b < 200) ∧ a ≤ b) → ¬ (m < 0 ∨ 4 < m) → a_at (d + 69) (a_xm a_m11) 30 [some (a_rf C), some (.int a), some (.int b), some (.int m)] [] (n + 1, t, K, L, I, R) P := fun q1 q2 => by
    have hP := hP q1 q2
    have qa : 0 ≤ a ∧ a ≤ 199 := by clear hP h1 h2 hZ hH hT; grind
    have qb : 0 ≤ b ∧ b ≤ 199 := by clear hP h1 h2 hZ hH hT; grind
    simp only [q11_30, q11_31, q11_34, q11_35, q11_36, q11_37, k_0 hS, z_C hS, r_0_0 hS, k_1 hS, z_1, as_nil, as_i, as_r, Nat.reduceAdd, Nat.reduceLeDiff, z_eq0, z_eq1, z_or, z_em, Classical.not_not, not_false_eq_true, not_true_eq_false, true_and, and_true, false_and, and_false, and_self, true_implies, false_implies, implies_true, Option.toList_some, Option.toList_none, List.cons_append, List.nil_append, Nat.add_eq_zero_iff, a_nl_i, a_nl_r, a_nl_n, true_or, or_true, eq_self, a_isRA_22, a_isRA_24, a_isRA_32, a_isA_20, ok_4, ok_5, ok_6, ok_7, ok_9, ok_20, ok_21, ok_30, ok_50, ok_180, ok_192, ok_200]
    rw [a_enter1 (M := a_m14) rfl (a_cat_rf (a_cat_int (a_cat_int (a_cat_int a_cat_nil)))) (show 4 ≤ 6 by decide)]
    show a_at _ (a_xm a_m14) 0 [some (a_rf (C + 1)), some (.int a), some (.int b), some (.int m), none, none] [] _ _
    simp only [q14_0, q14_1, q14_3, q14_4, as_nil, as_i, as_r, Nat.reduceAdd, Nat.reduceLeDiff, z_eq0, z_eq1, z_or, z_em, Classical.not_not, not_false_eq_true, not_true_eq_false, true_and, and_true, false_and, and_false, and_self, true_implies, false_implies, implies_true, Option.toList_some, Option.toList_none, List.cons_append, List.nil_append, Nat.add_eq_zero_iff, a_nl_i, a_nl_r, a_nl_n, true_or, or_true, eq_self, a_isRA_22, a_isRA_24, a_isRA_32, a_isA_20, ok_4, ok_5, ok_6, ok_7, ok_9, ok_20, ok_21, ok_30, ok_50, ok_180, ok_192, ok_200]
    refine lk_change_6 hS qa qb q1.2.2 (fun J f1 f2 => ?_) a (by grind) 0 I (by grind) (by grind) (fun _ _ _ => rfl) (fun j => by rw [if_neg (by omega)]) (by rw [Nat.sub_self]; rfl)
    simp only [q11_40, as_nil, as_i, as_r, Nat.reduceAdd, Nat.reduceLeDiff, z_eq0, z_eq1, z_or, z_em, Classical.not_not, not_false_eq_true, not_true_eq_false, true_and, and_true, false_and, and_false, and_self, true_implies, false_implies, implies_true, Option.toList_some, Option.toList_none, List.cons_append, List.nil_append, Nat.add_eq_zero_iff, a_nl_i, a_nl_r, a_nl_n, true_or, or_true, eq_self, a_isRA_22, a_isRA_24, a_isRA_32, a_isA_20, ok_4, ok_5, ok_6, ok_7, ok_9, ok_20, ok_21, ok_30, ok_50, ok_180, ok_192, ok_200]
    exact hP J (cH_J hH (sT_fr (k := 2) hT (by decide) f1)) f1 f2
  have g1 : m < 0 → m < 0 ∨ 4 < m := Or.inl
  have g2 : ¬ m ≤ 4 → m < 0 ∨ 4 < m := fun h => Or.inr (Int32.not_le.mp h)
  have g3 : ¬ m < 0 → m ≤ 4 → ¬ (m < 0 ∨ 4 < m) := fun h h2 h3 => h3.elim h (fun h4 => absurd h2 (Int32.not_le.mpr h4))
  rw [a_enter1 (M := a_m11) rfl (a_cat_rf (a_cat_int (a_cat_int (a_cat_int a_cat_nil)))) (show 4 ≤ 4 by decide)]
  show a_at _ (a_xm a_m11) 0 [some (a_rf C), some (.int a), some (.int b), some (.int m)] [] _ _
  repeat' first
    | with_reducible apply And.intro
    | with_reducible assumption
    | with_reducible intro _
    | refine cr_refuse hH (fun _ _ => ?_)
    | exact h1 (by assumption) _ (by assumption)
    | exact h2 (by assumption) (g1 (by assumption)) _ (by assumption)
    | exact h2 (by assumption) (g2 (by assumption)) _ (by assumption)
    | exact hgo (by assumption) (g3 (by assumption) (by assumption))
    | simp only [q11_0, q11_1, q11_2, q11_5, q11_8, q11_9, q11_10, q11_13, q11_14, q11_15, q11_18, q11_19, q11_20, q11_23, q11_24, q11_26, q11_29, k_0 hS, z_C hS, sp_areShifts, as_nil, as_i, as_r, Nat.reduceAdd, Nat.reduceLeDiff, z_eq0, z_eq1, z_or, z_em, Classical.not_not, not_false_eq_true, not_true_eq_false, true_and, and_true, false_and, and_false, and_self, true_implies, false_implies, implies_true, Option.toList_some, Option.toList_none, List.cons_append, List.nil_append, Nat.add_eq_zero_iff, a_nl_i, a_nl_r, a_nl_n, true_or, or_true, eq_self, a_isRA_22, a_isRA_24, a_isRA_32, a_isA_20, ok_4, ok_5, ok_6, ok_7, ok_9, ok_20, ok_21, ok_30, ok_50, ok_180, ok_192, ok_200]
  all_goals ((try clear hgo); (try clear h1); (try clear h2); (try clear hP); (try clear hZ); (try clear hH); (try clear hT); grind [ui_ap])
theorem kr_hours (hH : cH C c (n + 1) t K L I R) {v : Int32} (h1 : v < 0 → ∀ J, rfQ C c (n + 1) t K L I R J → P (some (.int (-4))) (n + 1, t, K, L, J, R)) (h2 : ¬ v < 0 → 1600 - I (C + 1) 6 < v → ∀ J, rfQ C c (n + 1) t K L I R J → P (some (.int (-6))) (n + 1, t, K, L, J, R)) (hP : ¬ v < 0 → ¬ 1600 - I (C + 1) 6 < v → cH C c (n + 1) t K L (a_ui I (C + 1) 6 (I (C + 1) 6 + v)) R → P (some (.int (I (C + 1) 6 + v))) (n + 1, t, K, L, (a_ui I (C + 1) 6 (I (C + 1) 6 + v)), R)) : a_does (d + 70) 9 [a_rf C, .int v] (n + 1, t, K, L, I, R) P := by
  have hT := hH.1
  have hS := hT.s
  have hZ := cZ_refl hH
  have g := hT.g_now
  have hc : ¬ v < 0 → ¬ 1600 - I (C + 1) 6 < v → cH C c (n + 1) t K L (a_ui I (C + 1) 6 (I (C + 1) 6 + v)) R := fun q1 q2 => cH_J hH (sT_Beam_now hT (by clear h1 h2 hP hZ hH hT hS; grind))
  rw [a_enter1 (M := a_m9) rfl (a_cat_rf (a_cat_int a_cat_nil)) (show 2 ≤ 2 by decide)]
  show a_at _ (a_xm a_m9) 0 [some (a_rf C), some (.int v)] [] _ _
  simp only [q9_0, q9_1, q9_4, q9_5, q9_7, q9_10, q9_11, q9_12, q9_15, q9_16, q9_19, q9_22, q9_23, q9_26, q9_27, q9_29, q9_32, q9_33, q9_34, q9_37, q9_38, q9_41, q9_42, q9_43, q9_46, q9_47, q9_50, q9_53, k_0 hS, z_C hS, r_0_0 hS, k_1 hS, z_1, as_nil, as_i, as_r, Nat.reduceAdd, Nat.reduceLeDiff, z_eq0, z_eq1, z_or, z_em, Classical.not_not, not_false_eq_true, not_true_eq_false, true_and, and_true, false_and, and_false, and_self, true_implies, false_implies, implies_true, Option.toList_some, Option.toList_none, List.cons_append, List.nil_append, Nat.add_eq_zero_iff, a_nl_i, a_nl_r, a_nl_n, true_or, or_true, eq_self, a_isRA_22, a_isRA_24, a_isRA_32, a_isA_20, ok_4, ok_5, ok_6, ok_7, ok_9, ok_20, ok_21, ok_30, ok_50, ok_180, ok_192, ok_200, ui_ap, cc_ne, cc_n0, cc_0n, Nat.reduceEqDiff, reduceIte, if_true, if_false]
  have hr4 : v < 0 → a_does (d + 69) 10 [a_rf C, .int (-4)] (n + 1, t, K, L, I, R) (fun r h' => a_at (d + 69) (a_xm a_m9) 10 [some (a_rf C), some (.int v)] (r.toList ++ []) h' P) := fun q => cr_refuse hH (fun J z => by
    simp only [q9_10, as_nil, as_i, as_r, Nat.reduceAdd, Nat.reduceLeDiff, z_eq0, z_eq1, z_or, z_em, Classical.not_not, not_false_eq_true, not_true_eq_false, true_and, and_true, false_and, and_false, and_self, true_implies, false_implies, implies_true, Option.toList_some, Option.toList_none, List.cons_append, List.nil_append, Nat.add_eq_zero_iff, a_nl_i, a_nl_r, a_nl_n, true_or, or_true, eq_self, a_isRA_22, a_isRA_24, a_isRA_32, a_isA_20, ok_4, ok_5, ok_6, ok_7, ok_9, ok_20, ok_21, ok_30, ok_50, ok_180, ok_192, ok_200]
    exact h1 q J z)
  have hr6 : ¬ v < 0 → 1600 - I (C + 1) 6 < v → a_does (d + 69) 10 [a_rf C, .int (-6)] (n + 1, t, K, L, I, R) (fun r h' => a_at (d + 69) (a_xm a_m9) 32 [some (a_rf C), some (.int v)] (r.toList ++ []) h' P) := fun q q2 => cr_refuse hH (fun J z => by
    simp only [q9_32, as_nil, as_i, as_r, Nat.reduceAdd, Nat.reduceLeDiff, z_eq0, z_eq1, z_or, z_em, Classical.not_not, not_false_eq_true, not_true_eq_false, true_and, and_true, false_and, and_false, and_self, true_implies, false_implies, implies_true, Option.toList_some, Option.toList_none, List.cons_append, List.nil_append, Nat.add_eq_zero_iff, a_nl_i, a_nl_r, a_nl_n, true_or, or_true, eq_self, a_isRA_22, a_isRA_24, a_isRA_32, a_isA_20, ok_4, ok_5, ok_6, ok_7, ok_9, ok_20, ok_21, ok_30, ok_50, ok_180, ok_192, ok_200]
    exact h2 q q2 J z)
  clear h1 h2
  clear hZ
  have hfin := fun q1 q2 => hP q1 q2 (hc q1 q2)
  clear hP hc
  clear hH hT hS
  grind
theorem kr_check (hH : cH C c (n + 1) t K L I R) {b a k : Int32} (h1 : ¬ ((0 ≤ b ∧ b < I (C + 14) 5) ∧ (0 ≤ a ∧ a < 200) ∧ a + I C 10 ≤ 200) → ∀ J, rfQ C c (n + 1) t K L I R J → P (some (.int (-1))) (n + 1, t, K, L, J, R)) (h2 : ((0 ≤ b ∧ b < I (C + 14) 5) ∧ (0 ≤ a ∧ a < 200) ∧ a + I C 10 ≤ 200) → k < 0 → ∀ J, rfQ C c (n + 1) t K L I R J → P (some (.int (-4))) (n + 1, t, K, L, J, R)) (h3 : ((0 ≤ b ∧ b < I (C + 14) 5) ∧ (0 ≤ a ∧ a < 200) ∧ a + I C 10 ≤ 200) → ¬ k < 0 → I (C + 1) 6 < k → ∀ J, rfQ C c (n + 1) t K L I R J → P (some (.int (-6))) (n + 1, t, K, L, J, R)) (hP : ((0 ≤ b ∧ b < I (C + 14) 5) ∧ (0 ≤ a ∧ a < 200) ∧ a + I C 10 ≤ 200) → ¬ k < 0 → ¬ I (C + 1) 6 < k → cT C K L (a_ui I C 10 0) R → ∀ v, P (some (.int v)) (n + 1, t, K, L, (a_ui I C 10 0), R)) : a_does (d + 70) 164 [a_rf C, .int b, .int a, .int k] (n + 1, t, K, L, I, R) P := by
  have hT := hH.1
  have hS := hT.s
  have hZ := cZ_refl hH
  have gA := hT.g_asksR
  have gB := hT.g_benchesR
  have gX := hT.g_textsR
  have gb := gB b.toNatClampNeg
  have gbn := hT.g_benches
  have gY := hT.g_benY
  have gy : 0 ≤ b → b < I (C + 14) 5 → ¬ R (C + 16) b.toNatClampNeg = 0 := fun e1 e2 => gY _ (cl_lt e1 e2)
  have hf : ((0 ≤ b ∧ b < I (C + 14) 5) ∧ (0 ≤ a ∧ a < 200) ∧ a + I C 10 ≤ 200) → ¬ k < 0 → ¬ I (C + 1) 6 < k → ∀ v, P (some (.int v)) (n + 1, t, K, L, (a_ui I C 10 0), R) := fun e1 e2 e3 v => hP e1 e2 e3 (sT_BeamHall_rowSize hT (by decide)) v
  have hgo : ((0 ≤ b ∧ b < I (C + 14) 5) ∧ (0 ≤ a ∧ a < 200) ∧ a + I C 10 ≤ 200) → ¬ k < 0 → ¬ I (C + 1) 6 < k → ¬ R (C + 16) b.toNatClampNeg = 0 → ∀ u, a_at (d + 69) (a_xm a_m164) 69 [some (a_rf C), some (.int b), some (.int a), some (.int k), some (a_rf (R (C + 16) b.toNatClampNeg)), u] [] (n + 1, t, K, L, I, R) P := fun e1 e2 e3 h0 u => by
    simp only [q164_69, q164_70, q164_72, q164_73, q164_74, k_0 hS, z_C hS, as_nil, as_i, as_r, Nat.reduceAdd, Nat.reduceLeDiff, z_eq0, z_eq1, z_or, z_em, Classical.not_not, not_false_eq_true, not_true_eq_false, true_and, and_true, false_and, and_false, and_self, true_implies, false_implies, implies_true, Option.toList_some, Option.toList_none, List.cons_append, List.nil_append, Nat.add_eq_zero_iff, a_nl_i, a_nl_r, a_nl_n, true_or, or_true, eq_self, a_isRA_22, a_isRA_24, a_isRA_32, a_isA_20, ok_4, ok_5, ok_6, ok_7, ok_9, ok_20, ok_21, ok_30, ok_50, ok_180, ok_192, ok_200]
    refine ck_firstWrong hT (gb.resolve_left h0) e1.2.1.1 e1.2.2 e1.2.1.2 (fun v => ?_)
    simp only [q164_77, q164_79, q164_80, q164_81, q164_84, q164_86, k_0 hS, z_C hS, as_nil, as_i, as_r, Nat.reduceAdd, Nat.reduceLeDiff, z_eq0, z_eq1, z_or, z_em, Classical.not_not, not_false_eq_true, not_true_eq_false, true_and, and_true, false_and, and_false, and_self, true_implies, false_implies, implies_true, Option.toList_some, Option.toList_none, List.cons_append, List.nil_append, Nat.add_eq_zero_iff, a_nl_i, a_nl_r, a_nl_n, true_or, or_true, eq_self, a_isRA_22, a_isRA_24, a_isRA_32, a_isA_20, ok_4, ok_5, ok_6, ok_7, ok_9, ok_20, ok_21, ok_30, ok_50, ok_180, ok_192, ok_200]
    exact hf e1 e2 e3 v
  rw [a_enter1 (M := a_m164) rfl (a_cat_rf (a_cat_int (a_cat_int (a_cat_int a_cat_nil)))) (show 4 ≤ 6 by decide)]
  show a_at _ (a_xm a_m164) 0 [some (a_rf C), some (.int b), some (.int a), some (.int k), none, none] [] _ _
  repeat' first
    | with_reducible apply And.intro
    | with_reducible assumption
    | with_reducible intro _
    | refine cr_refuse hH (fun _ _ => ?_)
    | refine h1 ?_ _ (by assumption)
    | refine h2 ?_ ?_ _ (by assumption)
    | refine h3 ?_ ?_ ?_ _ (by assumption)
    | refine hgo ?_ ?_ ?_ ?_ _
    | simp only [q164_0, q164_1, q164_4, q164_5, q164_8, q164_10, q164_12, q164_15, q164_16, q164_19, q164_22, q164_23, q164_24, q164_27, q164_28, q164_31, q164_34, q164_35, q164_36, q164_39, q164_40, q164_41, q164_44, q164_45, q164_47, q164_50, q164_51, q164_52, q164_53, q164_56, q164_59, q164_62, q164_63, q164_65, q164_68, k_0 hS, z_C hS, r_0_4 hS, k_14 hS, z_14, r_0_0 hS, k_1 hS, z_1, sp_benchAt hS gB, sp_isShiftC, as_nil, as_i, as_r, Nat.reduceAdd, Nat.reduceLeDiff, z_eq0, z_eq1, z_or, z_em, Classical.not_not, not_false_eq_true, not_true_eq_false, true_and, and_true, false_and, and_false, and_self, true_implies, false_implies, implies_true, Option.toList_some, Option.toList_none, List.cons_append, List.nil_append, Nat.add_eq_zero_iff, a_nl_i, a_nl_r, a_nl_n, true_or, or_true, eq_self, a_isRA_22, a_isRA_24, a_isRA_32, a_isA_20, ok_4, ok_5, ok_6, ok_7, ok_9, ok_20, ok_21, ok_30, ok_50, ok_180, ok_192, ok_200]
  all_goals ((try clear hgo); (try clear hf); (try clear gY); (try clear gA); (try clear gB); (try clear gX); (try clear gb); (try clear h1); (try clear h2); (try clear h3); (try clear h4); (try clear hP); (try clear hZ); (try clear hH); (try clear hT); (try clear hS); grind [ui_ap])
theorem kr_kin (hH : cH C c (n + 1) t K L I R) {r g : Int32} (h1 : ¬ ((0 ≤ r ∧ r ≤ 5) ∧ (0 ≤ g ∧ g ≤ 9)) → ∀ J, rfQ C c (n + 1) t K L I R J → P (some (.int (-1))) (n + 1, t, K, L, J, R)) (hP : (0 ≤ r ∧ r ≤ 5) → (0 ≤ g ∧ g ≤ 9) → cT C K L (a_ui I (C + 18) r.toNatClampNeg ((I (C + 18) r.toNatClampNeg) ||| (1 <<< (g &&& 31)))) R → P (some (.int (if ((I (C + 18) r.toNatClampNeg) >>> (g &&& 31)) &&& 1 = 0 then 1 else 0))) (n + 1, t, K, L, (a_ui I (C + 18) r.toNatClampNeg ((I (C + 18) r.toNatClampNeg) ||| (1 <<< (g &&& 31)))), R)) : a_does (d + 70) 89 [a_rf C, .int r, .int g] (n + 1, t, K, L, I, R) P := by
  have hT := hH.1
  have hS := hT.s
  have hZ := cZ_refl hH
  have hgo : (0 ≤ r ∧ r < 6) → ¬ g < 0 → g < 10 → a_at (d + 69) (a_xm a_m89) 23 [some (a_rf C), some (.int r), some (.int g)] [] (n + 1, t, K, L, I, R) P := fun h2 h3 h4 => by
    have hf := hP ⟨h2.1, by clear hP h1 hZ hH hT hS; grind⟩ ⟨Int32.not_lt.mp h3, by clear hP h1 hZ hH hT hS; grind⟩ (sT_Panel_kin hT)
    simp only [q89_23, q89_24, q89_27, q89_28, q89_29, k_0 hS, z_C hS, r_0_3 hS, k_17 hS, z_17, as_nil, as_i, as_r, Nat.reduceAdd, Nat.reduceLeDiff, z_eq0, z_eq1, z_or, z_em, Classical.not_not, not_false_eq_true, not_true_eq_false, true_and, and_true, false_and, and_false, and_self, true_implies, false_implies, implies_true, Option.toList_some, Option.toList_none, List.cons_append, List.nil_append, Nat.add_eq_zero_iff, a_nl_i, a_nl_r, a_nl_n, true_or, or_true, eq_self, a_isRA_22, a_isRA_24, a_isRA_32, a_isA_20, ok_4, ok_5, ok_6, ok_7, ok_9, ok_20, ok_21, ok_30, ok_50, ok_180, ok_192, ok_200]
    refine ck_tellKin hS h2 ?_
    simp only [q89_32, q89_35, q89_36, q89_39, q89_40, as_nil, as_i, as_r, Nat.reduceAdd, Nat.reduceLeDiff, z_eq0, z_eq1, z_or, z_em, Classical.not_not, not_false_eq_true, not_true_eq_false, true_and, and_true, false_and, and_false, and_self, true_implies, false_implies, implies_true, Option.toList_some, Option.toList_none, List.cons_append, List.nil_append, Nat.add_eq_zero_iff, a_nl_i, a_nl_r, a_nl_n, true_or, or_true, eq_self, a_isRA_22, a_isRA_24, a_isRA_32, a_isA_20, ok_4, ok_5, ok_6, ok_7, ok_9, ok_20, ok_21, ok_30, ok_50, ok_180, ok_192, ok_200]
    by_cases e : ((I (C + 18) r.toNatClampNeg) >>> (g &&& 31)) &&& 1 = 0
    · simp only [e, if_true, not_true_eq_false, false_implies, true_implies, and_true, true_and, implies_true, not_false_eq_true] at hf ⊢
      exact hf
    · simp only [e, if_false, not_true_eq_false, false_implies, true_implies, and_true, true_and, implies_true, not_false_eq_true] at hf ⊢
      exact hf
  have hr0 : r < 0 → ¬ ((0 ≤ r ∧ r ≤ 5) ∧ (0 ≤ g ∧ g ≤ 9)) := fun q e => absurd q (Int32.not_lt.mpr e.1.1)
  rw [a_enter1 (M := a_m89) rfl (a_cat_rf (a_cat_int (a_cat_int a_cat_nil))) (show 3 ≤ 3 by decide)]
  show a_at _ (a_xm a_m89) 0 [some (a_rf C), some (.int r), some (.int g)] [] _ _
  repeat' first
    | with_reducible apply And.intro
    | with_reducible assumption
    | with_reducible intro _
    | refine cr_refuse hH (fun _ _ => ?_)
    | refine h1 ?_ _ (by assumption)
    | refine hgo ?_ ?_ ?_
    | simp only [q89_0, q89_1, q89_4, q89_7, q89_8, q89_11, q89_12, q89_14, q89_17, q89_18, q89_19, q89_22, k_0 hS, z_C hS, sp_isReaderC, as_nil, as_i, as_r, Nat.reduceAdd, Nat.reduceLeDiff, z_eq0, z_eq1, z_or, z_em, Classical.not_not, not_false_eq_true, not_true_eq_false, true_and, and_true, false_and, and_false, and_self, true_implies, false_implies, implies_true, Option.toList_some, Option.toList_none, List.cons_append, List.nil_append, Nat.add_eq_zero_iff, a_nl_i, a_nl_r, a_nl_n, true_or, or_true, eq_self, a_isRA_22, a_isRA_24, a_isRA_32, a_isA_20, ok_4, ok_5, ok_6, ok_7, ok_9, ok_20, ok_21, ok_30, ok_50, ok_180, ok_192, ok_200]
  all_goals ((try clear hgo); (try clear hr0); (try clear h1); (try clear h2); (try clear h3); (try clear h4); (try clear hP); (try clear hZ); (try clear hH); (try clear hT); (try clear hS); grind [ui_ap])
theorem kr_shiftOf (hH : cH C c (n + 1) t K L I R) {s w k : Int32} (h1 : ¬ (0 ≤ s ∧ s ≤ 199) → ∀ J, rfQ C c (n + 1) t K L I R J → P (some (.int (-1))) (n + 1, t, K, L, J, R)) (h2 : (0 ≤ s ∧ s ≤ 199) → ¬ (0 ≤ w ∧ w ≤ 1) → ∀ J, rfQ C c (n + 1) t K L I R J → P (some (.int (-2))) (n + 1, t, K, L, J, R)) (h3 : (0 ≤ s ∧ s ≤ 199) → (0 ≤ w ∧ w ≤ 1) → k < 0 → ∀ J, rfQ C c (n + 1) t K L I R J → P (some (.int (-4))) (n + 1, t, K, L, J, R)) (h4 : (0 ≤ s ∧ s ≤ 199) → (0 ≤ w ∧ w ≤ 1) → ¬ k < 0 → I (C + 1) 6 < k → ∀ J, rfQ C c (n + 1) t K L I R J → P (some (.int (-6))) (n + 1, t, K, L, J, R)) (hP : (0 ≤ s ∧ s ≤ 199) → (0 ≤ w ∧ w ≤ 1) → ¬ k < 0 → ¬ I (C + 1) 6 < k → P (some (.int (if w = 0 then I (C + 2) s.toNatClampNeg else lsu (lkC C I k) (s * 8) 8 0 0))) (n + 1, t, K, L, I, R)) : a_does (d + 70) 17 [a_rf C, .int s, .int w, .int k] (n + 1, t, K, L, I, R) P := by
  have hT := hH.1
  have hS := hT.s
  have hZ := cZ_refl hH
  have hP0 : (0 ≤ s ∧ s ≤ 199) → (0 ≤ w ∧ w ≤ 1) → ¬ k < 0 → ¬ I (C + 1) 6 < k → w = 0 → P (some (.int (I (C + 2) s.toNatClampNeg))) (n + 1, t, K, L, I, R) := fun e1 e2 e3 e4 e5 => by
    have := hP e1 e2 e3 e4
    rw [if_pos e5] at this
    exact this
  have hP1 : (0 ≤ s ∧ s ≤ 199) → (0 ≤ w ∧ w ≤ 1) → ¬ k < 0 → ¬ I (C + 1) 6 < k → ¬ w = 0 → a_at (d + 69) (a_xm a_m17) 74 [some (a_rf C), some (.int s), some (.int w), some (.int k)] [] (n + 1, t, K, L, I, R) P := fun e1 e2 e3 e4 e5 => by
    have := hP e1 e2 e3 e4
    rw [if_neg e5] at this
    simp only [q17_74, q17_75, q17_78, q17_79, q17_80, k_0 hS, z_C hS, r_0_0 hS, k_1 hS, z_1, as_nil, as_i, as_r, Nat.reduceAdd, Nat.reduceLeDiff, z_eq0, z_eq1, z_or, z_em, Classical.not_not, not_false_eq_true, not_true_eq_false, true_and, and_true, false_and, and_false, and_self, true_implies, false_implies, implies_true, Option.toList_some, Option.toList_none, List.cons_append, List.nil_append, Nat.add_eq_zero_iff, a_nl_i, a_nl_r, a_nl_n, true_or, or_true, eq_self, a_isRA_22, a_isRA_24, a_isRA_32, a_isA_20, ok_4, ok_5, ok_6, ok_7, ok_9, ok_20, ok_21, ok_30, ok_50, ok_180, ok_192, ok_200]
    refine ce_lostAsKnown hT ?_
    simp only [q17_83, as_nil, as_i, as_r, Nat.reduceAdd, Nat.reduceLeDiff, z_eq0, z_eq1, z_or, z_em, Classical.not_not, not_false_eq_true, not_true_eq_false, true_and, and_true, false_and, and_false, and_self, true_implies, false_implies, implies_true, Option.toList_some, Option.toList_none, List.cons_append, List.nil_append, Nat.add_eq_zero_iff, a_nl_i, a_nl_r, a_nl_n, true_or, or_true, eq_self, a_isRA_22, a_isRA_24, a_isRA_32, a_isA_20, ok_4, ok_5, ok_6, ok_7, ok_9, ok_20, ok_21, ok_30, ok_50, ok_180, ok_192, ok_200]
    exact this
  have hr4 : ¬ k ≤ I (C + 1) 6 → I (C + 1) 6 < k := fun h => Int32.not_le.mp h
  clear hP
  rw [a_enter1 (M := a_m17) rfl (a_cat_rf (a_cat_int (a_cat_int (a_cat_int a_cat_nil)))) (show 4 ≤ 4 by decide)]
  show a_at _ (a_xm a_m17) 0 [some (a_rf C), some (.int s), some (.int w), some (.int k)] [] _ _
  repeat' first
    | with_reducible apply And.intro
    | with_reducible assumption
    | with_reducible intro _
    | refine cr_refuse hH (fun _ _ => ?_)
    | refine h1 ?_ _ (by assumption)
    | refine h2 ?_ ?_ _ (by assumption)
    | refine h3 ?_ ?_ ?_ _ (by assumption)
    | refine h4 ?_ ?_ ?_ ?_ _ (by assumption)
    | refine hP0 ?_ ?_ ?_ ?_ ?_
    | refine hP1 ?_ ?_ ?_ ?_ ?_
    | simp only [q17_0, q17_1, q17_4, q17_7, q17_8, q17_9, q17_12, q17_13, q17_14, q17_17, q17_18, q17_19, q17_22, q17_23, q17_25, q17_28, q17_29, q17_30, q17_33, q17_34, q17_36, q17_39, q17_40, q17_41, q17_42, q17_45, q17_48, q17_51, q17_52, q17_54, q17_57, q17_58, q17_59, q17_62, q17_63, q17_66, q17_69, q17_70, q17_71, q17_83, k_0 hS, z_C hS, r_0_0 hS, k_1 hS, z_1, r_1_0 hS, k_2 hS, l_2 hS, z_2, sp_isShiftC, as_nil, as_i, as_r, Nat.reduceAdd, Nat.reduceLeDiff, z_eq0, z_eq1, z_or, z_em, Classical.not_not, not_false_eq_true, not_true_eq_false, true_and, and_true, false_and, and_false, and_self, true_implies, false_implies, implies_true, Option.toList_some, Option.toList_none, List.cons_append, List.nil_append, Nat.add_eq_zero_iff, a_nl_i, a_nl_r, a_nl_n, true_or, or_true, eq_self, a_isRA_22, a_isRA_24, a_isRA_32, a_isA_20, ok_4, ok_5, ok_6, ok_7, ok_9, ok_20, ok_21, ok_30, ok_50, ok_180, ok_192, ok_200]
  all_goals ((try clear hP0); (try clear hP1); (try clear hr4); (try clear h1); (try clear h2); (try clear h3); (try clear h4); (try clear hP); (try clear hZ); (try clear hH); (try clear hT); (try clear hS); grind [ui_ap])
theorem kr_feed (hH : cH C c (n + 1) t K L I R) {m : Int32} {w : Int64} (h1 : m < 1 → ∀ J, rfQ C c (n + 1) t K L I R J → P (some (.int (-4))) (n + 1, t, K, L, J, R)) (h2 : ¬ m < 1 → (8 < m ∨ 50 < (I (C + 11) 2) + m) → ∀ J, rfQ C c (n + 1) t K L I R J → P (some (.int (-6))) (n + 1, t, K, L, J, R)) (hP : ¬ m < 1 → ¬ (8 < m ∨ 50 < (I (C + 11) 2) + m) → ∀ J, cT C K L J R → (∀ x j, ¬ x = C + 12 → ¬ (x = C + 11 ∧ j = 2) → J x j = I x j) → J (C + 11) 2 = (I (C + 11) 2) + m → byP (J (C + 12)) (I (C + 12)) w (I (C + 11) 2) m → P (some (.int ((I (C + 11) 2) + m))) (n + 1, t, K, L, J, R)) : a_does (d + 70) 66 [a_rf C, .int m, .long w] (n + 1, t, K, L, I, R) P := by
  have hT := hH.1
  have hS := hT.s
  have hZ := cZ_refl hH
  have g := hT.g_size
  have h2' : ¬ m < 1 → (¬ m ≤ 8 ∨ ¬ m ≤ 50 - (I (C + 11) 2)) → ∀ J, rfQ C c (n + 1) t K L I R J → P (some (.int (-6))) (n + 1, t, K, L, J, R) := fun q1 q2 => h2 q1 (by clear hP h1 h2 hH hT hS hZ; grind)
  have hg : ¬ m < 1 → m ≤ 8 → m ≤ 50 - (I (C + 11) 2) → a_does (d + 69) 67 [a_rf (C + 11), .int m, .long w] (n + 1, t, K, L, I, R) (fun r h' => a_at (d + 69) (a_xm a_m66) 48 [some (a_rf C), some (.int m), some (.long w), none] (r.toList ++ []) h' P) := fun q1 q2 q3 => by
    have q4 : (I (C + 11) 2) + m ≤ 50 := by clear hP h1 h2 hH hT hS hZ; grind
    have hp := hP q1 (fun z => z.elim (fun z => absurd q2 (Int32.not_le.mpr z)) (fun z => absurd q4 (Int32.not_le.mpr z)))
    have hl := le_append_3 (d := d + 68) (w := w) (P := fun r h' => a_at (d + 69) (a_xm a_m66) 48 [some (a_rf C), some (.int m), some (.long w), none] (r.toList ++ []) h' P) g.1 ⟨Int32.not_lt.mp q1, q2⟩ q4 g.2 (fun J j1 j2 j3 j4 => by
      have hf := hp J j1 j2 j3 j4
      simp only [q66_48, as_nil, as_i, as_r, Nat.reduceAdd, Nat.reduceLeDiff, z_eq0, z_eq1, z_or, z_em, Classical.not_not, not_false_eq_true, not_true_eq_false, true_and, and_true, false_and, and_false, and_self, true_implies, false_implies, implies_true, Option.toList_some, Option.toList_none, List.cons_append, List.nil_append, Nat.add_eq_zero_iff, a_nl_i, a_nl_r, a_nl_n, true_or, or_true, eq_self, a_isRA_22, a_isRA_24, a_isRA_32, a_isA_20, ok_4, ok_5, ok_6, ok_7, ok_9, ok_20, ok_21, ok_30, ok_50, ok_180, ok_192, ok_200]
      exact hf) 0 (by decide) I (by decide) (by clear hP h1 h2 hH hT hS hZ; grind) hT (fun _ _ _ _ => rfl) (by rw [Int32.add_zero]) byP_0
    rw [a_enter (M := a_m67) rfl (by rw [a_len_ril]; decide)]
    show a_at _ (a_xm a_m67) 0 (a_init [a_rf (C + 11), .int m, .long w] 5) [] _ _
    rw [a_init_ril]
    simp only [q67_0, q67_1, as_nil, as_i, as_r, Nat.reduceAdd, Nat.reduceLeDiff, z_eq0, z_eq1, z_or, z_em, Classical.not_not, not_false_eq_true, not_true_eq_false, true_and, and_true, false_and, and_false, and_self, true_implies, false_implies, implies_true, Option.toList_some, Option.toList_none, List.cons_append, List.nil_append, Nat.add_eq_zero_iff, a_nl_i, a_nl_r, a_nl_n, true_or, or_true, eq_self, a_isRA_22, a_isRA_24, a_isRA_32, a_isA_20, ok_4, ok_5, ok_6, ok_7, ok_9, ok_20, ok_21, ok_30, ok_50, ok_180, ok_192, ok_200]
    exact hl
  clear hP h2
  rw [a_enter (M := a_m66) rfl (by rw [a_len_ril]; decide)]
  show a_at _ (a_xm a_m66) 0 (a_init [a_rf C, .int m, .long w] 4) [] _ _
  rw [a_init_ril4]
  repeat' first
    | with_reducible apply And.intro
    | with_reducible assumption
    | with_reducible intro _
    | refine cr_refuse hH (fun _ _ => ?_)
    | refine h1 ?_ _ (by assumption)
    | refine h2' ?_ ?_ _ (by assumption)
    | refine hg ?_ ?_ ?_
    | simp only [q66_0, q66_1, q66_2, q66_5, q66_6, q66_8, q66_11, q66_12, q66_13, q66_15, q66_18, q66_19, q66_21, q66_22, q66_25, q66_28, q66_29, q66_32, q66_33, q66_35, q66_38, q66_39, q66_40, q66_43, q66_44, q66_45, q66_48, k_0 hS, z_C hS, r_0_2 hS, k_11 hS, z_11, as_nil, as_i, as_r, Nat.reduceAdd, Nat.reduceLeDiff, z_eq0, z_eq1, z_or, z_em, Classical.not_not, not_false_eq_true, not_true_eq_false, true_and, and_true, false_and, and_false, and_self, true_implies, false_implies, implies_true, Option.toList_some, Option.toList_none, List.cons_append, List.nil_append, Nat.add_eq_zero_iff, a_nl_i, a_nl_r, a_nl_n, true_or, or_true, eq_self, a_isRA_22, a_isRA_24, a_isRA_32, a_isA_20, ok_4, ok_5, ok_6, ok_7, ok_9, ok_20, ok_21, ok_30, ok_50, ok_180, ok_192, ok_200]
  all_goals ((try clear h1); (try clear h2'); (try clear hg); (try clear hP); (try clear hZ); (try clear hH); (try clear hT); (try clear hS); grind [ui_ap])
end ZA1

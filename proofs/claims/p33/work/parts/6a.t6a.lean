/-! the whole coupling -/
section YK0
variable {d n t C : Nat} {K L : Nat → Nat} {I I0 J J0 J1 J2 : Nat → Nat → Int32} {R : Nat → Nat → Nat} {P : Option Value → AH → Prop}
variable {Y Z W : Nat → Nat → Int32} {R' R1 : Nat → Nat → Nat} {K' L' : Nat → Nat}
/-- marks, readers, wishes of the class -/
def siM (C : Nat) (I Y : Nat → Nat → Int32) : Prop := (I (C + 22) 8 = Y 0 10 ∧ I (C + 17) 5 = Y 0 11) ∧ (∀ k, k < 180 → I (C + 20) k = if Y 38 k = 0 then -9 else Y 36 k) ∧ (∀ r g : Nat, r < 6 → g < 10 → (bq (I (C + 18) r) g = true ↔ ¬ Y 35 (10 * r + g) = 0)) ∧ (∀ r a : Nat, r < 6 → a < 30 → (bq (I (C + 19) r) a = true ↔ ¬ Y 37 (30 * r + a) = 0)) ∧ (∀ a o : Nat, a < 30 → o < 30 → (bq (I (C + 36) a) o = true ↔ ¬ Y 47 (30 * a + o) = 0))
/-- trips, tape, row of the class -/
def siT (C : Nat) (I Y : Nat → Nat → Int32) : Prop := (I (C + 1) 5 = Y 0 2 ∧ ∀ j, j < (Y 0 2).toNatClampNeg → I (C + 4) j = Y 2 j ∧ I (C + 5) j = Y 2 j + Y 3 j - 1 ∧ I (C + 6) j = Y 4 j) ∧ (I (C + 11) 2 = Y 0 40 ∧ ∀ j, I (C + 12) j = Y 27 j) ∧ (I C 10 = Y 0 79 ∧ ∀ j, j < (Y 0 79).toNatClampNeg → I (C + 43) j = Y 52 j)
/-- the draft of the class, none of the asks -/
def siD (C : Nat) (K : Nat → Nat) (I : Nat → Nat → Int32) (R : Nat → Nat → Nat) (Y : Nat → Nat → Int32) : Prop := (R C 11 = 0 ↔ Y 0 12 = 0) ∧ (¬ R C 11 = 0 → K (R C 11) = 1 ∧ (I (R C 11) 0 = Y 0 13 ∧ I (R C 11) 1 = Y 0 14 ∧ I (R C 11) 2 = Y 0 15 ∧ I (R C 11) 3 = Y 0 16) ∧ (I (R C 11) 12 = -9 ∧ I (R C 11) 13 = -9 ∧ I (R C 11) 14 = -9 ∧ I (R C 11) 15 = 0 ∧ I (R C 11) 16 = 0) ∧ ∀ i : Int32, 0 ≤ i → i < Y 0 17 → ¬ R (C + 15) i.toNatClampNeg = R C 11)
/-- of marks told: those that count are told, none of an ASK to come, three of one ASK at most -/
def siY (Y : Nat → Nat → Int32) : Prop := (∀ k, ¬ Y 38 k = 0 → ¬ Y 37 k = 0) ∧ (∀ r a : Nat, r < 6 → a < 30 → (Y 0 17).toNatClampNeg ≤ a → Y 37 (30 * r + a) = 0) ∧ (∀ a : Nat, a < 30 → sm (fun r => if Y 37 (30 * r + a) = 0 then 0 else 1) 6 ≤ 3) ∧ (∀ a o : Nat, a < 30 → o < 30 → (Y 0 17).toNatClampNeg ≤ a → Y 47 (30 * a + o) = 0) ∧ tsY Y ∧ (∀ j, j < (Y 0 2).toNatClampNeg → (0 ≤ Y 2 j ∧ Y 2 j ≤ 1600) ∧ (1 ≤ Y 3 j ∧ Y 3 j ≤ 60)) ∧ (∀ k, Y 47 k = 0 ∨ Y 47 k = 1) ∧ ∀ j, j < (Y 0 2).toNatClampNeg → Y 4 j ≤ Y 0 0
def siP (C : Nat) (K : Nat → Nat) (I : Nat → Nat → Int32) (R : Nat → Nat → Nat) (Y : Nat → Nat → Int32) : Prop := siM C I Y ∧ siT C I Y ∧ siD C K I R Y ∧ siY Y
/-- texts struck; no two texts are one -/
def stP (C : Nat) (I : Nat → Nat → Int32) (R : Nat → Nat → Nat) (Y : Nat → Nat → Int32) : Prop := (∀ i : Int32, 0 ≤ i → i < Y 0 41 → (¬ I (R (C + 8) i.toNatClampNeg) 4 = 0 ↔ Y 31 i.toNatClampNeg < 1000000)) ∧ ∀ i o : Int32, 0 ≤ i → i < Y 0 41 → 0 ≤ o → o < Y 0 41 → R (C + 8) i.toNatClampNeg = R (C + 8) o.toNatClampNeg → i = o
/-- no place is no bench and no SHIFT -/
def noP (Y : Nat → Nat → Int32) : Prop := ∀ a : Nat, a < 30 → ¬ 0 ≤ Y 20 a → Y 20 a = -9 ∧ Y 21 a = -9
def cuP (C : Nat) (K L : Nat → Nat) (I : Nat → Nat → Int32) (R : Nat → Nat → Nat) (Y : Nat → Nat → Int32) : Prop := cpP C K L I R Y ∧ seP C R Y ∧ siP C K I R Y ∧ noP Y ∧ stP C I R Y
/-- the same but for places -/
def ss (k j : Nat) : Prop := ps1 k j ∧ ¬ k = 20 ∧ ¬ k = 21
def ssE (Y Z : Nat → Nat → Int32) : Prop := ∀ k j, ss k j → Z k j = Y k j
theorem ss_r (h : ssE Y Z) {k : Nat} (hk : (1 ≤ k ∧ k ≤ 19) ∨ (27 ≤ k ∧ k ≤ 31) ∨ (35 ≤ k ∧ k ≤ 38) ∨ k = 47 ∨ k = 52) : Z k = Y k := funext (fun j => h k j (by unfold ss ps1; omega))
theorem ss_refl : ssE Y Y := fun _ _ _ => rfl
theorem ss_tr (h : ssE Y Z) (h2 : ssE Z W) : ssE Y W := fun k j p => (h2 k j p).trans (h k j p)
theorem ss_ps (h : psE Y Z) : ssE Y Z := fun k j p => h.1 k j p.1
theorem ss_b (h : ssE Y Z) : sbE Y Z := fun k j p => h k j (by unfold sb at p; unfold ss ps1; omega)
theorem ss_pu {a b s : Int32} : ssE Y (puY Y a b s) := fun k j p => by
  unfold puY
  rw [if_neg (fun e => p.2.1 e.1), if_neg (fun e => p.2.2 e.1), if_neg (fun e => by have := p.1; unfold ps1 at this; omega)]
theorem ss_un {a : Int32} : ssE Y (unY Y a) := fun k j p => by
  unfold unY
  rw [if_neg (fun e => by have := p.2; omega)]
theorem ss_gi {a f e : Int32} {ok : Bool} : ssE Y (giY Y a f e ok) := by
  unfold giY
  split
  · exact ss_pu
  · exact ss_refl
theorem ss_plS {o : Nat → Int32} {f e : Int32} : ∀ (k i : Nat) (p : (Nat → Nat → Int32) × Nat × (Nat → Int32)), ssE Y p.1 → ssE Y (plS o f e k i p).1 := by
  intro k
  induction k with
  | zero => intro i p h; exact h
  | succ k ih =>
    intro i p h
    unfold plS
    refine ih _ _ ?_
    split
    · exact ss_tr h ss_pu
    · exact h
theorem ss_pl {f e : Int32} : ssE Y (plY Y f e).1 := ss_plS _ _ _ ss_refl
theorem ss_agS : ∀ (k : Nat) (a : Int32) (p : (Nat → Nat → Int32) × (Nat → Int32) × Nat), ssE Y p.1 → ssE Y (agS k a p).1 := by
  intro k
  induction k with
  | zero => intro i p h; exact h
  | succ k ih =>
    intro i p h
    unfold agS
    refine ih _ _ ?_
    split
    · exact ss_tr h ss_un
    · exact h
theorem ss_agM {o : Nat → Int32} {f e : Int32} : ∀ (k i : Nat) (p : (Nat → Nat → Int32) × Nat), ssE Y p.1 → ssE Y (agM o f e Z k i p).1 := by
  intro k
  induction k with
  | zero => intro i p h; exact h
  | succ k ih =>
    intro i p h
    unfold agM
    exact ih _ _ (ss_tr h ss_gi)
theorem ss_ag : ssE Y (agY Y).1 := ss_agM _ _ _ (ss_agS _ _ _ ss_refl)
theorem no_pu {a b s : Int32} (hb : 0 ≤ b) (h : noP Y) : noP (puY Y a b s) := fun x hx hn => by
  rw [pu_pp] at hn ⊢
  by_cases e : x = a.toNatClampNeg
  · rw [e, pp_20] at hn
    exact absurd hb hn
  · rw [pp_o (Or.inr ⟨e, by omega⟩)] at hn ⊢
    rw [pp_o (Or.inr ⟨e, by omega⟩)]
    exact h x hx hn
theorem no_un {a : Int32} (h : noP Y) : noP (unY Y a) := fun x hx hn => by
  by_cases e : x = a.toNatClampNeg
  · rw [e, un_a (Or.inl rfl), un_a (Or.inr rfl)]
    exact ⟨rfl, rfl⟩
  · rw [un_o (Or.inr e)] at hn ⊢
    rw [un_o (Or.inr e)]
    exact h x hx hn
theorem no_gi {a f e : Int32} {ok : Bool} (h : noP Y) : noP (giY Y a f e ok) := by
  unfold giY
  by_cases c : ok = true ∧ 0 ≤ (gnY Y a f e).2
  · rw [if_pos c]
    exact no_pu c.2 h
  · rw [if_neg c]
    exact h
theorem no_plS {o : Nat → Int32} {f e : Int32} : ∀ (k i : Nat) (p : (Nat → Nat → Int32) × Nat × (Nat → Int32)), noP p.1 → noP (plS o f e k i p).1 := by
  intro k
  induction k with
  | zero => intro i p h; exact h
  | succ k ih =>
    intro i p h
    unfold plS
    refine ih _ _ ?_
    by_cases c : shB p.1 (o i) f e = true ∧ 0 ≤ (gnY p.1 (o i) f e).2
    · rw [if_pos c]
      exact no_pu c.2 h
    · rw [if_neg c]
      exact h
theorem no_pl {f e : Int32} (h : noP Y) : noP (plY Y f e).1 := no_plS _ _ _ h
theorem no_agS : ∀ (k : Nat) (a : Int32) (p : (Nat → Nat → Int32) × (Nat → Int32) × Nat), noP p.1 → noP (agS k a p).1 := by
  intro k
  induction k with
  | zero => intro i p h; exact h
  | succ k ih =>
    intro i p h
    unfold agS
    refine ih _ _ ?_
    split
    · exact no_un h
    · exact h
theorem no_agM {o : Nat → Int32} {f e : Int32} : ∀ (k i : Nat) (p : (Nat → Nat → Int32) × Nat), noP p.1 → noP (agM o f e Z k i p).1 := by
  intro k
  induction k with
  | zero => intro i p h; exact h
  | succ k ih =>
    intro i p h
    unfold agM
    exact ih _ _ (no_gi h)
theorem no_ag (h : noP Y) : noP (agY Y).1 := no_agM _ _ _ (no_agS _ _ _ h)
theorem no_ps (h : psE Y Z) (hn : noP Y) : noP Z := by
  unfold noP
  rw [pr_r h (k := 20) (by omega), pr_r h (k := 21) (by omega)]
  exact hn
theorem siM_ss (h : ssE Y Z) (hs : siM C I Y) : siM C I Z := by
  obtain ⟨⟨h1, h2⟩, h3, h4, h5, h6⟩ := hs
  unfold siM
  rw [ss_r h (k := 38) (by omega), ss_r h (k := 36) (by omega), ss_r h (k := 35) (by omega), ss_r h (k := 37) (by omega), ss_r h (k := 47) (by omega), h 0 10 (by unfold ss ps1; omega), h 0 11 (by unfold ss ps1; omega)]
  exact ⟨⟨h1, h2⟩, h3, h4, h5, h6⟩
theorem siT_ss (h : ssE Y Z) (hs : siT C I Y) : siT C I Z := by
  unfold siT
  rw [ss_r h (k := 2) (by omega), ss_r h (k := 3) (by omega), ss_r h (k := 4) (by omega), ss_r h (k := 27) (by omega), ss_r h (k := 52) (by omega), h 0 2 (by unfold ss ps1; omega), h 0 40 (by unfold ss ps1; omega), h 0 79 (by unfold ss ps1; omega)]
  exact hs
theorem siD_ss (h : ssE Y Z) (hs : siD C K I R Y) : siD C K I R Z := by
  unfold siD
  rw [h 0 12 (by unfold ss ps1; omega), h 0 13 (by unfold ss ps1; omega), h 0 14 (by unfold ss ps1; omega), h 0 15 (by unfold ss ps1; omega), h 0 16 (by unfold ss ps1; omega), h 0 17 (by unfold ss ps1; omega)]
  exact hs
theorem siY_ss (h : ssE Y Z) (hs : siY Y) : siY Z := by
  obtain ⟨h1, h2, h3, h4, h5, h6⟩ := hs
  have hb := ss_b h
  unfold siY
  rw [ss_r h (k := 38) (by omega), ss_r h (k := 37) (by omega), ss_r h (k := 47) (by omega), h 0 17 (by unfold ss ps1; omega), h 0 2 (by unfold ss ps1; omega), ss_r h (k := 2) (by omega), ss_r h (k := 3) (by omega), ss_r h (k := 4) (by omega), h 0 0 (by unfold ss ps1; omega)]
  refine ⟨h1, h2, h3, h4, fun x hx => ?_, h6⟩
  rw [hb 0 41 (by unfold sb; omega)] at hx
  rw [wt_b hb, sbE_r hb (k := 29) (by omega)]
  exact h5 x hx
/-- what the reference's exact calls ask for -/
def okY (Y : Nat → Nat → Int32) : Prop := yoP Y ∧ moY Y ∧ (0 ≤ Y 0 0 ∧ Y 0 0 ≤ 1600)
theorem cu_ok (hT : cT C K L I R) (hu : cuP C K L I R Y) : okY Y := by
  have hy := hu.1.2.2.2.2
  obtain ⟨-, -, -, -, h5, h6, -⟩ := hu.2.2.1.2.2.2
  exact ⟨hy, ⟨hy.2.2.2.2.2.2.2.1, h5, h6, hy.2.2.2.2.2.2.1, hy.2.2.2.2.2.2.2.2.1⟩, by rw [← hu.1.1.1]; exact hT.g_now⟩
theorem siP_ss (h : ssE Y Z) (hs : siP C K I R Y) : siP C K I R Z := ⟨siM_ss h hs.1, siT_ss h hs.2.1, siD_ss h hs.2.2.1, siY_ss h hs.2.2.2⟩
/-- asks that the class's row doesn't hold -/
def noA (C : Nat) (R : Nat → Nat → Nat) (Y : Nat → Nat → Int32) (x : Nat) : Prop := ∀ i : Int32, 0 ≤ i → i < Y 0 17 → ¬ R (C + 15) i.toNatClampNeg = x
theorem no_not : ∀ i : Int32, 0 ≤ i → i < Y 0 17 → ¬ noA C R Y (R (C + 15) i.toNatClampNeg) := fun i i0 i1 h => h i i0 i1 rfl
/-- the side stays where places alone change -/
theorem siP_z {m n' : Nat} (hT : cT C K L I R) (hs : siP C K I R Y) (hz : fZ C m K (noA C R Y) I R n' K' J R') : siP C K' J R' Y := by
  have hS := hT.s
  obtain ⟨⟨p1, p2⟩, p3, p4, p5, p6⟩ := hz
  obtain ⟨⟨⟨h1, h2⟩, h3, h4, h5, h6⟩, ⟨⟨t1, t2⟩, ⟨t3, t4⟩, t5, t6⟩, ⟨d1, d2⟩, hy⟩ := hs
  have cin : ∀ k j, (k = 0 ∨ k = 1 ∨ (4 ≤ k ∧ k ≤ 6) ∨ k = 11 ∨ k = 12 ∨ k = 17 ∨ k = 18 ∨ k = 19 ∨ k = 20 ∨ k = 36 ∨ k = 43 ∨ (k = 22 ∧ j = 8)) → J (C + k) j = I (C + k) j := fun k j hk => p5 _ _ (by unfold siX; omega)
  have c0 : J C 10 = I C 10 := cin 0 10 (by omega)
  have r0 : R' C 11 = R C 11 := p6 _ _ (by omega) (by rw [k_0 hS]; decide) (by omega) (by omega) (by omega)
  have r15 : ∀ j, R' (C + 15) j = R (C + 15) j := fun j => p6 _ _ (by omega) (by rw [k_15 hS]; decide) (by omega) (by omega) (by omega)
  refine ⟨⟨⟨by rw [cin _ _ (by omega)]; exact h1, by rw [cin _ _ (by omega)]; exact h2⟩, fun k hk => by rw [cin _ _ (by omega)]; exact h3 k hk, fun r g hr hg => by rw [cin _ _ (by omega)]; exact h4 r g hr hg, fun r a hr ha => by rw [cin _ _ (by omega)]; exact h5 r a hr ha, fun a o ha ho => by rw [cin _ _ (by omega)]; exact h6 a o ha ho⟩, ⟨⟨by rw [cin _ _ (by omega)]; exact t1, fun j hj => by rw [cin _ _ (by omega), cin _ _ (by omega), cin _ _ (by omega)]; exact t2 j hj⟩, ⟨by rw [cin _ _ (by omega)]; exact t3, fun j => by rw [cin _ _ (by omega)]; exact t4 j⟩, by rw [c0]; exact t5, fun j hj => by rw [cin _ _ (by omega)]; exact t6 j hj⟩, ⟨by rw [r0]; exact d1, fun hd => ?_⟩, hy⟩
  rw [r0] at hd ⊢
  obtain ⟨e1, e2, e3, e4⟩ := d2 hd
  have hq : noA C R Y (R C 11) := e4
  have hlt : R C 11 < m := by
    by_cases e : m ≤ R C 11
    · have := p3 _ e
      rw [e1] at this
      cases this
    · omega
  have ej : ∀ j, J (R C 11) j = I (R C 11) j := fun j => p5 _ _ (by unfold siX; exact Or.inr (Or.inr (Or.inr ⟨e1, Or.inr hq⟩)))
  rw [p4 _ hlt]
  simp only [ej]
  refine ⟨e1, e2, e3, fun i i0 i1 => ?_⟩
  rw [r15]
  exact e4 i i0 i1
theorem stP_ss (h : ssE Y Z) (hs : stP C I R Y) : stP C I R Z := by
  unfold stP
  rw [ss_r h (k := 31) (by omega), h 0 41 (by unfold ss ps1; omega)]
  exact hs
theorem stP_f (hc : cpP C K L I R Y) (hs : stP C I R Y) (hJ : ∀ x, K x = 11 → J x 4 = I x 4) (hR : ∀ j, R' (C + 8) j = R (C + 8) j) : stP C J R' Y := by
  refine ⟨fun i i0 i1 => ?_, fun i o i0 i1 o0 o1 e => ?_⟩
  · rw [hR, hJ _ (hc.2.2.2.1.2 i i0 i1).1]
    exact hs.1 i i0 i1
  · rw [hR, hR] at e
    exact hs.2 i o i0 i1 o0 o1 e
theorem stP_z {m n' : Nat} {Q : Nat → Prop} (hT : cT C K L I R) (hc : cpP C K L I R Y) (hs : stP C I R Y) (hz : fZ C m K Q I R n' K' J R') : stP C J R' Y := stP_f hc hs (fun x hx => hz.2.2.2.1 _ _ (by unfold siX; omega)) (fun j => hz.2.2.2.2 _ _ (by have := hz.1; omega) (by rw [k_8 hT.s]; decide) (by omega) (by omega) (by omega))
/-- who stands is the same -/
theorem plP_ps {U V : Int32 → Nat → Int32} (hn : 0 ≤ Y 0 17 ∧ Y 0 17 ≤ 30) (h : psE Y Z) (hp : plP U V Y) : plP U V Z := by
  have z17 : Z 0 17 = Y 0 17 := h.1 0 17 (by unfold ps1; omega)
  have z6 : Z 0 6 = Y 0 6 := h.1 0 6 (by unfold ps1; omega)
  have z20 : Z 20 = Y 20 := pr_r h (k := 20) (by omega)
  have z21 : Z 21 = Y 21 := pr_r h (k := 21) (by omega)
  have z10 : Z 10 = Y 10 := pr_r h (k := 10) (by omega)
  unfold plP
  rw [z17, z6, z20, z21, z10]
  refine ⟨fun o o0 o1 o2 => ?_, hp.2⟩
  obtain ⟨p1, p2, p3, p4⟩ := hp.1 o o0 o1 o2
  refine ⟨p1, p2, p3, fun x x0 x1 => ?_⟩
  rw [h.2 o o0 (Int32.lt_of_lt_of_le o1 hn.2) o2 x x0 x1]
  exact p4 x x0 x1
theorem cp_ps (hT : cT C K L I R) (hc : cpP C K L I R Y) (h : psE Y Z) : cpP C K L I R Z := by
  have hy := hc.2.2.2.2
  refine cp_mk hT hc (psE_b h) (inP_p hy.2.2.2.2.2.2.1 h) (fun _ _ => ⟨rfl, rfl⟩) (fun _ _ _ _ _ _ _ => rfl) (fun _ _ _ => rfl) (fun _ _ _ _ _ => rfl) (fun _ _ _ _ => rfl) (fun _ _ _ => rfl) (fun _ _ _ _ => rfl) (fun i i0 i1 => ?_) (plP_ps hy.2.2.2.2.1 h hc.2.1.2.2.2)
  rw [pr_r h (k := 20) (by omega), pr_r h (k := 21) (by omega)]
  exact (hc.2.2.1.2.2.2 i i0 i1).2.2.2.1
theorem cu_ps (hT : cT C K L I R) (hu : cuP C K L I R Y) (h : psE Y Z) : cuP C K L I R Z := ⟨cp_ps hT hu.1 h, se_b hu.2.1 (psE_b h), siP_ss (ss_ps h) hu.2.2.1, no_ps h hu.2.2.2.1, stP_ss (ss_ps h) hu.2.2.2.2⟩
/-- what the reference's call leaves of the class -/
theorem cu_out (hT : cT C K L I R) (hJ : ∀ x j, (x < C + 44 ∨ C + 44 + 52 < x) → J x j = I x j) (hu : cuP C K L I R Y) : cuP C K L J R Y := by
  have hS := hT.s
  obtain ⟨hc, hse, ⟨⟨⟨h1, h2⟩, h3, h4, h5, h6⟩, ⟨⟨t1, t2⟩, ⟨t3, t4⟩, t5, t6⟩, ⟨d1, d2⟩, hy⟩, hno, hst⟩ := hu
  have cin : ∀ k j, k ≤ 43 → J (C + k) j = I (C + k) j := fun k j hk => hJ _ _ (by omega)
  have c0 : J C 10 = I C 10 := cin 0 10 (by omega)
  have hi : ∀ x j, C + 96 < x → J x j = I x j := fun x j hx => hJ _ _ (by omega)
  refine ⟨cp_fr hT hc (fun k j hk => cin k j (by omega)) (fun x j kx => hi x j (hT.g_ask x kx).1) (fun x j kx _ => hi x j (hT.g_bnc x kx).1) (fun x j kx => hi x j (hT.g_txt x kx).1) (fun k k0 k1 j => hi _ _ (hT.g_txt _ (hc.2.2.2.1.2 k k0 k1).1).2.1) (fun b b0 b1 j => ?_), hse, ⟨⟨⟨by rw [cin _ _ (by omega)]; exact h1, by rw [cin _ _ (by omega)]; exact h2⟩, fun k hk => by rw [cin _ _ (by omega)]; exact h3 k hk, fun r g hr hg => by rw [cin _ _ (by omega)]; exact h4 r g hr hg, fun r a hr ha => by rw [cin _ _ (by omega)]; exact h5 r a hr ha, fun a o ha ho => by rw [cin _ _ (by omega)]; exact h6 a o ha ho⟩, ⟨⟨by rw [cin _ _ (by omega)]; exact t1, fun j hj => by rw [cin _ _ (by omega), cin _ _ (by omega), cin _ _ (by omega)]; exact t2 j hj⟩, ⟨by rw [cin _ _ (by omega)]; exact t3, fun j => by rw [cin _ _ (by omega)]; exact t4 j⟩, by rw [c0]; exact t5, fun j hj => by rw [cin _ _ (by omega)]; exact t6 j hj⟩, ⟨d1, fun hd => ?_⟩, hy⟩, hno, stP_f hc hst (fun x hx => hi _ _ (hT.g_txt x hx).1) (fun _ => rfl)⟩
  · have g := hT.g_bnc _ (hc.2.1.2.2.1 b b0 b1).1
    exact ⟨hi _ _ g.2.1.1, hi _ _ g.2.2.1.1⟩
  · obtain ⟨e1, e2, e3, e4⟩ := d2 hd
    have ej : ∀ j, J (R C 11) j = I (R C 11) j := fun j => hi _ _ (hT.g_ask _ e1).1
    simp only [ej]
    exact ⟨e1, e2, e3, e4⟩
/-- a call that changes nothing but what is kept of texts and hours -/
theorem cu_C (hT : cT C K L I R) (h : dC C K L R I J) (hu : cuP C K L I R Y) {m t c : Nat} (hH : cH C c m t K L I R) : cuP C K L J R Y := ⟨cpP_C hT hu.1 h, hu.2.1, siP_z hT hu.2.2.1 (fz_C (fz_refl hH) hT h), hu.2.2.2.1, stP_z (Q := noA C R Y) hT hu.1 hu.2.2.2.2 (fz_C (fz_refl hH) hT h)⟩
/-- a refusal -/
theorem cu_42 (hT : cT C K L I R) (hu : cuP C K L I R Y) {j : Nat} {v : Int32} {m t c : Nat} (hH : cH C c m t K L I R) : cuP C K L (a_ui I (C + 42) j v) R Y := ⟨cp_sc hT hu.1 (by omega) (by omega), hu.2.1, siP_z hT hu.2.2.1 (fz_ui (fz_refl hH) hT (by omega)), hu.2.2.2.1, stP_z (Q := noA C R Y) hT hu.1 hu.2.2.2.2 (fz_ui (fz_refl hH) hT (by omega))⟩
end YK0
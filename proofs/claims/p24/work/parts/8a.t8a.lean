/-! the class: swap -/
section ZAA
variable {d n t C c : Nat} {K L : Nat → Nat} {I I0 J J0 J1 J2 : Nat → Nat → Int32} {R : Nat → Nat → Nat} {P : Option Value → AH → Prop}
variable {Y Z W : Nat → Nat → Int32} {R' R1 R2 : Nat → Nat → Nat} {K' L' : Nat → Nat} {m : Nat} {g : Nat → Int32}
/-- one's wishes are gone -/
def clW (Y : Nat → Nat → Int32) (a : Int32) : Nat → Nat → Int32 := fun k j => if k = 47 ∧ 30 * a.toNatClampNeg ≤ j ∧ j < 30 * a.toNatClampNeg + 30 then 0 else Y k j
/-- the first k of a ring have changed -/
def swS (g : Nat → Int32) (m : Nat) (Y : Nat → Nat → Int32) : Nat → Nat → Nat → Int32
  | 0 => rgU g Y m
  | k + 1 => clW (puY (swS g m Y k) (g k) (Y 20 (g (nxN m k)).toNatClampNeg) (Y 21 (g (nxN m k)).toNatClampNeg)) (g k)
def swO (Y : Nat → Nat → Int32) (v : Int32) (Z : Nat → Nat → Int32) : Prop := ∃ m g, rgR Y m g ∧ ((m = 0 ∧ v = -3 ∧ Z = Y) ∨ (¬ m = 0 ∧ v = Int32.ofNat m ∧ Z = swS g m Y m))
theorem cl_no {a : Int32} {k j : Nat} (h : ¬ k = 47) : clW Y a k j = Y k j := by unfold clW; rw [if_neg (fun e => h e.1)]
theorem swS_c {g h : Nat → Int32} {m : Nat} (e : ∀ j, j < m → g j = h j) : ∀ k, k ≤ m → swS g m Y k = swS h m Y k := by
  intro k
  induction k with
  | zero => intro _; exact rgU_c e m (Nat.le_refl _)
  | succ k ih =>
    intro hk
    unfold swS
    rw [ih (by omega), e k (by omega), e _ (nxN_lt (by omega))]
theorem swO_u {v u : Int32} {X : Nat → Nat → Int32} (h : swO Y v Z) (h2 : swO Y u X) : u = v ∧ X = Z := by
  obtain ⟨m, g, r, h⟩ := h
  obtain ⟨z, t, s, h2⟩ := h2
  obtain ⟨e1, e2⟩ := rgR_u r s
  subst e1
  rcases h with ⟨a, b, c⟩ | ⟨a, b, c⟩
  · rcases h2 with ⟨a2, b2, c2⟩ | ⟨a2, b2, c2⟩
    · exact ⟨b2.trans b.symm, c2.trans c.symm⟩
    · exact absurd a a2
  · rcases h2 with ⟨a2, b2, c2⟩ | ⟨a2, b2, c2⟩
    · exact absurd a2 a
    · exact ⟨b2.trans b.symm, c2.trans ((swS_c e2 z (Nat.le_refl _)).trans c.symm)⟩
/-- rows but the wishes and who stands are a trial's -/
theorem sw_row {q : Nat} (hq : ¬ q = 22 ∧ ¬ q = 47) : ∀ k, swS g m Y k q = rgP g m Y (rgU g Y m) k q := by
  intro k
  induction k with
  | zero => rfl
  | succ k ih =>
    funext j
    unfold swS rgP
    rw [cl_no hq.2]
    unfold puY
    rw [if_neg (fun e : q = 22 ∧ _ => hq.1 e.1), if_neg (fun e : q = 22 ∧ _ => hq.1 e.1), ih]
theorem hgI_r (e : ∀ q, q = 20 ∨ q = 21 ∨ q = 10 ∨ q = 14 → Z q = Y q) {a b s : Int32} : ∀ (k : Nat) (o x : Int32), hgI Z a b s k o x = hgI Y a b s k o x := by
  intro k
  induction k with
  | zero => intro o x; rfl
  | succ k ih =>
    intro o x
    unfold hgI
    rw [e 20 (by omega), e 21 (by omega), e 10 (by omega), e 14 (by omega), ih]
theorem hg_free (hc : cpP C K L I R Y) {b s i : Int32} (ai : 0 ≤ i ∧ i < Y 0 17) (hb : 0 ≤ b ∧ b < Y 0 6) (hs : 0 ≤ s ∧ s < 200) (un : ¬ 0 ≤ Y 20 i.toNatClampNeg) (hg : hgI Y i b s (Y 0 17).toNatClampNeg 0 0 = 0) : whC C I R b s.toNatClampNeg = -9 := by
  have hy := hc.2.2.2.2
  rw [hg_class hc.2.1.2.2.2 hy.2.1 hy.2.2.2.2.1.1 hy.2.2.2.2.2.1.1 hb hs] at hg
  refine Classical.byContradiction (fun q => ?_)
  have hi : ¬ whC C I R b s.toNatClampNeg = i := fun e => by
    have := ((who_is hc.2.1.2.2.2 hb hs ai).mp e).1
    exact un (by rw [this]; exact hb.1)
  rw [if_pos ⟨q, hi⟩] at hg
  exact absurd hg (by decide)
theorem cu_clW {m : Nat} (hH : cH C c m t K L I R) (hu : cuP C K L I R Y) {a : Int32} (ha : 0 ≤ a ∧ a < Y 0 17) : cuP C K L (a_ui I (C + 36) a.toNatClampNeg 0) R (clW Y a) := by
  have hT := hH.1
  have h17 := hu.1.2.2.2.2.2.2.2.2.1
  have a30 : a.toNatClampNeg < 30 := cl_lt ha.1 (Int32.lt_of_lt_of_le ha.2 h17.2)
  have hJ : ∀ k j, ¬ k = 36 → a_ui I (C + 36) a.toNatClampNeg 0 (C + k) j = I (C + k) j := fun k j hk => by rw [ui_ap, if_neg (by omega)]
  have hX : ∀ x j, C + 43 < x → a_ui I (C + 36) a.toNatClampNeg 0 x j = I x j := fun x j hx => by rw [ui_ap, if_neg (by omega)]
  have hz : ∀ k j : Nat, ¬ k = 47 → clW Y a k j = Y k j := fun k j h => cl_no h
  refine cu_gen hT hu ⟨fun k hk => funext (fun j => hz k j (by omega)), fun j hj => hz 0 j (by omega)⟩ (fE_of hH hX ⟨hJ 14 4 (by omega), hJ 14 5 (by omega)⟩ (hJ 7 3 (by omega))) (by rw [hJ 1 6 (by omega), hz 0 0 (by omega)]; exact hu.1.1.1) (fun j => by rw [hJ 2 j (by omega), hz 1 j (by omega)]; exact hu.1.1.2.1 j) (lsP_e hu.1.1.2.2 (fun j => hJ 3 j (by omega)) (fun k j hk => hz k j (by unfold kL at hk; omega))) ⟨by rw [hJ 14 6 (by omega), hz 0 9 (by omega)]; exact hu.1.2.1.2.1, by rw [hz 0 9 (by omega)]; exact hu.1.2.2.2.2.2.2.2.1⟩ (mr_e hu.1.2.2.1.2.1 hu.1.2.2.1.2.2.1 (fun x kx => hX _ _ (by have := (hT.g_ask x kx).1; omega)) (fun k j hk => hz k j (by unfold kK at hk; omega))) (mk_e hu.1.2.2.2.2.2.2.2.2.2.2.2.1 (fun k j hk => hz k j (by unfold kK at hk; omega))) ?_ (siT_e hu.2.2.1.2.1 (fun k j hk => hJ k j (by omega)) (fun k j hk => hz k j (by unfold kT at hk; omega))) ?_ (fun e => hX _ _ (by have := (hT.g_ask _ (hu.2.2.1.2.2.1.2 e).1).1; omega))
  · obtain ⟨⟨m1, m2⟩, m3, m4, m5, m6⟩ := hu.2.2.1.1
    refine ⟨⟨by rw [hJ _ _ (by omega), hz _ _ (by omega)]; exact m1, by rw [hJ _ _ (by omega), hz _ _ (by omega)]; exact m2⟩, fun k hk => by rw [hJ _ _ (by omega), hz 38 _ (by omega), hz 36 _ (by omega)]; exact m3 k hk, fun x y hx hy => by rw [hJ _ _ (by omega), hz 35 _ (by omega)]; exact m4 x y hx hy, fun x y hx hy => by rw [hJ _ _ (by omega), hz 37 _ (by omega)]; exact m5 x y hx hy, fun x y hx hy => ?_⟩
    unfold clW
    by_cases e : x = a.toNatClampNeg
    · rw [e, ui_ap, if_pos ⟨rfl, rfl⟩, bq_0, if_pos ⟨rfl, by omega, by omega⟩]
      exact ⟨fun q => absurd q Bool.false_ne_true, fun q => absurd rfl q⟩
    · rw [ui_ap, if_neg (fun q => e q.2), if_neg (by omega)]
      exact m6 x y hx hy
  · obtain ⟨s1, s2, s3, s4, s5, s6, s7, s8⟩ := hu.2.2.1.2.2.2
    have zr : ∀ k, ¬ k = 47 → clW Y a k = Y k := fun k h => funext (fun j => hz k j h)
    have z0 := zr 0 (by decide)
    have z47 : ∀ j, clW Y a 47 j = 0 ∨ clW Y a 47 j = Y 47 j := fun j => by
      unfold clW
      by_cases e : (47 : Nat) = 47 ∧ 30 * a.toNatClampNeg ≤ j ∧ j < 30 * a.toNatClampNeg + 30
      · rw [if_pos e]; exact Or.inl rfl
      · rw [if_neg e]; exact Or.inr rfl
    refine ⟨by rw [zr 38 (by decide), zr 37 (by decide)]; exact s1, by rw [z0, zr 37 (by decide)]; exact s2, by rw [zr 37 (by decide)]; exact s3, fun x o hx ho hxn => ?_, ?_, by rw [z0, zr 2 (by decide), zr 3 (by decide)]; exact s6, fun k => ?_, by rw [z0, zr 4 (by decide)]; exact s8⟩
    · rw [z0] at hxn
      rcases z47 (30 * x + o) with e | e
      · exact e
      · rw [e]; exact s4 x o hx ho hxn
    · intro q hq
      rw [z0] at hq
      have := s5 q hq
      unfold wtY at this ⊢
      rw [zr 29 (by decide), zr 28 (by decide)]
      exact this
    · rcases z47 k with e | e
      · rw [e]; exact Or.inl rfl
      · rw [e]; exact s7 k
end ZAA

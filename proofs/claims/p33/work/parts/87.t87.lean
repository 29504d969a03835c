/-! the class: the RING is found -/
section ZX0
variable {d n t C c : Nat} {K L : Nat → Nat} {I I0 J J0 J1 J2 : Nat → Nat → Int32} {R : Nat → Nat → Nat} {P : Option Value → AH → Prop}
variable {Y Z W : Nat → Nat → Int32} {g : Nat → Int32} {R' R1 R2 : Nat → Nat → Nat}
/-- what a search for a ring may change -/
def fqP (C c n t : Nat) (K L : Nat → Nat) (I : Nat → Nat → Int32) (R : Nat → Nat → Nat) (J : Nat → Nat → Int32) (R' : Nat → Nat → Nat) : Prop := cH C c n t K L J R' ∧ rfP C R R' ∧ ∀ x j, ¬ x = C + 9 → ¬ x = C + 10 → ¬ x = C + 35 → ¬ x = C + 37 → ¬ x = C + 39 → ¬ x = C + 40 → ¬ x = C + 41 → J x j = I x j
theorem fq_refl (hH : cH C c n t K L I R) : fqP C c n t K L I R I R := ⟨hH, fun _ _ _ _ _ => rfl, fun _ _ _ _ _ _ _ _ _ => rfl⟩
theorem fq_T (h : fqP C c n t K L I R J R1) (hT : cT C K L J2 R1) (f : ∀ x j, ¬ x = C + 9 → ¬ x = C + 10 → ¬ x = C + 35 → ¬ x = C + 37 → ¬ x = C + 39 → ¬ x = C + 40 → ¬ x = C + 41 → J2 x j = J x j) : fqP C c n t K L I R J2 R1 := ⟨cH_J h.1 hT, h.2.1, fun x j a1 a2 a3 a4 a5 a6 a7 => (f x j a1 a2 a3 a4 a5 a6 a7).trans (h.2.2 x j a1 a2 a3 a4 a5 a6 a7)⟩
theorem fq_C (h : fqP C c n t K L I R J R1) (h2 : dC C K L R1 J J2) : fqP C c n t K L I R J2 R1 := fq_T h h2.1 (fun x j a1 a2 _ _ _ _ _ => h2.2 x j a1 a2)
theorem fq_R (h : fqP C c n t K L I R J R1) {j v : Nat} (hv : v = 0 ∨ K v = 1) : fqP C c n t K L I R J (a_ur R1 (C + 38) j v) := ⟨(cZ_R38 (cZ_refl h.1) hv).2.1, fun x y a1 a2 a3 => by rw [ur_ap, if_neg (fun e => a3 e.1)]; exact h.2.1 x y a1 a2 a3, h.2.2⟩
theorem fq_cp (hT : cT C K L I R) (hc : cpP C K L I R Y) (h : fqP C c n t K L I R J R1) : cpP C K L J R1 Y := by
  have fr : ∀ x j, ¬ (C + 9 ≤ x ∧ x ≤ C + 10) → ¬ (C + 35 ≤ x ∧ x ≤ C + 41 ∧ ¬ x = C + 36 ∧ ¬ x = C + 38) → J x j = I x j := fun x j a b => h.2.2 x j (by omega) (by omega) (by omega) (by omega) (by omega) (by omega) (by omega)
  have r16 : ∀ j, R1 (C + 16) j = R (C + 16) j := fun j => h.2.1 _ _ (by omega) (by omega) (by omega)
  have rb : ∀ b : Int32, 0 ≤ b → b < Y 0 6 → C + 96 < R (C + 16) b.toNatClampNeg ∧ C + 96 < R (R (C + 16) b.toNatClampNeg) 2 ∧ C + 96 < R (R (C + 16) b.toNatClampNeg) 3 := fun b b0 b1 => by
    obtain ⟨w0, ⟨w1, -⟩, ⟨s1, -⟩, -⟩ := hT.g_bnc _ (hc.2.1.2.2.1 b b0 b1).1
    exact ⟨w0, w1, s1⟩
  refine cp_mk hT hc (fun _ _ _ => rfl) hc.2.2.2.2.2.2.2.2.2.2.1 (fun _ _ => ⟨rfl, rfl⟩) (fun x j _ _ h1 h2 h3 => h.2.1 x j h1 h2 h3) (fun k j hk => fr _ _ (by omega) (by omega)) (fun x j kx _ _ => ?_) (fun x j kx _ => ?_) (fun x j kx => ?_) (fun k k0 k1 j => ?_) (fun o o0 o1 => ?_) (plP_eq hc.2.1.2.2.2 (fun b b0 b1 => ?_) (fun b b0 b1 => ?_))
  · have := (hT.g_ask x kx).1
    exact fr _ _ (by omega) (by omega)
  · have := (hT.g_bnc x kx).1
    exact fr _ _ (by omega) (by omega)
  · have := (hT.g_txt x kx).1
    exact fr _ _ (by omega) (by omega)
  · have := (hT.g_txt _ (hc.2.2.2.1.2 k k0 k1).1).2.1
    exact fr _ _ (by omega) (by omega)
  · have ao := hc.2.2.1.2.1 o o0 o1
    have := (hT.g_ask _ ao.1).1
    rw [fr _ _ (by omega) (by omega), fr _ _ (by omega) (by omega)]
    exact (hc.2.2.1.2.2.2 o o0 o1).2.2.2.1
  · have := rb b b0 b1
    funext j
    unfold whC
    rw [fr _ _ (by omega) (by omega)]
  · have := rb b b0 b1
    funext j
    unfold snC
    rw [fr _ _ (by omega) (by omega)]
theorem fq_se (hT : cT C K L I R) (hc : cpP C K L I R Y) (hse : seP C R Y) (h : fqP C c n t K L I R J R1) : seP C R1 Y := se_rf hT hc hse h.2.1
theorem fq_cu (hH : cH C c n t K L I R) (hu : cuP C K L I R Y) (h : fqP C c n t K L I R J R1) : cuP C K L J R1 Y := by
  have hT := hH.1
  have hz : fZ C n K (noA C R Y) I R n K J R1 := ⟨⟨hH.2.2.1, Nat.le_refl _⟩, hH.2.1, fun _ _ => rfl, fun x j hx => by
    have : ¬ (C + 9 ≤ x ∧ x ≤ C + 10) ∧ ¬ (C + 35 ≤ x ∧ x ≤ C + 41 ∧ ¬ x = C + 36 ∧ ¬ x = C + 38) := by
      have := sz_K hT (x := x)
      unfold siX at hx
      omega
    exact h.2.2 x j (by omega) (by omega) (by omega) (by omega) (by omega) (by omega) (by omega), fun x j _ _ a1 a2 a3 => h.2.1 x j a1 a2 a3⟩
  exact ⟨fq_cp hT hu.1 h, fq_se hT hu.1 hu.2.1 h, siP_z hT hu.2.2.1 hz, hu.2.2.2.1, stP_z hT hu.1 hu.2.2.2.2 hz⟩
/-- the sound wishes of the first p -/
def sdP (C : Nat) (Y : Nat → Nat → Int32) (p : Nat) (J : Nat → Nat → Int32) : Prop := ∀ q : Int32, 0 ≤ q → q.toNatClampNeg < p → (mvY Y q → ∀ k, k < 32 → (bq (J (C + 37) q.toNatClampNeg) k = true ↔ k < (Y 0 17).toNatClampNeg ∧ swP Y q (Int32.ofNat k))) ∧ (¬ mvY Y q → J (C + 37) q.toNatClampNeg = 0)
def mbP (C : Nat) (R : Nat → Nat → Nat) (Y : Nat → Nat → Int32) (p : Nat) (g : Nat → Int32) : Prop := ∀ k, k < p → (0 ≤ g k ∧ g k < Y 0 17) ∧ R (C + 38) k = R (C + 15) (g k).toNatClampNeg
/-- a prefix of a ring -/
def pfP (Y : Nat → Nat → Int32) (p : Nat) (g : Nat → Int32) : Prop := (∀ i, i < p → mvY Y (g i)) ∧ (∀ i, i + 1 < p → g 0 < g (i + 1) ∧ swP Y (g i) (g (i + 1))) ∧ ∀ i j, i < j → j < p → ¬ Y 8 (g i).toNatClampNeg = Y 8 (g j).toNatClampNeg
theorem ix47 {a o : Int32} (h17 : Y 0 17 ≤ 30) (ha : 0 ≤ a ∧ a < Y 0 17) (ho : 0 ≤ o ∧ o < Y 0 17) : (30 * a + o).toNatClampNeg = 30 * a.toNatClampNeg + o.toNatClampNeg := (ix_900 ⟨ha.1, Int32.lt_of_lt_of_le ha.2 h17⟩ ⟨ho.1, Int32.lt_of_lt_of_le ho.2 h17⟩).1
theorem rg_sw {m k : Nat} (h17 : Y 0 17 ≤ 30) (r : rgA Y m g) (hk : k + 1 < m) : swP Y (g k) (g (k + 1)) := by
  have r1 := r.1.1
  obtain ⟨-, w1, w2⟩ := r.1.2.1 k hk
  rw [ix47 h17 (r1 k (by omega)).1 (r1 _ hk).1] at w1
  have su := rgA_su r (k := k) (by omega)
  rw [show nxN m k = k + 1 by unfold nxN; rw [if_pos hk]] at su
  refine ⟨w1, (r1 _ hk).2, ?_, su⟩
  rw [w2]
  by_cases c : k = 0
  · rw [c]
  · have := (r.1.2.1 (k - 1) (by omega)).2.2
    rw [show k - 1 + 1 = k by omega] at this
    exact this.symm
theorem rg_cl {m : Nat} (h17 : Y 0 17 ≤ 30) (hm : 2 ≤ m) (r : rgA Y m g) : swP Y (g (m - 1)) (g 0) := by
  have r1 := r.1.1
  have w1 := r.1.2.2.2
  rw [ix47 h17 (r1 _ (by omega)).1 (r1 0 (by omega)).1] at w1
  have su := rgA_su r (k := m - 1) (by omega)
  rw [show nxN m (m - 1) = 0 by unfold nxN; rw [if_neg (by omega)]] at su
  have := (r.1.2.1 (m - 2) (by omega)).2.2
  rw [show m - 2 + 1 = m - 1 by omega] at this
  exact ⟨w1, (r1 0 (by omega)).2, this.symm, su⟩
theorem pf_len {m : Nat} (pf : pfP Y m g) : ∀ k, k < m → Y 10 (g k).toNatClampNeg = Y 10 (g 0).toNatClampNeg := by
  intro k
  induction k with
  | zero => intro _; rfl
  | succ k ih =>
    intro hk
    rw [(pf.2.1 k hk).2.2.2.1]
    exact ih (by omega)
theorem pf_all {m : Nat} (h17 : Y 0 17 ≤ 30) (hm : 2 ≤ m) (hb : ∀ k, k < m → 0 ≤ g k ∧ g k < Y 0 17) (pf : pfP Y m g) (cl : swP Y (g (m - 1)) (g 0)) : rgS Y m g ∧ ∀ k, k < m → suB Y (g k) (Y 20 (g (nxN m k)).toNatClampNeg) (Y 21 (g (nxN m k)).toNatClampNeg) = true := by
  refine ⟨⟨fun i hi => ⟨hb i hi, pf.1 i hi⟩, fun i hi => ⟨(pf.2.1 i hi).1, ?_, pf_len pf _ hi⟩, pf.2.2, ?_⟩, fun k hk => ?_⟩
  · rw [ix47 h17 (hb i (by omega)) (hb _ hi)]
    exact (pf.2.1 i hi).2.1
  · rw [ix47 h17 (hb _ (by omega)) (hb _ (by omega))]
    exact cl.1
  · by_cases c : k + 1 < m
    · rw [show nxN m k = k + 1 by unfold nxN; rw [if_pos c]]
      exact (pf.2.1 k c).2.2.2.2
    · rw [show nxN m k = 0 by unfold nxN; rw [if_neg c], show k = m - 1 by omega]
      exact cl.2.2.2
theorem pf_tu {m : Nat} (hb : mbP C R Y m g) (pf : pfP Y m g) : tuP C R Y m g := by
  refine ⟨fun k hk => ⟨(hb k hk).1, (pf.1 k hk).1, (hb k hk).2⟩, fun k j hk hj e => ?_, pf_len pf⟩
  rcases Nat.lt_trichotomy k j with w | w | w
  · exact absurd (by rw [e]) (pf.2.2 k j w hj)
  · exact w
  · exact absurd (by rw [e]) (pf.2.2 j k w hk)
theorem sd_at (h : sdP C Y (Y 0 17).toNatClampNeg J) {q o : Int32} (hq : 0 ≤ q ∧ q < Y 0 17) (ho : 0 ≤ o ∧ o < Y 0 17) (h17 : Y 0 17 ≤ 30) (mv : mvY Y q) : bq (J (C + 37) q.toNatClampNeg) o.toNatClampNeg = true ↔ swP Y q o := by
  have hon : o.toNatClampNeg < (Y 0 17).toNatClampNeg := cl_lt ho.1 ho.2
  have h30 : o.toNatClampNeg < 30 := cl_lt ho.1 (Int32.lt_of_lt_of_le ho.2 h17)
  have := ((h q hq.1 (cl_lt hq.1 hq.2)).1 mv) o.toNatClampNeg (by omega)
  rw [← on_cl ho.1] at this
  exact this.trans ⟨fun q => q.2, fun q => ⟨hon, q⟩⟩
def kcP (C c n t : Nat) (K L : Nat → Nat) (I : Nat → Nat → Int32) (R : Nat → Nat → Nat) (Y : Nat → Nat → Int32) (m : Int32) (z : Nat) : Prop := ∀ (a : Int32) (g : Nat → Int32) (J : Nat → Nat → Int32) (R1 : Nat → Nat → Nat) (D : Nat) (P : Option Value → AH → Prop), 1 ≤ a → a.toInt + z = m.toInt → z + 20 ≤ D → fqP C c n t K L I R J R1 → J (C + 35) 7 = m → sdP C Y (Y 0 17).toNatClampNeg J → mbP C R1 Y a.toNatClampNeg g → pfP Y a.toNatClampNeg g → (hP : ∀ (v : Int32) J2 R2 g2, fqP C c n t K L I R J2 R2 → J2 (C + 35) 7 = m → sdP C Y (Y 0 17).toNatClampNeg J2 → (∀ k, k < a.toNatClampNeg → R2 (C + 38) k = R1 (C + 38) k) → (v = 0 ∧ noR Y m.toNatClampNeg a.toNatClampNeg g) ∨ (v = 1 ∧ (∀ k, k < a.toNatClampNeg → g2 k = g k) ∧ fsR Y m.toNatClampNeg a.toNatClampNeg g2 ∧ mbP C R2 Y m.toNatClampNeg g2) → P (some (.int v)) (n, t, K, L, J2, R2)) → a_does D 152 [a_rf (C + 35), .int a] (n, t, K, L, J, R1) P
end ZX0
/-! places that were open stay the only ones -/
section Z96
variable {Y Z W : Nat → Nat → Int32} {g : Nat → Int32} {f e : Int32} {pl m : Nat}
/-- some more have places -/
def exY (Y W : Nat → Nat → Int32) : Prop := sbE Y W ∧ ∀ o : Int32, 0 ≤ o → o < 30 → 0 ≤ Y 20 o.toNatClampNeg → (W 20 o.toNatClampNeg = Y 20 o.toNatClampNeg ∧ W 21 o.toNatClampNeg = Y 21 o.toNatClampNeg) ∧ ∀ i : Int32, 0 ≤ i → i < Y 10 o.toNatClampNeg → W 22 (4 * o + i).toNatClampNeg = Y 22 (4 * o + i).toNatClampNeg
theorem ex_refl : exY Y Y := ⟨fun _ _ _ => rfl, fun _ _ _ _ => ⟨⟨rfl, rfl⟩, fun _ _ _ => rfl⟩⟩
theorem ex_pu (hl : ∀ j, 0 ≤ Y 10 j ∧ Y 10 j ≤ 4) (h : exY Y W) {a b s : Int32} (ha : 0 ≤ a ∧ a < 30) (un : ¬ 0 ≤ Y 20 a.toNatClampNeg) : exY Y (puY W a b s) := by
  refine ⟨sb_tr h.1 puY_b, fun o o0 o1 o2 => ?_⟩
  have hne : ¬ o = a := fun q => un (by rw [← q]; exact o2)
  have hnn : ¬ o.toNatClampNeg = a.toNatClampNeg := fun q => hne (cl_inj o0 ha.1 q)
  obtain ⟨⟨e20, e21⟩, e22⟩ := h.2 o o0 o1 o2
  have s10 : W 10 = Y 10 := sbE_r h.1 (k := 10) (by omega)
  rw [pu_pp, pp_o (Or.inr ⟨hnn, by omega⟩), pp_o (Or.inr ⟨hnn, by omega⟩)]
  refine ⟨⟨e20, e21⟩, fun i i0 i1 => ?_⟩
  have i4 := Int32.lt_of_lt_of_le i1 (hl o.toNatClampNeg).2
  rw [pp_22o ha ⟨o0, o1⟩ ⟨i0, i4⟩ (by rw [s10]; exact hl _) hne]
  exact e22 i i0 i1
theorem hgI_x (h : exY Y W) {a b s : Int32} : ∀ (k : Nat) (o p q : Int32), 0 ≤ o → o ≤ 30 → o.toNatClampNeg + k ≤ 30 → (p = 0 → q = 0) → hgI W a b s k o p = 0 → hgI Y a b s k o q = 0 := by
  have r10 : W 10 = Y 10 := sbE_r h.1 (k := 10) (by omega)
  have r14 : W 14 = Y 14 := sbE_r h.1 (k := 14) (by omega)
  intro k
  induction k with
  | zero =>
    intro o p q _ _ _ hpq hz
    unfold hgI at hz ⊢
    by_cases c : p = 0
    · rw [if_pos (hpq c)]
    · rw [if_neg c] at hz
      exact absurd hz (by decide)
  | succ k ih =>
    intro o p q o0 o30 hk hpq hz
    have o1 : o < 30 := cl_lt2 o0 (by decide) (by show o.toNatClampNeg < 30; omega)
    obtain ⟨-, t2, t3, t4⟩ := lp_st o0 o1
    unfold hgI at hz ⊢
    by_cases c1 : ¬ o = a ∧ (0 ≤ W 20 o.toNatClampNeg ∧ W 20 o.toNatClampNeg = b ∧ W 21 o.toNatClampNeg ≤ s ∧ s < W 21 o.toNatClampNeg + W 10 o.toNatClampNeg)
    · rw [if_pos c1] at hz
      exact absurd hz (by decide)
    · rw [if_neg c1] at hz
      rw [if_neg (fun c => by
        obtain ⟨⟨e20, e21⟩, -⟩ := h.2 o o0 o1 c.2.1
        exact c1 ⟨c.1, by rw [e20, e21, r10]; exact c.2⟩)]
      refine ih (o + 1) _ _ t2 t3 (by omega) (fun hp => ?_) hz
      by_cases c2 : ¬ p = 0 ∨ (¬ o = a ∧ 0 ≤ W 20 o.toNatClampNeg ∧ W 14 o.toNatClampNeg = W 14 a.toNatClampNeg ∧ 0 ≤ W 14 a.toNatClampNeg ∧ W 21 o.toNatClampNeg ≤ s ∧ s < W 21 o.toNatClampNeg + W 10 o.toNatClampNeg)
      · rw [if_pos c2] at hp
        exact absurd hp (by decide)
      · rw [if_neg (fun c => by
          rcases c with c | c
          · exact c2 (Or.inl (fun x => c (hpq x)))
          · obtain ⟨⟨e20, e21⟩, -⟩ := h.2 o o0 o1 c.2.1
            exact c2 (Or.inr (by rw [e20, e21, r10, r14]; exact c)))]
theorem fhY_x (hl : ∀ j, 0 ≤ Y 10 j ∧ Y 10 j ≤ 4) (hn : 0 ≤ Y 0 17 ∧ Y 0 17 ≤ 30) (h : exY Y W) {a b s : Int32} {i : Nat} (hi : i < 32) (hb : bq (fhY W a b s) i = true) : bq (fhY Y a b s) i = true := by
  have r10 : W 10 = Y 10 := sbE_r h.1 (k := 10) (by omega)
  have e17 : W 0 17 = Y 0 17 := h.1 0 17 (by unfold sb; omega)
  have e9 : W 0 9 = Y 0 9 := h.1 0 9 (by unfold sb; omega)
  have r6 : W 6 = Y 6 := sbE_r h.1 (k := 6) (by omega)
  unfold fhY at hb ⊢
  rw [bq_and, Bool.and_eq_true, bq_xor, bq_m1 i hi, e17, r6] at hb
  rw [bq_and, Bool.and_eq_true, bq_xor, bq_m1 i hi]
  refine ⟨hb.1, ?_⟩
  have b2 := hb.2
  by_cases c : bq (fbO Y a s (Y 0 17).toNatClampNeg 0 0) i = true
  · exfalso
    have c2 := (fbO_bit (Y := Y) (a := a) (s := s) (h := i) hn.2 hl (Y 0 17).toNatClampNeg 0 0 (by decide) hn.1 (by rw [show (0 : Int32).toNatClampNeg = 0 from rfl]; omega)).mp c
    have c3 : bq (fbO W a s (Y 0 17).toNatClampNeg 0 0) i = true := (fbO_bit (Y := W) (a := a) (s := s) (h := i) hn.2 (by rw [r10]; exact hl) (Y 0 17).toNatClampNeg 0 0 (by decide) hn.1 (by rw [show (0 : Int32).toNatClampNeg = 0 from rfl]; omega)).mpr (by
      rcases c2 with c2 | ⟨x, x0, x1, u1, u2, z, z0, z1, z2, z3⟩
      · exact Or.inl c2
      · obtain ⟨⟨e20, e21⟩, e22⟩ := h.2 x x0 (Int32.lt_of_lt_of_le x1 hn.2) u1
        refine Or.inr ⟨x, x0, x1, by rw [e20]; exact u1, u2, z, z0, by rw [r10]; exact z1, ?_, by rw [e22 z z0 z1]; exact z3⟩
        unfold nrY at z2 ⊢
        rw [e21, e9]
        exact z2)
    rw [c3] at b2
    exact absurd b2 (by decide)
  · rw [Bool.not_eq_true] at c
    rw [c]
    rfl
def p8 (x : Int32) (k : Nat) : Nat := if bq x k = true then 1 else 0
theorem bcf_n8 : ∀ a : Fin 256, (bcf (Int32.ofNat a.val)).toInt = ((p8 (Int32.ofNat a.val) 0 + p8 (Int32.ofNat a.val) 1 + p8 (Int32.ofNat a.val) 2 + p8 (Int32.ofNat a.val) 3 + p8 (Int32.ofNat a.val) 4 + p8 (Int32.ofNat a.val) 5 + p8 (Int32.ofNat a.val) 6 + p8 (Int32.ofNat a.val) 7 : Nat) : Int) := by decide +kernel
theorem bcf_x {x y : Int32} (hx : 0 ≤ x ∧ x ≤ 255) (hy : 0 ≤ y ∧ y ≤ 255) (h : ∀ i, i < 8 → bq x i = true → bq y i = true) : bcf x ≤ bcf y := by
  have n : ∀ z : Int32, 0 ≤ z ∧ z ≤ 255 → (bcf z).toInt = ((p8 z 0 + p8 z 1 + p8 z 2 + p8 z 3 + p8 z 4 + p8 z 5 + p8 z 6 + p8 z 7 : Nat) : Int) := fun z hz => by
    have c0 : (0 : Int32).toInt = 0 := rfl
    have c1 : (255 : Int32).toInt = 255 := rfl
    have e0 := Int32.le_iff_toInt_le.mp hz.1
    have e1 := Int32.le_iff_toInt_le.mp hz.2
    have ln : z.toNatClampNeg < 256 := by
      show z.toInt.toNat < 256
      omega
    have := bcf_n8 ⟨z.toNatClampNeg, ln⟩
    rw [← on_cl hz.1] at this
    exact this
  have p : ∀ i, i < 8 → p8 x i ≤ p8 y i := fun i hi => by
    unfold p8
    by_cases c : bq x i = true
    · rw [if_pos c, if_pos (h i hi c)]
      exact Nat.le_refl _
    · rw [if_neg c]
      exact Nat.zero_le _
  rw [Int32.le_iff_toInt_le, n x hx, n y hy]
  have q0 := p 0 (by decide)
  have q1 := p 1 (by decide)
  have q2 := p 2 (by decide)
  have q3 := p 3 (by decide)
  have q4 := p 4 (by decide)
  have q5 := p 5 (by decide)
  have q6 := p 6 (by decide)
  have q7 := p 7 (by decide)
  omega
/-- open, by the words alone -/
def opJ (Y : Nat → Nat → Int32) (a b s : Int32) : Nat → Int32 → Bool
  | 0, _ => true
  | k + 1, x => if s + x ≤ 199 ∧ hgI Y a b (s + x) (Y 0 17).toNatClampNeg 0 0 = 0 ∧ ¬ bcf (fhY Y a b (s + x)) < (if ¬ 0 ≤ wtA Y 87 a b (s + x) then 1 else 2) then opJ Y a b s k (x + 1) else false
def opK (Y : Nat → Nat → Int32) (a b s : Int32) : Bool := opJ Y a b s (Y 10 a.toNatClampNeg).toNatClampNeg 0
theorem op_J {a b s w : Int32} : ∀ (k : Nat) (x : Int32), 0 ≤ x → x ≤ 4 → x.toNatClampNeg + k ≤ 4 → (∀ z : Int32, 0 ≤ z → z.toNatClampNeg < x.toNatClampNeg + k → ((w >>> (z &&& 31)) &&& 1 = 0 ↔ ¬ 0 ≤ wtA Y 87 a b (s + z))) → opI Y a b s w k x = opJ Y a b s k x := by
  intro k
  induction k with
  | zero => intro x _ _ _ _; rfl
  | succ k ih =>
    intro x x0 x4 hk hw
    have x1 : x < 4 := cl_lt2 x0 (by decide) (by show x.toNatClampNeg < 4; omega)
    obtain ⟨-, t2, t3, t4⟩ := lp_st x0 x1
    have e := hw x x0 (by omega)
    unfold opI opJ
    rw [ih (x + 1) t2 t3 (by omega) (fun z z0 z1 => hw z z0 (by omega))]
    simp only [e]
theorem op_K (hl : ∀ j, 0 ≤ Y 10 j ∧ Y 10 j ≤ 4) {a b s w : Int32} (hw : ∀ z : Int32, 0 ≤ z → z < Y 10 a.toNatClampNeg → ((w >>> (z &&& 31)) &&& 1 = 0 ↔ ¬ 0 ≤ wtA Y 87 a b (s + z))) : opB Y a b s w = opK Y a b s := by
  have l4 := hl a.toNatClampNeg
  have l5 : (Y 10 a.toNatClampNeg).toNatClampNeg ≤ 4 := by
    have := cl_le0 l4.1 l4.2
    exact this
  unfold opB opK
  exact op_J _ 0 (by decide) (by decide) (by rw [show (0 : Int32).toNatClampNeg = 0 from rfl]; omega) (fun z z0 z1 => hw z z0 (cl_lt2 z0 l4.1 (by rw [show (0 : Int32).toNatClampNeg = 0 from rfl] at z1; omega)))
theorem opJ_x (hl : ∀ j, 0 ≤ Y 10 j ∧ Y 10 j ≤ 4) (hn : 0 ≤ Y 0 17 ∧ Y 0 17 ≤ 30) (h6 : hbP Y) (h : exY Y W) {a b s : Int32} : ∀ (k : Nat) (x : Int32), opJ W a b s k x = true → opJ Y a b s k x = true := by
  have e17 : W 0 17 = Y 0 17 := h.1 0 17 (by unfold sb; omega)
  have r6 : W 6 = Y 6 := sbE_r h.1 (k := 6) (by omega)
  have hW6 : hbP W := fun b => by rw [r6]; exact h6 b
  intro k
  induction k with
  | zero => intro x _; rfl
  | succ k ih =>
    intro x hx
    unfold opJ at hx ⊢
    by_cases c : s + x ≤ 199 ∧ hgI W a b (s + x) (W 0 17).toNatClampNeg 0 0 = 0 ∧ ¬ bcf (fhY W a b (s + x)) < (if ¬ 0 ≤ wtA W 87 a b (s + x) then 1 else 2)
    · rw [if_pos c] at hx
      rw [if_pos ?_]
      · exact ih _ hx
      · obtain ⟨c1, c2, c3⟩ := c
        rw [e17] at c2
        rw [wtA_b h.1] at c3
        refine ⟨c1, hgI_x h _ _ _ _ (by decide) (by decide) (by
          have := cl_le0 hn.1 hn.2
          rw [show (0 : Int32).toNatClampNeg = 0 from rfl]
          rw [show (30 : Int32).toNatClampNeg = 30 from rfl] at this
          omega) (fun q => q) c2, fun q => c3 (Int32.lt_of_le_of_lt (bcf_x (fhY_8 hW6) (fhY_8 h6) (fun i hi => fhY_x hl hn h (by omega))) q)⟩
    · rw [if_neg c] at hx
      exact absurd hx Bool.false_ne_true
theorem opK_x (hl : ∀ j, 0 ≤ Y 10 j ∧ Y 10 j ≤ 4) (hn : 0 ≤ Y 0 17 ∧ Y 0 17 ≤ 30) (h6 : hbP Y) (h : exY Y W) {a b s : Int32} (hx : opK W a b s = true) : opK Y a b s = true := by
  unfold opK at hx ⊢
  rw [show W 10 = Y 10 from sbE_r h.1 (k := 10) (by omega)] at hx
  exact opJ_x hl hn h6 h _ _ hx
/-- fit: suits, not too near, open -/
theorem ft_K (hl : ∀ j, 0 ≤ Y 10 j ∧ Y 10 j ≤ 4) {a b s w : Int32} (h1 : 1 ≤ Y 10 a.toNatClampNeg) (hw : ∀ z : Int32, 0 ≤ z → z < Y 10 a.toNatClampNeg → ((w >>> (z &&& 31)) &&& 1 = 0 ↔ ¬ 0 ≤ wtA Y 87 a b (s + z))) : ftY Y a b s = 0 ↔ suB Y a b s = true ∧ ¬ tnY Y a s ∧ opB Y a b s w = true := by
  have l4 := hl a.toNatClampNeg
  have l5 : (Y 10 a.toNatClampNeg).toNatClampNeg ≤ 4 := by
    have := cl_le0 l4.1 l4.2
    exact this
  have l1 : ¬ (Y 10 a.toNatClampNeg).toNatClampNeg = 0 := by
    have := cl_lt (i := 0) (j := Y 10 a.toNatClampNeg) (by decide) (Int32.lt_of_lt_of_le (by decide) h1)
    rw [show (0 : Int32).toNatClampNeg = 0 from rfl] at this
    omega
  have h := ft_split (Y := Y) (a := a) (b := b) (s := s) (w := w) (Y 10 a.toNatClampNeg).toNatClampNeg 0 (by decide) (by decide) (by rw [show (0 : Int32).toNatClampNeg = 0 from rfl]; omega) (fun z z0 z1 => hw z z0 (cl_lt2 z0 l4.1 (by rw [show (0 : Int32).toNatClampNeg = 0 from rfl] at z1; omega)))
  unfold ftY suB opB
  rw [h]
  exact ⟨fun q => ⟨q.1, q.2.1.resolve_left l1, q.2.2⟩, fun q => ⟨q.1, Or.inr q.2.1, q.2.2⟩⟩
/-- a place that the class keeps, and how many are kept below one -/
def csB (Y : Nat → Nat → Int32) (r e a s b : Int32) : Bool := decide (s + Y 10 a.toNatClampNeg - 1 ≤ e) && (decide ((Y 7 a.toNatClampNeg = 1 ∧ bq r (Y 16 a.toNatClampNeg).toNatClampNeg = true) ∨ ¬ (Y 7 a.toNatClampNeg = 1 ∧ (¬ 0 ≤ Y 20 (Y 16 a.toNatClampNeg).toNatClampNeg ∨ s - (Y 21 (Y 16 a.toNatClampNeg).toNatClampNeg + Y 10 (Y 16 a.toNatClampNeg).toNatClampNeg - 1) - 1 < Y 17 a.toNatClampNeg))) && (suB Y a b s && opK Y a b s))
def cnB (Y : Nat → Nat → Int32) (r f e a : Int32) : Nat → Nat
  | 0 => 0
  | p + 1 => cnB Y r f e a p + if csB Y r e a (f + Int32.ofNat p / Y 0 6) (Int32.ofNat p - Int32.ofNat p / Y 0 6 * Y 0 6) = true then 1 else 0
theorem cn_le {r a : Int32} : ∀ p, cnB Y r f e a p ≤ p := by
  intro p
  induction p with
  | zero => exact Nat.le_refl _
  | succ p ih =>
    unfold cnB
    by_cases c : csB Y r e a (f + Int32.ofNat p / Y 0 6) (Int32.ofNat p - Int32.ofNat p / Y 0 6 * Y 0 6) = true
    · rw [if_pos c]; omega
    · rw [if_neg c]; omega
theorem cn_mono {r a : Int32} {p : Nat} : ∀ d, cnB Y r f e a p ≤ cnB Y r f e a (p + d) := by
  intro d
  induction d with
  | zero => exact Nat.le_refl _
  | succ d ih =>
    rw [show p + (d + 1) = (p + d) + 1 by omega]
    conv => rhs; unfold cnB
    omega
/-- the next one that is kept -/
theorem cn_next {r a : Int32} {c : Nat} : ∀ (d p : Nat), cnB Y r f e a p = c → c < cnB Y r f e a (p + d) → ∃ q, p ≤ q ∧ q < p + d ∧ csB Y r e a (f + Int32.ofNat q / Y 0 6) (Int32.ofNat q - Int32.ofNat q / Y 0 6 * Y 0 6) = true ∧ cnB Y r f e a q = c ∧ ∀ x, p ≤ x → x < q → ¬ csB Y r e a (f + Int32.ofNat x / Y 0 6) (Int32.ofNat x - Int32.ofNat x / Y 0 6 * Y 0 6) = true := by
  intro d
  induction d with
  | zero => intro p h1 h2; rw [Nat.add_zero, h1] at h2; omega
  | succ d ih =>
    intro p h1 h2
    by_cases c1 : csB Y r e a (f + Int32.ofNat p / Y 0 6) (Int32.ofNat p - Int32.ofNat p / Y 0 6 * Y 0 6) = true
    · exact ⟨p, Nat.le_refl _, by omega, c1, h1, fun x x0 x1 => by omega⟩
    · have e1 : cnB Y r f e a (p + 1) = c := by
        conv => lhs; unfold cnB
        rw [if_neg c1]
        exact h1
      obtain ⟨q, q1, q2, q3, q4, q5⟩ := ih (p + 1) e1 (by rw [show p + 1 + d = p + (d + 1) by omega]; exact h2)
      refine ⟨q, by omega, by omega, q3, q4, fun x x0 x1 => ?_⟩
      by_cases e2 : x = p
      · rw [e2]; exact c1
      · exact q5 x (by omega) x1
/-- none is left -/
theorem cn_none {r a : Int32} {c : Nat} : ∀ (d p : Nat), cnB Y r f e a p = c → cnB Y r f e a (p + d) ≤ c → ∀ x, p ≤ x → x < p + d → ¬ csB Y r e a (f + Int32.ofNat x / Y 0 6) (Int32.ofNat x - Int32.ofNat x / Y 0 6 * Y 0 6) = true := by
  intro d p h1 h2 x x0 x1 hx
  have m1 := cn_mono (Y := Y) (r := r) (f := f) (e := e) (a := a) (p := p) (x - p)
  rw [show p + (x - p) = x by omega] at m1
  have m2 := cn_mono (Y := Y) (r := r) (f := f) (e := e) (a := a) (p := x + 1) (p + d - (x + 1))
  rw [show x + 1 + (p + d - (x + 1)) = p + d by omega] at m2
  have : cnB Y r f e a (x + 1) = cnB Y r f e a x + 1 := by
    conv => lhs; unfold cnB
    rw [if_pos hx]
  omega
/-- what fits later is kept -/
theorem cs_of (hl : ∀ j, 0 ≤ Y 10 j ∧ Y 10 j ≤ 4) (hn : 0 ≤ Y 0 17 ∧ Y 0 17 ≤ 30) (h6 : hbP Y) (h : exY Y W) {r a b s w : Int32} (h1 : 1 ≤ Y 10 a.toNatClampNeg) (h16 : Y 7 a.toNatClampNeg = 1 → 0 ≤ Y 16 a.toNatClampNeg ∧ Y 16 a.toNatClampNeg < 30) (hr : ∀ x : Int32, 0 ≤ x → x < 30 → ¬ bq r x.toNatClampNeg = true → W 20 x.toNatClampNeg = Y 20 x.toNatClampNeg ∧ W 21 x.toNatClampNeg = Y 21 x.toNatClampNeg) (hw : ∀ z : Int32, 0 ≤ z → z < Y 10 a.toNatClampNeg → ((w >>> (z &&& 31)) &&& 1 = 0 ↔ ¬ 0 ≤ wtA Y 87 a b (s + z))) (he : s + Y 10 a.toNatClampNeg - 1 ≤ e) (hf : ftY W a b s = 0) : csB Y r e a s b = true := by
  have r10 : W 10 = Y 10 := sbE_r h.1 (k := 10) (by omega)
  have r7 : W 7 = Y 7 := sbE_r h.1 (k := 7) (by omega)
  have r16 : W 16 = Y 16 := sbE_r h.1 (k := 16) (by omega)
  have r17 : W 17 = Y 17 := sbE_r h.1 (k := 17) (by omega)
  have hwW : ∀ z : Int32, 0 ≤ z → z < W 10 a.toNatClampNeg → ((w >>> (z &&& 31)) &&& 1 = 0 ↔ ¬ 0 ≤ wtA W 87 a b (s + z)) := fun z z0 z1 => by
    rw [r10] at z1
    rw [wtA_b h.1]
    exact hw z z0 z1
  obtain ⟨f1, f2, f3⟩ := (ft_K (Y := W) (w := w) (by rw [r10]; exact hl) (by rw [r10]; exact h1) hwW).mp hf
  rw [op_K (by rw [r10]; exact hl) hwW] at f3
  have f4 := opK_x hl hn h6 h f3
  rw [suB_b h.1] at f1
  unfold csB
  rw [Bool.and_eq_true, Bool.and_eq_true, Bool.and_eq_true]
  refine ⟨decide_eq_true he, decide_eq_true ?_, f1, f4⟩
  by_cases c : Y 7 a.toNatClampNeg = 1 ∧ bq r (Y 16 a.toNatClampNeg).toNatClampNeg = true
  · exact Or.inl c
  · refine Or.inr (fun q => f2 ?_)
    obtain ⟨x0, x1⟩ := h16 q.1
    obtain ⟨e20, e21⟩ := hr _ x0 x1 (fun y => c ⟨q.1, y⟩)
    unfold tnY
    rw [r7, r16, r10, r17, e20, e21]
    exact q
/-- what a mark is worth -/
theorem bwt_rng {k : Nat} : 0 ≤ bwt Y g k ∧ bwt Y g k ≤ 100 := by
  have key : ∀ (q : Int32 × Int32), 0 ≤ (if (if q.2 = 0 then (-9 : Int32) else if q.1 / q.2 < 0 then 0 else if 100 < q.1 / q.2 then 100 else q.1 / q.2) < 0 then (0 : Int32) else (if q.2 = 0 then -9 else if q.1 / q.2 < 0 then 0 else if 100 < q.1 / q.2 then 100 else q.1 / q.2)) ∧ (if (if q.2 = 0 then (-9 : Int32) else if q.1 / q.2 < 0 then 0 else if 100 < q.1 / q.2 then 100 else q.1 / q.2) < 0 then (0 : Int32) else (if q.2 = 0 then -9 else if q.1 / q.2 < 0 then 0 else if 100 < q.1 / q.2 then 100 else q.1 / q.2)) ≤ 100 := fun q => by
    generalize q.1 / q.2 = x
    generalize q.2 = y
    by_cases c1 : y = 0
    · rw [if_pos c1, if_pos (by decide)]
      decide
    · rw [if_neg c1]
      by_cases c2 : x < 0
      · rw [if_pos c2, if_neg (by decide)]
        decide
      · rw [if_neg c2]
        by_cases c3 : 100 < x
        · rw [if_pos c3, if_neg (by decide)]
          decide
        · rw [if_neg c3, if_neg c2]
          exact ⟨Int32.not_lt.mp c2, Int32.not_lt.mp c3⟩
  unfold bwt maY mkY
  exact key _
end Z96

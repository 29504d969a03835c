/-! what is kept: the model's words hang on it -/
/-- cells of the model that are kept, but for STANDING -/
def ps1 (k j : Nat) : Prop := (k = 0 ∧ (j ≤ 17 ∨ j = 40 ∨ j = 41 ∨ j = 79)) ∨ (1 ≤ k ∧ k ≤ 21) ∨ (27 ≤ k ∧ k ≤ 31) ∨ (35 ≤ k ∧ k ≤ 38) ∨ k = 47 ∨ k = 52
/-- what is kept is the same: all these cells, and who stands where a place is -/
def psE (Y Z : Nat → Nat → Int32) : Prop := (∀ k j, ps1 k j → Z k j = Y k j) ∧ ∀ o : Int32, 0 ≤ o → o < 30 → 0 ≤ Y 20 o.toNatClampNeg → ∀ i : Int32, 0 ≤ i → i < Y 10 o.toNatClampNeg → Z 22 (4 * o + i).toNatClampNeg = Y 22 (4 * o + i).toNatClampNeg
section YC0
variable {Y Z X : Nat → Nat → Int32}
theorem pr_r (h : psE Y Z) {k : Nat} (hk : (1 ≤ k ∧ k ≤ 21) ∨ (27 ≤ k ∧ k ≤ 31) ∨ (35 ≤ k ∧ k ≤ 38) ∨ k = 47 ∨ k = 52) : Z k = Y k := funext (fun j => h.1 k j (by unfold ps1; omega))
theorem psE_tr (h : psE Y Z) (h2 : psE Z X) : psE Y X := ⟨fun k j p => (h2.1 k j p).trans (h.1 k j p), fun o o0 o1 o2 i i0 i1 => (h2.2 o o0 o1 (by rw [pr_r h (k := 20) (by omega)]; exact o2) i i0 (by rw [pr_r h (k := 10) (by omega)]; exact i1)).trans (h.2 o o0 o1 o2 i i0 i1)⟩
theorem psE_b (h : psE Y Z) : sbE Y Z := fun k j p => h.1 k j (by unfold sb at p; unfold ps1; omega)
theorem psE_of (h : ∀ k j, ps1 k j ∨ k = 22 → Z k j = Y k j) : psE Y Z := ⟨fun k j p => h k j (Or.inl p), fun _ _ _ _ _ _ _ => h _ _ (Or.inr rfl)⟩
theorem fhY_p (hn : 0 ≤ Y 0 17 ∧ Y 0 17 ≤ 30) (hl : ∀ j, 0 ≤ Y 10 j ∧ Y 10 j ≤ 4) (h : psE Y Z) {a b s : Int32} : fhY Z a b s = fhY Y a b s := fhY_c hn hl (pr_r h (k := 6) (by omega)) (h.1 0 17 (by unfold ps1; omega)) (h.1 0 9 (by unfold ps1; omega)) (fun o o0 o1 _ => ⟨by rw [pr_r h (k := 20) (by omega)], by rw [pr_r h (k := 21) (by omega)], by rw [pr_r h (k := 10) (by omega)], fun o2 => h.2 o o0 o1 o2⟩)
theorem hgI_p (h : psE Y Z) {a b s : Int32} : ∀ (k : Nat) (o g : Int32), hgI Z a b s k o g = hgI Y a b s k o g := by
  intro k
  induction k with
  | zero => intro o g; rfl
  | succ k ih =>
    intro o g
    unfold hgI
    rw [pr_r h (k := 20) (by omega), pr_r h (k := 21) (by omega), pr_r h (k := 10) (by omega), pr_r h (k := 14) (by omega), ih]
theorem brY_p (hn : 0 ≤ Y 0 17 ∧ Y 0 17 ≤ 30) (hl : ∀ j, 0 ≤ Y 10 j ∧ Y 10 j ≤ 4) (h : psE Y Z) {a b s f : Int32} : brY Z a b s f = brY Y a b s f := by
  unfold brY
  rw [fxY_b (psE_b h), h.1 0 17 (by unfold ps1; omega), hgI_p h, wtA_b (psE_b h), wtA_b (psE_b h), fhY_p hn hl h, pr_r h (k := 7) (by omega), pr_r h (k := 16) (by omega), pr_r h (k := 17) (by omega), pr_r h (k := 20) (by omega), pr_r h (k := 21) (by omega), pr_r h (k := 10) (by omega)]
theorem ftI_p (hn : 0 ≤ Y 0 17 ∧ Y 0 17 ≤ 30) (hl : ∀ j, 0 ≤ Y 10 j ∧ Y 10 j ≤ 4) (h : psE Y Z) {a b f : Int32} : ∀ (k : Nat) (i : Int32), ftI Z a b f k i = ftI Y a b f k i := by
  intro k
  induction k with
  | zero => intro i; rfl
  | succ k ih =>
    intro i
    unfold ftI
    rw [brY_p hn hl h, ih]
theorem ftY_p (hn : 0 ≤ Y 0 17 ∧ Y 0 17 ≤ 30) (hl : ∀ j, 0 ≤ Y 10 j ∧ Y 10 j ≤ 4) (h : psE Y Z) {a b f : Int32} : ftY Z a b f = ftY Y a b f := by
  unfold ftY
  rw [pr_r h (k := 10) (by omega), ftI_p hn hl h]
theorem sdY_p (hn : 0 ≤ Y 0 17 ∧ Y 0 17 ≤ 30) (hl : ∀ j, 0 ≤ Y 10 j ∧ Y 10 j ≤ 4) (h : psE Y Z) {a b s i : Int32} : sdY Z a b s i = sdY Y a b s i := by
  unfold sdY
  rw [fhY_p hn hl h, wtA_b (psE_b h)]
theorem puY_p (hn : 0 ≤ Y 0 17 ∧ Y 0 17 ≤ 30) (hl : ∀ j, 0 ≤ Y 10 j ∧ Y 10 j ≤ 4) (h : psE Y Z) {a b s : Int32} (ha : 0 ≤ a ∧ a < 30) : psE (puY Y a b s) (puY Z a b s) := by
  refine ⟨fun k j p => ?_, fun o o0 o1 o2 i i0 i1 => ?_⟩
  · unfold puY
    by_cases e1 : k = 20 ∧ j = a.toNatClampNeg
    · rw [if_pos e1, if_pos e1]
    · rw [if_neg e1, if_neg e1]
      by_cases e2 : k = 21 ∧ j = a.toNatClampNeg
      · rw [if_pos e2, if_pos e2]
      · rw [if_neg e2, if_neg e2, if_neg (by unfold ps1 at p; omega), if_neg (by unfold ps1 at p; omega)]
        exact h.1 k j p
  · have e10 : Z 10 = Y 10 := pr_r h (k := 10) (by omega)
    have p10 : puY Y a b s 10 o.toNatClampNeg = Y 10 o.toNatClampNeg := by
      unfold puY
      rw [if_neg (by omega), if_neg (by omega), if_neg (by omega)]
    rw [p10] at i1
    have i4 := Int32.lt_of_lt_of_le i1 (hl o.toNatClampNeg).2
    have hlt := cl_lt i0 i1
    obtain ⟨n1, -, -⟩ := n4 ⟨o0, o1⟩ ⟨i0, i4⟩
    have q20 : ((22 : Nat) = 20) = False := eq_false (by decide)
    have q21 : ((22 : Nat) = 21) = False := eq_false (by decide)
    unfold puY at o2 ⊢
    simp only [q20, q21, false_and, if_false, true_and, e10]
    by_cases e : 4 * a.toNatClampNeg ≤ (4 * o + i).toNatClampNeg ∧ (4 * o + i).toNatClampNeg < 4 * a.toNatClampNeg + (Y 10 a.toNatClampNeg).toNatClampNeg
    · rw [if_pos e, if_pos e, sdY_p hn hl h]
    · rw [if_neg e, if_neg e]
      have eo : ¬ o = a := fun eo => by
        subst eo
        exact e ⟨by omega, by omega⟩
      rw [if_neg (fun q => eo (cl_inj o0 ha.1 q.2)), if_neg (by omega), if_neg (by omega)] at o2
      exact h.2 o o0 o1 o2 i i0 i1
theorem unY_p (h : psE Y Z) {a : Int32} (ha : 0 ≤ a ∧ a < 30) : psE (unY Y a) (unY Z a) := by
  refine ⟨fun k j p => ?_, fun o o0 o1 o2 i i0 i1 => ?_⟩
  · unfold unY
    by_cases e1 : (k = 20 ∨ k = 21) ∧ j = a.toNatClampNeg
    · rw [if_pos e1, if_pos e1]
    · rw [if_neg e1, if_neg e1]
      exact h.1 k j p
  · unfold unY at o2 i1 ⊢
    by_cases e : o.toNatClampNeg = a.toNatClampNeg
    · rw [if_pos ⟨Or.inl rfl, e⟩] at o2
      exact absurd o2 (by decide)
    · rw [if_neg (fun q => e q.2)] at o2
      rw [if_neg (by omega)] at i1
      rw [if_neg (by omega), if_neg (by omega)]
      exact h.2 o o0 o1 o2 i i0 i1
/-- MARK of an ASK; rank; which goes ahead -/
def maY (Y : Nat → Nat → Int32) (a : Int32) : Int32 := mkY (cmY Y) (hsY Y) a
def rkY (Y : Nat → Nat → Int32) (a : Int32) : Int32 := if Y 7 a.toNatClampNeg = 5 then 0 else if Y 7 a.toNatClampNeg = 3 then 1 else 2
def ahB (Y : Nat → Nat → Int32) (a b : Int32) : Bool := if rkY Y a = rkY Y b then (if maY Y a = maY Y b then decide (a < b) else decide (maY Y b < maY Y a)) else decide (rkY Y a < rkY Y b)
theorem ahB_b (h : sbE Y Z) {a b : Int32} : ahB Z a b = ahB Y a b := by
  unfold ahB rkY maY
  rw [sbE_r h (k := 7) (by omega), cmY_b h, hsY_b h]
/-- an ASK is put into the row of ORDER -/
def inS (Y : Nat → Nat → Int32) (a : Int32) : Nat → (Nat → Int32) → (Nat → Int32)
  | 0, o => up1 o 0 a
  | p + 1, o => if ahB Y a (o p) = true then inS Y a p (up1 o (p + 1) (o p)) else up1 o (p + 1) a
theorem inS_all {Q : Int32 → Prop} {a : Int32} (ha : Q a) {m : Nat} : ∀ (p : Nat) (o : Nat → Int32), p ≤ m → (∀ j, j ≤ m → ¬ j = p → Q (o j)) → ∀ j, j ≤ m → Q (inS Y a p o j) := by
  intro p
  induction p with
  | zero =>
    intro o _ h j hj
    unfold inS up1
    by_cases e : j = 0
    · rw [if_pos e]
      exact ha
    · rw [if_neg e]
      exact h j hj e
  | succ p ih =>
    intro o hp h j hj
    unfold inS
    by_cases c : ahB Y a (o p) = true
    · rw [if_pos c]
      refine ih _ (by omega) (fun i hi hn => ?_) j hj
      unfold up1
      by_cases e : i = p + 1
      · rw [if_pos e]
        exact h p (by omega) (by omega)
      · rw [if_neg e]
        exact h i hi e
    · rw [if_neg c]
      unfold up1
      by_cases e : j = p + 1
      · rw [if_pos e]
        exact ha
      · rw [if_neg e]
        exact h j hj e
theorem inS_b (h : sbE Y Z) {a : Int32} : ∀ (p : Nat) (o : Nat → Int32), inS Z a p o = inS Y a p o := by
  intro p
  induction p with
  | zero => intro o; rfl
  | succ p ih =>
    intro o
    unfold inS
    rw [ahB_b h, ih]
/-- the row of ORDER of those that are marked -/
def orF (Y : Nat → Nat → Int32) (q : Int32 → Bool) : Nat → Int32 → (Nat → Int32) × Nat → (Nat → Int32) × Nat
  | 0, _, p => p
  | k + 1, a, p => orF Y q k (a + 1) (if q a = true then (inS Y a p.2 p.1, p.2 + 1) else p)
/-- SHIFTS given of a LAND, SHARE -/
def shI (Y : Nat → Nat → Int32) (a f e : Int32) : Nat → Int32 → Int32 → Int32
  | 0, _, n => n
  | k + 1, o, n => shI Y a f e k (o + 1) (if ¬ o = a ∧ 0 ≤ Y 20 o.toNatClampNeg ∧ ¬ Y 7 o.toNatClampNeg = 5 ∧ Y 9 o.toNatClampNeg = Y 9 a.toNatClampNeg ∧ (f ≤ Y 21 o.toNatClampNeg ∧ Y 21 o.toNatClampNeg ≤ e) then n + ((if Y 21 o.toNatClampNeg + Y 10 o.toNatClampNeg - 1 < e then Y 21 o.toNatClampNeg + Y 10 o.toNatClampNeg - 1 else e) - Y 21 o.toNatClampNeg + 1) else n)
def shB (Y : Nat → Nat → Int32) (a f e : Int32) : Bool := if Y 7 a.toNatClampNeg = 5 then true else decide (shI Y a f e (Y 0 17).toNatClampNeg 0 (Y 10 a.toNatClampNeg) ≤ Y 0 10 * Y 0 6 * (e - f + 1) / 100)
/-- the first place at which an ASK fits -/
def gfB (Y : Nat → Nat → Int32) (a s : Int32) : Nat → Int32 → Int32
  | 0, _ => -1
  | k + 1, b => if ftY Y a b s = 0 then b else gfB Y a s k (b + 1)
def gfS (Y : Nat → Nat → Int32) (a e : Int32) : Nat → Int32 → Int32 × Int32
  | 0, s => (s, -1)
  | k + 1, s => if e < s + Y 10 a.toNatClampNeg - 1 then (s, -1) else if 0 ≤ gfB Y a s (Y 0 6).toNatClampNeg 0 then (s, gfB Y a s (Y 0 6).toNatClampNeg 0) else gfS Y a e k (s + 1)
/-- where the first place is, and what is then -/
def gnY (Y : Nat → Nat → Int32) (a f e : Int32) : Int32 × Int32 := gfS Y a e 240 f
def giY (Y : Nat → Nat → Int32) (a f e : Int32) (ok : Bool) : Nat → Nat → Int32 := if ok = true ∧ 0 ≤ (gnY Y a f e).2 then puY Y a (gnY Y a f e).2 (gnY Y a f e).1 else Y
/-- what holds of the model's words for its reader -/
def moY (Y : Nat → Nat → Int32) : Prop := mkP Y ∧ tsY Y ∧ (∀ j, j < (Y 0 2).toNatClampNeg → (0 ≤ Y 2 j ∧ Y 2 j ≤ 1600) ∧ (1 ≤ Y 3 j ∧ Y 3 j ≤ 60)) ∧ inP Y ∧ hbP Y
theorem moY_b (h : moY Y) (hb : sbE Y Z) (hi : inP Z) : moY Z := by
  obtain ⟨h1, h2, h3, -, h5⟩ := h
  refine ⟨fun k q => ?_, fun x hx => ?_, fun j hj => ?_, hi, fun b => by rw [sbE_r hb (k := 6) (by omega)]; exact h5 b⟩
  · rw [sbE_r hb (k := 38) (by omega)] at q
    rw [sbE_r hb (k := 36) (by omega)]
    exact h1 k q
  · rw [hb 0 41 (by unfold sb; omega)] at hx
    rw [wt_b hb, sbE_r hb (k := 29) (by omega)]
    exact h2 x hx
  · rw [hb 0 2 (by unfold sb; omega)] at hj
    rw [sbE_r hb (k := 2) (by omega), sbE_r hb (k := 3) (by omega)]
    exact h3 j hj
theorem inP_p (hi : inP Y) (h : psE Y Z) : inP Z := by
  unfold inP at hi ⊢
  rw [pr_r h (k := 20) (by omega), pr_r h (k := 21) (by omega), pr_r h (k := 10) (by omega)]
  exact hi
theorem moP_of {M : Nat} {J : Nat → Nat → Int32} (hR : mR M J) (hm : moY Y) (h : psE Y (yv M J)) : moP M J := by
  obtain ⟨h1, h2, h3, h4, h5⟩ := moY_b hm (psE_b h) (inP_p hm.2.2.2.1 h)
  exact ⟨hR, h1, h2, h3, h4, h5⟩
end YC0

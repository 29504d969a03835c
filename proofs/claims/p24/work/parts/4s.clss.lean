/-! what a TEXT says: its reading, as a function of its bytes f up to e from the place a on -/
/-- stands, the place behind (or of the FAULT), what it comes to by the facts -/
abbrev rdT : Type := Bool × Int32 × ((Nat → Int32) → Int32)
def xft (c : Int32) : Int32 := if c = 107 then 0 else if c = 103 then 1 else if c = 108 then 2 else if c = 110 then 3 else if c = 100 then 4 else if c = 109 then 5 else if c = 115 then 6 else if c = 98 then 7 else if c = 116 then 8 else -9
theorem xft_r (c : Int32) : xft c = -9 ∨ (0 ≤ xft c ∧ xft c ≤ 8) := by
  unfold xft
  grind (splits := 60)
theorem xft_9 : xft (-9) = -9 := by decide
def xdg (f : Nat → Int32) (e : Int32) : Nat → Int32 → Int32 → Int32 × Int32
  | 0, a, v => (a, v)
  | k + 1, a, v => if a < e ∧ 48 ≤ f a.toNatClampNeg ∧ f a.toNatClampNeg ≤ 57 then xdg f e k (a + 1) (v * 10 + f a.toNatClampNeg - 48) else (a, v)
def xU (f : Nat → Int32) (e a : Int32) : rdT :=
  if a < e ∧ ¬ xft (f a.toNatClampNeg) = -9 then (true, a + 1, fun fc => fc (xft (f a.toNatClampNeg)).toNatClampNeg)
  else if a < e ∧ 48 ≤ f a.toNatClampNeg ∧ f a.toNatClampNeg ≤ 57 then (true, (xdg f e 3 a 0).1, fun _ => (xdg f e 3 a 0).2)
  else (false, a, fun _ => 0)
def xar (c x y : Int32) : Int32 := if c = 43 then x + y else if c = 45 then x - y else x * y
def xcmp (c x y : Int32) : Int32 := if c = 60 then (if x < y then 1 else 0) else if c = 61 then (if x = y then 1 else 0) else (if y < x then 1 else 0)
/-- at a sign of a row of three -/
abbrev i3 (f : Nat → Int32) (e a x y z : Int32) : Prop := a < e ∧ (f a.toNatClampNeg = x ∨ f a.toNatClampNeg = y ∨ f a.toNatClampNeg = z)
def xsu (f : Nat → Int32) (e : Int32) : Nat → rdT → rdT
  | 0, r => r
  | k + 1, r => if r.1 = true ∧ i3 f e r.2.1 43 45 42 then xsu f e k ((xU f e (r.2.1 + 1)).1, (xU f e (r.2.1 + 1)).2.1, fun fc => xar (f r.2.1.toNatClampNeg) (r.2.2 fc) ((xU f e (r.2.1 + 1)).2.2 fc)) else r
def xS (f : Nat → Int32) (e a : Int32) : rdT := xsu f e 50 (xU f e a)
def xC (f : Nat → Int32) (e a : Int32) : rdT :=
  if (xS f e a).1 = true then
    (if i3 f e (xS f e a).2.1 60 61 62 then ((xS f e ((xS f e a).2.1 + 1)).1, (xS f e ((xS f e a).2.1 + 1)).2.1, fun fc => xcmp (f (xS f e a).2.1.toNatClampNeg) ((xS f e a).2.2 fc) ((xS f e ((xS f e a).2.1 + 1)).2.2 fc))
     else (false, (xS f e a).2.1, fun _ => 0))
  else (false, (xS f e a).2.1, fun _ => 0)
/-- what stands there and is joined by a sign, from the left on -/
def xlo (f : Nat → Int32) (e : Int32) (q : Int32 → rdT) (c : Int32) (op : Int32 → Int32 → Int32) : Nat → rdT → rdT
  | 0, r => r
  | k + 1, r => if r.1 = true ∧ r.2.1 < e ∧ f r.2.1.toNatClampNeg = c then xlo f e q c op k ((q (r.2.1 + 1)).1, (q (r.2.1 + 1)).2.1, fun fc => op (r.2.2 fc) ((q (r.2.1 + 1)).2.2 fc)) else r
def sgY (y : Nat) : Int32 := if y = 3 then 47 else if y = 2 then 124 else 38
def opY (y : Nat) (a b : Int32) : Int32 := if y = 3 then a &&& (1 - b) else if y = 2 then a ||| b else a &&& b
/-- y levels above what q reads -/
def xjo (f : Nat → Int32) (e : Int32) (q : Int32 → rdT) : Nat → Int32 → rdT
  | 0, a => q a
  | y + 1, a => xlo f e (xjo f e q y) (sgY (y + 1)) (opY (y + 1)) 50 (xjo f e q y a)
/-- a PART, z deep at most -/
def xP (f : Nat → Int32) (e : Int32) : Nat → Int32 → rdT
  | 0, a => if a < e ∧ (f a.toNatClampNeg = 33 ∨ f a.toNatClampNeg = 40) then (false, a, fun _ => 0) else xC f e a
  | z + 1, a => if a < e ∧ f a.toNatClampNeg = 40 then
      (if (xjo f e (xP f e z) 3 (a + 1)).1 = true then
        (if (xjo f e (xP f e z) 3 (a + 1)).2.1 < e ∧ f (xjo f e (xP f e z) 3 (a + 1)).2.1.toNatClampNeg = 41 then (true, (xjo f e (xP f e z) 3 (a + 1)).2.1 + 1, (xjo f e (xP f e z) 3 (a + 1)).2.2) else (false, (xjo f e (xP f e z) 3 (a + 1)).2.1, fun _ => 0))
       else (false, (xjo f e (xP f e z) 3 (a + 1)).2.1, fun _ => 0))
    else if a < e ∧ f a.toNatClampNeg = 33 then ((xP f e z (a + 1)).1, (xP f e z (a + 1)).2.1, fun fc => 1 - (xP f e z (a + 1)).2.2 fc)
    else xC f e a
def xR (f : Nat → Int32) (e : Int32) (a : Int32) : rdT := xjo f e (xP f e 4) 3 a
/-- a whole TEXT: whether it stands, and the place of its FAULT -/
def xT (f : Nat → Int32) (e : Int32) : rdT :=
  if 0 < e ∧ (f 0 = 66 ∨ f 0 = 87 ∨ f 0 = 79) then
    (if 1 < e ∧ f 1 = 58 then
      (if (if f 0 = 79 then xS f e 2 else xR f e 2).2.1 = e then (if f 0 = 79 then xS f e 2 else xR f e 2) else (false, (if f 0 = 79 then xS f e 2 else xR f e 2).2.1, (if f 0 = 79 then xS f e 2 else xR f e 2).2.2))
     else (false, 1, fun _ => 0))
  else (false, 0, fun _ => 0)

section KW
variable {f : Nat → Int32} {e : Int32}
/-- where a reading ends -/
def xB (e a : Int32) (r : rdT) : Prop := a ≤ r.2.1 ∧ r.2.1 ≤ e ∧ (r.1 = true → a < r.2.1)
theorem xdg_b : ∀ (k : Nat) (a v : Int32), a ≤ e → a ≤ (xdg f e k a v).1 ∧ (xdg f e k a v).1 ≤ e := by
  intro k
  induction k with
  | zero => intro a v h; exact ⟨Int32.le_refl a, h⟩
  | succ k ih =>
    intro a v h
    unfold xdg
    split
    · rename_i q
      have := ih (a + 1) (v * 10 + f a.toNatClampNeg - 48) (by grind)
      refine ⟨?_, this.2⟩
      have h1 := this.1
      clear ih this
      grind
    · exact ⟨Int32.le_refl a, h⟩
theorem xU_b {a : Int32} (h : a ≤ e) : xB e a (xU f e a) := by
  unfold xU xB
  split
  · rename_i q
    refine ⟨?_, ?_, fun _ => ?_⟩ <;> (show _; have := q.1; clear q; dsimp only; grind)
  · split
    · rename_i q
      have e1 : xdg f e 3 a 0 = xdg f e 2 (a + 1) (0 * 10 + f a.toNatClampNeg - 48) := by
        conv => lhs; unfold xdg
        rw [if_pos q]
      have q1 := q.1
      have := xdg_b (f := f) (e := e) 2 (a + 1) (0 * 10 + f a.toNatClampNeg - 48) (by clear q; grind)
      rw [← e1] at this
      have t1 := this.1
      have t2 := this.2
      clear this q e1
      refine ⟨?_, t2, fun _ => ?_⟩ <;> (dsimp only; grind)
    · exact ⟨Int32.le_refl a, h, fun q => absurd q Bool.false_ne_true⟩
theorem xsu_b {a : Int32} : ∀ (k : Nat) (r : rdT), xB e a r → xB e a (xsu f e k r) := by
  intro k
  induction k with
  | zero => intro r h; exact h
  | succ k ih =>
    intro r h
    unfold xsu
    split
    · rename_i q
      have hu := xU_b (f := f) (e := e) (a := r.2.1 + 1) (by have := q.2.1; clear ih q h; grind)
      refine ih _ ?_
      have q1 := q.2.1
      obtain ⟨h1, h2, h3⟩ := h
      have h4 := h3 q.1
      obtain ⟨u1, u2, u3⟩ := hu
      refine ⟨?_, u2, fun _ => ?_⟩ <;> (dsimp only; clear ih q h3 u3; grind)
    · exact h
theorem xS_b {a : Int32} (h : a ≤ e) : xB e a (xS f e a) := xsu_b 50 _ (xU_b h)
theorem xC_b {a : Int32} (h : a ≤ e) : xB e a (xC f e a) := by
  have h1 := xS_b (f := f) h
  unfold xC
  generalize xS f e a = r at h1 ⊢
  split
  · rename_i q
    split
    · rename_i q2
      have h2 := xS_b (f := f) (e := e) (a := r.2.1 + 1) (by have := q2.1; clear q q2 h1 h; grind)
      generalize xS f e (r.2.1 + 1) = u at h2 ⊢
      have q1 := q2.1
      obtain ⟨p1, p2, p3⟩ := h1
      have p4 := p3 q
      obtain ⟨u1, u2, u3⟩ := h2
      refine ⟨?_, u2, fun _ => ?_⟩ <;> (dsimp only; clear q q2 p3 u3; grind)
    · exact ⟨h1.1, h1.2.1, fun q => absurd q Bool.false_ne_true⟩
  · exact ⟨h1.1, h1.2.1, fun q => absurd q Bool.false_ne_true⟩
theorem xlo_b {q : Int32 → rdT} (hq : ∀ a, a ≤ e → xB e a (q a)) {c : Int32} {op : Int32 → Int32 → Int32} {a : Int32} : ∀ (k : Nat) (r : rdT), xB e a r → xB e a (xlo f e q c op k r) := by
  intro k
  induction k with
  | zero => intro r h; exact h
  | succ k ih =>
    intro r h
    unfold xlo
    split
    · rename_i w
      have hu := hq (r.2.1 + 1) (by have := w.2.1; clear ih w h hq; grind)
      refine ih _ ?_
      have q1 := w.2.1
      obtain ⟨h1, h2, h3⟩ := h
      have h4 := h3 w.1
      obtain ⟨u1, u2, u3⟩ := hu
      refine ⟨?_, u2, fun _ => ?_⟩ <;> (dsimp only; clear ih w h3 u3 hq; grind)
    · exact h
theorem xjo_b {q : Int32 → rdT} (hq : ∀ a, a ≤ e → xB e a (q a)) : ∀ (y : Nat) (a : Int32), a ≤ e → xB e a (xjo f e q y a) := by
  intro y
  induction y with
  | zero => exact hq
  | succ y ih =>
    intro a h
    exact xlo_b ih 50 _ (ih a h)
theorem xP_b : ∀ (z : Nat) (a : Int32), a ≤ e → xB e a (xP f e z a) := by
  intro z
  induction z with
  | zero =>
    intro a h
    unfold xP
    split
    · exact ⟨Int32.le_refl a, h, fun q => absurd q Bool.false_ne_true⟩
    · exact xC_b h
  | succ z ih =>
    intro a h
    unfold xP
    split
    · rename_i q
      have hj := xjo_b (f := f) ih 3 (a + 1) (by have := q.1; clear ih q; grind)
      have q1 := q.1
      generalize xjo f e (xP f e z) 3 (a + 1) = r at hj ⊢
      obtain ⟨h1, h2, h3⟩ := hj
      split
      · split
        · rename_i w
          have w1 := w.1
          refine ⟨?_, ?_, fun _ => ?_⟩ <;> (dsimp only; clear ih q h3 w; grind)
        · refine ⟨?_, h2, fun q => absurd q Bool.false_ne_true⟩
          dsimp only; clear ih q h3; grind
      · refine ⟨?_, h2, fun q => absurd q Bool.false_ne_true⟩
        dsimp only; clear ih q h3; grind
    · split
      · rename_i q
        have hj := ih (a + 1) (by have := q.1; clear ih q; grind)
        have q1 := q.1
        generalize xP f e z (a + 1) = r at hj ⊢
        obtain ⟨h1, h2, h3⟩ := hj
        refine ⟨?_, h2, fun _ => ?_⟩ <;> (dsimp only; clear ih q h3; grind)
      · exact xC_b h
end KW
/-! the class's code: from i up to i' it comes to v -/
def evK (cd fc : Nat → Int32) (i i' v : Int32) : Prop := (0 ≤ i ∧ i < i' ∧ i' ≤ 50) ∧ ∀ (cd' : Nat → Int32) (ln : Int32) (k : Nat) (o : Int32) (s : Nat → Int32), (∀ j, i.toNatClampNeg ≤ j → j < i'.toNatClampNeg → cd' j = cd j) → i' ≤ ln → 0 ≤ o → o ≤ i → vs cd' fc ln (k + (i'.toNatClampNeg - i.toNatClampNeg)) i o s = vs cd' fc ln k i' (o + 1) (up1 s o.toNatClampNeg v)
section KX
variable {cd fc : Nat → Int32}
theorem vs_s {ln : Int32} {k : Nat} {i o : Int32} {s : Nat → Int32} : vs cd fc ln (k + 1) i o s = if ln ≤ i then (if o ≤ 0 then 0 else s 0) else
    if cd i.toNatClampNeg = 2009 then (if o ≤ 0 then vs cd fc ln k (i + 1) o s else vs cd fc ln k (i + 1) o (up1 s (o - 1).toNatClampNeg (1 - s (o - 1).toNatClampNeg)))
    else if cd i.toNatClampNeg < 2000 then (if 50 ≤ o then vs cd fc ln k (i + 1) o s else vs cd fc ln k (i + 1) (o + 1) (up1 s o.toNatClampNeg (if 0 ≤ cd i.toNatClampNeg - 1000 ∧ cd i.toNatClampNeg - 1000 < 9 then fc (cd i.toNatClampNeg - 1000).toNatClampNeg else cd i.toNatClampNeg)))
    else if o ≤ 1 then vs cd fc ln k (i + 1) o s else vs cd fc ln k (i + 1) (o + (-1)) (up1 s (o + (-1) - 1).toNatClampNeg (jn (cd i.toNatClampNeg) (s (o + (-1) - 1).toNatClampNeg) (s (o + (-1)).toNatClampNeg))) := rfl
theorem up1_eq {s : Nat → Int32} {k : Nat} {v : Int32} : up1 s k v k = v := if_pos rfl
theorem up1_ne {s : Nat → Int32} {k j : Nat} {v : Int32} (h : ¬ j = k) : up1 s k v j = s j := if_neg h
theorem evK_congr {cd' : Nat → Int32} {i i' v : Int32} (h : evK cd fc i i' v) (hc : ∀ j, i.toNatClampNeg ≤ j → j < i'.toNatClampNeg → cd' j = cd j) : evK cd' fc i i' v := ⟨h.1, fun cd2 ln k o s h2 => h.2 cd2 ln k o s (fun j p q => (h2 j p q).trans (hc j p q))⟩
theorem evK_one {i g v : Int32} (h0 : 0 ≤ i) (h1 : i < 50) (hg : cd i.toNatClampNeg = g) (n9 : ¬ g = 2009) (l2 : g < 2000) (hv : v = if 0 ≤ g - 1000 ∧ g - 1000 < 9 then fc (g - 1000).toNatClampNeg else g) : evK cd fc i (i + 1) v := by
  have e1 : (i + 1).toNatClampNeg = i.toNatClampNeg + 1 := cl_up h0 (by grind)
  refine ⟨by grind, fun cd' ln k o s hc hl o0 oi => ?_⟩
  rw [show k + ((i + 1).toNatClampNeg - i.toNatClampNeg) = k + 1 by omega, vs_s, if_neg (by grind), hc _ (Nat.le_refl _) (by omega), hg, if_neg n9, if_pos l2, if_neg (by grind), hv]
theorem evK_bin {i i1 i2 g v w : Int32} (h1 : evK cd fc i i1 v) (h2 : evK cd fc i1 i2 w) (h50 : i2 < 50) (hg : cd i2.toNatClampNeg = g) (n9 : ¬ g = 2009) (l2 : ¬ g < 2000) : evK cd fc i (i2 + 1) (jn g v w) := by
  obtain ⟨⟨a0, a1, a2⟩, p1⟩ := h1
  obtain ⟨⟨b0, b1, b2⟩, p2⟩ := h2
  have e1 : (i2 + 1).toNatClampNeg = i2.toNatClampNeg + 1 := cl_up (by grind) (by grind)
  have l1 := cl_lt a0 a1
  have l3 := cl_lt b0 b1
  refine ⟨⟨a0, by grind, by grind⟩, fun cd' ln k o s hc hl o0 oi => ?_⟩
  rw [show k + ((i2 + 1).toNatClampNeg - i.toNatClampNeg) = (k + 1 + (i2.toNatClampNeg - i1.toNatClampNeg)) + (i1.toNatClampNeg - i.toNatClampNeg) by omega]
  rw [p1 cd' ln _ o s (fun j x y => hc j x (by omega)) (by grind) o0 oi]
  rw [p2 cd' ln _ (o + 1) _ (fun j x y => hc j (by omega) (by omega)) (by grind) (by grind) (by grind)]
  have ea : o + 1 + 1 + (-1) = o + 1 := by grind
  have eb : o + 1 - 1 = o := by grind
  have ne : ¬ o.toNatClampNeg = (o + 1).toNatClampNeg := cl_ne o0 (by grind)
  rw [vs_s, if_neg (by grind), hc _ (by omega) (by omega), hg, if_neg n9, if_neg l2, if_neg (by grind), ea, eb, up1_eq, up1_ne ne, up1_eq]
  refine vs_eq k (i2 + 1) (o + 1) _ _ (by grind) (by grind) (fun j x y => ?_)
  by_cases hj : j = o
  · subst hj
    rw [up1_eq, up1_eq]
  · have h3 : ¬ j.toNatClampNeg = o.toNatClampNeg := fun q => hj (cl_inj x o0 q)
    have h4 : ¬ j.toNatClampNeg = (o + 1).toNatClampNeg := cl_ne x y
    rw [up1_ne h3, up1_ne h4, up1_ne h3, up1_ne h3]
theorem evK_not {i i1 v : Int32} (h1 : evK cd fc i i1 v) (h50 : i1 < 50) (hg : cd i1.toNatClampNeg = 2009) : evK cd fc i (i1 + 1) (1 - v) := by
  obtain ⟨⟨a0, a1, a2⟩, p1⟩ := h1
  have e1 : (i1 + 1).toNatClampNeg = i1.toNatClampNeg + 1 := cl_up (by grind) (by grind)
  have l1 := cl_lt a0 a1
  refine ⟨⟨a0, by grind, by grind⟩, fun cd' ln k o s hc hl o0 oi => ?_⟩
  rw [show k + ((i1 + 1).toNatClampNeg - i.toNatClampNeg) = (k + 1) + (i1.toNatClampNeg - i.toNatClampNeg) by omega]
  rw [p1 cd' ln _ o s (fun j x y => hc j x (by omega)) (by grind) o0 oi]
  have eb : o + 1 - 1 = o := by grind
  rw [vs_s, if_neg (by grind), hc _ (by omega) (by omega), hg, if_pos rfl, if_neg (by grind), eb, up1_eq]
  refine vs_eq k (i1 + 1) (o + 1) _ _ (by grind) (by grind) (fun j x y => ?_)
  by_cases hj : j = o
  · subst hj
    rw [up1_eq, up1_eq]
  · have h3 : ¬ j.toNatClampNeg = o.toNatClampNeg := fun q => hj (cl_inj x o0 q)
    rw [up1_ne h3, up1_ne h3, up1_ne h3]
theorem jn_ar {c x y : Int32} (h : c = 43 ∨ c = 45 ∨ c = 42) : jn (if c = 43 then 2000 else if c = 45 then 2000 + 1 else if c = 42 then 2000 + 2 else -9) x y = xar c x y := by
  rcases h with rfl | rfl | rfl <;> rfl
theorem jn_cmp {c x y : Int32} (h : c = 60 ∨ c = 61 ∨ c = 62) : jn (if c = 60 then 2003 else if c = 61 then 2003 + 1 else if c = 62 then 2003 + 2 else -9) x y = xcmp c x y := by
  rcases h with rfl | rfl | rfl
  · rw [show (if (60 : Int32) = 60 then (2003 : Int32) else if (60 : Int32) = 61 then 2003 + 1 else if (60 : Int32) = 62 then 2003 + 2 else -9) = 2003 by decide]
    unfold jn xcmp
    rw [show (2003 : Int32).toInt = 2003 from rfl, if_neg (by decide), if_neg (by decide), if_neg (by decide), if_pos rfl, if_pos rfl]
  · rw [show (if (61 : Int32) = 60 then (2003 : Int32) else if (61 : Int32) = 61 then 2003 + 1 else if (61 : Int32) = 62 then 2003 + 2 else -9) = 2004 by decide]
    unfold jn xcmp
    rw [show (2004 : Int32).toInt = 2004 from rfl, if_neg (by decide), if_neg (by decide), if_neg (by decide), if_neg (by decide), if_pos rfl, if_neg (show ¬ (61 : Int32) = 60 by decide), if_pos rfl]
  · rw [show (if (62 : Int32) = 60 then (2003 : Int32) else if (62 : Int32) = 61 then 2003 + 1 else if (62 : Int32) = 62 then 2003 + 2 else -9) = 2005 by decide]
    unfold jn xcmp
    rw [show (2005 : Int32).toInt = 2005 from rfl, if_neg (by decide), if_neg (by decide), if_neg (by decide), if_neg (by decide), if_neg (by decide), if_pos rfl, if_neg (show ¬ (62 : Int32) = 60 by decide), if_neg (show ¬ (62 : Int32) = 61 by decide)]
end KX

/-! what a TEXT comes to hangs on nine facts alone -/
section YF
variable {f : Nat → Int32} {e : Int32}
def eq9 (x y : Nat → Int32) : Prop := ∀ j, j < 9 → x j = y j
def vq (r : rdT) : Prop := ∀ x y, eq9 x y → r.2.2 x = r.2.2 y
theorem vq_k {b : Bool} {a v : Int32} : vq (b, a, fun _ => v) := fun _ _ _ => rfl
theorem xU_q (a : Int32) : vq (xU f e a) := by
  unfold xU
  split
  · intro x y h
    rename_i q
    have hr := (xft_r (f a.toNatClampNeg)).resolve_left q.2
    have h9 : (xft (f a.toNatClampNeg)).toNatClampNeg < 9 := show _ < (9 : Int32).toNatClampNeg from cl_lt hr.1 (by
      have := hr.2
      generalize xft (f a.toNatClampNeg) = z at this
      clear q hr h
      grind)
    exact h _ h9
  · split
    · exact vq_k
    · exact vq_k
theorem xsu_q : ∀ (k : Nat) (r : rdT), vq r → vq (xsu f e k r) := by
  intro k
  induction k with
  | zero => intro r h; exact h
  | succ k ih =>
    intro r h
    unfold xsu
    split
    · refine ih _ (fun x y q => ?_)
      show xar _ (r.2.2 x) _ = xar _ (r.2.2 y) _
      rw [h x y q, xU_q _ x y q]
    · exact h
theorem xS_q (a : Int32) : vq (xS f e a) := xsu_q 50 _ (xU_q a)
theorem xC_q (a : Int32) : vq (xC f e a) := by
  unfold xC
  split
  · split
    · intro x y q
      show xcmp _ _ _ = xcmp _ _ _
      rw [xS_q _ x y q, xS_q _ x y q]
    · exact vq_k
  · exact vq_k
theorem xlo_q {q : Int32 → rdT} (hq : ∀ a, vq (q a)) {c : Int32} {op : Int32 → Int32 → Int32} : ∀ (k : Nat) (r : rdT), vq r → vq (xlo f e q c op k r) := by
  intro k
  induction k with
  | zero => intro r h; exact h
  | succ k ih =>
    intro r h
    unfold xlo
    split
    · refine ih _ (fun x y w => ?_)
      show op (r.2.2 x) _ = op (r.2.2 y) _
      rw [h x y w, hq _ x y w]
    · exact h
theorem xjo_q {q : Int32 → rdT} (hq : ∀ a, vq (q a)) : ∀ (y : Nat) (a : Int32), vq (xjo f e q y a) := by
  intro y
  induction y with
  | zero => intro a; unfold xjo; exact hq a
  | succ y ih => intro a; unfold xjo; exact xlo_q ih 50 _ (ih a)
theorem xP_q : ∀ (z : Nat) (a : Int32), vq (xP f e z a) := by
  intro z
  induction z with
  | zero =>
    intro a
    unfold xP
    split
    · exact vq_k
    · exact xC_q a
  | succ z ih =>
    intro a
    unfold xP
    split
    · split
      · split
        · exact xjo_q ih 3 _
        · exact vq_k
      · exact vq_k
    · split
      · intro x y w
        show 1 - _ = 1 - _
        rw [ih _ x y w]
      · exact xC_q a
theorem xR_q (a : Int32) : vq (xR f e a) := xjo_q (xP_q 4) 3 a
theorem xT_q : vq (xT f e) := by
  unfold xT
  split
  · split
    · by_cases c : f 0 = 79
      · rw [if_pos c]
        split
        · exact xS_q 2
        · exact fun x y w => xS_q 2 x y w
      · rw [if_neg c]
        split
        · exact xR_q 2
        · exact fun x y w => xR_q 2 x y w
    · exact vq_k
  · exact vq_k
/-- a rule comes to 0 or 1 -/
def v01 (r : rdT) : Prop := ∀ x, r.2.2 x = 0 ∨ r.2.2 x = 1
theorem v01_k {b : Bool} {a : Int32} : v01 (b, a, fun _ => 0) := fun _ => Or.inl rfl
theorem xlo_v1 {q : Int32 → rdT} (hq : ∀ a, v01 (q a)) {c : Int32} {y : Nat} : ∀ (k : Nat) (r : rdT), v01 r → v01 (xlo f e q c (opY y) k r) := by
  intro k
  induction k with
  | zero => intro r h; exact h
  | succ k ih =>
    intro r h
    unfold xlo
    split
    · refine ih _ (fun x => ?_)
      show opY y (r.2.2 x) _ = 0 ∨ opY y (r.2.2 x) _ = 1
      unfold opY
      rcases h x with e1 | e1 <;> rcases hq (r.2.1 + 1) x with e2 | e2 <;> rw [e1, e2] <;> (split; decide; split; decide; decide)
    · exact h
theorem xjo_v1 {q : Int32 → rdT} (hq : ∀ a, v01 (q a)) : ∀ (y : Nat) (a : Int32), v01 (xjo f e q y a) := by
  intro y
  induction y with
  | zero => intro a; unfold xjo; exact hq a
  | succ y ih => intro a; unfold xjo; exact xlo_v1 ih 50 _ (ih a)
theorem xC_v1 (a : Int32) : v01 (xC f e a) := fun x => xC_01
theorem xP_v1 : ∀ (z : Nat) (a : Int32), v01 (xP f e z a) := by
  intro z
  induction z with
  | zero =>
    intro a
    unfold xP
    split
    · exact v01_k
    · exact xC_v1 a
  | succ z ih =>
    intro a
    unfold xP
    split
    · split
      · split
        · exact xjo_v1 ih 3 _
        · exact v01_k
      · exact v01_k
    · split
      · intro x
        show 1 - (xP f e z (a + 1)).2.2 x = 0 ∨ 1 - (xP f e z (a + 1)).2.2 x = 1
        rcases ih (a + 1) x with e1 | e1 <;> rw [e1] <;> decide
      · exact xC_v1 a
theorem xR_v1 (a : Int32) : v01 (xR f e a) := xjo_v1 (xP_v1 4) 3 a
theorem xT_rule (h : (xT f e).1 = true) (hl : ¬ f 0 = 79) : (xR f e 2).1 = true ∧ (xR f e 2).2.1 = e ∧ xT f e = xR f e 2 := by
  unfold xT at h ⊢
  rw [if_neg hl] at h ⊢
  by_cases c0 : 0 < e ∧ (f 0 = 66 ∨ f 0 = 87 ∨ f 0 = 79)
  · rw [if_pos c0] at h ⊢
    by_cases c1 : 1 < e ∧ f 1 = 58
    · rw [if_pos c1] at h ⊢
      by_cases c2 : (xR f e 2).2.1 = e
      · rw [if_pos c2] at h ⊢
        exact ⟨h, c2, rfl⟩
      · rw [if_neg c2] at h
        exact absurd h Bool.false_ne_true
    · rw [if_neg c1] at h
      exact absurd h Bool.false_ne_true
  · rw [if_neg c0] at h
    exact absurd h Bool.false_ne_true
theorem xT_sum (h : (xT f e).1 = true) (hl : f 0 = 79) : (xS f e 2).1 = true ∧ (xS f e 2).2.1 = e ∧ xT f e = xS f e 2 := by
  unfold xT at h ⊢
  rw [if_pos hl] at h ⊢
  by_cases c0 : 0 < e ∧ (f 0 = 66 ∨ f 0 = 87 ∨ f 0 = 79)
  · rw [if_pos c0] at h ⊢
    by_cases c1 : 1 < e ∧ f 1 = 58
    · rw [if_pos c1] at h ⊢
      by_cases c2 : (xS f e 2).2.1 = e
      · rw [if_pos c2] at h ⊢
        exact ⟨h, c2, rfl⟩
      · rw [if_neg c2] at h
        exact absurd h Bool.false_ne_true
    · rw [if_neg c1] at h
      exact absurd h Bool.false_ne_true
  · rw [if_neg c0] at h
    exact absurd h Bool.false_ne_true
/-- the texts that are kept, by the model's cells: bytes, their number, in force, what one comes to, the least that holds -/
def wtY (Y : Nat → Nat → Int32) (t : Nat) : Nat → Int32 := fun j => Y 28 (50 * t + j)
def wvY (Y : Nat → Nat → Int32) (t : Nat) (fc : Nat → Int32) : Int32 := (xT (wtY Y t) (Y 29 t)).2.2 fc
def hgY (Y : Nat → Nat → Int32) (g s : Int32) (fc : Nat → Int32) : Nat → Int32 → Int32
  | 0, _ => -9
  | k + 1, i => if (wtY Y i.toNatClampNeg 0 = g ∧ Y 30 i.toNatClampNeg ≤ s ∧ s < Y 31 i.toNatClampNeg) ∧ ¬ wvY Y i.toNatClampNeg fc = 0 then i else hgY Y g s fc k (i + 1)
theorem hgY_q {Y : Nat → Nat → Int32} {g s : Int32} {x y : Nat → Int32} (h : eq9 x y) : ∀ (k : Nat) (i : Int32), hgY Y g s x k i = hgY Y g s y k i := by
  intro k
  induction k with
  | zero => intro i; rfl
  | succ k ih =>
    intro i
    unfold hgY
    rw [show wvY Y i.toNatClampNeg x = wvY Y i.toNatClampNeg y from xT_q x y h, ih]
/-- all texts that are kept stand -/
def tsY (Y : Nat → Nat → Int32) : Prop := ∀ t : Nat, t < (Y 0 41).toNatClampNeg → (xT (wtY Y t) (Y 29 t)).1 = true ∧ 0 ≤ Y 29 t ∧ Y 29 t ≤ 50
/-- the facts of a place -/
def fcY (Y : Nat → Nat → Int32) (a : Nat) (mk b s lost : Int32) : Nat → Int32 := fun j => if j = 0 then Y 7 a else if j = 1 then Y 8 a else if j = 2 then Y 9 a else if j = 3 then Y 10 a else if j = 4 then Y 15 a else if j = 5 then (if mk < 0 then 0 else mk) else if j = 6 then s else if j = 7 then b else lost
end YF

/-! who is busy, host by host -/
section YK
variable {Y : Nat → Nat → Int32}
def nrY (Y : Nat → Nat → Int32) (s o x : Int32) : Prop := Y 21 o.toNatClampNeg + x - s ≤ Y 0 9 ∧ -(Y 0 9) ≤ Y 21 o.toNatClampNeg + x - s
theorem c_ll {a b c : Int32} (h1 : a < b) (h2 : b ≤ c) : a < c := by grind
theorem cl_lt2 {x y : Int32} (h0 : 0 ≤ x) (h1 : 0 ≤ y) (h : x.toNatClampNeg < y.toNatClampNeg) : x < y := by
  have a := Int32.le_iff_toInt_le.mp h0
  have b := Int32.le_iff_toInt_le.mp h1
  have c0 : (0 : Int32).toInt = 0 := rfl
  have e1 : x.toNatClampNeg = x.toInt.toNat := rfl
  have e2 : y.toNatClampNeg = y.toInt.toNat := rfl
  rw [Int32.lt_iff_toInt_lt]
  omega
theorem fbI_bit {s o m : Int32} (hm : m ≤ 4) {h : Nat} : ∀ (k : Nat) (i p : Int32), 0 ≤ i → i ≤ m → m.toNatClampNeg = i.toNatClampNeg + k → (bq (fbI Y s o k i p) h = true ↔ (bq p h = true ∨ ∃ x : Int32, i ≤ x ∧ x < m ∧ nrY Y s o x ∧ bq (Y 22 (4 * o + x).toNatClampNeg) h = true)) := by
  intro k
  induction k with
  | zero =>
    intro i p h0 h1 h2
    have e : i = m := cl_inj h0 (Int32.le_trans h0 h1) (by omega)
    subst e
    refine ⟨fun q => Or.inl q, fun q => ?_⟩
    rcases q with q | ⟨x, x1, x2, -⟩
    · exact q
    · exact absurd (c_ll x2 x1) Int32.lt_irrefl
  | succ k ih =>
    intro i p h0 h1 h2
    have him : i < m := cl_lt2 h0 (Int32.le_trans h0 h1) (by omega)
    have ei : (i + 1).toNatClampNeg = i.toNatClampNeg + 1 := cl_up h0 (by clear ih h2; grind)
    unfold fbI
    rw [ih (i + 1) _ (by clear ih h2 ei; grind) (by clear ih h2 ei; grind) (by omega), bq_or, Bool.or_eq_true]
    refine ⟨fun q => ?_, fun q => ?_⟩
    · rcases q with (q | q) | ⟨x, x1, x2, x3, x4⟩
      · exact Or.inl q
      · by_cases c : Y 21 o.toNatClampNeg + i - s ≤ Y 0 9 ∧ -(Y 0 9) ≤ Y 21 o.toNatClampNeg + i - s
        · rw [if_pos c] at q
          exact Or.inr ⟨i, Int32.le_refl i, him, c, q⟩
        · rw [if_neg c, bq_0] at q
          exact absurd q Bool.false_ne_true
      · exact Or.inr ⟨x, by clear ih h2 ei x3 x4; grind, x2, x3, x4⟩
    · rcases q with q | ⟨x, x1, x2, x3, x4⟩
      · exact Or.inl (Or.inl q)
      · by_cases e : x = i
        · subst e
          exact Or.inl (Or.inr (by unfold nrY at x3; rw [if_pos x3]; exact x4))
        · exact Or.inr ⟨x, by clear ih h2 ei x3 x4; grind, x2, x3, x4⟩
/-- a host is busy near a SHIFT by others than one ASK -/
def buY (Y : Nat → Nat → Int32) (a s o : Int32) (h : Nat) : Prop := 0 ≤ Y 20 o.toNatClampNeg ∧ ¬ o = a ∧ ∃ x : Int32, 0 ≤ x ∧ x < Y 10 o.toNatClampNeg ∧ nrY Y s o x ∧ bq (Y 22 (4 * o + x).toNatClampNeg) h = true
theorem fbO_bit {a s m : Int32} (hm : m ≤ 30) (hl : ∀ j, 0 ≤ Y 10 j ∧ Y 10 j ≤ 4) {h : Nat} : ∀ (k : Nat) (o p : Int32), 0 ≤ o → o ≤ m → m.toNatClampNeg = o.toNatClampNeg + k → (bq (fbO Y a s k o p) h = true ↔ (bq p h = true ∨ ∃ x : Int32, o ≤ x ∧ x < m ∧ buY Y a s x h)) := by
  intro k
  induction k with
  | zero =>
    intro i p h0 h1 h2
    have e : i = m := cl_inj h0 (Int32.le_trans h0 h1) (by omega)
    subst e
    refine ⟨fun q => Or.inl q, fun q => ?_⟩
    rcases q with q | ⟨x, x1, x2, -⟩
    · exact q
    · exact absurd (c_ll x2 x1) Int32.lt_irrefl
  | succ k ih =>
    intro i p h0 h1 h2
    have him : i < m := cl_lt2 h0 (Int32.le_trans h0 h1) (by omega)
    have ei : (i + 1).toNatClampNeg = i.toNatClampNeg + 1 := cl_up h0 (by clear ih h2 hl; grind)
    have hli := hl i.toNatClampNeg
    unfold fbO
    rw [ih (i + 1) _ (by clear ih h2 ei hl hli; grind) (by clear ih h2 ei hl hli; grind) (by omega)]
    by_cases c : 0 ≤ Y 20 i.toNatClampNeg ∧ ¬ i = a
    · rw [if_pos c, fbI_bit hli.2 _ 0 p (by decide) hli.1 (by rw [show (0 : Int32).toNatClampNeg = 0 from rfl, Nat.zero_add])]
      refine ⟨fun q => ?_, fun q => ?_⟩
      · rcases q with (q | ⟨y, y1, y2, y3, y4⟩) | ⟨x, x1, x2, x3⟩
        · exact Or.inl q
        · exact Or.inr ⟨i, Int32.le_refl i, him, c.1, c.2, y, y1, y2, y3, y4⟩
        · exact Or.inr ⟨x, by clear ih h2 ei hl hli x3 c; grind, x2, x3⟩
      · rcases q with q | ⟨x, x1, x2, x3⟩
        · exact Or.inl (Or.inl q)
        · by_cases e : x = i
          · subst e
            exact Or.inl (Or.inr x3.2.2)
          · exact Or.inr ⟨x, by clear ih h2 ei hl hli x3 c; grind, x2, x3⟩
    · rw [if_neg c]
      refine ⟨fun q => ?_, fun q => ?_⟩
      · rcases q with q | ⟨x, x1, x2, x3⟩
        · exact Or.inl q
        · exact Or.inr ⟨x, by clear ih h2 ei hl hli x3 c; grind, x2, x3⟩
      · rcases q with q | ⟨x, x1, x2, x3⟩
        · exact Or.inl q
        · by_cases e : x = i
          · subst e
            exact absurd ⟨x3.1, x3.2.1⟩ c
          · exact Or.inr ⟨x, by clear ih h2 ei hl hli x3 c; grind, x2, x3⟩
end YK
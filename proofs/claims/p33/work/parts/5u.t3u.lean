/-! what others have -/
section YU
variable {Y : Nat → Nat → Int32} {W T : Int32 → Nat → Int32}
theorem nx_or {i o : Int32} (h : i ≤ o) : o = i ∨ i + 1 ≤ o := by
  by_cases e : o = i
  · exact Or.inl e
  · right
    have a := Int32.le_iff_toInt_le.mp h
    have b := Int32.toInt_lt o
    have b2 := Int32.le_toInt i
    have c1 : (1 : Int32).toInt = 1 := rfl
    have ne : ¬ i.toInt = o.toInt := fun q => e (Int32.toInt_inj.mp q).symm
    have e2 : (i + 1).toInt = i.toInt + 1 := by rw [ti_add (by omega), c1]
    rw [Int32.le_iff_toInt_le, e2]
    omega
theorem hg_is {a b s m : Int32} : ∀ (k : Nat) (o g : Int32), (g = 0 ∨ g = 1) → 0 ≤ o → o ≤ m → m.toNatClampNeg = o.toNatClampNeg + k → ((∃ x : Int32, o ≤ x ∧ x < m ∧ ¬ x = a ∧ hoY Y x b s) ∧ hgI Y a b s k o g = 6) ∨ (¬ (∃ x : Int32, o ≤ x ∧ x < m ∧ ¬ x = a ∧ hoY Y x b s) ∧ ((¬ g = 0 ∨ ∃ x : Int32, o ≤ x ∧ x < m ∧ geY Y a x s) ∧ hgI Y a b s k o g = 7)) ∨ (¬ (∃ x : Int32, o ≤ x ∧ x < m ∧ ¬ x = a ∧ hoY Y x b s) ∧ (¬ (¬ g = 0 ∨ ∃ x : Int32, o ≤ x ∧ x < m ∧ geY Y a x s) ∧ hgI Y a b s k o g = 0)) := by
  intro k
  induction k with
  | zero =>
    intro o g hg h0 h1 h2
    have e : o = m := cl_inj h0 (Int32.le_trans h0 h1) (by omega)
    subst e
    have n1 : ¬ (∃ x : Int32, o ≤ x ∧ x < o ∧ ¬ x = a ∧ hoY Y x b s) := fun ⟨x, x1, x2, _⟩ => absurd x2 (Int32.not_lt.mpr x1)
    have n2 : ¬ (∃ x : Int32, o ≤ x ∧ x < o ∧ geY Y a x s) := fun ⟨x, x1, x2, _⟩ => absurd x2 (Int32.not_lt.mpr x1)
    unfold hgI
    rcases hg with e | e
    · subst e
      exact Or.inr (Or.inr ⟨n1, fun q => q.elim (fun z => z rfl) n2, rfl⟩)
    · subst e
      exact Or.inr (Or.inl ⟨n1, Or.inl (by decide), rfl⟩)
  | succ k ih =>
    intro o g hg h0 h1 h2
    have w : o < m := cl_lt2 h0 (Int32.le_trans h0 h1) (by omega)
    obtain ⟨s1, s2, s3, s4⟩ := lp_st h0 w
    unfold hgI
    by_cases c : ¬ o = a ∧ (0 ≤ Y 20 o.toNatClampNeg ∧ Y 20 o.toNatClampNeg = b ∧ Y 21 o.toNatClampNeg ≤ s ∧ s < Y 21 o.toNatClampNeg + Y 10 o.toNatClampNeg)
    · rw [if_pos c]
      exact Or.inl ⟨⟨o, Int32.le_refl _, w, c.1, c.2⟩, rfl⟩
    · rw [if_neg c]
      have e1 : (∃ x : Int32, o ≤ x ∧ x < m ∧ ¬ x = a ∧ hoY Y x b s) ↔ ∃ x : Int32, o + 1 ≤ x ∧ x < m ∧ ¬ x = a ∧ hoY Y x b s := ⟨fun ⟨x, x1, x2, x3, x4⟩ => by
        rcases nx_or x1 with e | e
        · subst e
          exact absurd ⟨x3, x4⟩ c
        · exact ⟨x, e, x2, x3, x4⟩, fun ⟨x, x1, x2, x3, x4⟩ => ⟨x, Int32.le_trans (Int32.le_of_lt (lt_p1 w)) x1, x2, x3, x4⟩⟩
      by_cases c2 : ¬ g = 0 ∨ (¬ o = a ∧ 0 ≤ Y 20 o.toNatClampNeg ∧ Y 14 o.toNatClampNeg = Y 14 a.toNatClampNeg ∧ 0 ≤ Y 14 a.toNatClampNeg ∧ Y 21 o.toNatClampNeg ≤ s ∧ s < Y 21 o.toNatClampNeg + Y 10 o.toNatClampNeg)
      · rw [if_pos c2]
        have e2 : (¬ g = 0 ∨ ∃ x : Int32, o ≤ x ∧ x < m ∧ geY Y a x s) := c2.elim Or.inl (fun z => Or.inr ⟨o, Int32.le_refl _, w, z⟩)
        rcases ih (o + 1) 1 (Or.inr rfl) s2 s3 (by omega) with q | q | q
        · exact Or.inl ⟨e1.mpr q.1, q.2⟩
        · exact Or.inr (Or.inl ⟨fun z => q.1 (e1.mp z), e2, q.2.2⟩)
        · exact absurd (Or.inl (by decide)) q.2.1
      · rw [if_neg c2]
        have e2 : (¬ g = 0 ∨ ∃ x : Int32, o ≤ x ∧ x < m ∧ geY Y a x s) ↔ (¬ (0 : Int32) = 0 ∨ ∃ x : Int32, o + 1 ≤ x ∧ x < m ∧ geY Y a x s) := ⟨fun z => by
          rcases z with z | ⟨x, x1, x2, x3⟩
          · exact absurd (Or.inl z) c2
          · rcases nx_or x1 with e | e
            · subst e
              exact absurd (Or.inr x3) c2
            · exact Or.inr ⟨x, e, x2, x3⟩, fun z => by
          rcases z with z | ⟨x, x1, x2, x3⟩
          · exact absurd rfl z
          · exact Or.inr ⟨x, Int32.le_trans (Int32.le_of_lt (lt_p1 w)) x1, x2, x3⟩⟩
        rcases ih (o + 1) 0 (Or.inl rfl) s2 s3 (by omega) with q | q | q
        · exact Or.inl ⟨e1.mpr q.1, q.2⟩
        · exact Or.inr (Or.inl ⟨fun z => q.1 (e1.mp z), e2.mpr q.2.1, q.2.2⟩)
        · exact Or.inr (Or.inr ⟨fun z => q.1 (e1.mp z), fun z => q.2.1 (e2.mp z), q.2.2⟩)
/-- the class looks for the same GEAR bench by bench -/
def geC (W : Int32 → Nat → Int32) (G : Nat → Int32) (a b s m : Int32) : Nat → Int32 → Int32
  | 0, _ => 0
  | k + 1, x => if (¬ x = b ∧ ¬ W x s.toNatClampNeg = -9 ∧ ¬ W x s.toNatClampNeg = a) ∧ (0 ≤ W x s.toNatClampNeg ∧ W x s.toNatClampNeg < m) ∧ G (W x s.toNatClampNeg).toNatClampNeg = G a.toNatClampNeg then 1 else geC W G a b s m k (x + 1)
theorem geC_is {G : Nat → Int32} {a b s m n : Int32} : ∀ (k : Nat) (x : Int32), 0 ≤ x → x ≤ n → n.toNatClampNeg = x.toNatClampNeg + k → ((∃ y : Int32, x ≤ y ∧ y < n ∧ (¬ y = b ∧ ¬ W y s.toNatClampNeg = -9 ∧ ¬ W y s.toNatClampNeg = a) ∧ (0 ≤ W y s.toNatClampNeg ∧ W y s.toNatClampNeg < m) ∧ G (W y s.toNatClampNeg).toNatClampNeg = G a.toNatClampNeg) ∧ geC W G a b s m k x = 1) ∨ (¬ (∃ y : Int32, x ≤ y ∧ y < n ∧ (¬ y = b ∧ ¬ W y s.toNatClampNeg = -9 ∧ ¬ W y s.toNatClampNeg = a) ∧ (0 ≤ W y s.toNatClampNeg ∧ W y s.toNatClampNeg < m) ∧ G (W y s.toNatClampNeg).toNatClampNeg = G a.toNatClampNeg) ∧ geC W G a b s m k x = 0) := by
  intro k
  induction k with
  | zero =>
    intro x h0 h1 h2
    have e : x = n := cl_inj h0 (Int32.le_trans h0 h1) (by omega)
    subst e
    exact Or.inr ⟨fun ⟨y, y1, y2, _⟩ => absurd y2 (Int32.not_lt.mpr y1), rfl⟩
  | succ k ih =>
    intro x h0 h1 h2
    have w : x < n := cl_lt2 h0 (Int32.le_trans h0 h1) (by omega)
    obtain ⟨s1, s2, s3, s4⟩ := lp_st h0 w
    unfold geC
    by_cases c : (¬ x = b ∧ ¬ W x s.toNatClampNeg = -9 ∧ ¬ W x s.toNatClampNeg = a) ∧ (0 ≤ W x s.toNatClampNeg ∧ W x s.toNatClampNeg < m) ∧ G (W x s.toNatClampNeg).toNatClampNeg = G a.toNatClampNeg
    · rw [if_pos c]
      exact Or.inl ⟨⟨x, Int32.le_refl _, w, c⟩, rfl⟩
    · rw [if_neg c]
      rcases ih (x + 1) s2 s3 (by omega) with ⟨⟨y, y1, y2, y3⟩, q⟩ | ⟨q1, q2⟩
      · exact Or.inl ⟨⟨y, Int32.le_trans (Int32.le_of_lt (lt_p1 w)) y1, y2, y3⟩, q⟩
      · refine Or.inr ⟨fun ⟨y, y1, y2, y3⟩ => ?_, q2⟩
        rcases nx_or y1 with e | e
        · subst e
          exact c y3
        · exact q1 ⟨y, e, y2, y3⟩
theorem sh_in {p l s : Int32} (h0 : 0 ≤ p) (h1 : p + l ≤ 200) (hl : 0 ≤ l ∧ l ≤ 4) (hp : p ≤ 200) : (p ≤ s ∧ s < p + l) ↔ ∃ i : Int32, 0 ≤ i ∧ i < l ∧ s = p + i := by
  refine ⟨fun ⟨q1, q2⟩ => ⟨s - p, ?_, ?_, ?_⟩, fun ⟨i, i1, i2, i3⟩ => ?_⟩
  · grind
  · grind
  · grind
  · subst i3
    grind
theorem had_is (hp : plP W T Y) (hl : ∀ j, 0 ≤ Y 10 j ∧ Y 10 j ≤ 4) {a b s : Int32} (hb : 0 ≤ b ∧ b < Y 0 6) (hs : 0 ≤ s ∧ s < 200) : (¬ W b s.toNatClampNeg = -9 ∧ ¬ W b s.toNatClampNeg = a) ↔ ∃ x : Int32, 0 ≤ x ∧ x < Y 0 17 ∧ ¬ x = a ∧ hoY Y x b s := by
  refine ⟨fun ⟨q1, q2⟩ => ?_, fun ⟨x, x1, x2, x3, x4, x5, x6, x7⟩ => ?_⟩
  · rcases hp.2 b s hb.1 hb.2 hs.1 hs.2 with ⟨r1, _⟩ | ⟨o, i, o1, o2, o3, i1, i2, i3⟩
    · exact absurd r1 q1
    · have hw := (who_is hp hb hs ⟨o1, o2⟩).mpr ⟨o3, i, i1, i2, i3⟩
      have ho4 : 0 ≤ Y 20 o.toNatClampNeg := by rw [o3]; exact hb.1
      obtain ⟨p1, p2, p3, -⟩ := hp.1 o o1 o2 ho4
      have h200 : Y 21 o.toNatClampNeg ≤ 200 := by
        have := hl o.toNatClampNeg
        clear hp hl hw q1 q2 i1 i2 i3
        grind
      have hr := (sh_in p2.1 p3 (hl _) h200).mpr ⟨i, i1, i2, i3⟩
      exact ⟨o, o1, o2, fun e => q2 (hw.trans e), ho4, o3, hr.1, hr.2⟩
  · obtain ⟨p1, p2, p3, -⟩ := hp.1 x x1 x2 x4
    have h200 : Y 21 x.toNatClampNeg ≤ 200 := by
      have := hl x.toNatClampNeg
      clear hp hl x3 x4 x5 x6 x7
      grind
    obtain ⟨i, i1, i2, i3⟩ := (sh_in p2.1 p3 (hl _) h200).mp ⟨x6, x7⟩
    have hw := (who_is hp hb hs ⟨x1, x2⟩).mpr ⟨x5, i, i1, i2, i3⟩
    rw [hw]
    exact ⟨fun e => absurd x1 (by rw [e]; decide), x3⟩
theorem gear_is (hp : plP W T Y) (hl : ∀ j, 0 ≤ Y 10 j ∧ Y 10 j ≤ 4) {a b s : Int32} (hb : 0 ≤ b ∧ b < Y 0 6) (hs : 0 ≤ s ∧ s < 200) (hg : 0 ≤ Y 14 a.toNatClampNeg) (hn : ¬ ∃ x : Int32, 0 ≤ x ∧ x < Y 0 17 ∧ ¬ x = a ∧ hoY Y x b s) : (∃ y : Int32, 0 ≤ y ∧ y < Y 0 6 ∧ (¬ y = b ∧ ¬ W y s.toNatClampNeg = -9 ∧ ¬ W y s.toNatClampNeg = a) ∧ (0 ≤ W y s.toNatClampNeg ∧ W y s.toNatClampNeg < Y 0 17) ∧ Y 14 (W y s.toNatClampNeg).toNatClampNeg = Y 14 a.toNatClampNeg) ↔ ∃ x : Int32, 0 ≤ x ∧ x < Y 0 17 ∧ geY Y a x s := by
  refine ⟨fun ⟨y, y1, y2, ⟨y3, y4, y5⟩, ⟨y6, y7⟩, y8⟩ => ?_, fun ⟨x, x1, x2, x3, x4, x5, x6, x7, x8⟩ => ?_⟩
  · have hw := (who_is hp ⟨y1, y2⟩ hs ⟨y6, y7⟩).mp rfl
    obtain ⟨e1, i, i1, i2, i3⟩ := hw
    have ho4 : 0 ≤ Y 20 (W y s.toNatClampNeg).toNatClampNeg := by rw [e1]; exact y1
    obtain ⟨p1, p2, p3, -⟩ := hp.1 _ y6 y7 ho4
    have h200 : Y 21 (W y s.toNatClampNeg).toNatClampNeg ≤ 200 := by
      have := hl (W y s.toNatClampNeg).toNatClampNeg
      generalize W y s.toNatClampNeg = o at *
      clear hp hl hn i1 i2 i3
      grind
    have hr := (sh_in p2.1 p3 (hl _) h200).mpr ⟨i, i1, i2, i3⟩
    exact ⟨_, y6, y7, y5, ho4, y8, hg, hr.1, hr.2⟩
  · obtain ⟨p1, p2, p3, -⟩ := hp.1 x x1 x2 x4
    have h200 : Y 21 x.toNatClampNeg ≤ 200 := by
      have := hl x.toNatClampNeg
      clear hp hl hn x3 x4 x5 x6 x7 x8
      grind
    obtain ⟨i, i1, i2, i3⟩ := (sh_in p2.1 p3 (hl _) h200).mp ⟨x7, x8⟩
    have hw := (who_is hp ⟨x4, p1⟩ hs ⟨x1, x2⟩).mpr ⟨rfl, i, i1, i2, i3⟩
    refine ⟨Y 20 x.toNatClampNeg, x4, p1, ⟨fun e => hn ⟨x, x1, x2, x3, x4, e, x7, x8⟩, ?_, ?_⟩, ?_, ?_⟩
    · rw [hw]
      exact fun e => absurd x1 (by rw [e]; decide)
    · rw [hw]
      exact x3
    · rw [hw]
      exact ⟨x1, x2⟩
    · rw [hw]
      exact x5
/-- what others have, as the class finds it -/
theorem hg_class (hp : plP W T Y) (hl : ∀ j, 0 ≤ Y 10 j ∧ Y 10 j ≤ 4) (hn : 0 ≤ Y 0 17) (hn6 : 0 ≤ Y 0 6) {a b s : Int32} (hb : 0 ≤ b ∧ b < Y 0 6) (hs : 0 ≤ s ∧ s < 200) : hgI Y a b s (Y 0 17).toNatClampNeg 0 0 = (if ¬ W b s.toNatClampNeg = -9 ∧ ¬ W b s.toNatClampNeg = a then 6 else if 0 ≤ Y 14 a.toNatClampNeg ∧ geC W (Y 14) a b s (Y 0 17) (Y 0 6).toNatClampNeg 0 = 1 then 7 else 0) := by
  have h1 := had_is hp hl (a := a) hb hs
  have h3 := hg_is (Y := Y) (a := a) (b := b) (s := s) (m := Y 0 17) (Y 0 17).toNatClampNeg 0 0 (Or.inl rfl) (by decide) hn (by rw [show (0 : Int32).toNatClampNeg = 0 from rfl, Nat.zero_add])
  have h4 := geC_is (W := W) (G := Y 14) (a := a) (b := b) (s := s) (m := Y 0 17) (n := Y 0 6) (Y 0 6).toNatClampNeg 0 (by decide) hn6 (by rw [show (0 : Int32).toNatClampNeg = 0 from rfl, Nat.zero_add])
  have d10 : ¬ (0 : Int32) = 1 := by decide
  rcases h3 with ⟨q1, q2⟩ | ⟨q1, q2, q3⟩ | ⟨q1, q2, q3⟩
  · rw [q2, if_pos (h1.mpr q1)]
  · rw [q3, if_neg (fun z => q1 (h1.mp z))]
    obtain ⟨x, x1, x2, x3⟩ := q2.resolve_left (fun z => z rfl)
    have hg : 0 ≤ Y 14 a.toNatClampNeg := x3.2.2.2.1
    have h2 := gear_is hp hl hb hs hg q1
    rcases h4 with ⟨_, r⟩ | ⟨r, _⟩
    · rw [if_pos ⟨hg, r⟩]
    · exact absurd (h2.mpr ⟨x, x1, x2, x3⟩) r
  · rw [q3, if_neg (fun z => q1 (h1.mp z))]
    by_cases hg : 0 ≤ Y 14 a.toNatClampNeg
    · have h2 := gear_is hp hl hb hs hg q1
      rcases h4 with ⟨r, _⟩ | ⟨_, r⟩
      · exact absurd (Or.inr (h2.mp r)) q2
      · rw [if_neg (fun z => d10 (r.symm.trans z.2))]
    · rw [if_neg (fun z => hg z.1)]
end YU
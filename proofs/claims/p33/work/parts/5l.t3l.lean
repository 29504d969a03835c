/-! places on benches -/
section YL
variable {Y : Nat → Nat → Int32} {W T : Int32 → Nat → Int32}
/-- W b x: who has a bench in a SHIFT, T b x: who stands there, are the model's places -/
def plP (W T : Int32 → Nat → Int32) (Y : Nat → Nat → Int32) : Prop :=
  (∀ o : Int32, 0 ≤ o → o < Y 0 17 → 0 ≤ Y 20 o.toNatClampNeg → Y 20 o.toNatClampNeg < Y 0 6 ∧ (0 ≤ Y 21 o.toNatClampNeg ∧ Y 21 o.toNatClampNeg ≤ 200) ∧ Y 21 o.toNatClampNeg + Y 10 o.toNatClampNeg ≤ 200 ∧ ∀ x : Int32, 0 ≤ x → x < Y 10 o.toNatClampNeg → W (Y 20 o.toNatClampNeg) (Y 21 o.toNatClampNeg + x).toNatClampNeg = o ∧ T (Y 20 o.toNatClampNeg) (Y 21 o.toNatClampNeg + x).toNatClampNeg = Y 22 (4 * o + x).toNatClampNeg) ∧
  (∀ b x : Int32, 0 ≤ b → b < Y 0 6 → 0 ≤ x → x < 200 → (W b x.toNatClampNeg = -9 ∧ T b x.toNatClampNeg = 0) ∨ ∃ o i : Int32, 0 ≤ o ∧ o < Y 0 17 ∧ Y 20 o.toNatClampNeg = b ∧ 0 ≤ i ∧ i < Y 10 o.toNatClampNeg ∧ x = Y 21 o.toNatClampNeg + i)
theorem busy_same (hp : plP W T Y) (hl : ∀ j, 0 ≤ Y 10 j ∧ Y 10 j ≤ 4) {a s f e : Int32} (hfe : ∀ x : Int32, (0 ≤ x ∧ x ≤ 199 ∧ x - s ≤ Y 0 9 ∧ -(Y 0 9) ≤ x - s) ↔ (f ≤ x ∧ x ≤ e)) {h : Nat} : (∃ o : Int32, 0 ≤ o ∧ o < Y 0 17 ∧ buY Y a s o h) ↔ ∃ b x : Int32, 0 ≤ b ∧ b < Y 0 6 ∧ f ≤ x ∧ x ≤ e ∧ ¬ W b x.toNatClampNeg = a ∧ bq (T b x.toNatClampNeg) h = true := by
  refine ⟨fun ⟨o, o1, o2, o3, o4, x, x1, x2, x3, x4⟩ => ?_, fun ⟨b, x, b1, b2, x1, x2, x3, x4⟩ => ?_⟩
  · obtain ⟨p1, p2, p3, p4⟩ := hp.1 o o1 o2 o3
    obtain ⟨w1, w2⟩ := p4 x x1 x2
    have hlo := hl o.toNatClampNeg
    have hx : 0 ≤ Y 21 o.toNatClampNeg + x ∧ Y 21 o.toNatClampNeg + x ≤ 199 := by
      clear hp hl hfe w1 w2 x3 x4 p4
      grind
    have hr := (hfe (Y 21 o.toNatClampNeg + x)).mp ⟨hx.1, hx.2, x3.1, x3.2⟩
    exact ⟨Y 20 o.toNatClampNeg, Y 21 o.toNatClampNeg + x, o3, p1, hr.1, hr.2, by rw [w1]; exact o4, by rw [w2]; exact x4⟩
  · obtain ⟨r1, r2, r3, r4⟩ := (hfe x).mpr ⟨x1, x2⟩
    rcases hp.2 b x b1 b2 r1 (by clear hp hl hfe x3 x4; grind) with ⟨q1, q2⟩ | ⟨o, i, o1, o2, o3, i1, i2, i3⟩
    · rw [q2, bq_0] at x4
      exact absurd x4 Bool.false_ne_true
    · have o4 : 0 ≤ Y 20 o.toNatClampNeg := by rw [o3]; exact b1
      obtain ⟨p1, p2, p3, p4⟩ := hp.1 o o1 o2 o4
      obtain ⟨w1, w2⟩ := p4 i i1 i2
      rw [o3, ← i3] at w1 w2
      refine ⟨o, o1, o2, o4, by rw [← w1]; exact x3, i, i1, i2, ?_, by rw [← w2]; exact x4⟩
      unfold nrY
      rw [← i3]
      exact ⟨r3, r4⟩
/-- an ASK holds a bench in a SHIFT just if it stands in the class's row -/
theorem who_is (hp : plP W T Y) {b x o : Int32} (hb : 0 ≤ b ∧ b < Y 0 6) (hx : 0 ≤ x ∧ x < 200) (ho : 0 ≤ o ∧ o < Y 0 17) : W b x.toNatClampNeg = o ↔ (Y 20 o.toNatClampNeg = b ∧ ∃ i : Int32, 0 ≤ i ∧ i < Y 10 o.toNatClampNeg ∧ x = Y 21 o.toNatClampNeg + i) := by
  refine ⟨fun q => ?_, fun ⟨q1, i, i1, i2, i3⟩ => ?_⟩
  · rcases hp.2 b x hb.1 hb.2 hx.1 hx.2 with ⟨q1, q2⟩ | ⟨u, i, o1, o2, o3, i1, i2, i3⟩
    · rw [q1] at q
      exact absurd ho.1 (by rw [← q]; decide)
    · have w := ((hp.1 u o1 o2 (by rw [o3]; exact hb.1)).2.2.2 i i1 i2).1
      rw [o3, ← i3, q] at w
      rw [w]
      exact ⟨o3, i, i1, i2, i3⟩
  · have w := ((hp.1 o ho.1 ho.2 (by rw [q1]; exact hb.1)).2.2.2 i i1 i2).1
    rw [q1, ← i3] at w
    exact w
end YL
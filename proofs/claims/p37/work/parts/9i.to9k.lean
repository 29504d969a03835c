section
/-! what was had: histories -/
/-- now and later: who stands -/
def hsN (nb n0 : Int32) (hd : Int32 → Int32 → Int32 → Int32) (W : Nat → Nat → Int32) : Prop := ∀ c t : Int32, (0 ≤ c ∧ c < nb) → (0 ≤ t ∧ t < 200) → (∀ x : Int32, 0 ≤ x → x < W 0 17 → hoY W x c t → ∀ k, n0 ≤ k → hd c t k = x) ∧ ((∀ x : Int32, 0 ≤ x → x < W 0 17 → ¬ hoY W x c t) → ∀ k, n0 ≤ k → hd c t k = -9)
/-- before now nothing changes; the last change is now where some do touch -/
def hsT (nb n0 : Int32) (hd : Int32 → Int32 → Int32 → Int32) (ld : Int32 → Int32 → Int32) (hd' : Int32 → Int32 → Int32 → Int32) (ld' : Int32 → Int32 → Int32) (T : Int32 → Int32 → Prop) : Prop := ∀ c t : Int32, (0 ≤ c ∧ c < nb) → (0 ≤ t ∧ t < 200) → (∀ k, ¬ n0 ≤ k → hd' c t k = hd c t k) ∧ (T c t → ld' c t = n0) ∧ (¬ T c t → ld' c t = ld c t)
/-- a place is told -/
def hsS (nb n0 : Int32) (hd : Int32 → Int32 → Int32 → Int32) (ld : Int32 → Int32 → Int32) (hd' : Int32 → Int32 → Int32 → Int32) (ld' : Int32 → Int32 → Int32) (b s l v : Int32) : Prop := ∀ c t : Int32, (0 ≤ c ∧ c < nb) → (0 ≤ t ∧ t < 200) → (∀ k, ¬ n0 ≤ k → hd' c t k = hd c t k) ∧ ((c = b ∧ s ≤ t ∧ t < s + l) → (∀ k, n0 ≤ k → hd' c t k = v) ∧ ld' c t = n0) ∧ (¬ (c = b ∧ s ≤ t ∧ t < s + l) → (∀ k, hd' c t k = hd c t k) ∧ ld' c t = ld c t)
/-- places are given; places are taken back -/
def gvT (Y W : Nat → Nat → Int32) (c t : Int32) : Prop := ∃ x : Int32, 0 ≤ x ∧ x < Y 0 17 ∧ ¬ 0 ≤ Y 20 x.toNatClampNeg ∧ hoY W x c t
def tkT (Y W : Nat → Nat → Int32) (c t : Int32) : Prop := ∃ x : Int32, 0 ≤ x ∧ x < Y 0 17 ∧ ¬ 0 ≤ W 20 x.toNatClampNeg ∧ hoY Y x c t
def gvH (nb n0 : Int32) (Y W : Nat → Nat → Int32) (hd : Int32 → Int32 → Int32 → Int32) (ld : Int32 → Int32 → Int32) (hd' : Int32 → Int32 → Int32 → Int32) (ld' : Int32 → Int32 → Int32) : Prop := hsN nb n0 hd' W ∧ hsT nb n0 hd ld hd' ld' (gvT Y W) ∧ (W 0 17 = Y 0 17 ∧ W 10 = Y 10) ∧ ∀ x : Int32, 0 ≤ x → x < Y 0 17 → 0 ≤ Y 20 x.toNatClampNeg → W 20 x.toNatClampNeg = Y 20 x.toNatClampNeg ∧ W 21 x.toNatClampNeg = Y 21 x.toNatClampNeg
def tkH (nb n0 : Int32) (Y W : Nat → Nat → Int32) (hd : Int32 → Int32 → Int32 → Int32) (ld : Int32 → Int32 → Int32) (hd' : Int32 → Int32 → Int32 → Int32) (ld' : Int32 → Int32 → Int32) : Prop := hsN nb n0 hd' W ∧ hsT nb n0 hd ld hd' ld' (tkT Y W) ∧ (W 0 17 = Y 0 17 ∧ W 10 = Y 10) ∧ ∀ x : Int32, 0 ≤ x → x < Y 0 17 → 0 ≤ W 20 x.toNatClampNeg → W 20 x.toNatClampNeg = Y 20 x.toNatClampNeg ∧ W 21 x.toNatClampNeg = Y 21 x.toNatClampNeg
section HB0
variable {Y W Z : Nat → Nat → Int32} {nb n0 a b s : Int32} {hd hd1 hd2 : Int32 → Int32 → Int32 → Int32} {ld ld1 ld2 : Int32 → Int32 → Int32}
theorem pu_at20 : puY W a b s 20 a.toNatClampNeg = b := by
  unfold puY
  rw [if_pos ⟨rfl, rfl⟩]
theorem pu_at21 : puY W a b s 21 a.toNatClampNeg = s := by
  unfold puY
  rw [if_neg (by omega), if_pos ⟨rfl, rfl⟩]
theorem pu_ne {k j : Nat} (h : ¬ j = a.toNatClampNeg) (hk : k = 20 ∨ k = 21) : puY W a b s k j = W k j := by
  unfold puY
  rw [if_neg (fun q => h q.2), if_neg (fun q => h q.2), if_neg (by omega)]
theorem pu_ow {k j : Nat} (hk : ¬ k = 20 ∧ ¬ k = 21 ∧ ¬ k = 22) : puY W a b s k j = W k j := by
  unfold puY
  rw [if_neg (by omega), if_neg (by omega), if_neg (by omega)]
theorem ho_e {x c t : Int32} (e : ∀ k, k = 20 ∨ k = 21 ∨ k = 10 → Z k x.toNatClampNeg = W k x.toNatClampNeg) : hoY Z x c t = hoY W x c t := by
  unfold hoY
  rw [e 20 (by omega), e 21 (by omega), e 10 (by omega)]
theorem ho_pu {x c t : Int32} (ha : 0 ≤ a) (hx : 0 ≤ x) : hoY (puY W a b s) x c t ↔ (x = a ∧ 0 ≤ b ∧ b = c ∧ s ≤ t ∧ t < s + W 10 a.toNatClampNeg) ∨ (¬ x = a ∧ hoY W x c t) := by
  by_cases e : x = a
  · subst e
    unfold hoY
    rw [pu_at20, pu_at21, pu_ow (k := 10) (by omega)]
    exact ⟨fun q => Or.inl ⟨rfl, q⟩, fun q => q.elim (fun z => z.2) (fun z => absurd rfl z.1)⟩
  · have hn : ¬ x.toNatClampNeg = a.toNatClampNeg := fun q => e (cl_inj hx ha q)
    rw [ho_e (W := W) (fun k hk => by
      rcases hk with h | h | h
      · exact pu_ne hn (Or.inl h)
      · exact pu_ne hn (Or.inr h)
      · exact pu_ow (by omega))]
    exact ⟨fun q => Or.inr ⟨e, q⟩, fun q => q.elim (fun z => absurd z.1 e) (fun z => z.2)⟩
theorem ho_un {x c t : Int32} (ha : 0 ≤ a) (hx : 0 ≤ x) : hoY (unY W a) x c t ↔ ¬ x = a ∧ hoY W x c t := by
  by_cases e : x = a
  · subst e
    refine ⟨fun q => absurd q.1 ?_, fun q => absurd rfl q.1⟩
    rw [un_a (Or.inl rfl)]
    decide
  · have hn : ¬ x.toNatClampNeg = a.toNatClampNeg := fun q => e (cl_inj hx ha q)
    rw [ho_e (W := W) (fun k hk => un_o (Or.inr hn))]
    exact ⟨fun q => ⟨e, q⟩, fun q => q.2⟩
theorem gv_0 (h : hsN nb n0 hd Y) : gvH nb n0 Y Y hd ld hd ld := ⟨h, fun c t _ _ => ⟨fun _ _ => rfl, fun ⟨x, _, _, x2, x3⟩ => absurd x3.1 x2, fun _ => rfl⟩, ⟨rfl, rfl⟩, fun _ _ _ _ => ⟨rfl, rfl⟩⟩
theorem tk_00 (h : hsN nb n0 hd Y) : tkH nb n0 Y Y hd ld hd ld := ⟨h, fun c t _ _ => ⟨fun _ _ => rfl, fun ⟨x, _, _, x2, x3⟩ => absurd x3.1 x2, fun _ => rfl⟩, ⟨rfl, rfl⟩, fun _ _ _ _ => ⟨rfl, rfl⟩⟩
theorem gv_step (h : gvH nb n0 Y W hd ld hd1 ld1) (ha : 0 ≤ a ∧ a < W 0 17) (un : ¬ 0 ≤ W 20 a.toNatClampNeg) (hb : 0 ≤ b) (fr : ∀ t, s ≤ t → t < s + W 10 a.toNatClampNeg → ∀ x : Int32, 0 ≤ x → x < W 0 17 → ¬ x = a → ¬ hoY W x b t) (st : hsS nb n0 hd1 ld1 hd2 ld2 b s (W 10 a.toNatClampNeg) a) : gvH nb n0 Y (puY W a b s) hd ld hd2 ld2 := by
  obtain ⟨hN, hT, ⟨e17, e10⟩, hm⟩ := h
  have p17 : puY W a b s 0 17 = W 0 17 := pu_ow (by omega)
  have a17 : a < Y 0 17 := by rw [← e17]; exact ha.2
  have una : ¬ 0 ≤ Y 20 a.toNatClampNeg := fun q => un (by rw [(hm a ha.1 a17 q).1]; exact q)
  refine ⟨fun c t hc ht => ?_, fun c t hc ht => ?_, ⟨p17.trans e17, by rw [← e10]; exact funext (fun j => pu_ow (by omega))⟩, fun x x0 x1 x2 => ?_⟩
  · obtain ⟨s1, s2, s3⟩ := st c t hc ht
    obtain ⟨n1, n2⟩ := hN c t hc ht
    by_cases ci : c = b ∧ s ≤ t ∧ t < s + W 10 a.toNatClampNeg
    · refine ⟨fun x x0 x1 hx k hk => ?_, fun hx => absurd ((ho_pu ha.1 ha.1).mpr (Or.inl ⟨rfl, hb, ci.1.symm, ci.2⟩)) (hx a ha.1 (by rw [p17]; exact ha.2))⟩
      rw [p17] at x1
      rcases (ho_pu ha.1 x0).mp hx with q | q
      · rw [q.1]
        exact (s2 ci).1 k hk
      · have q2 := q.2
        rw [ci.1] at q2
        exact absurd q2 (fr t ci.2.1 ci.2.2 x x0 x1 q.1)
    · refine ⟨fun x x0 x1 hx k hk => ?_, fun hx k hk => ?_⟩
      · rw [p17] at x1
        rcases (ho_pu ha.1 x0).mp hx with q | q
        · exact absurd ⟨q.2.2.1.symm, q.2.2.2⟩ ci
        · rw [(s3 ci).1 k]
          exact n1 x x0 x1 q.2 k hk
      · rw [(s3 ci).1 k]
        refine n2 (fun x x0 x1 q => ?_) k hk
        by_cases e : x = a
        · rw [e] at q
          exact un q.1
        · exact hx x x0 (by rw [p17]; exact x1) ((ho_pu ha.1 x0).mpr (Or.inr ⟨e, q⟩))
  · obtain ⟨s1, s2, s3⟩ := st c t hc ht
    obtain ⟨t1, t2, t3⟩ := hT c t hc ht
    refine ⟨fun k hk => (s1 k hk).trans (t1 k hk), fun ⟨x, x0, x1, x2, x3⟩ => ?_, fun q => ?_⟩
    · by_cases ci : c = b ∧ s ≤ t ∧ t < s + W 10 a.toNatClampNeg
      · exact (s2 ci).2
      · rw [(s3 ci).2]
        refine t2 ⟨x, x0, x1, x2, ?_⟩
        rcases (ho_pu ha.1 x0).mp x3 with q | q
        · exact absurd ⟨q.2.2.1.symm, q.2.2.2⟩ ci
        · exact q.2
    · have ci : ¬ (c = b ∧ s ≤ t ∧ t < s + W 10 a.toNatClampNeg) := fun ci => q ⟨a, ha.1, a17, una, (ho_pu ha.1 ha.1).mpr (Or.inl ⟨rfl, hb, ci.1.symm, ci.2⟩)⟩
      rw [(s3 ci).2]
      refine t3 (fun ⟨x, x0, x1, x2, x3⟩ => q ⟨x, x0, x1, x2, (ho_pu ha.1 x0).mpr (Or.inr ⟨fun e => ?_, x3⟩)⟩)
      rw [e] at x3
      exact un x3.1
  · have hn : ¬ x.toNatClampNeg = a.toNatClampNeg := fun q => una (by rw [← q]; exact x2)
    rw [pu_ne hn (Or.inl rfl), pu_ne hn (Or.inr rfl)]
    exact hm x x0 x1 x2
theorem tk_step (h : tkH nb n0 Y W hd ld hd1 ld1) (ha : 0 ≤ a ∧ a < W 0 17) (pa : 0 ≤ W 20 a.toNatClampNeg) (st : hsS nb n0 hd1 ld1 hd2 ld2 (W 20 a.toNatClampNeg) (W 21 a.toNatClampNeg) (W 10 a.toNatClampNeg) (-9)) : tkH nb n0 Y (unY W a) hd ld hd2 ld2 := by
  obtain ⟨hN, hT, ⟨e17, e10⟩, hm⟩ := h
  have p17 : unY W a 0 17 = W 0 17 := un_o (Or.inl (by omega))
  have a17 : a < Y 0 17 := by rw [← e17]; exact ha.2
  have u20 : ¬ 0 ≤ unY W a 20 a.toNatClampNeg := by rw [un_a (Or.inl rfl)]; decide
  have ne : ∀ x : Int32, 0 ≤ x → ¬ x = a → ∀ k, unY W a k x.toNatClampNeg = W k x.toNatClampNeg := fun x x0 e k => un_o (Or.inr (fun q => e (cl_inj x0 ha.1 q)))
  have hoa : ∀ c t, hoY Y a c t → hoY W a c t := fun c t q => by
    obtain ⟨m1, m2⟩ := hm a ha.1 a17 pa
    unfold hoY at q ⊢
    rw [m1, m2, e10]
    exact q
  have hao : ∀ c t, hoY W a c t → hoY Y a c t := fun c t q => by
    obtain ⟨m1, m2⟩ := hm a ha.1 a17 pa
    unfold hoY at q ⊢
    rw [m1, m2, e10] at q
    exact q
  have cih : ∀ c t, (c = W 20 a.toNatClampNeg ∧ W 21 a.toNatClampNeg ≤ t ∧ t < W 21 a.toNatClampNeg + W 10 a.toNatClampNeg) → hoY W a c t := fun c t q => ⟨pa, q.1.symm, q.2.1, q.2.2⟩
  have hci : ∀ c t, hoY W a c t → (c = W 20 a.toNatClampNeg ∧ W 21 a.toNatClampNeg ≤ t ∧ t < W 21 a.toNatClampNeg + W 10 a.toNatClampNeg) := fun c t q => ⟨q.2.1.symm, q.2.2.1, q.2.2.2⟩
  refine ⟨fun c t hc ht => ?_, fun c t hc ht => ?_, ⟨p17.trans e17, by rw [← e10]; exact funext (fun j => un_o (Or.inl (by omega)))⟩, fun x x0 x1 x2 => ?_⟩
  · obtain ⟨s1, s2, s3⟩ := st c t hc ht
    obtain ⟨n1, n2⟩ := hN c t hc ht
    by_cases ci : c = W 20 a.toNatClampNeg ∧ W 21 a.toNatClampNeg ≤ t ∧ t < W 21 a.toNatClampNeg + W 10 a.toNatClampNeg
    · refine ⟨fun x x0 x1 hx k hk => ?_, fun _ => (s2 ci).1⟩
      rw [p17] at x1
      obtain ⟨q1, q2⟩ := (ho_un ha.1 x0).mp hx
      have i1 := n1 x x0 x1 q2 n0 (Int32.le_refl _)
      have i2 := n1 a ha.1 ha.2 (cih c t ci) n0 (Int32.le_refl _)
      exact absurd (i1.symm.trans i2) q1
    · refine ⟨fun x x0 x1 hx k hk => ?_, fun hx k hk => ?_⟩
      · rw [p17] at x1
        rw [(s3 ci).1 k]
        exact n1 x x0 x1 ((ho_un ha.1 x0).mp hx).2 k hk
      · rw [(s3 ci).1 k]
        refine n2 (fun x x0 x1 q => ?_) k hk
        by_cases e : x = a
        · rw [e] at q
          exact ci (hci c t q)
        · exact hx x x0 (by rw [p17]; exact x1) ((ho_un ha.1 x0).mpr ⟨e, q⟩)
  · obtain ⟨s1, s2, s3⟩ := st c t hc ht
    obtain ⟨t1, t2, t3⟩ := hT c t hc ht
    refine ⟨fun k hk => (s1 k hk).trans (t1 k hk), fun ⟨x, x0, x1, x2, x3⟩ => ?_, fun q => ?_⟩
    · by_cases ci : c = W 20 a.toNatClampNeg ∧ W 21 a.toNatClampNeg ≤ t ∧ t < W 21 a.toNatClampNeg + W 10 a.toNatClampNeg
      · exact (s2 ci).2
      · rw [(s3 ci).2]
        have e : ¬ x = a := fun e => by
          rw [e] at x3
          exact ci (hci c t (hoa c t x3))
        rw [ne x x0 e] at x2
        exact t2 ⟨x, x0, x1, x2, x3⟩
    · have ci : ¬ (c = W 20 a.toNatClampNeg ∧ W 21 a.toNatClampNeg ≤ t ∧ t < W 21 a.toNatClampNeg + W 10 a.toNatClampNeg) := fun ci => q ⟨a, ha.1, a17, u20, hao c t (cih c t ci)⟩
      rw [(s3 ci).2]
      refine t3 (fun ⟨x, x0, x1, x2, x3⟩ => q ⟨x, x0, x1, ?_, x3⟩)
      rw [ne x x0 (fun e => x2 (by rw [e]; exact pa))]
      exact x2
  · have e : ¬ x = a := fun e => u20 (by rw [e] at x2; exact x2)
    rw [ne x x0 e] at x2
    rw [ne x x0 e, ne x x0 e]
    exact hm x x0 x1 x2
/-- words alike where places hang -/
theorem gv_w (h : gvH nb n0 Y W hd ld hd1 ld1) (e17 : Z 0 17 = W 0 17) (e : ∀ k, k = 20 ∨ k = 21 ∨ k = 10 → Z k = W k) : gvH nb n0 Y Z hd ld hd1 ld1 := by
  have ho : ∀ x c t, hoY Z x c t = hoY W x c t := fun x c t => ho_e (fun k hk => by rw [e k hk])
  obtain ⟨hN, hT, ⟨f17, f10⟩, hm⟩ := h
  refine ⟨fun c t hc ht => ?_, fun c t hc ht => ?_, ⟨e17.trans f17, (e 10 (by omega)).trans f10⟩, fun x x0 x1 x2 => by rw [e 20 (by omega), e 21 (by omega)]; exact hm x x0 x1 x2⟩
  · rw [e17]
    simp only [ho]
    exact hN c t hc ht
  · have eT : gvT Y Z c t = gvT Y W c t := by unfold gvT; simp only [ho]
    rw [eT]
    exact hT c t hc ht
theorem hsN_w (h : hsN nb n0 hd W) (e17 : Z 0 17 = W 0 17) (e : ∀ k, k = 20 ∨ k = 21 ∨ k = 10 → Z k = W k) : hsN nb n0 hd Z := by
  have ho : ∀ x c t, hoY Z x c t = hoY W x c t := fun x c t => ho_e (fun k hk => by rw [e k hk])
  intro c t hc ht
  rw [e17]
  simp only [ho]
  exact h c t hc ht
theorem hg_no {t : Int32} (h17 : 0 ≤ W 0 17) (h : hgI W a b t (W 0 17).toNatClampNeg 0 0 = 0) {x : Int32} (x0 : 0 ≤ x) (x1 : x < W 0 17) (xa : ¬ x = a) : ¬ hoY W x b t := fun q => by
  rcases hg_is (Y := W) (a := a) (b := b) (s := t) (m := W 0 17) (W 0 17).toNatClampNeg 0 0 (Or.inl rfl) (Int32.le_refl _) h17 (by rw [show (0 : Int32).toNatClampNeg = 0 from rfl, Nat.zero_add]) with r | r | r
  · rw [h] at r
    exact absurd r.2 (by decide)
  · exact r.1 ⟨x, x0, x1, xa, q⟩
  · exact r.1 ⟨x, x0, x1, xa, q⟩
theorem br_hg {t f : Int32} (h : brY W a b t f = 0) : hgI W a b t (W 0 17).toNatClampNeg 0 0 = 0 := by
  unfold brY at h
  by_cases c1 : ¬ fxY W a b t = 0
  · rw [if_pos c1] at h
    exact absurd h c1
  · rw [if_neg c1] at h
    by_cases c2 : ¬ hgI W a b t (W 0 17).toNatClampNeg 0 0 = 0
    · rw [if_pos c2] at h
      exact absurd h c2
    · exact Classical.not_not.mp c2
theorem ft_no (h17 : 0 ≤ W 0 17) (hl : 0 ≤ W 10 a.toNatClampNeg ∧ W 10 a.toNatClampNeg ≤ 4) (hs : 0 ≤ s ∧ s ≤ 200) (hsl : s + W 10 a.toNatClampNeg ≤ 200) (h : ftY W a b s = 0) : ∀ t, s ≤ t → t < s + W 10 a.toNatClampNeg → ∀ x : Int32, 0 ≤ x → x < W 0 17 → ¬ x = a → ¬ hoY W x b t := fun t t0 t1 x x0 x1 xa => by
  obtain ⟨i, i0, i1, i2⟩ := (sh_in hs.1 hsl hl hs.2).mp ⟨t0, t1⟩
  rw [i2]
  exact hg_no h17 (br_hg (ft_br h i0 i1)) x0 x1 xa
theorem w_inj {c t d u : Int32} (hc : 0 ≤ c ∧ c < 6) (ht : 0 ≤ t ∧ t < 200) (hd : 0 ≤ d ∧ d < 6) (hu : 0 ≤ u ∧ u < 200) (h : 200 * c + t = 200 * d + u) : c = d ∧ t = u := by
  have z6 : (6 : Int32).toInt = 6 := rfl
  have z0 : (0 : Int32).toInt = 0 := rfl
  have z2 : (200 : Int32).toInt = 200 := rfl
  have c0 := Int32.le_iff_toInt_le.mp hc.1
  have c1 := Int32.lt_iff_toInt_lt.mp hc.2
  have t0 := Int32.le_iff_toInt_le.mp ht.1
  have t1 := Int32.lt_iff_toInt_lt.mp ht.2
  have d0 := Int32.le_iff_toInt_le.mp hd.1
  have d1 := Int32.lt_iff_toInt_lt.mp hd.2
  have u0 := Int32.le_iff_toInt_le.mp hu.1
  have u1 := Int32.lt_iff_toInt_lt.mp hu.2
  have m : ∀ x : Int32, 0 ≤ x.toInt → x.toInt < 6 → (200 * x).toInt = 200 * x.toInt := fun x h0 h1 => by
    rw [Int32.toInt_mul, z2]
    simp only [Int.bmod_def]
    omega
  have e := congrArg Int32.toInt h
  rw [ti_add (by rw [m c (by omega) (by omega)]; omega), ti_add (by rw [m d (by omega) (by omega)]; omega), m c (by omega) (by omega), m d (by omega) (by omega)] at e
  exact ⟨Int32.toInt_inj.mp (by omega), Int32.toInt_inj.mp (by omega)⟩
end HB0
/-- the reference's history -/
def hdR (M : Nat) (J : Nat → Nat → Int32) : Int32 → Int32 → Int32 → Int32 := fun b s k => hdM M J (200 * b + s) k
def ldR (M : Nat) (J : Nat → Nat → Int32) : Int32 → Int32 → Int32 := fun b s => ldM M J (200 * b + s)
def gvQ (M : Nat) (J1 W1 J W : Nat → Nat → Int32) : Prop := eoM M J ∧ J M 0 = J1 M 0 ∧ gvH 6 (J1 M 0) W1 W (hdR M J1) (ldR M J1) (hdR M J) (ldR M J)
def tkQ (M : Nat) (J1 W1 J W : Nat → Nat → Int32) : Prop := eoM M J ∧ J M 0 = J1 M 0 ∧ tkH 6 (J1 M 0) W1 W (hdR M J1) (ldR M J1) (hdR M J) (ldR M J)
def gh (M : Nat) (I0 J1 W1 J W : Nat → Nat → Int32) : Prop := gs M I0 J W ∧ gvQ M J1 W1 J W
def th (M : Nat) (I0 J1 W1 J W : Nat → Nat → Int32) : Prop := gs M I0 J W ∧ tkQ M J1 W1 J W
/-- the cells that the history hangs on -/
def hC (M x j : Nat) : Prop := x = M + 24 ∨ x = M + 25 ∨ x = M + 26 ∨ (x = M ∧ (j = 35 ∨ j = 0))
section HB1
variable {d n t M : Nat} {K L : Nat → Nat} {I I0 J J0 J1 J2 : Nat → Nat → Int32} {R : Nat → Nat → Nat} {P : Option Value → AH → Prop} {f : Nat → Int32} {e : Int32}
variable {Y Z W J3 J4 W1 : Nat → Nat → Int32}
theorem hR_eq (e : ∀ x j, hC M x j → J x j = I x j) : hdR M J = hdR M I ∧ ldR M J = ldR M I ∧ J M 0 = I M 0 ∧ (eoM M I → eoM M J) := by
  have e35 : J M 35 = I M 35 := e _ _ (by unfold hC; omega)
  have e0 : J M 0 = I M 0 := e _ _ (by unfold hC; omega)
  have e24 : ∀ j, J (M + 24) j = I (M + 24) j := fun j => e _ _ (by unfold hC; omega)
  have e25 : ∀ j, J (M + 25) j = I (M + 25) j := fun j => e _ _ (by unfold hC; omega)
  have e26 : ∀ j, J (M + 26) j = I (M + 26) j := fun j => e _ _ (by unfold hC; omega)
  exact ⟨funext (fun b => funext (fun s => funext (fun k => hd_eq e35 e24 e25 e26 _ k))), funext (fun b => funext (fun s => ld_eq e35 e24 e25 _)), e0, fun h => eo_eq h e35 e25 e0⟩
theorem gvQ_fr (h : gvQ M J3 W1 J W) (e : ∀ x j, hC M x j → J2 x j = J x j) : gvQ M J3 W1 J2 W := by
  obtain ⟨e1, e2, e3, e4⟩ := hR_eq e
  refine ⟨e4 h.1, e3.trans h.2.1, ?_⟩
  rw [e1, e2]
  exact h.2.2
theorem tkQ_fr (h : tkQ M J3 W1 J W) (e : ∀ x j, hC M x j → J2 x j = J x j) : tkQ M J3 W1 J2 W := by
  obtain ⟨e1, e2, e3, e4⟩ := hR_eq e
  refine ⟨e4 h.1, e3.trans h.2.1, ?_⟩
  rw [e1, e2]
  exact h.2.2
theorem tk_hs {b s l v : Int32} (h : tkM M b s l v J0 J) (ho : eoM M J0) (hb : 0 ≤ b ∧ b ≤ 5) (hs : 0 ≤ s ∧ s ≤ 200) (hl : 0 ≤ l ∧ l ≤ 4) (hsl : s + l ≤ 200) : eoM M J ∧ hsS 6 (J0 M 0) (hdR M J0) (ldR M J0) (hdR M J) (ldR M J) b s l v := by
  obtain ⟨h1, h2⟩ := h ho
  have hb6 : 0 ≤ b ∧ b < 6 := ⟨hb.1, Int32.lt_of_le_of_lt hb.2 (by decide)⟩
  refine ⟨h1, fun c t hc ht => ?_⟩
  obtain ⟨a1, a2, a3⟩ := h2 (200 * c + t)
  have e : (∃ i : Int32, 0 ≤ i ∧ i < l ∧ 200 * c + t = 200 * b + (s + i)) ↔ (c = b ∧ s ≤ t ∧ t < s + l) := by
    refine ⟨fun ⟨i, i0, i1, i2⟩ => ?_, fun ⟨q1, q2⟩ => ?_⟩
    · have hr := ((sh_lt hs hl hsl ⟨i0, Int32.le_of_lt i1⟩).1 i1).1
      obtain ⟨r1, r2⟩ := w_inj hc ht hb6 hr i2
      exact ⟨r1, (sh_in hs.1 hsl hl hs.2).mpr ⟨i, i0, i1, r2⟩⟩
    · obtain ⟨i, i0, i1, i2⟩ := (sh_in hs.1 hsl hl hs.2).mp q2
      exact ⟨i, i0, i1, by rw [q1, i2]⟩
  exact ⟨a1, fun q => a2 (e.mpr q), fun q => a3 (fun z => q (e.mp z))⟩
theorem gh_C (h : gh M I0 J3 W1 I Y) (hC2 : mC M I J) : gh M I0 J3 W1 J Y := ⟨gs_C h.1 hC2, gvQ_fr h.2 (fun x j q => hC2.2 _ _ (by unfold hC at q; unfold sC; omega))⟩
theorem th_C (h : th M I0 J3 W1 I Y) (hC2 : mC M I J) : th M I0 J3 W1 J Y := ⟨gs_C h.1 hC2, tkQ_fr h.2 (fun x j q => hC2.2 _ _ (by unfold hC at q; unfold sC; omega))⟩
theorem gh_ui (h : gh M I0 J3 W1 J Y) {k j : Nat} {v : Int32} (hR : mR M (a_ui J (M + k) j v)) (hk : k ≤ 52) (hp : ¬ ps1 k j ∧ ¬ k = 22) (hq : ¬ k = 24 ∧ ¬ k = 25 ∧ ¬ k = 26 ∧ ¬ (k = 0 ∧ j = 35)) : gh M I0 J3 W1 (a_ui J (M + k) j v) Y := ⟨gs_ui h.1 hR hk hp, gvQ_fr h.2 (fun x i q => by rw [ui_ap, if_neg (fun e => by have := hp.1; unfold ps1 at this; unfold hC at q; omega)])⟩
theorem th_ui (h : th M I0 J3 W1 J Y) {k j : Nat} {v : Int32} (hR : mR M (a_ui J (M + k) j v)) (hk : k ≤ 52) (hp : ¬ ps1 k j ∧ ¬ k = 22) (hq : ¬ k = 24 ∧ ¬ k = 25 ∧ ¬ k = 26 ∧ ¬ (k = 0 ∧ j = 35)) : th M I0 J3 W1 (a_ui J (M + k) j v) Y := ⟨gs_ui h.1 hR hk hp, tkQ_fr h.2 (fun x i q => by rw [ui_ap, if_neg (fun e => by have := hp.1; unfold ps1 at this; unfold hC at q; omega)])⟩
theorem gh_u0 (h : gh M I0 J3 W1 J Y) {j : Nat} {v : Int32} (hR : mR M (a_ui J M j v)) (hp : ¬ ps1 0 j) (hq : ¬ j = 35) : gh M I0 J3 W1 (a_ui J M j v) Y := gh_ui (k := 0) h hR (by omega) ⟨hp, by omega⟩ (by omega)
theorem gh_put (hg : gh M I0 J3 W1 I Y) (h17 : 0 ≤ Y 0 17 ∧ Y 0 17 ≤ 30) (h10 : ∀ j, 0 ≤ Y 10 j ∧ Y 10 j ≤ 4) {a b s : Int32} (ha : 0 ≤ a ∧ a < 30) (a17 : a < Y 0 17) (un : ¬ 0 ≤ Y 20 a.toNatClampNeg) (hb : 0 ≤ b ∧ b ≤ 5) (hs : 0 ≤ s ∧ s ≤ 199) (hsl : s + Y 10 a.toNatClampNeg ≤ 200) (fr : ∀ t, s ≤ t → t < s + Y 10 a.toNatClampNeg → ∀ x : Int32, 0 ≤ x → x < Y 0 17 → ¬ x = a → ¬ hoY Y x b t) (y : yR M I J (puY (yv M I) a b s)) (tk : tkM M b s (I (M + 10) a.toNatClampNeg) a I J) : gh M I0 J3 W1 J (puY Y a b s) := by
  have s200 : 0 ≤ s ∧ s ≤ 200 := ⟨hs.1, Int32.le_trans hs.2 (by decide)⟩
  have e10 : I (M + 10) a.toNatClampNeg = Y 10 a.toNatClampNeg := hg.1.2.2.1 10 _ (by unfold ps1; omega)
  rw [e10] at tk
  obtain ⟨q1, q2⟩ := tk_hs tk hg.2.1 hb s200 (h10 _) hsl
  have e0 : J M 0 = I M 0 := (y.2.2 0 0 (by omega) (by unfold mk0; omega)).trans (pu_ow (by omega))
  refine ⟨yR_gs hg.1 y (puY_p h17 h10 hg.1.2.2 ha), q1, e0.trans hg.2.2.1, ?_⟩
  rw [hg.2.2.1] at q2
  exact gv_step hg.2.2.2 ⟨ha.1, a17⟩ un hb.1 fr q2
theorem th_un (hg : th M I0 J3 W1 I Y) (h10 : ∀ j, 0 ≤ Y 10 j ∧ Y 10 j ≤ 4) (hi : inP Y) {a : Int32} (ha : 0 ≤ a ∧ a < 30) (a17 : a < Y 0 17) (pa : 0 ≤ Y 20 a.toNatClampNeg) (y : yR M I J (unY (yv M I) a)) (tk : tkM M (I (M + 20) a.toNatClampNeg) (I (M + 21) a.toNatClampNeg) (I (M + 10) a.toNatClampNeg) (-9) I J) : th M I0 J3 W1 J (unY Y a) := by
  have e10 : I (M + 10) a.toNatClampNeg = Y 10 a.toNatClampNeg := hg.1.2.2.1 10 _ (by unfold ps1; omega)
  have e20 : I (M + 20) a.toNatClampNeg = Y 20 a.toNatClampNeg := hg.1.2.2.1 20 _ (by unfold ps1; omega)
  have e21 : I (M + 21) a.toNatClampNeg = Y 21 a.toNatClampNeg := hg.1.2.2.1 21 _ (by unfold ps1; omega)
  obtain ⟨⟨p1, p2, p3⟩, p4⟩ := hi _ (a_lt30 ha) pa
  rw [e10, e20, e21] at tk
  obtain ⟨q1, q2⟩ := tk_hs tk hg.2.1 ⟨pa, p4⟩ ⟨p1, p2⟩ (h10 _) p3
  have e0 : J M 0 = I M 0 := (y.2.2 0 0 (by omega) (by unfold mk0; omega)).trans (un_o (Or.inl (by omega)))
  refine ⟨yR_gs hg.1 y (unY_p hg.1.2.2 ha), q1, e0.trans hg.2.2.1, ?_⟩
  rw [hg.2.2.1] at q2
  exact tk_step hg.2.2.2 ⟨ha.1, a17⟩ pa q2
theorem xt_giveFirst_219 (hS : m_S M K L R) (hm : moY Y) (h17 : 0 ≤ Y 0 17 ∧ Y 0 17 ≤ 30) (h10 : ∀ j, 0 ≤ Y 10 j ∧ Y 10 j ≤ 4) (h6 : 0 ≤ Y 0 6 ∧ Y 0 6 ≤ 6) {a f e w s : Int32} (ha : 0 ≤ a ∧ a < 30) (a17 : a < Y 0 17) (un : ¬ 0 ≤ Y 20 a.toNatClampNeg) (hl1 : 1 ≤ Y 10 a.toNatClampNeg) (hs : 0 ≤ s ∧ s ≤ 199) {ev : Int32} (hev : ev ≤ 83996) {V : Int32} (hG : okB Y a f e w = true → 0 ≤ V → ∀ J, gh M I0 J3 W1 J (puY Y a V s) → P (some (.int 1)) (n, t, K, L, J, R)) (hN : ¬ (okB Y a f e w = true ∧ 0 ≤ V) → ∀ J b, gh M I0 J3 W1 J Y → J M 35 = ev → a_at (d + 11) (a_xm a_m238) 74 [some (a_rf M), some (.int a), some (.int f), some (.int e), some (.int w), some (.int s), some (.int b)] [] (n, t, K, L, J, R) P) : ∀ b : Int32, b ≤ 6 → ∀ J, 0 ≤ b → b ≤ Y 0 6 → gh M I0 J3 W1 J Y → J M 35 = ev → (okB Y a f e w = true → gfB Y a s ((Y 0 6).toNatClampNeg - b.toNatClampNeg) b = V) → a_at (d + 11) (a_xm a_m238) 21 [some (a_rf M), some (.int a), some (.int f), some (.int e), some (.int w), some (.int s), some (.int b)] [] (n, t, K, L, J, R) P := by
  refine up_ind 6 (fun b b6 ih => ?_)
  intro J h0 h1 hg he hV
  have e6 : J M 6 = Y 0 6 := hg.1.2.2.1 0 6 (by unfold ps1; omega)
  generalize ez : Y 0 6 = z at h6 h1 e6 hV ih
  have hexit : ¬ b < z → a_at (d + 11) (a_xm a_m238) 74 [some (a_rf M), some (.int a), some (.int f), some (.int e), some (.int w), some (.int s), some (.int b)] [] (n, t, K, L, J, R) P := fun c => by
    rw [(lp_end h1 c).1] at hV
    exact hN (fun q => by
      have := hV q.1
      rw [← this] at q
      exact absurd q.2 (by unfold gfB; decide)) J b hg he
  have hcall : b < z → a_does (d + 11) 221 [a_rf M, .int a, .int b, .int s] (n, t, K, L, J, R) (fun r h' => a_at (d + 11) (a_xm a_m238) 39 [some (a_rf M), some (.int a), some (.int f), some (.int e), some (.int w), some (.int s), some (.int b)] (r.toList ++ []) h' P) := fun c => by
    obtain ⟨s1, s2, s3, s4⟩ := lp_st h0 c
    have b5 : 0 ≤ b ∧ b ≤ 5 := ⟨h0, by ((try clear hV); (try clear ih); (try clear hexit); (try clear hG); (try clear hN)); grind⟩
    refine xt_fitOf (d := d + 1) hS (moP_of hg.1.1 hm hg.1.2.2) (mC_refl hg.1.1) ha b5 hs (fun J2 c2 => ?_)
    rw [ftY_p h17 h10 hg.1.2.2]
    have hg2 := gh_C hg c2
    have he2 : J2 M 35 = ev := by rw [c2.2 _ _ (by unfold sC; omega)]; exact he
    have hgo : (okB Y a f e w = true → gfB Y a s (z.toNatClampNeg - (b + 1).toNatClampNeg) (b + 1) = V) → a_at (d + 11) (a_xm a_m238) 68 [some (a_rf M), some (.int a), some (.int f), some (.int e), some (.int w), some (.int s), some (.int b)] [] (n, t, K, L, J2, R) P := fun q => by
      have hi := ih (Int32.lt_of_lt_of_le c h6.2) J2 s2 s3 hg2 he2 q
      ((try clear ih); (try clear hV); (try clear hexit); (try clear hG); (try clear hN); (try clear hm); (try clear hg); (try clear hg2))
      simp only [q238_68, q238_71, as_nil, as_i, as_r, Nat.reduceAdd, Nat.reduceLeDiff, z_eq0, z_eq1, z_or, z_em, Classical.not_not, not_false_eq_true, not_true_eq_false, true_and, and_true, false_and, and_false, and_self, true_implies, false_implies, implies_true, Option.toList_some, Option.toList_none, List.cons_append, List.nil_append, Nat.add_eq_zero_iff, a_nl_i, a_nl_r, a_nl_n, true_or, or_true, eq_self, ok_4, ok_5, ok_6, ok_7, ok_9, ok_10, ok_20, ok_21, ok_24, ok_30, ok_48, ok_50, ok_60, ok_80, ok_120, ok_180, ok_192, ok_200, ok_900, ok_1000, ok_84000]
      exact hi
    by_cases cf : ftY Y a b s = 0
    · have hgive : okB Y a f e w = true → a_at (d + 11) (a_xm a_m238) 57 [some (a_rf M), some (.int a), some (.int f), some (.int e), some (.int w), some (.int s), some (.int b)] [] (n, t, K, L, J2, R) P := fun q => by
        have hv := hV q
        rw [s1] at hv
        unfold gfB at hv
        rw [if_pos cf] at hv
        have hG := hG q (by rw [← hv]; exact h0)
        rw [← hv] at hG
        simp only [q238_57, q238_58, q238_59, q238_61, q238_63, m_0 hS, m_K hS, as_nil, as_i, as_r, Nat.reduceAdd, Nat.reduceLeDiff, z_eq0, z_eq1, z_or, z_em, Classical.not_not, not_false_eq_true, not_true_eq_false, true_and, and_true, false_and, and_false, and_self, true_implies, false_implies, implies_true, Option.toList_some, Option.toList_none, List.cons_append, List.nil_append, Nat.add_eq_zero_iff, a_nl_i, a_nl_r, a_nl_n, true_or, or_true, eq_self, ok_4, ok_5, ok_6, ok_7, ok_9, ok_10, ok_20, ok_21, ok_24, ok_30, ok_48, ok_50, ok_60, ok_80, ok_120, ok_180, ok_192, ok_200, ok_900, ok_1000, ok_84000]
        refine xh_giveTo0 (d := d) hS (moP_of hg2.1.1 hm hg2.1.2.2) (by rw [he2]; exact hev) ha b5 ⟨by ((try clear hV); (try clear ih); (try clear hexit); (try clear hG); (try clear hN)); grind, by ((try clear hV); (try clear ih); (try clear hexit); (try clear hG); (try clear hN)); grind⟩ (fun J5 y3 tk3 => ?_)
        have hin := ft_in cf ⟨hl1, (h10 _).2⟩ ⟨hs.1, Int32.le_trans hs.2 (by decide)⟩
        have hp := hG J5 (gh_put hg2 h17 h10 ha a17 un b5 hs hin.2 (ft_no h17.1 (h10 _) ⟨hs.1, Int32.le_trans hs.2 (by decide)⟩ hin.2 cf) y3 tk3)
        ((try clear ih); (try clear hV); (try clear hexit); (try clear hG); (try clear hN); (try clear hm))
        simp only [q238_66, q238_67, as_nil, as_i, as_r, Nat.reduceAdd, Nat.reduceLeDiff, z_eq0, z_eq1, z_or, z_em, Classical.not_not, not_false_eq_true, not_true_eq_false, true_and, and_true, false_and, and_false, and_self, true_implies, false_implies, implies_true, Option.toList_some, Option.toList_none, List.cons_append, List.nil_append, Nat.add_eq_zero_iff, a_nl_i, a_nl_r, a_nl_n, true_or, or_true, eq_self, ok_4, ok_5, ok_6, ok_7, ok_9, ok_10, ok_20, ok_21, ok_24, ok_30, ok_48, ok_50, ok_60, ok_80, ok_120, ok_180, ok_192, ok_200, ok_900, ok_1000, ok_84000]
        exact hp
      have hno : okB Y a f e w = false → a_at (d + 11) (a_xm a_m238) 68 [some (a_rf M), some (.int a), some (.int f), some (.int e), some (.int w), some (.int s), some (.int b)] [] (n, t, K, L, J2, R) P := fun q => hgo (fun q2 => by rw [q] at q2; cases q2)
      by_cases cw : w = 0
      · have hgive := hgive (by unfold okB; rw [if_pos cw])
        ((try clear ih); (try clear hV); (try clear hexit); (try clear hG); (try clear hN); (try clear hm); (try clear hg); (try clear hg2); (try clear hgo); (try clear hno))
        simp only [q238_39, q238_42, q238_44, as_nil, as_i, as_r, Nat.reduceAdd, Nat.reduceLeDiff, z_eq0, z_eq1, z_or, z_em, Classical.not_not, not_false_eq_true, not_true_eq_false, true_and, and_true, false_and, and_false, and_self, true_implies, false_implies, implies_true, Option.toList_some, Option.toList_none, List.cons_append, List.nil_append, Nat.add_eq_zero_iff, a_nl_i, a_nl_r, a_nl_n, true_or, or_true, eq_self, ok_4, ok_5, ok_6, ok_7, ok_9, ok_10, ok_20, ok_21, ok_24, ok_30, ok_48, ok_50, ok_60, ok_80, ok_120, ok_180, ok_192, ok_200, ok_900, ok_1000, ok_84000, cf, cw]
        try simp only [true_and, and_true, true_implies, false_implies, implies_true, not_true_eq_false, not_false_eq_true]
        first
          | exact hgive
          | (rw [cw] at hgive; exact hgive)
      · have hw := xt_isWithinShare (d := d + 9) (n := n) (t := t) (f := f) (e := e) (P := fun r h' => a_at (d + 11) (a_xm a_m238) 54 [some (a_rf M), some (.int a), some (.int f), some (.int e), some (.int w), some (.int s), some (.int b)] (r.toList ++ []) h' P) hS hg2.1 h17 ha (by
          have eo : okB Y a f e w = shB Y a f e := by unfold okB; rw [if_neg cw]
          rw [eo] at hgive hno
          ((try clear ih); (try clear hV); (try clear hexit); (try clear hG); (try clear hN); (try clear hm); (try clear hg); (try clear hg2); (try clear hgo))
          by_cases cs : shB Y a f e = true
          · rw [if_pos cs]
            have n10 : ¬ (1 : Int32) = 0 := by decide
            have hgive := hgive cs
            simp only [q238_54, as_nil, as_i, as_r, Nat.reduceAdd, Nat.reduceLeDiff, z_eq0, z_eq1, z_or, z_em, Classical.not_not, not_false_eq_true, not_true_eq_false, true_and, and_true, false_and, and_false, and_self, true_implies, false_implies, implies_true, Option.toList_some, Option.toList_none, List.cons_append, List.nil_append, Nat.add_eq_zero_iff, a_nl_i, a_nl_r, a_nl_n, true_or, or_true, eq_self, ok_4, ok_5, ok_6, ok_7, ok_9, ok_10, ok_20, ok_21, ok_24, ok_30, ok_48, ok_50, ok_60, ok_80, ok_120, ok_180, ok_192, ok_200, ok_900, ok_1000, ok_84000, n10]
            try simp only [true_and, and_true, true_implies, false_implies, implies_true, not_true_eq_false, not_false_eq_true]
            exact hgive
          · rw [if_neg cs]
            have hno := hno (by cases q : shB Y a f e; rfl; exact absurd q cs)
            simp only [q238_54, as_nil, as_i, as_r, Nat.reduceAdd, Nat.reduceLeDiff, z_eq0, z_eq1, z_or, z_em, Classical.not_not, not_false_eq_true, not_true_eq_false, true_and, and_true, false_and, and_false, and_self, true_implies, false_implies, implies_true, Option.toList_some, Option.toList_none, List.cons_append, List.nil_append, Nat.add_eq_zero_iff, a_nl_i, a_nl_r, a_nl_n, true_or, or_true, eq_self, ok_4, ok_5, ok_6, ok_7, ok_9, ok_10, ok_20, ok_21, ok_24, ok_30, ok_48, ok_50, ok_60, ok_80, ok_120, ok_180, ok_192, ok_200, ok_900, ok_1000, ok_84000]
            try simp only [true_and, and_true, true_implies, false_implies, implies_true, not_true_eq_false, not_false_eq_true]
            exact hno)
        ((try clear ih); (try clear hV); (try clear hexit); (try clear hG); (try clear hN); (try clear hm); (try clear hg); (try clear hg2); (try clear hgo); (try clear hno); (try clear hgive))
        simp only [q238_39, q238_42, q238_44, q238_47, q238_48, q238_49, q238_50, q238_51, m_0 hS, m_K hS, as_nil, as_i, as_r, Nat.reduceAdd, Nat.reduceLeDiff, z_eq0, z_eq1, z_or, z_em, Classical.not_not, not_false_eq_true, not_true_eq_false, true_and, and_true, false_and, and_false, and_self, true_implies, false_implies, implies_true, Option.toList_some, Option.toList_none, List.cons_append, List.nil_append, Nat.add_eq_zero_iff, a_nl_i, a_nl_r, a_nl_n, true_or, or_true, eq_self, ok_4, ok_5, ok_6, ok_7, ok_9, ok_10, ok_20, ok_21, ok_24, ok_30, ok_48, ok_50, ok_60, ok_80, ok_120, ok_180, ok_192, ok_200, ok_900, ok_1000, ok_84000, cf, cw]
        try simp only [true_and, and_true, true_implies, false_implies, implies_true, not_true_eq_false, not_false_eq_true]
        exact hw
    · have hgo := hgo (fun q => by
        have hv := hV q
        rw [s1] at hv
        unfold gfB at hv
        rw [if_neg cf] at hv
        exact hv)
      ((try clear ih); (try clear hV); (try clear hexit); (try clear hG); (try clear hN); (try clear hm); (try clear hg); (try clear hg2))
      simp only [q238_39, as_nil, as_i, as_r, Nat.reduceAdd, Nat.reduceLeDiff, z_eq0, z_eq1, z_or, z_em, Classical.not_not, not_false_eq_true, not_true_eq_false, true_and, and_true, false_and, and_false, and_self, true_implies, false_implies, implies_true, Option.toList_some, Option.toList_none, List.cons_append, List.nil_append, Nat.add_eq_zero_iff, a_nl_i, a_nl_r, a_nl_n, true_or, or_true, eq_self, ok_4, ok_5, ok_6, ok_7, ok_9, ok_10, ok_20, ok_21, ok_24, ok_30, ok_48, ok_50, ok_60, ok_80, ok_120, ok_180, ok_192, ok_200, ok_900, ok_1000, ok_84000, cf]
      try simp only [true_and, and_true, true_implies, false_implies, implies_true, not_true_eq_false, not_false_eq_true]
      exact hgo
  ((try clear ih); (try clear hV); (try clear hG); (try clear hN); (try clear hm); (try clear hg))
  rw [q238_21]
  repeat' first
    | with_reducible apply And.intro
    | with_reducible assumption
    | with_reducible intro _
    | refine hexit ?_
    | refine hcall ?_
    | simp only [q238_23, q238_24, q238_27, q238_30, q238_31, q238_32, q238_34, q238_36, m_0 hS, m_K hS, as_nil, as_i, as_r, Nat.reduceAdd, Nat.reduceLeDiff, z_eq0, z_eq1, z_or, z_em, Classical.not_not, not_false_eq_true, not_true_eq_false, true_and, and_true, false_and, and_false, and_self, true_implies, false_implies, implies_true, Option.toList_some, Option.toList_none, List.cons_append, List.nil_append, Nat.add_eq_zero_iff, a_nl_i, a_nl_r, a_nl_n, true_or, or_true, eq_self, ok_4, ok_5, ok_6, ok_7, ok_9, ok_10, ok_20, ok_21, ok_24, ok_30, ok_48, ok_50, ok_60, ok_80, ok_120, ok_180, ok_192, ok_200, ok_900, ok_1000, ok_84000, e6]
  all_goals ((try clear hexit); (try clear hcall); (try clear hS); grind [ui_ap])
theorem xt_giveFirst_39 (hS : m_S M K L R) (hm : moY Y) (h17 : 0 ≤ Y 0 17 ∧ Y 0 17 ≤ 30) (h10 : ∀ j, 0 ≤ Y 10 j ∧ Y 10 j ≤ 4) (h6 : 0 ≤ Y 0 6 ∧ Y 0 6 ≤ 6) {a f e w : Int32} (ha : 0 ≤ a ∧ a < 30) (a17 : a < Y 0 17) (un : ¬ 0 ≤ Y 20 a.toNatClampNeg) (hl : 1 ≤ Y 10 a.toNatClampNeg) (he9 : e ≤ 199) {ev : Int32} (hev : ev ≤ 83996) {V : Int32 × Int32} (hP1 : okB Y a f e w = true → 0 ≤ V.2 → ∀ J, gh M I0 J3 W1 J (puY Y a V.2 V.1) → P (some (.int 1)) (n, t, K, L, J, R)) (hP0 : ¬ (okB Y a f e w = true ∧ 0 ≤ V.2) → ∀ J, gh M I0 J3 W1 J Y → P (some (.int 0)) (n, t, K, L, J, R)) : ∀ s : Int32, s ≤ 203 → ∀ J b (k : Nat), 0 ≤ s → (203 : Int32).toNatClampNeg < s.toNatClampNeg + k → gh M I0 J3 W1 J Y → J M 35 = ev → (okB Y a f e w = true → gfS Y a e k s = V) → a_at (d + 11) (a_xm a_m238) 3 [some (a_rf M), some (.int a), some (.int f), some (.int e), some (.int w), some (.int s), b] [] (n, t, K, L, J, R) P := by
  have hl4 := (h10 a.toNatClampNeg).2
  refine up_ind 203 (fun s s203 ih => ?_)
  intro J b k h0 hk hg he hV
  have e10 : J (M + 10) a.toNatClampNeg = Y 10 a.toNatClampNeg := hg.1.2.2.1 10 _ (by unfold ps1; omega)
  have c203 : s.toNatClampNeg ≤ (203 : Int32).toNatClampNeg := cl_le0 h0 s203
  obtain ⟨k, rfl⟩ : ∃ q, k = q + 1 := ⟨k - 1, by omega⟩
  have hexit : e < s + Y 10 a.toNatClampNeg - 1 → P (some (.int 0)) (n, t, K, L, J, R) := fun c => hP0 (fun q => by
    have hv := hV q.1
    unfold gfS at hv
    rw [if_pos c] at hv
    rw [← hv] at q
    exact absurd (show (0 : Int32) ≤ -1 from q.2) (by decide)) J hg
  have hin : ¬ e < s + Y 10 a.toNatClampNeg - 1 → a_at (d + 11) (a_xm a_m238) 21 [some (a_rf M), some (.int a), some (.int f), some (.int e), some (.int w), some (.int s), some (.int 0)] [] (n, t, K, L, J, R) P := fun c => by
    have s199 : 0 ≤ s ∧ s ≤ 199 := ⟨h0, (gs_nx ⟨hl, hl4⟩ he9 ⟨h0, Int32.le_trans s203 (by decide)⟩ c).2⟩
    have hs1 : s < 203 := Int32.lt_of_le_of_lt s199.2 (by decide)
    obtain ⟨-, t2, -, t4⟩ := lp_st h0 hs1
    have hV2 : okB Y a f e w = true → (if 0 ≤ gfB Y a s (Y 0 6).toNatClampNeg 0 then (s, gfB Y a s (Y 0 6).toNatClampNeg 0) else gfS Y a e k (s + 1)) = V := fun q => by
      have hv := hV q
      unfold gfS at hv
      rw [if_neg c] at hv
      exact hv
    refine xt_giveFirst_219 (d := d) (I0 := I0) hS hm h17 h10 h6 ha a17 un hl s199 hev (V := gfB Y a s (Y 0 6).toNatClampNeg 0) (fun q1 q2 J2 g2 => ?_) (fun q J2 b2 g2 e2 => ?_) 0 (by decide) J (by decide) h6.1 hg he (fun _ => by rw [lp_0])
    · have hv := hV2 q1
      rw [if_pos q2] at hv
      refine hP1 q1 (by rw [← hv]; exact q2) J2 ?_
      rw [← hv]
      exact g2
    · have hn := ih hs1 J2 (some (.int b2)) k t2 (by omega) g2 e2 (fun q3 => by
        have hv := hV2 q3
        rw [if_neg (fun q4 => q ⟨q3, q4⟩)] at hv
        exact hv)
      ((try clear ih); (try clear hV); (try clear hV2); (try clear hexit); (try clear hP1); (try clear hP0); (try clear hm); (try clear hg))
      simp only [q238_74, q238_77, as_nil, as_i, as_r, Nat.reduceAdd, Nat.reduceLeDiff, z_eq0, z_eq1, z_or, z_em, Classical.not_not, not_false_eq_true, not_true_eq_false, true_and, and_true, false_and, and_false, and_self, true_implies, false_implies, implies_true, Option.toList_some, Option.toList_none, List.cons_append, List.nil_append, Nat.add_eq_zero_iff, a_nl_i, a_nl_r, a_nl_n, true_or, or_true, eq_self, ok_4, ok_5, ok_6, ok_7, ok_9, ok_10, ok_20, ok_21, ok_24, ok_30, ok_48, ok_50, ok_60, ok_80, ok_120, ok_180, ok_192, ok_200, ok_900, ok_1000, ok_84000]
      exact hn
  ((try clear ih); (try clear hV); (try clear hP1); (try clear hP0); (try clear hm); (try clear hg))
  rw [q238_3]
  repeat' first
    | with_reducible apply And.intro
    | with_reducible assumption
    | with_reducible intro _
    | refine hexit ?_
    | refine hin ?_
    | refine hin ?_
    | simp only [q238_5, q238_6, q238_9, q238_10, q238_11, q238_12, q238_13, q238_14, q238_15, q238_18, q238_19, q238_80, q238_81, m_0 hS, m_K hS, mR_length hS, mK_length hS, mL_length hS, as_nil, as_i, as_r, Nat.reduceAdd, Nat.reduceLeDiff, z_eq0, z_eq1, z_or, z_em, Classical.not_not, not_false_eq_true, not_true_eq_false, true_and, and_true, false_and, and_false, and_self, true_implies, false_implies, implies_true, Option.toList_some, Option.toList_none, List.cons_append, List.nil_append, Nat.add_eq_zero_iff, a_nl_i, a_nl_r, a_nl_n, true_or, or_true, eq_self, ok_4, ok_5, ok_6, ok_7, ok_9, ok_10, ok_20, ok_21, ok_24, ok_30, ok_48, ok_50, ok_60, ok_80, ok_120, ok_180, ok_192, ok_200, ok_900, ok_1000, ok_84000, e10, ha]
  all_goals ((try clear hexit); (try clear hin); (try clear hS); grind [ui_ap])
theorem xt_giveFirst09 (hS : m_S M K L R) (hm : moY Y) (h17 : 0 ≤ Y 0 17 ∧ Y 0 17 ≤ 30) (h10 : ∀ j, 0 ≤ Y 10 j ∧ Y 10 j ≤ 4) (h6 : 0 ≤ Y 0 6 ∧ Y 0 6 ≤ 6) {a f e w : Int32} (ha : 0 ≤ a ∧ a < 30) (a17 : a < Y 0 17) (un : ¬ 0 ≤ Y 20 a.toNatClampNeg) (hl : 1 ≤ Y 10 a.toNatClampNeg) (hf : 0 ≤ f ∧ f ≤ 202) (he9 : e ≤ 199) (hev : I M 35 ≤ 83996) (hg : gh M I0 J3 W1 I Y) (hP : ∀ J, gh M I0 J3 W1 J (giY Y a f e (okB Y a f e w)) → P (some (.int (if okB Y a f e w = true ∧ 0 ≤ (gnY Y a f e).2 then 1 else 0))) (n, t, K, L, J, R)) : a_does (d + 12) 238 [a_rf M, .int a, .int f, .int e, .int w] (n, t, K, L, I, R) P := by
  have c203 : (203 : Int32).toNatClampNeg = 203 := rfl
  have hl3 := xt_giveFirst_39 (d := d) (P := P) (I0 := I0) (w := w) hS hm h17 h10 h6 ha a17 un hl he9 hev (V := gnY Y a f e) (fun q1 q2 J g => by
    have hp := hP J
    unfold giY at hp
    rw [if_pos ⟨q1, q2⟩, if_pos ⟨q1, q2⟩] at hp
    exact hp g) (fun q J g => by
    have hp := hP J
    unfold giY at hp
    rw [if_neg q, if_neg q] at hp
    exact hp g) f (Int32.le_trans hf.2 (by decide)) I none 240 hf.1 (by rw [c203]; omega) hg rfl (fun _ => rfl)
  ((try clear hP); (try clear hm); (try clear hg))
  rw [a_enter1 (M := a_m238) rfl (a_cat_rf (a_cat_int (a_cat_int (a_cat_int (a_cat_int a_cat_nil))))) (show 5 ≤ 7 by decide)]
  show a_at _ (a_xm a_m238) 0 [some (a_rf M), some (.int a), some (.int f), some (.int e), some (.int w), none, none] [] _ _
  simp only [q238_0, q238_1, as_nil, as_i, as_r, Nat.reduceAdd, Nat.reduceLeDiff, z_eq0, z_eq1, z_or, z_em, Classical.not_not, not_false_eq_true, not_true_eq_false, true_and, and_true, false_and, and_false, and_self, true_implies, false_implies, implies_true, Option.toList_some, Option.toList_none, List.cons_append, List.nil_append, Nat.add_eq_zero_iff, a_nl_i, a_nl_r, a_nl_n, true_or, or_true, eq_self, ok_4, ok_5, ok_6, ok_7, ok_9, ok_10, ok_20, ok_21, ok_24, ok_30, ok_48, ok_50, ok_60, ok_80, ok_120, ok_180, ok_192, ok_200, ok_900, ok_1000, ok_84000]
  exact hl3
theorem xt_giveFirst9 (hS : m_S M K L R) {I1 : Nat → Nat → Int32} (hm : moY Y) (h17 : 0 ≤ Y 0 17 ∧ Y 0 17 ≤ 30) (h10 : ∀ j, 0 ≤ Y 10 j ∧ Y 10 j ≤ 4) (h6 : 0 ≤ Y 0 6 ∧ Y 0 6 ≤ 6) {c : Nat} (hF : mF M c I1 I) (hc : c + 4 ≤ 84000) {a f e w : Int32} (ha : 0 ≤ a ∧ a < 30) (a17 : a < Y 0 17) (un : ¬ 0 ≤ Y 20 a.toNatClampNeg) (hl : 1 ≤ Y 10 a.toNatClampNeg) (hf : 0 ≤ f ∧ f ≤ 202) (he9 : e ≤ 199) (hg : gh M I0 J3 W1 I Y) (hP : ∀ J, mF M (c + 4) I1 J → gv M I J → gh M I0 J3 W1 J (giY Y a f e (okB Y a f e w)) → P (some (.int (if okB Y a f e w = true ∧ 0 ≤ (gnY Y a f e).2 then 1 else 0))) (n, t, K, L, J, R)) : a_does (d + 12) 238 [a_rf M, .int a, .int f, .int e, .int w] (n, t, K, L, I, R) P := by
  have h1 := ct_giveFirst (d := d) (o := w) hS hF hc ha hf he9 (P := fun r h' => ∃ J, h' = (n, t, K, L, J, R) ∧ mF M (c + 4) I1 J ∧ gv M I J) (fun v J q1 q2 _ => ⟨J, rfl, q1, q2⟩)
  have h2 := xt_giveFirst09 (d := d) hS hm h17 h10 h6 (w := w) ha a17 un hl hf he9 (mE_ev hF.2 hF.1.1 hc) hg (P := fun r h' => r = some (.int (if okB Y a f e w = true ∧ 0 ≤ (gnY Y a f e).2 then 1 else 0)) ∧ ∃ J, h' = (n, t, K, L, J, R) ∧ gh M I0 J3 W1 J (giY Y a f e (okB Y a f e w))) (fun J q => ⟨rfl, J, rfl, q⟩)
  refine (does_and h1 h2).weaken (fun r h' q => ?_)
  obtain ⟨⟨J, e2, q1, q3⟩, ⟨e1, J2, e3, q2⟩⟩ := q
  subst e1
  subst e2
  cases e3
  exact hP J q1 q3 q2
theorem xt_plan_809 (hS : m_S M K L R) {I1 : Nat → Nat → Int32} (hm : moY Y) (h17 : 0 ≤ Y 0 17 ∧ Y 0 17 ≤ 30) (h10 : ∀ j, 0 ≤ Y 10 j ∧ Y 10 j ≤ 4) (h6 : 0 ≤ Y 0 6 ∧ Y 0 6 ≤ 6) (hl : ∀ i : Int32, 0 ≤ i → i < Y 0 17 → 1 ≤ Y 10 i.toNatClampNeg) {c : Nat} (hc : c + 130 ≤ 84000) {f e g : Int32} (hf : 0 ≤ f ∧ f ≤ 199) (he9 : e ≤ 199) {o : Nat → Int32} {m : Nat} (hm30 : m ≤ 30) (ho : ∀ j, j < m → 0 ≤ o j ∧ o j < Y 0 17) (hoi : ∀ i j, i < m → j < m → o i = o j → i = j) {V : (Nat → Nat → Int32) × Nat × (Nat → Int32)} (hP : ∀ J, mF M (c + 120) I1 J → gh M I0 J3 W1 J V.1 → sbE Y V.1 → inP V.1 → V.2.1 ≤ m → J M 61 = Int32.ofNat V.2.1 → (∀ j, j < V.2.1 → J (M + 39) j = V.2.2 j) → P (some (.int (Int32.ofNat (m - V.2.1)))) (n, t, K, L, J, R)) : ∀ (k i : Nat) (J W : Nat → Nat → Int32) (pc : Nat) (ps : Nat → Int32), i + k = m → mF M (c + 4 * i) I1 J → gh M I0 J3 W1 J W → sbE Y W → inP W → J M 64 = Int32.ofNat m → (∀ j, j < m → J (M + 40) j = o j) → pc ≤ i → J M 61 = Int32.ofNat pc → (∀ j, j < pc → J (M + 39) j = ps j) → (∀ j, i ≤ j → j < m → ¬ 0 ≤ W 20 (o j).toNatClampNeg) → plS o f e k i (W, pc, ps) = V → a_at (d + 12) (a_xm a_m234) 80 [some (a_rf M), some (.int f), some (.int e), some (.int g), some (.int (Int32.ofNat (i - pc))), some (.int (Int32.ofNat i))] [] (n, t, K, L, J, R) P := by
  intro k
  induction k with
  | zero =>
    intro i J W pc ps hk hF hg hb hi h64 hor hpc h61 hpa hun hV
    have e : (W, pc, ps) = V := hV
    subst e
    have hp := hP J (mF_le hF (by omega)) hg hb hi (by show pc ≤ m; omega) h61 hpa
    have ei : i = m := by omega
    rw [ei]
    ((try clear hP); (try clear hF); (try clear hg); (try clear hb); (try clear hi); (try clear hm); (try clear hor); (try clear hpa); (try clear ho); (try clear hl))
    rw [q234_80]
    simp only [q234_82, q234_83, q234_86, q234_144, q234_146, m_0 hS, m_K hS, as_nil, as_i, as_r, Nat.reduceAdd, Nat.reduceLeDiff, z_eq0, z_eq1, z_or, z_em, Classical.not_not, not_false_eq_true, not_true_eq_false, true_and, and_true, false_and, and_false, and_self, true_implies, false_implies, implies_true, Option.toList_some, Option.toList_none, List.cons_append, List.nil_append, Nat.add_eq_zero_iff, a_nl_i, a_nl_r, a_nl_n, true_or, or_true, eq_self, ok_4, ok_5, ok_6, ok_7, ok_9, ok_10, ok_20, ok_21, ok_24, ok_30, ok_48, ok_50, ok_60, ok_80, ok_120, ok_180, ok_192, ok_200, ok_900, ok_1000, ok_84000, h64]
    first
      | exact hp
      | exact ⟨fun _ => hp, fun q => absurd (Int32.le_refl _) q⟩
      | grind
  | succ k ih =>
    intro i J W pc ps hk hF hg hb hi h64 hor hpc h61 hpa hun hV
    obtain ⟨q1, q2⟩ := ho i (by omega)
    have w17 : W 0 17 = Y 0 17 := hb 0 17 (by unfold sb; omega)
    have w10 : W 10 = Y 10 := sbE_r hb (by omega)
    have w6 : W 0 6 = Y 0 6 := hb 0 6 (by unfold sb; omega)
    have hlt : Int32.ofNat i < Int32.ofNat m := by rw [on_lt (by omega) (by omega)]; omega
    have hok : 0 ≤ Int32.ofNat i ∧ Int32.ofNat i < 30 := ⟨Int32.not_lt.mp (fun q => by rw [show (0 : Int32) = Int32.ofNat 0 from rfl, on_lt (by omega) (by omega)] at q; omega), by rw [show (30 : Int32) = Int32.ofNat 30 from rfl, on_lt (by omega) (by omega)]; omega⟩
    have hokp : 0 ≤ Int32.ofNat pc ∧ Int32.ofNat pc < 30 := ⟨Int32.not_lt.mp (fun q => by rw [show (0 : Int32) = Int32.ofNat 0 from rfl, on_lt (by omega) (by omega)] at q; omega), by rw [show (30 : Int32) = Int32.ofNat 30 from rfl, on_lt (by omega) (by omega)]; omega⟩
    have ei := (on_p (p := i) (by omega)).2.2.1
    have ei1 := (on_p (p := i) (by omega)).2.2.2.2.1
    have epc := (on_p (p := pc) (by omega)).2.2.1
    have epc1 := (on_p (p := pc) (by omega)).2.2.2.2.1
    have en := (on_p (p := i - pc) (by omega)).2.2.2.2.1
    have hlo : 1 ≤ W 10 (o i).toNatClampNeg := by rw [w10]; exact hl _ q1 q2
    have hcall := xt_giveFirst9 (d := d) (n := n) (t := t) (f := f) (e := e) (w := 1) (P := fun r h' => a_at (d + 12) (a_xm a_m234) 103 [some (a_rf M), some (.int f), some (.int e), some (.int g), some (.int (Int32.ofNat (i - pc))), some (.int (Int32.ofNat i))] (r.toList ++ []) h' P) hS (moY_b hm hb hi) (by rw [w17]; exact h17) (by rw [w10]; exact h10) (by rw [w6]; exact h6) hF (by omega) ⟨q1, Int32.lt_of_lt_of_le q2 h17.2⟩ (by rw [w17]; exact q2) (hun i (Nat.le_refl _) (by omega)) hlo ⟨hf.1, Int32.le_trans hf.2 (by decide)⟩ he9 hg (fun J2 f2 v2 g2 => by
      have i2 := inP_gi hi (by rw [w6]; exact h6) (a := o i) (f := f) (e := e) (ok := okB W (o i) f e 1) ⟨hlo, by rw [w10]; exact (h10 _).2⟩ ⟨hf.1, Int32.le_trans hf.2 (by decide)⟩ he9
      have h64' : J2 M 64 = Int32.ofNat m := by rw [gv_orderMany v2]; exact h64
      have h61' : J2 M 61 = Int32.ofNat pc := by rw [gv_passedMany v2]; exact h61
      have hor' : ∀ j, j < m → J2 (M + 40) j = o j := fun j hj => by
        rw [v2 (M + 40) j (by unfold evC; omega) (by unfold sC; omega) (by omega) (by omega)]
        exact hor j hj
      have hpa' : ∀ j, j < pc → J2 (M + 39) j = ps j := fun j hj => by
        rw [v2 (M + 39) j (by unfold evC; omega) (by unfold sC; omega) (by omega) (by omega)]
        exact hpa j hj
      have f3 : mF M (c + 4 * (i + 1)) I1 J2 := mF_le f2 (by omega)
      unfold plS at hV
      rw [gi_ok] at g2 i2
      have eo : okB W (o i) f e 1 = shB W (o i) f e := by unfold okB; rw [if_neg (by decide)]
      rw [eo]
      by_cases cg : shB W (o i) f e = true ∧ 0 ≤ (gnY W (o i) f e).2
      · rw [if_pos cg] at hV g2 i2 ⊢
        have hn := ih (i + 1) J2 _ pc ps (by omega) f3 g2 (sb_tr hb i2.2) i2.1 h64' hor' (by omega) h61' hpa' (fun j hj hj2 => by
          rw [pu_ne (fun q => by
            have := hoi j i hj2 (by omega) (cl_inj (ho j hj2).1 q1 q)
            omega) (Or.inl rfl)]
          exact hun j (by omega) hj2) hV
        rw [show i + 1 - pc = (i - pc) + 1 by omega] at hn
        have n10 : ¬ (1 : Int32) = 0 := by decide
        ((try clear ih); (try clear hP); (try clear hF); (try clear hg); (try clear hb); (try clear hi); (try clear hm); (try clear hor); (try clear hpa); (try clear ho); (try clear hl); (try clear hV); (try clear f2); (try clear f3); (try clear g2); (try clear i2); (try clear v2); (try clear hor'); (try clear hpa'))
        simp only [q234_103, q234_106, q234_109, q234_138, q234_141, as_nil, as_i, as_r, Nat.reduceAdd, Nat.reduceLeDiff, z_eq0, z_eq1, z_or, z_em, Classical.not_not, not_false_eq_true, not_true_eq_false, true_and, and_true, false_and, and_false, and_self, true_implies, false_implies, implies_true, Option.toList_some, Option.toList_none, List.cons_append, List.nil_append, Nat.add_eq_zero_iff, a_nl_i, a_nl_r, a_nl_n, true_or, or_true, eq_self, ok_4, ok_5, ok_6, ok_7, ok_9, ok_10, ok_20, ok_21, ok_24, ok_30, ok_48, ok_50, ok_60, ok_80, ok_120, ok_180, ok_192, ok_200, ok_900, ok_1000, ok_84000, n10, en, ei1]
        try simp only [true_and, and_true, true_implies, false_implies, implies_true, not_true_eq_false, not_false_eq_true]
        exact hn
      · rw [if_neg cg] at hV g2 i2 ⊢
        have hn := ih (i + 1) (a_ui (a_ui J2 (M + 39) pc (o i)) M 61 (Int32.ofNat (pc + 1))) W (pc + 1) (up1 ps pc (o i)) (by omega) (sF_passedMany (sF_passedAsk f3) ⟨by rw [← epc1]; ((try clear ih); (try clear hV); (try clear hP); (try clear hor); (try clear hpa); (try clear ho); (try clear hl)); grind, by rw [← epc1]; ((try clear ih); (try clear hV); (try clear hP); (try clear hor); (try clear hpa); (try clear ho); (try clear hl)); grind⟩) (gh_u0 (gh_ui g2 (sR_passedAsk g2.1.1) (by omega) ⟨by unfold ps1; omega, by omega⟩ (by omega)) (sR_passedMany (sR_passedAsk g2.1.1) ⟨by rw [← epc1]; ((try clear ih); (try clear hV); (try clear hP); (try clear hor); (try clear hpa); (try clear ho); (try clear hl)); grind, by rw [← epc1]; ((try clear ih); (try clear hV); (try clear hP); (try clear hor); (try clear hpa); (try clear ho); (try clear hl)); grind⟩) (by unfold ps1; omega) (by omega)) hb hi (by rw [ui_ap, if_neg (by omega), ui_ap, if_neg (by omega)]; exact h64') (fun j hj => by rw [ui_ap, if_neg (by omega), ui_ap, if_neg (by omega)]; exact hor' j hj) (by omega) (by rw [ui_ap, if_pos ⟨rfl, rfl⟩]) (fun j hj => by
          rw [ui_ap, if_neg (by omega), ui_ap]
          unfold up1
          by_cases e : j = pc
          · rw [if_pos ⟨rfl, e⟩, if_pos e]
          · rw [if_neg (fun q => e q.2), if_neg e]
            exact hpa' j (by omega)) (fun j hj hj2 => hun j (by omega) hj2) hV
        rw [show i + 1 - (pc + 1) = i - pc by omega] at hn
        have hoi := hor' i (by omega)
        ((try clear ih); (try clear hP); (try clear hF); (try clear hg); (try clear hb); (try clear hi); (try clear hm); (try clear hor); (try clear hpa); (try clear ho); (try clear hl); (try clear hV); (try clear f2); (try clear f3); (try clear g2); (try clear i2); (try clear v2); (try clear hor'); (try clear hpa'))
        simp only [q234_103, q234_112, q234_113, q234_116, q234_117, q234_120, q234_121, q234_124, q234_126, q234_127, q234_128, q234_129, q234_130, q234_133, q234_134, q234_135, q234_138, q234_141, m_0 hS, m_K hS, mR_passedAsk hS, mK_passedAsk hS, mL_passedAsk hS, mR_order hS, mK_order hS, mL_order hS, as_nil, as_i, as_r, Nat.reduceAdd, Nat.reduceLeDiff, z_eq0, z_eq1, z_or, z_em, Classical.not_not, not_false_eq_true, not_true_eq_false, true_and, and_true, false_and, and_false, and_self, true_implies, false_implies, implies_true, Option.toList_some, Option.toList_none, List.cons_append, List.nil_append, Nat.add_eq_zero_iff, a_nl_i, a_nl_r, a_nl_n, true_or, or_true, eq_self, ok_4, ok_5, ok_6, ok_7, ok_9, ok_10, ok_20, ok_21, ok_24, ok_30, ok_48, ok_50, ok_60, ok_80, ok_120, ok_180, ok_192, ok_200, ok_900, ok_1000, ok_84000, ui_ap, ne_MM, ne_M0, ne_0M, Nat.reduceEqDiff, reduceIte, if_true, if_false, h61', hoi, ei, epc, epc1, hok, hokp, ei1]
        try simp only [true_and, and_true, true_implies, false_implies, implies_true, not_true_eq_false, not_false_eq_true]
        exact hn)
    have hoi := hor i (by omega)
    ((try clear ih); (try clear hP); (try clear hF); (try clear hg); (try clear hb); (try clear hi); (try clear hm); (try clear hor); (try clear hpa); (try clear ho); (try clear hl); (try clear hV))
    rw [q234_80]
    have nle : ¬ Int32.ofNat m ≤ Int32.ofNat i := Int32.not_le.mpr hlt
    simp only [q234_82, q234_83, q234_86, q234_89, q234_90, q234_91, q234_94, q234_96, q234_97, q234_98, q234_99, q234_100, m_0 hS, m_K hS, mR_order hS, mK_order hS, mL_order hS, as_nil, as_i, as_r, Nat.reduceAdd, Nat.reduceLeDiff, z_eq0, z_eq1, z_or, z_em, Classical.not_not, not_false_eq_true, not_true_eq_false, true_and, and_true, false_and, and_false, and_self, true_implies, false_implies, implies_true, Option.toList_some, Option.toList_none, List.cons_append, List.nil_append, Nat.add_eq_zero_iff, a_nl_i, a_nl_r, a_nl_n, true_or, or_true, eq_self, ok_4, ok_5, ok_6, ok_7, ok_9, ok_10, ok_20, ok_21, ok_24, ok_30, ok_48, ok_50, ok_60, ok_80, ok_120, ok_180, ok_192, ok_200, ok_900, ok_1000, ok_84000, h64, hoi, ei, hok, nle, hlt]
    try simp only [true_and, and_true, true_implies, false_implies, implies_true, not_true_eq_false, not_false_eq_true]
    exact hcall
theorem xt_plan149 (hS : m_S M K L R) {I1 : Nat → Nat → Int32} (hm : moY Y) (h17 : 0 ≤ Y 0 17 ∧ Y 0 17 ≤ 30) (h10 : ∀ j, 0 ≤ Y 10 j ∧ Y 10 j ≤ 4) (h6 : 0 ≤ Y 0 6 ∧ Y 0 6 ≤ 6) (hl : ∀ i : Int32, 0 ≤ i → i < Y 0 17 → 1 ≤ Y 10 i.toNatClampNeg) {c : Nat} (hc : c + 130 ≤ 84000) (hF : mF M c I1 I) (hg : gh M I0 J3 W1 I Y) {f e : Int32} (hf : 0 ≤ f ∧ f ≤ 199) (he9 : e ≤ 199) (hP : ∀ J, mF M (c + 120) I1 J → gh M I0 J3 W1 J (plY Y f e).1 → sbE Y (plY Y f e).1 → inP (plY Y f e).1 → (plY Y f e).2.1 ≤ (orP Y).2 → J M 61 = Int32.ofNat (plY Y f e).2.1 → (∀ j, j < (plY Y f e).2.1 → J (M + 39) j = (plY Y f e).2.2 j) → P (some (.int (Int32.ofNat ((orP Y).2 - (plY Y f e).2.1)))) (n, t, K, L, J, R)) : a_at (d + 13) (a_xm a_m234) 14 [some (a_rf M), some (.int f), some (.int e), none, none, none] [] (n, t, K, L, I, R) P := by
  have hrw := rw_orP (Y := Y) h17.1
  have hl19 := xt_plan_19 (d := d) (P := P) (a := f) (b := e) hS hg.1 h17 (fun g k hbit => by
    simp only [q234_64, q234_65, q234_66, m_0 hS, m_K hS, as_nil, as_i, as_r, Nat.reduceAdd, Nat.reduceLeDiff, z_eq0, z_eq1, z_or, z_em, Classical.not_not, not_false_eq_true, not_true_eq_false, true_and, and_true, false_and, and_false, and_self, true_implies, false_implies, implies_true, Option.toList_some, Option.toList_none, List.cons_append, List.nil_append, Nat.add_eq_zero_iff, a_nl_i, a_nl_r, a_nl_n, true_or, or_true, eq_self, ok_4, ok_5, ok_6, ok_7, ok_9, ok_10, ok_20, ok_21, ok_24, ok_30, ok_48, ok_50, ok_60, ok_80, ok_120, ok_180, ok_192, ok_200, ok_900, ok_1000, ok_84000]
    have h1 := ct_findOrder (d := d + 9) (g := g) hS hF (P := fun r h' => r = none ∧ ∃ J, h' = (n, t, K, L, J, R) ∧ mF M c I1 J) (fun J q _ => ⟨rfl, J, rfl, q⟩)
    have eo : orF Y (btB g) (Y 0 17).toNatClampNeg 0 (fun _ => 0, 0) = orP Y := orF_q (n := Y 0 17) hbit _ 0 _ (by decide) h17.1 (by rw [show (0 : Int32).toNatClampNeg = 0 from rfl, Nat.zero_add])
    have h2 := xt_findOrder (d := d + 9) (g := g) hS hm h17 hg.1 (P := fun r h' => r = none ∧ ∃ J, h' = (n, t, K, L, J, R) ∧ gs M I0 J Y ∧ J M 64 = Int32.ofNat (orP Y).2 ∧ (orP Y).2 ≤ 30 ∧ (∀ j, j < (orP Y).2 → J (M + 40) j = (orP Y).1 j ∧ 0 ≤ (orP Y).1 j ∧ (orP Y).1 j < Y 0 17)) (fun J q1 q2 q3 q4 => by
      rw [eo] at q2 q3 q4
      exact ⟨rfl, J, rfl, q1, q2, q3, q4⟩)
    have h3 := cf_findOrder (d := d + 9) (g := g) hS hF.1.1 (P := fun r h' => ∃ J2, h' = (n, t, K, L, J2, R) ∧ foP M I J2) (fun J2 q => ⟨J2, rfl, q⟩)
    refine (does_and (does_and h1 h2) h3).weaken (fun r h' q => ?_)
    obtain ⟨⟨⟨e1, J, e2, f1⟩, ⟨-, J2, e3, g1, o1, o2, o3⟩⟩, J6, e4, fo⟩ := q
    subst e1
    subst e2
    cases e3
    cases e4
    have g1 : gh M I0 J3 W1 J Y := ⟨g1, gvQ_fr hg.2 (fun x j q => fo.2 _ _ (by unfold hC at q; omega) (by unfold hC at q; omega))⟩
    have e00 : Int32.ofNat 0 = 0 := rfl
    have hn := xt_plan_809 (d := d + 1) (P := P) (I0 := I0) (g := g) hS hm h17 h10 h6 hl hc hf he9 (o := (orP Y).1) o2 (fun j hj => (o3 j hj).2) hrw.2 hP (orP Y).2 0 (a_ui J M 61 0) Y 0 (fun _ => 0) (by omega) (sF_passedMany (mF_le f1 (by omega)) (by decide)) (gh_u0 g1 (sR_passedMany g1.1.1 (by decide)) (by unfold ps1; omega) (by omega)) (fun _ _ _ => rfl) hm.2.2.2.1 (by rw [ui_ap, if_neg (by omega)]; exact o1) (fun j hj => by rw [ui_ap, if_neg (by omega)]; exact (o3 j hj).1) (Nat.le_refl _) (by rw [ui_ap, if_pos ⟨rfl, rfl⟩]; rfl) (fun j hj => absurd hj (Nat.not_lt_zero j)) (fun j _ hj => (of_decide_eq_true (hrw.1 j hj).2).1) rfl
    rw [Nat.sub_zero, e00] at hn
    ((try clear hP); (try clear hm); (try clear hg); (try clear g1); (try clear o3); (try clear hl); (try clear hF); (try clear f1))
    simp only [q234_69, q234_70, q234_71, q234_74, q234_75, q234_77, q234_78, m_0 hS, m_K hS, as_nil, as_i, as_r, Nat.reduceAdd, Nat.reduceLeDiff, z_eq0, z_eq1, z_or, z_em, Classical.not_not, not_false_eq_true, not_true_eq_false, true_and, and_true, false_and, and_false, and_self, true_implies, false_implies, implies_true, Option.toList_some, Option.toList_none, List.cons_append, List.nil_append, Nat.add_eq_zero_iff, a_nl_i, a_nl_r, a_nl_n, true_or, or_true, eq_self, ok_4, ok_5, ok_6, ok_7, ok_9, ok_10, ok_20, ok_21, ok_24, ok_30, ok_48, ok_50, ok_60, ok_80, ok_120, ok_180, ok_192, ok_200, ok_900, ok_1000, ok_84000]
    exact hn) 0 (by decide) 0 (by decide) h17.1 (fun j hj => by
    rw [bq_0, show (0 : Int32).toNatClampNeg = 0 from rfl]
    exact ⟨fun q => absurd q Bool.false_ne_true, fun q => absurd q.1 (Nat.not_lt_zero j)⟩)
  ((try clear hP); (try clear hm); (try clear hg); (try clear hl); (try clear hF))
  simp only [q234_14, q234_15, q234_16, q234_17, as_nil, as_i, as_r, Nat.reduceAdd, Nat.reduceLeDiff, z_eq0, z_eq1, z_or, z_em, Classical.not_not, not_false_eq_true, not_true_eq_false, true_and, and_true, false_and, and_false, and_self, true_implies, false_implies, implies_true, Option.toList_some, Option.toList_none, List.cons_append, List.nil_append, Nat.add_eq_zero_iff, a_nl_i, a_nl_r, a_nl_n, true_or, or_true, eq_self, ok_4, ok_5, ok_6, ok_7, ok_9, ok_10, ok_20, ok_21, ok_24, ok_30, ok_48, ok_50, ok_60, ok_80, ok_120, ok_180, ok_192, ok_200, ok_900, ok_1000, ok_84000]
  exact hl19
/-- takeFrom, with the row of events and what is told -/
theorem xh_takeFrom (hS : m_S M K L R) {c : Nat} (hF : mF M c I0 I) (hc : c + 4 ≤ 84000) {a : Int32} (ha : 0 ≤ a ∧ a < 30) (hP : ∀ J, mF M (c + 4) I0 J → (a < I M 17 → 0 ≤ I (M + 20) a.toNatClampNeg → mF M c I0 J) → yR M I J (unY (yv M I) a) → tkM M (I (M + 20) a.toNatClampNeg) (I (M + 21) a.toNatClampNeg) (I (M + 10) a.toNatClampNeg) (-9) I J → P none (n, t, K, L, J, R)) : a_does (d + 2) 186 [a_rf M, .int a] (n, t, K, L, I, R) P := by
  have h1 := ct_takeFrom (d := d) hS hF hc ha (P := fun r h' => r = none ∧ ∃ J, h' = (n, t, K, L, J, R) ∧ mF M (c + 4) I0 J ∧ (a < I M 17 → 0 ≤ I (M + 20) a.toNatClampNeg → mF M c I0 J)) (fun J q q2 _ _ => ⟨rfl, J, rfl, q, q2⟩)
  have h2 := xh_takeFrom0 (d := d) hS hF.1.1 (mE_ev hF.2 hF.1.1 hc) ha (P := fun r h' => r = none ∧ ∃ J, h' = (n, t, K, L, J, R) ∧ yR M I J (unY (yv M I) a) ∧ tkM M (I (M + 20) a.toNatClampNeg) (I (M + 21) a.toNatClampNeg) (I (M + 10) a.toNatClampNeg) (-9) I J) (fun J q q2 => ⟨rfl, J, rfl, q, q2⟩)
  refine (does_and h1 h2).weaken (fun r h' q => ?_)
  obtain ⟨⟨e1, J, e2, q1, q3⟩, ⟨-, J2, e3, q2, q4⟩⟩ := q
  subst e1
  subst e2
  cases e3
  exact hP J q1 q3 q2 q4
theorem xh_giveTo (hS : m_S M K L R) (hm : moP M I) {c : Nat} (hF : mF M c I0 I) (hc : c + 4 ≤ 84000) {a b s : Int32} (ha : 0 ≤ a ∧ a < 30) (hb : 0 ≤ b ∧ b ≤ 5) (hs : -9 ≤ s ∧ s ≤ 200) (hP : ∀ J, mF M (c + 4) I0 J → yR M I J (puY (yv M I) a b s) → tkM M b s (I (M + 10) a.toNatClampNeg) a I J → P none (n, t, K, L, J, R)) : a_does (d + 11) 230 [a_rf M, .int a, .int b, .int s] (n, t, K, L, I, R) P := by
  have h1 := ct_giveTo (d := d) hS hF hc ha hb hs (P := fun r h' => r = none ∧ ∃ J, h' = (n, t, K, L, J, R) ∧ mF M (c + 4) I0 J) (fun J q _ _ => ⟨rfl, J, rfl, q⟩)
  have h2 := xh_giveTo0 (d := d) hS hm (mE_ev hF.2 hF.1.1 hc) ha hb hs (P := fun r h' => r = none ∧ ∃ J, h' = (n, t, K, L, J, R) ∧ yR M I J (puY (yv M I) a b s) ∧ tkM M b s (I (M + 10) a.toNatClampNeg) a I J) (fun J q q2 => ⟨rfl, J, rfl, q, q2⟩)
  refine (does_and h1 h2).weaken (fun r h' q => ?_)
  obtain ⟨⟨e1, J, e2, q1⟩, ⟨-, J2, e3, q2, q3⟩⟩ := q
  subst e1
  subst e2
  cases e3
  exact hP J q1 q2 q3
theorem xt_again_709 (hS : m_S M K L R) {I1 : Nat → Nat → Int32} (hm : moY Y) (h17 : 0 ≤ Y 0 17 ∧ Y 0 17 ≤ 30) (h10 : ∀ j, 0 ≤ Y 10 j ∧ Y 10 j ≤ 4) (h6 : 0 ≤ Y 0 6 ∧ Y 0 6 ≤ 6) (hl : ∀ i : Int32, 0 ≤ i → i < Y 0 17 → 1 ≤ Y 10 i.toNatClampNeg) {c : Nat} (hc : c + 130 ≤ 84000) {f g : Int32} (hf : 0 ≤ f ∧ f ≤ 202) (ef : Y 0 0 / 8 + 1 = f) {o : Nat → Int32} {m : Nat} (hm30 : m ≤ 30) (ho : ∀ j, j < m → (0 ≤ o j ∧ o j < Y 0 17) ∧ 0 ≤ Y 20 (o j).toNatClampNeg) (hoi : ∀ i j, i < m → j < m → o i = o j → i = j) {V : (Nat → Nat → Int32) × Nat} (hP : ∀ J, mF M (c + 120) I1 J → gh M I0 J3 W1 J V.1 → sbE Y V.1 → inP V.1 → P (some (.int (Int32.ofNat V.2))) (n, t, K, L, J, R)) : ∀ (k i : Nat) (J W : Nat → Nat → Int32) (mv : Nat) (u v : Option Value), i + k = m → mF M (c + 4 * i) I1 J → gh M I0 J3 W1 J W → sbE Y W → inP W → J M 64 = Int32.ofNat m → (∀ j, j < m → J (M + 40) j = o j) → (∀ j, j < m → J (M + 45) (o j).toNatClampNeg = Y 20 (o j).toNatClampNeg ∧ J (M + 46) (o j).toNatClampNeg = Y 21 (o j).toNatClampNeg) → (∀ j, i ≤ j → j < m → ¬ 0 ≤ W 20 (o j).toNatClampNeg) → mv ≤ i → agM o f 199 Y k i (W, mv) = V → a_at (d + 12) (a_xm a_m247) 70 [some (a_rf M), some (.int g), some (.int (Int32.ofNat mv)), some (.int (Int32.ofNat i)), u, v] [] (n, t, K, L, J, R) P := by
  intro k
  induction k with
  | zero =>
    intro i J W mv u uv hk hF hg hb hi h64 hor hwas hun hmv hV
    have e : (W, mv) = V := hV
    subst e
    have hp := hP J (mF_le hF (by omega)) hg hb hi
    have ei : i = m := by omega
    rw [ei]
    ((try clear hP); (try clear hF); (try clear hg); (try clear hb); (try clear hi); (try clear hm); (try clear hor); (try clear ho); (try clear hl); (try clear hwas); (try clear hun))
    rw [q247_70]
    simp only [q247_71, q247_72, q247_75, q247_160, q247_161, m_0 hS, m_K hS, as_nil, as_i, as_r, Nat.reduceAdd, Nat.reduceLeDiff, z_eq0, z_eq1, z_or, z_em, Classical.not_not, not_false_eq_true, not_true_eq_false, true_and, and_true, false_and, and_false, and_self, true_implies, false_implies, implies_true, Option.toList_some, Option.toList_none, List.cons_append, List.nil_append, Nat.add_eq_zero_iff, a_nl_i, a_nl_r, a_nl_n, true_or, or_true, eq_self, ok_4, ok_5, ok_6, ok_7, ok_9, ok_10, ok_20, ok_21, ok_24, ok_30, ok_48, ok_50, ok_60, ok_80, ok_120, ok_180, ok_192, ok_200, ok_900, ok_1000, ok_84000, h64]
    first
      | exact hp
      | exact ⟨fun _ => hp, fun q => absurd (Int32.le_refl _) q⟩
      | grind
  | succ k ih =>
    intro i J W mv u uv hk hF hg hb hi h64 hor hwas hun hmv hV
    have him : i < m := by omega
    obtain ⟨⟨q1, q2⟩, q3⟩ := ho i him
    have o30 : 0 ≤ o i ∧ o i < 30 := ⟨q1, Int32.lt_of_lt_of_le q2 h17.2⟩
    have w17 : W 0 17 = Y 0 17 := hb 0 17 (by unfold sb; omega)
    have w00 : W 0 0 = Y 0 0 := hb 0 0 (by unfold sb; omega)
    have w10 : W 10 = Y 10 := sbE_r hb (by omega)
    have w6 : W 0 6 = Y 0 6 := hb 0 6 (by unfold sb; omega)
    have hok := on_ok (p := i) (by omega)
    have ei := (on_p (p := i) (by omega)).2.2.1
    have ei1 := (on_p (p := i) (by omega)).2.2.2.2.1
    have ev1 := (on_p (p := mv) (by omega)).2.2.2.2.1
    have nle : ¬ Int32.ofNat m ≤ Int32.ofNat i := Int32.not_le.mpr (by rw [on_lt (by omega) (by omega)]; omega)
    have n8 : ¬ (8 : Int32) = 0 := by decide
    have enow : J M 0 = Y 0 0 := (hg.1.2.2.1 0 0 (by unfold ps1; omega)).trans w00
    have un := hun i (Nat.le_refl _) him
    have hwi := hwas i him
    have ok1 : okB W (o i) f 199 0 = true := by unfold okB; rw [if_pos rfl]
    have hafter : ∀ v Z, giY W (o i) f 199 true = Z → (v = 0 → ¬ 0 ≤ Z 20 (o i).toNatClampNeg) → sbE Y Z → inP Z → (∀ j, i < j → j < m → ¬ 0 ≤ Z 20 (o j).toNatClampNeg) → ∀ J2, mF M (c + 4 * (i + 1)) I1 J2 → gv M J J2 → gh M I0 J3 W1 J2 Z → (v = 0 ∨ v = 1) → a_at (d + 12) (a_xm a_m247) 105 [some (a_rf M), some (.int g), some (.int (Int32.ofNat mv)), some (.int (Int32.ofNat i)), some (.int (o i)), uv] [.int v] (n, t, K, L, J2, R) P := fun v Z eZ hv hbZ hiZ hunZ J2 f2 v2 g2 hv01 => by
      have e20 : J2 (M + 20) (o i).toNatClampNeg = Z 20 (o i).toNatClampNeg := g2.1.2.2.1 20 _ (by unfold ps1; omega)
      have e21 : J2 (M + 21) (o i).toNatClampNeg = Z 21 (o i).toNatClampNeg := g2.1.2.2.1 21 _ (by unfold ps1; omega)
      have g45 : ∀ j, J2 (M + 45) j = J (M + 45) j := fun j => v2 _ _ (by unfold evC; omega) (by unfold sC; omega) (by omega) (by omega)
      have g46 : ∀ j, J2 (M + 46) j = J (M + 46) j := fun j => v2 _ _ (by unfold evC; omega) (by unfold sC; omega) (by omega) (by omega)
      have e45 : J2 (M + 45) (o i).toNatClampNeg = Y 20 (o i).toNatClampNeg := (g45 _).trans hwi.1
      have e46 : J2 (M + 46) (o i).toNatClampNeg = Y 21 (o i).toNatClampNeg := (g46 _).trans hwi.2
      unfold agM at hV
      have e1 : ∀ (x : Nat → Nat → Int32) (y : Nat), (x, y).1 = x ∧ (x, y).2 = y := fun _ _ => ⟨rfl, rfl⟩
      rw [(e1 _ _).1, (e1 _ _).2, eZ] at hV
      have hn := fun mv2 (hmv2 : mv2 ≤ i + 1) (hv2 : agM o f 199 Y k (i + 1) (Z, mv2) = V) => ih (i + 1) J2 Z mv2 (some (.int (o i))) (some (.int v)) (by omega) f2 g2 hbZ hiZ (by rw [gv_orderMany v2]; exact h64) (fun j hj => by
        rw [v2 (M + 40) j (by unfold evC; omega) (by unfold sC; omega) (by omega) (by omega)]
        exact hor j hj) (fun j hj => by rw [g45, g46]; exact hwas j hj) (fun j hj hj2 => hunZ j (by omega) hj2) hmv2 hv2
      by_cases cs : Z 20 (o i).toNatClampNeg = Y 20 (o i).toNatClampNeg ∧ Z 21 (o i).toNatClampNeg = Y 21 (o i).toNatClampNeg
      · rw [if_pos cs] at hV
        have hn := hn mv (by omega) hV
        obtain ⟨c1, c2⟩ := cs
        have v1 : v = 1 := hv01.resolve_left (fun q => hv q (by rw [c1]; exact q3))
        subst v1
        have n10 : ¬ (1 : Int32) = 0 := by decide
        ((try clear ih); (try clear hP); (try clear hF); (try clear hg); (try clear hb); (try clear hi); (try clear hm); (try clear hor); (try clear ho); (try clear hl); (try clear hV); (try clear f2); (try clear g2); (try clear v2); (try clear hwas); (try clear hun); (try clear hbZ); (try clear hiZ); (try clear hunZ))
        simp only [q247_105, q247_107, q247_108, q247_110, q247_113, q247_114, q247_117, q247_119, q247_120, q247_121, q247_124, q247_126, q247_127, q247_130, q247_131, q247_134, q247_136, q247_137, q247_138, q247_141, q247_143, q247_144, q247_147, q247_148, q247_151, q247_152, q247_153, q247_154, q247_157, m_0 hS, m_K hS, mR_atBench hS, mK_atBench hS, mL_atBench hS, mR_wasBench hS, mK_wasBench hS, mL_wasBench hS, mR_atShift hS, mK_atShift hS, mL_atShift hS, mR_wasShift hS, mK_wasShift hS, mL_wasShift hS, as_nil, as_i, as_r, Nat.reduceAdd, Nat.reduceLeDiff, z_eq0, z_eq1, z_or, z_em, Classical.not_not, not_false_eq_true, not_true_eq_false, true_and, and_true, false_and, and_false, and_self, true_implies, false_implies, implies_true, Option.toList_some, Option.toList_none, List.cons_append, List.nil_append, Nat.add_eq_zero_iff, a_nl_i, a_nl_r, a_nl_n, true_or, or_true, eq_self, ok_4, ok_5, ok_6, ok_7, ok_9, ok_10, ok_20, ok_21, ok_24, ok_30, ok_48, ok_50, ok_60, ok_80, ok_120, ok_180, ok_192, ok_200, ok_900, ok_1000, ok_84000, n10, e20, e21, e45, e46, c1, c2, o30, ei1, Int32.add_zero]
        try simp only [true_and, and_true, true_implies, false_implies, implies_true, not_true_eq_false, not_false_eq_true]
        first
          | exact hn
          | grind
      · rw [if_neg cs] at hV
        have hn := hn (mv + 1) (by omega) hV
        ((try clear ih); (try clear hP); (try clear hF); (try clear hg); (try clear hb); (try clear hi); (try clear hm); (try clear hor); (try clear ho); (try clear hl); (try clear hV); (try clear f2); (try clear g2); (try clear v2); (try clear hwas); (try clear hun); (try clear hbZ); (try clear hiZ); (try clear hunZ))
        rcases hv01 with v0 | v0
        · subst v0
          simp only [q247_105, q247_107, q247_108, q247_110, q247_113, q247_114, q247_117, q247_119, q247_120, q247_121, q247_124, q247_126, q247_127, q247_130, q247_131, q247_134, q247_136, q247_137, q247_138, q247_141, q247_143, q247_144, q247_147, q247_148, q247_151, q247_152, q247_153, q247_154, q247_157, m_0 hS, m_K hS, mR_atBench hS, mK_atBench hS, mL_atBench hS, mR_wasBench hS, mK_wasBench hS, mL_wasBench hS, mR_atShift hS, mK_atShift hS, mL_atShift hS, mR_wasShift hS, mK_wasShift hS, mL_wasShift hS, as_nil, as_i, as_r, Nat.reduceAdd, Nat.reduceLeDiff, z_eq0, z_eq1, z_or, z_em, Classical.not_not, not_false_eq_true, not_true_eq_false, true_and, and_true, false_and, and_false, and_self, true_implies, false_implies, implies_true, Option.toList_some, Option.toList_none, List.cons_append, List.nil_append, Nat.add_eq_zero_iff, a_nl_i, a_nl_r, a_nl_n, true_or, or_true, eq_self, ok_4, ok_5, ok_6, ok_7, ok_9, ok_10, ok_20, ok_21, ok_24, ok_30, ok_48, ok_50, ok_60, ok_80, ok_120, ok_180, ok_192, ok_200, ok_900, ok_1000, ok_84000, ei1, ev1]
          try simp only [true_and, and_true, true_implies, false_implies, implies_true, not_true_eq_false, not_false_eq_true]
          first
            | exact hn
            | grind
        · subst v0
          have n10 : ¬ (1 : Int32) = 0 := by decide
          by_cases c1 : Z 20 (o i).toNatClampNeg = Y 20 (o i).toNatClampNeg
          · have c2 : ¬ Z 21 (o i).toNatClampNeg = Y 21 (o i).toNatClampNeg := fun q => cs ⟨c1, q⟩
            simp only [q247_105, q247_107, q247_108, q247_110, q247_113, q247_114, q247_117, q247_119, q247_120, q247_121, q247_124, q247_126, q247_127, q247_130, q247_131, q247_134, q247_136, q247_137, q247_138, q247_141, q247_143, q247_144, q247_147, q247_148, q247_151, q247_152, q247_153, q247_154, q247_157, m_0 hS, m_K hS, mR_atBench hS, mK_atBench hS, mL_atBench hS, mR_wasBench hS, mK_wasBench hS, mL_wasBench hS, mR_atShift hS, mK_atShift hS, mL_atShift hS, mR_wasShift hS, mK_wasShift hS, mL_wasShift hS, as_nil, as_i, as_r, Nat.reduceAdd, Nat.reduceLeDiff, z_eq0, z_eq1, z_or, z_em, Classical.not_not, not_false_eq_true, not_true_eq_false, true_and, and_true, false_and, and_false, and_self, true_implies, false_implies, implies_true, Option.toList_some, Option.toList_none, List.cons_append, List.nil_append, Nat.add_eq_zero_iff, a_nl_i, a_nl_r, a_nl_n, true_or, or_true, eq_self, ok_4, ok_5, ok_6, ok_7, ok_9, ok_10, ok_20, ok_21, ok_24, ok_30, ok_48, ok_50, ok_60, ok_80, ok_120, ok_180, ok_192, ok_200, ok_900, ok_1000, ok_84000, n10, e20, e21, e45, e46, c1, c2, o30, ei1, ev1]
            try simp only [true_and, and_true, true_implies, false_implies, implies_true, not_true_eq_false, not_false_eq_true]
            first
              | exact hn
              | grind
          · simp only [q247_105, q247_107, q247_108, q247_110, q247_113, q247_114, q247_117, q247_119, q247_120, q247_121, q247_124, q247_126, q247_127, q247_130, q247_131, q247_134, q247_136, q247_137, q247_138, q247_141, q247_143, q247_144, q247_147, q247_148, q247_151, q247_152, q247_153, q247_154, q247_157, m_0 hS, m_K hS, mR_atBench hS, mK_atBench hS, mL_atBench hS, mR_wasBench hS, mK_wasBench hS, mL_wasBench hS, mR_atShift hS, mK_atShift hS, mL_atShift hS, mR_wasShift hS, mK_wasShift hS, mL_wasShift hS, as_nil, as_i, as_r, Nat.reduceAdd, Nat.reduceLeDiff, z_eq0, z_eq1, z_or, z_em, Classical.not_not, not_false_eq_true, not_true_eq_false, true_and, and_true, false_and, and_false, and_self, true_implies, false_implies, implies_true, Option.toList_some, Option.toList_none, List.cons_append, List.nil_append, Nat.add_eq_zero_iff, a_nl_i, a_nl_r, a_nl_n, true_or, or_true, eq_self, ok_4, ok_5, ok_6, ok_7, ok_9, ok_10, ok_20, ok_21, ok_24, ok_30, ok_48, ok_50, ok_60, ok_80, ok_120, ok_180, ok_192, ok_200, ok_900, ok_1000, ok_84000, n10, e20, e21, e45, e46, c1, o30, ei1, ev1]
            try simp only [true_and, and_true, true_implies, false_implies, implies_true, not_true_eq_false, not_false_eq_true]
            first
              | exact hn
              | grind
    have hlo : 1 ≤ W 10 (o i).toNatClampNeg := by rw [w10]; exact hl _ q1 q2
    have hcall := xt_giveFirst9 (d := d) (n := n) (t := t) (f := f) (e := 199) (w := 0) (P := fun r h' => a_at (d + 12) (a_xm a_m247) 105 [some (a_rf M), some (.int g), some (.int (Int32.ofNat mv)), some (.int (Int32.ofNat i)), some (.int (o i)), uv] (r.toList ++ []) h' P) hS (moY_b hm hb hi) (by rw [w17]; exact h17) (by rw [w10]; exact h10) (by rw [w6]; exact h6) hF (by omega) o30 (by rw [w17]; exact q2) un hlo hf (by decide) hg (fun J2 f2 v2 g2 => by
      have i2 := inP_gi hi (by rw [w6]; exact h6) (a := o i) (f := f) (e := 199) (ok := true) ⟨hlo, by rw [w10]; exact (h10 _).2⟩ ⟨hf.1, Int32.le_trans hf.2 (by decide)⟩ (by decide)
      rw [ok1] at g2
      simp only [ok1, true_and]
      refine hafter _ _ rfl (fun q => ?_) (sb_tr hb i2.2) i2.1 (fun j hj hj2 => ?_) J2 (mF_le f2 (by omega)) v2 g2 (by by_cases cg : 0 ≤ (gnY W (o i) f 199).2; exact Or.inr (if_pos cg); exact Or.inl (if_neg cg))
      · by_cases cg : 0 ≤ (gnY W (o i) f 199).2
        · rw [if_pos cg] at q
          exact absurd q (by decide)
        · unfold giY
          rw [if_neg (fun z => cg z.2)]
          exact un
      · have hne : ¬ (o j).toNatClampNeg = (o i).toNatClampNeg := fun q => by
          have := hoi j i hj2 him (cl_inj (ho j hj2).1.1 q1 q)
          omega
        unfold giY
        by_cases cg : true = true ∧ 0 ≤ (gnY W (o i) f 199).2
        · rw [if_pos cg]
          unfold puY
          rw [if_neg (fun q => hne q.2), if_neg (by omega), if_neg (by omega)]
          exact hun j (by omega) hj2
        · rw [if_neg cg]
          exact hun j (by omega) hj2)
    have hoi2 := hor i him
    ((try clear ih); (try clear hP); (try clear hF); (try clear hg); (try clear hb); (try clear hi); (try clear hm); (try clear hor); (try clear ho); (try clear hl); (try clear hV); (try clear hwas); (try clear hun); (try clear hafter))
    rw [q247_70]
    simp only [q247_71, q247_72, q247_75, q247_78, q247_79, q247_82, q247_83, q247_84, q247_86, q247_87, q247_89, q247_90, q247_93, q247_95, q247_96, q247_97, q247_98, q247_101, q247_102, m_0 hS, m_K hS, mR_order hS, mK_order hS, mL_order hS, as_nil, as_i, as_r, Nat.reduceAdd, Nat.reduceLeDiff, z_eq0, z_eq1, z_or, z_em, Classical.not_not, not_false_eq_true, not_true_eq_false, true_and, and_true, false_and, and_false, and_self, true_implies, false_implies, implies_true, Option.toList_some, Option.toList_none, List.cons_append, List.nil_append, Nat.add_eq_zero_iff, a_nl_i, a_nl_r, a_nl_n, true_or, or_true, eq_self, ok_4, ok_5, ok_6, ok_7, ok_9, ok_10, ok_20, ok_21, ok_24, ok_30, ok_48, ok_50, ok_60, ok_80, ok_120, ok_180, ok_192, ok_200, ok_900, ok_1000, ok_84000, h64, hoi2, ei, hok, nle, n8, enow, ef]
    try simp only [true_and, and_true, true_implies, false_implies, implies_true, not_true_eq_false, not_false_eq_true]
    first
      | exact hcall
      | grind
theorem xt_again_49 (hS : m_S M K L R) {I1 : Nat → Nat → Int32} (hm : moY Y) (h17 : 0 ≤ Y 0 17 ∧ Y 0 17 ≤ 30) (h10 : ∀ j, 0 ≤ Y 10 j ∧ Y 10 j ≤ 4) (hl : ∀ i : Int32, 0 ≤ i → i < Y 0 17 → 1 ≤ Y 10 i.toNatClampNeg) {c : Nat} (hc : c + 130 ≤ 84000) (hN : ∀ J g a, mF M c I1 J → th M I0 J3 W1 J (agP Y).1 → sbE Y (agP Y).1 → inP (agP Y).1 → (∀ x : Nat, x < (Y 0 17).toNatClampNeg → 0 ≤ Y 20 x → ¬ 0 ≤ (agP Y).1 20 x → J (M + 45) x = Y 20 x ∧ J (M + 46) x = Y 21 x) → (∀ j, j < 32 → (bq g j = true ↔ (j < (Y 0 17).toNatClampNeg ∧ 0 ≤ Y 20 j ∧ ¬ 0 ≤ (agP Y).1 20 j))) → a_at (d + 12) (a_xm a_m247) 61 [some (a_rf M), some (.int g), some (.int a), none, none, none] [] (n, t, K, L, J, R) P) : ∀ a : Int32, a ≤ 30 → ∀ J W g o m, 0 ≤ a → a ≤ Y 0 17 → mF M c I1 J → th M I0 J3 W1 J W → sbE Y W → inP W → (∀ x : Nat, x < a.toNatClampNeg → 0 ≤ Y 20 x → ¬ 0 ≤ W 20 x → J (M + 45) x = Y 20 x ∧ J (M + 46) x = Y 21 x) → (∀ x : Nat, a.toNatClampNeg ≤ x → W 20 x = Y 20 x ∧ W 21 x = Y 21 x) → (∀ j, j < 32 → (bq g j = true ↔ (j < a.toNatClampNeg ∧ 0 ≤ Y 20 j ∧ ¬ 0 ≤ W 20 j))) → agS ((Y 0 17).toNatClampNeg - a.toNatClampNeg) a (W, o, m) = agP Y → a_at (d + 12) (a_xm a_m247) 4 [some (a_rf M), some (.int g), some (.int a), none, none, none] [] (n, t, K, L, J, R) P := by
  have l30 := cl_le0 h17.1 h17.2
  rw [show (30 : Int32).toNatClampNeg = 30 from rfl] at l30
  refine up_ind 30 (fun a a30 ih => ?_)
  intro J W g o m h0 h1 hF hg hb hi hwas hW hbit hV
  have w17 : W 0 17 = Y 0 17 := hb 0 17 (by unfold sb; omega)
  have w10 : W 10 = Y 10 := sbE_r hb (by omega)
  have e17 : J M 17 = Y 0 17 := (hg.1.2.2.1 0 17 (by unfold ps1; omega)).trans w17
  have hexit : ¬ a < Y 0 17 → a_at (d + 12) (a_xm a_m247) 61 [some (a_rf M), some (.int g), some (.int a), none, none, none] [] (n, t, K, L, J, R) P := fun w => by
    obtain ⟨e1, e2⟩ := lp_end h1 w
    rw [e1] at hV
    have e9 : (W, o, m) = agP Y := hV
    rw [← e9] at hN
    rw [e2] at hwas hbit
    exact hN J g a hF hg hb hi hwas hbit
  have hcall : a < Y 0 17 → a_does (d + 12) 248 [a_rf M, .int a] (n, t, K, L, J, R) (fun r h' => a_at (d + 12) (a_xm a_m247) 17 [some (a_rf M), some (.int g), some (.int a), none, none, none] (r.toList ++ []) h' P) := fun w => by
    obtain ⟨s1, s2, s3, s4⟩ := lp_st h0 w
    have ha : 0 ≤ a ∧ a < 30 := ⟨h0, Int32.lt_of_lt_of_le w h17.2⟩
    have aT := cl_lt h0 w
    have hW1 : ∀ x : Nat, (a + 1).toNatClampNeg ≤ x → W 20 x = Y 20 x ∧ W 21 x = Y 21 x := fun x hx => hW x (by omega)
    refine xt_fitsNoMore (d := d + 1) hS (moY_b hm hb hi) (by rw [w17]; exact h17) (by rw [w10]; exact h10) hg.1 ha (by rw [w10]; exact hl a h0 w) (fun J1 c1 => ?_)
    have f1 := mF_C hF c1
    have g1 := th_C hg c1
    have e17' : J1 M 17 = Y 0 17 := (g1.1.2.2.1 0 17 (by unfold ps1; omega)).trans w17
    have e20 : J1 (M + 20) a.toNatClampNeg = Y 20 a.toNatClampNeg := (g1.1.2.2.1 20 _ (by unfold ps1; omega)).trans (hW _ (Nat.le_refl _)).1
    have e21 : J1 (M + 21) a.toNatClampNeg = Y 21 a.toNatClampNeg := (g1.1.2.2.1 21 _ (by unfold ps1; omega)).trans (hW _ (Nat.le_refl _)).2
    have k45 : ∀ j, J1 (M + 45) j = J (M + 45) j := fun j => c1.2 _ _ (by unfold sC; omega)
    have k46 : ∀ j, J1 (M + 46) j = J (M + 46) j := fun j => c1.2 _ _ (by unfold sC; omega)
    rw [s1] at hV
    unfold agS at hV
    have q1 : ∀ (x : Nat → Nat → Int32) (y : (Nat → Int32) × Nat), (x, y).1 = x ∧ (x, y).2 = y := fun _ _ => ⟨rfl, rfl⟩
    have q2 : ∀ (x : Nat → Int32) (y : Nat), (x, y).1 = x ∧ (x, y).2 = y := fun _ _ => ⟨rfl, rfl⟩
    rw [(q1 _ _).1, (q1 _ _).2, (q2 _ _).1, (q2 _ _).2] at hV
    by_cases ag : agB W a = true
    · rw [if_pos ag] at hV ⊢
      have pa : 0 ≤ Y 20 a.toNatClampNeg := by rw [← (hW _ (Nat.le_refl _)).1]; exact (of_decide_eq_true ag).1.1
      have n10 : ¬ (1 : Int32) = 0 := by decide
      have f2 := sF_wasShift (sF_wasBench f1 (k := a.toNatClampNeg) (v := Y 20 a.toNatClampNeg)) (k := a.toNatClampNeg) (v := Y 21 a.toNatClampNeg)
      have g2 := th_ui (k := 46) (j := a.toNatClampNeg) (v := Y 21 a.toNatClampNeg) (th_ui (k := 45) (j := a.toNatClampNeg) (v := Y 20 a.toNatClampNeg) g1 (sR_wasBench g1.1.1) (by omega) ⟨by unfold ps1; omega, by omega⟩ (by omega)) (sR_wasShift (sR_wasBench g1.1.1)) (by omega) ⟨by unfold ps1; omega, by omega⟩ (by omega)
      generalize eJ : a_ui (a_ui J1 (M + 45) a.toNatClampNeg (Y 20 a.toNatClampNeg)) (M + 46) a.toNatClampNeg (Y 21 a.toNatClampNeg) = J2 at f2 g2
      have e17'' : J2 M 17 = Y 0 17 := (g2.1.2.2.1 0 17 (by unfold ps1; omega)).trans w17
      have e20' : J2 (M + 20) a.toNatClampNeg = Y 20 a.toNatClampNeg := (g2.1.2.2.1 20 _ (by unfold ps1; omega)).trans (hW _ (Nat.le_refl _)).1
      have htake : a_does (d + 12) 186 [a_rf M, .int a] (n, t, K, L, J2, R) (fun r h' => a_at (d + 12) (a_xm a_m247) 49 [some (a_rf M), some (.int g), some (.int a), none, none, none] (r.toList ++ []) h' P) := by
        refine xh_takeFrom (d := d + 10) hS f2 (by omega) ha (fun J5 _ f3 y3 tk3 => ?_)
        have f3 := f3 (by rw [e17'']; exact w) (by rw [e20']; exact pa)
        have g3 := th_un g2 (by rw [w10]; exact h10) hi ha (by rw [w17]; exact w) (by rw [(hW _ (Nat.le_refl _)).1]; exact pa) y3 tk3
        have j45 : ∀ j, J5 (M + 45) j = J2 (M + 45) j := fun j => by
          rw [y3.2.2 45 j (by omega) (by unfold mk0; omega)]
          unfold unY
          rw [if_neg (by omega)]
          rfl
        have j46 : ∀ j, J5 (M + 46) j = J2 (M + 46) j := fun j => by
          rw [y3.2.2 46 j (by omega) (by unfold mk0; omega)]
          unfold unY
          rw [if_neg (by omega)]
          rfl
        have hset := fun j hj => bq_set (k := a.toNatClampNeg) (i := j) (by omega) hj g
        rw [← on_cl h0] at hset
        have hn := ih ha.2 J5 (unY W a) (g ||| ((1 : Int32) <<< (a &&& 31))) (inS W a m o) (m + 1) s2 s3 f3 g3 (sb_tr hb unY_b) (inP_un hi) (fun x hx h20 hun => by
          rw [j45, j46, ← eJ]
          by_cases e : x = a.toNatClampNeg
          · rw [ui_ap, if_neg (by omega), ui_ap, if_pos ⟨rfl, e⟩, ui_ap, if_pos ⟨rfl, e⟩, e]
            exact ⟨rfl, rfl⟩
          · rw [ui_ap, if_neg (by omega), ui_ap, if_neg (fun q => e q.2), ui_ap, if_neg (fun q => e q.2), ui_ap, if_neg (by omega), k45, k46]
            rw [un_o (Or.inr e)] at hun
            exact hwas x (by omega) h20 hun) (fun x hx => by
          rw [un_o (Or.inr (by omega)), un_o (Or.inr (by omega))]
          exact hW1 x hx) (fun j hj => by
          rw [hset j hj, Bool.or_eq_true, hbit j hj, s4]
          by_cases e : j = a.toNatClampNeg
          · rw [e, un_a (Or.inl rfl)]
            exact ⟨fun _ => ⟨by omega, pa, by decide⟩, fun _ => Or.inr (decide_eq_true rfl)⟩
          · rw [un_o (Or.inr e)]
            refine ⟨fun r => ?_, fun r => Or.inl ⟨by omega, r.2⟩⟩
            rcases r with r | r
            · exact ⟨by omega, r.2⟩
            · exact absurd (of_decide_eq_true r) e) hV
        ((try clear ih); (try clear hN); (try clear hV); (try clear hexit); (try clear hm); (try clear hF); (try clear hg); (try clear hb); (try clear hi); (try clear hwas); (try clear hW); (try clear hbit); (try clear f1); (try clear g1); (try clear f2); (try clear g2); (try clear f3); (try clear g3); (try clear y3); (try clear hW1); (try clear hset))
        simp only [q247_49, q247_50, q247_51, q247_52, q247_53, q247_54, q247_55, q247_58, as_nil, as_i, as_r, Nat.reduceAdd, Nat.reduceLeDiff, z_eq0, z_eq1, z_or, z_em, Classical.not_not, not_false_eq_true, not_true_eq_false, true_and, and_true, false_and, and_false, and_self, true_implies, false_implies, implies_true, Option.toList_some, Option.toList_none, List.cons_append, List.nil_append, Nat.add_eq_zero_iff, a_nl_i, a_nl_r, a_nl_n, true_or, or_true, eq_self, ok_4, ok_5, ok_6, ok_7, ok_9, ok_10, ok_20, ok_21, ok_24, ok_30, ok_48, ok_50, ok_60, ok_80, ok_120, ok_180, ok_192, ok_200, ok_900, ok_1000, ok_84000]
        exact hn
      ((try clear ih); (try clear hN); (try clear hV); (try clear hexit); (try clear hm); (try clear hF); (try clear hg); (try clear hb); (try clear hi); (try clear hwas); (try clear hW); (try clear hbit); (try clear f1); (try clear g1); (try clear f2); (try clear g2); (try clear hW1))
      simp only [q247_17, q247_20, q247_21, q247_24, q247_25, q247_26, q247_29, q247_30, q247_31, q247_32, q247_33, q247_36, q247_37, q247_38, q247_41, q247_42, q247_43, q247_44, q247_45, q247_46, m_0 hS, m_K hS, mR_wasBench hS, mK_wasBench hS, mL_wasBench hS, mR_atBench hS, mK_atBench hS, mL_atBench hS, mR_wasShift hS, mK_wasShift hS, mL_wasShift hS, mR_atShift hS, mK_atShift hS, mL_atShift hS, as_nil, as_i, as_r, Nat.reduceAdd, Nat.reduceLeDiff, z_eq0, z_eq1, z_or, z_em, Classical.not_not, not_false_eq_true, not_true_eq_false, true_and, and_true, false_and, and_false, and_self, true_implies, false_implies, implies_true, Option.toList_some, Option.toList_none, List.cons_append, List.nil_append, Nat.add_eq_zero_iff, a_nl_i, a_nl_r, a_nl_n, true_or, or_true, eq_self, ok_4, ok_5, ok_6, ok_7, ok_9, ok_10, ok_20, ok_21, ok_24, ok_30, ok_48, ok_50, ok_60, ok_80, ok_120, ok_180, ok_192, ok_200, ok_900, ok_1000, ok_84000, ui_ap, ne_MM, ne_M0, ne_0M, Nat.reduceEqDiff, reduceIte, if_true, if_false, n10, e20, e21, ha, eJ]
      try simp only [true_and, and_true, true_implies, false_implies, implies_true, not_true_eq_false, not_false_eq_true]
      first
        | exact htake
        | grind
    · rw [if_neg ag] at hV ⊢
      have hn := ih ha.2 J1 W g o m s2 s3 f1 g1 hb hi (fun x hx h20 hun => by
        rw [k45, k46]
        by_cases e : x = a.toNatClampNeg
        · exact absurd (by rw [e, (hW _ (Nat.le_refl _)).1, ← e]; exact h20) hun
        · exact hwas x (by omega) h20 hun) hW1 (fun j hj => by
        rw [hbit j hj, s4]
        refine ⟨fun r => ⟨by omega, r.2⟩, fun r => ⟨?_, r.2⟩⟩
        by_cases e : j = a.toNatClampNeg
        · exact absurd (by rw [e, (hW _ (Nat.le_refl _)).1, ← e]; exact r.2.1) r.2.2
        · omega) hV
      ((try clear ih); (try clear hN); (try clear hV); (try clear hexit); (try clear hm); (try clear hF); (try clear hg); (try clear hb); (try clear hi); (try clear hwas); (try clear hW); (try clear hbit); (try clear f1); (try clear g1); (try clear hW1))
      simp only [q247_17, q247_55, q247_58, as_nil, as_i, as_r, Nat.reduceAdd, Nat.reduceLeDiff, z_eq0, z_eq1, z_or, z_em, Classical.not_not, not_false_eq_true, not_true_eq_false, true_and, and_true, false_and, and_false, and_self, true_implies, false_implies, implies_true, Option.toList_some, Option.toList_none, List.cons_append, List.nil_append, Nat.add_eq_zero_iff, a_nl_i, a_nl_r, a_nl_n, true_or, or_true, eq_self, ok_4, ok_5, ok_6, ok_7, ok_9, ok_10, ok_20, ok_21, ok_24, ok_30, ok_48, ok_50, ok_60, ok_80, ok_120, ok_180, ok_192, ok_200, ok_900, ok_1000, ok_84000]
      try simp only [true_and, and_true, true_implies, false_implies, implies_true, not_true_eq_false, not_false_eq_true]
      first
        | exact hn
        | grind
  ((try clear ih); (try clear hN); (try clear hV); (try clear hm); (try clear hF); (try clear hg); (try clear hb); (try clear hi); (try clear hwas); (try clear hW); (try clear hbit))
  rw [q247_4]
  repeat' first
    | with_reducible apply And.intro
    | with_reducible assumption
    | with_reducible intro _
    | refine hexit ?_
    | refine hcall ?_
    | simp only [q247_5, q247_6, q247_9, q247_12, q247_13, q247_14, m_0 hS, m_K hS, as_nil, as_i, as_r, Nat.reduceAdd, Nat.reduceLeDiff, z_eq0, z_eq1, z_or, z_em, Classical.not_not, not_false_eq_true, not_true_eq_false, true_and, and_true, false_and, and_false, and_self, true_implies, false_implies, implies_true, Option.toList_some, Option.toList_none, List.cons_append, List.nil_append, Nat.add_eq_zero_iff, a_nl_i, a_nl_r, a_nl_n, true_or, or_true, eq_self, ok_4, ok_5, ok_6, ok_7, ok_9, ok_10, ok_20, ok_21, ok_24, ok_30, ok_48, ok_50, ok_60, ok_80, ok_120, ok_180, ok_192, ok_200, ok_900, ok_1000, ok_84000, e17]
  all_goals ((try clear hexit); (try clear hcall); (try clear hS); grind [ui_ap])
theorem xt_again9 (hS : m_S M K L R) {I1 : Nat → Nat → Int32} (hm : moY Y) (h17 : 0 ≤ Y 0 17 ∧ Y 0 17 ≤ 30) (h10 : ∀ j, 0 ≤ Y 10 j ∧ Y 10 j ≤ 4) (h6 : 0 ≤ Y 0 6 ∧ Y 0 6 ≤ 6) (hl : ∀ i : Int32, 0 ≤ i → i < Y 0 17 → 1 ≤ Y 10 i.toNatClampNeg) (hnow : 0 ≤ Y 0 0 ∧ Y 0 0 ≤ 1600) {c : Nat} (hc : c + 130 ≤ 84000) (hF : mF M c I1 I) (hg : th M I0 J3 W1 I Y) (e1 : W1 = Y) (hP : ∀ J J4, mF M (c + 120) I1 J → th M I0 J3 W1 J4 (agP Y).1 → gh M I0 J4 (agP Y).1 J (agY Y).1 → sbE Y (agY Y).1 → inP (agY Y).1 → P (some (.int (Int32.ofNat (agY Y).2))) (n, t, K, L, J, R)) : a_does (d + 13) 247 [a_rf M] (n, t, K, L, I, R) P := by
  have l30 := cl_le0 h17.1 h17.2
  rw [show (30 : Int32).toNatClampNeg = 30 from rfl] at l30
  have hf := now8s hnow
  have hor := agP_or h17
  have hl4 := xt_again_49 (d := d) (n := n) (t := t) (P := P) (I0 := I0) hS hm h17 h10 hl hc (fun J g a f1 g1 hb hi hwas hbit => by
    simp only [q247_61, q247_62, q247_63, m_0 hS, m_K hS, as_nil, as_i, as_r, Nat.reduceAdd, Nat.reduceLeDiff, z_eq0, z_eq1, z_or, z_em, Classical.not_not, not_false_eq_true, not_true_eq_false, true_and, and_true, false_and, and_false, and_self, true_implies, false_implies, implies_true, Option.toList_some, Option.toList_none, List.cons_append, List.nil_append, Nat.add_eq_zero_iff, a_nl_i, a_nl_r, a_nl_n, true_or, or_true, eq_self, ok_4, ok_5, ok_6, ok_7, ok_9, ok_10, ok_20, ok_21, ok_24, ok_30, ok_48, ok_50, ok_60, ok_80, ok_120, ok_180, ok_192, ok_200, ok_900, ok_1000, ok_84000]
    have w17 : (agP Y).1 0 17 = Y 0 17 := hb 0 17 (by unfold sb; omega)
    have eo : orF (agP Y).1 (btB g) ((agP Y).1 0 17).toNatClampNeg 0 (fun _ => 0, 0) = (agP Y).2 := by
      rw [w17, orF_b hb, hor]
      refine orF_q (n := Y 0 17) (fun x x0 x1 => ?_) _ 0 _ (by decide) h17.1 (by rw [show (0 : Int32).toNatClampNeg = 0 from rfl, Nat.zero_add])
      have hx := cl_lt x0 x1
      rw [bt_bq x0 (by omega)]
      have := hbit x.toNatClampNeg (by omega)
      unfold lqB
      cases q2 : bq g x.toNatClampNeg with
      | true =>
        exact (decide_eq_true (this.mp q2).2).symm
      | false =>
        refine (decide_eq_false (fun q => ?_)).symm
        rw [this.mpr ⟨hx, q⟩] at q2
        cases q2
    have h1 := ct_findOrder (d := d + 8) (g := g) hS f1 (P := fun r h' => r = none ∧ ∃ J, h' = (n, t, K, L, J, R) ∧ mF M c I1 J) (fun J q _ => ⟨rfl, J, rfl, q⟩)
    have h2 := xt_findOrder (d := d + 8) (g := g) hS (moY_b hm hb hi) (by rw [w17]; exact h17) g1.1 (P := fun r h' => r = none ∧ ∃ J, h' = (n, t, K, L, J, R) ∧ gs M I0 J (agP Y).1 ∧ J M 64 = Int32.ofNat (agP Y).2.2 ∧ (agP Y).2.2 ≤ 30 ∧ (∀ j, j < (agP Y).2.2 → J (M + 40) j = (agP Y).2.1 j)) (fun J q1 q2 q3 q4 => by
      rw [eo] at q2 q3 q4
      exact ⟨rfl, J, rfl, q1, q2, q3, fun j hj => (q4 j hj).1⟩)
    have h3 := cf_findOrder (d := d + 8) (g := g) hS f1.1.1 (P := fun r h' => ∃ J2, h' = (n, t, K, L, J2, R) ∧ foP M J J2) (fun J2 q => ⟨J2, rfl, q⟩)
    refine (does_and (does_and h1 h2) h3).weaken (fun r h' q => ?_)
    obtain ⟨⟨⟨e1', J7, e2, f2⟩, ⟨-, J2, e3, g2, o1, o2, o3⟩⟩, J6, e4, fo⟩ := q
    subst e1'
    subst e2
    cases e3
    cases e4
    have g1' : th M I0 J3 W1 J7 (agP Y).1 := ⟨g2, tkQ_fr g1.2 (fun x j q => fo.2 _ _ (by unfold hC at q; omega) (by unfold hC at q; omega))⟩
    have g2' : gh M I0 J7 (agP Y).1 J7 (agP Y).1 := ⟨g2, g1'.2.1, rfl, gv_0 (by rw [g1'.2.2.1]; exact g1'.2.2.2.1)⟩
    have hrw : rwP (lqB Y (agP Y).1) (Y 0 17) (agP Y).2 := by
      rw [hor]
      exact rw_or _ 0 _ (by decide) h17.1 (by rw [show (0 : Int32).toNatClampNeg = 0 from rfl, Nat.zero_add]) rw_0
    have k45 : ∀ j, J7 (M + 45) j = J (M + 45) j := fun j => fo.2 _ _ (by omega) (by omega)
    have k46 : ∀ j, J7 (M + 46) j = J (M + 46) j := fun j => fo.2 _ _ (by omega) (by omega)
    have e00 : Int32.ofNat 0 = 0 := rfl
    have hn := fun u v => xt_again_709 (d := d) (P := P) (I0 := I0) (g := g) hS hm h17 h10 h6 hl hc hf rfl (o := (agP Y).2.1) o2 (fun j hj => ⟨(hrw.1 j hj).1, (of_decide_eq_true (hrw.1 j hj).2).1⟩) hrw.2 (V := agY Y) (fun J q1 q2 q3 q4 => hP J J7 q1 g1' q2 q3 q4) (agP Y).2.2 0 J7 (agP Y).1 0 u v (by omega) (mF_le f2 (by omega)) g2' hb hi o1 o3 (fun j hj => by
      rw [k45, k46]
      have q := of_decide_eq_true (hrw.1 j hj).2
      exact hwas _ (cl_lt (hrw.1 j hj).1.1 (hrw.1 j hj).1.2) q.1 q.2) (fun j _ hj => (of_decide_eq_true (hrw.1 j hj).2).2) (Nat.le_refl _) rfl
    rw [e00] at hn
    ((try clear hP); (try clear hm); (try clear hg); (try clear g1); (try clear g2); (try clear g1'); (try clear g2'); (try clear hl); (try clear hF); (try clear f1); (try clear f2); (try clear hwas); (try clear hbit); (try clear hrw); (try clear fo))
    simp only [q247_66, q247_67, q247_68, q247_69, as_nil, as_i, as_r, Nat.reduceAdd, Nat.reduceLeDiff, z_eq0, z_eq1, z_or, z_em, Classical.not_not, not_false_eq_true, not_true_eq_false, true_and, and_true, false_and, and_false, and_self, true_implies, false_implies, implies_true, Option.toList_some, Option.toList_none, List.cons_append, List.nil_append, Nat.add_eq_zero_iff, a_nl_i, a_nl_r, a_nl_n, true_or, or_true, eq_self, ok_4, ok_5, ok_6, ok_7, ok_9, ok_10, ok_20, ok_21, ok_24, ok_30, ok_48, ok_50, ok_60, ok_80, ok_120, ok_180, ok_192, ok_200, ok_900, ok_1000, ok_84000]
    exact hn _ _) 0 (by decide) I Y 0 (fun _ => 0) 0 (by decide) h17.1 hF hg (fun _ _ _ => rfl) hm.2.2.2.1 (fun x hx => absurd hx (Nat.not_lt_zero x)) (fun _ _ => ⟨rfl, rfl⟩) (fun j hj => by
    rw [bq_0, show (0 : Int32).toNatClampNeg = 0 from rfl]
    exact ⟨fun q => absurd q Bool.false_ne_true, fun q => absurd q.1 (Nat.not_lt_zero j)⟩) (by rw [lp_0]; rfl)
  ((try clear hP); (try clear hm); (try clear hg); (try clear hl); (try clear hF))
  rw [a_enter1 (M := a_m247) rfl (a_cat_rf a_cat_nil) (show 1 ≤ 6 by decide)]
  show a_at _ (a_xm a_m247) 0 [some (a_rf M), none, none, none, none, none] [] _ _
  simp only [q247_0, q247_1, q247_2, q247_3, as_nil, as_i, as_r, Nat.reduceAdd, Nat.reduceLeDiff, z_eq0, z_eq1, z_or, z_em, Classical.not_not, not_false_eq_true, not_true_eq_false, true_and, and_true, false_and, and_false, and_self, true_implies, false_implies, implies_true, Option.toList_some, Option.toList_none, List.cons_append, List.nil_append, Nat.add_eq_zero_iff, a_nl_i, a_nl_r, a_nl_n, true_or, or_true, eq_self, ok_4, ok_5, ok_6, ok_7, ok_9, ok_10, ok_20, ok_21, ok_24, ok_30, ok_48, ok_50, ok_60, ok_80, ok_120, ok_180, ok_192, ok_200, ok_900, ok_1000, ok_84000]
  exact hl4
end HB1
end
section
/-! what was had: the reference's calls -/
/-- a call: before now nothing changes, now and later who stands, the last change is now where one was taken back (up to the words W1) or given (behind them) -/
def hxF (nb n0 : Int32) (Y W1 Z : Nat → Nat → Int32) (hd : Int32 → Int32 → Int32 → Int32) (ld : Int32 → Int32 → Int32) (hd' : Int32 → Int32 → Int32 → Int32) (ld' : Int32 → Int32 → Int32) : Prop := hsN nb n0 hd' Z ∧ hsT nb n0 hd ld hd' ld' (fun c t => tkT Y W1 c t ∨ gvT W1 Z c t) ∧ W1 0 17 = Y 0 17 ∧ Z 0 17 = W1 0 17
def hxQ (M : Nat) (I J Y W1 Z : Nat → Nat → Int32) : Prop := eoM M J ∧ J M 0 = I M 0 ∧ hxF 6 (I M 0) Y W1 Z (hdR M I) (ldR M I) (hdR M J) (ldR M J)
section HC0
variable {Y W Z W1 : Nat → Nat → Int32} {nb n0 a b s : Int32} {hd hd1 hd2 : Int32 → Int32 → Int32 → Int32} {ld ld1 ld2 : Int32 → Int32 → Int32}
theorem hx_tg (h1 : tkH nb n0 Y W1 hd ld hd1 ld1) (h2 : gvH nb n0 W1 Z hd1 ld1 hd2 ld2) : hxF nb n0 Y W1 Z hd ld hd2 ld2 := by
  refine ⟨h2.1, fun c t hc ht => ?_, h1.2.2.1.1, h2.2.2.1.1⟩
  obtain ⟨a1, a2, a3⟩ := h1.2.1 c t hc ht
  obtain ⟨b1, b2, b3⟩ := h2.2.1 c t hc ht
  refine ⟨fun k hk => (b1 k hk).trans (a1 k hk), fun q => ?_, fun q => ?_⟩
  · by_cases g : gvT W1 Z c t
    · exact b2 g
    · rw [b3 g]
      exact a2 (q.resolve_right g)
  · rw [b3 (fun g => q (Or.inr g))]
    exact a3 (fun g => q (Or.inl g))
theorem hx_0 (h : hsN nb n0 hd Y) : hxF nb n0 Y Y Y hd ld hd ld := hx_tg (tk_00 h) (gv_0 h)
theorem hx_tk (h : tkH nb n0 Y Z hd ld hd1 ld1) : hxF nb n0 Y Z Z hd ld hd1 ld1 := hx_tg h (gv_0 h.1)
theorem hx_gv (hN : hsN nb n0 hd Y) (h : gvH nb n0 Y Z hd ld hd1 ld1) : hxF nb n0 Y Y Z hd ld hd1 ld1 := hx_tg (tk_00 hN) h
/-- words alike where places hang, at the start and at the end -/
theorem hx_w {Y2 : Nat → Nat → Int32} (h : hxF nb n0 Y W1 Z hd ld hd1 ld1) (e17 : Y2 0 17 = Y 0 17) (e : ∀ k, k = 20 ∨ k = 21 ∨ k = 10 → Y2 k = Y k) : hxF nb n0 Y2 W1 Z hd ld hd1 ld1 := by
  refine ⟨h.1, fun c t hc ht => ?_, h.2.2.1.trans e17.symm, h.2.2.2⟩
  have eT : tkT Y2 W1 c t = tkT Y W1 c t := by
    unfold tkT
    rw [e17]
    have ho : ∀ x c t, hoY Y2 x c t = hoY Y x c t := fun x c t => ho_e (fun k hk => by rw [e k hk])
    simp only [ho]
  have := h.2.1 c t hc ht
  simp only [eT]
  exact this
end HC0
section HC1
variable {d n t M : Nat} {K L : Nat → Nat} {I I0 J J0 J1 J2 : Nat → Nat → Int32} {R : Nat → Nat → Nat} {P : Option Value → AH → Prop} {f : Nat → Int32} {e : Int32}
variable {Y Z W J3 J4 W1 : Nat → Nat → Int32}
theorem hq_0 (ho : eoM M I) (hN : hsN 6 (I M 0) (hdR M I) Y) : hxQ M I I Y Y Y := ⟨ho, rfl, hx_0 hN⟩
theorem hq_fr (h : hxQ M I J Y W1 Z) (e : ∀ x j, hC M x j → J2 x j = J x j) : hxQ M I J2 Y W1 Z := by
  obtain ⟨e1, e2, e3, e4⟩ := hR_eq e
  refine ⟨e4 h.1, e3.trans h.2.1, ?_⟩
  rw [e1, e2]
  exact h.2.2
theorem hq_b {Y2 : Nat → Nat → Int32} (h : hxQ M I J Y W1 Z) (e : ∀ x j, hC M x j → I x j = J2 x j) (e17 : Y2 0 17 = Y 0 17) (er : ∀ k, k = 20 ∨ k = 21 ∨ k = 10 → Y2 k = Y k) : hxQ M J2 J Y2 W1 Z := by
  obtain ⟨e1, e2, e3, e4⟩ := hR_eq e
  obtain ⟨h1, h2, h3⟩ := h
  refine ⟨h1, h2.trans e3, ?_⟩
  rw [e3, e1, e2] at h3
  exact hx_w h3 e17 er
theorem hq_ui (h : hxQ M I J Y W1 Z) {k j : Nat} {v : Int32} (hk : ¬ k = 24 ∧ ¬ k = 25 ∧ ¬ k = 26 ∧ ¬ k = 0) : hxQ M I (a_ui J (M + k) j v) Y W1 Z := hq_fr h (fun x i q => by rw [ui_ap, if_neg (fun e => by unfold hC at q; omega)])
theorem hq_C (h : hxQ M I J Y W1 Z) (hC2 : mC M J J2) : hxQ M I J2 Y W1 Z := hq_fr h (fun x j q => hC2.2 _ _ (by unfold hC at q; unfold sC; omega))
theorem hq_t (h : th M I0 I Y J Z) : hxQ M I J Y Z Z := ⟨h.2.1, h.2.2.1, hx_tk h.2.2.2⟩
theorem hq_g (hN : hsN 6 (I M 0) (hdR M I) Y) (h : gh M I0 I Y J Z) : hxQ M I J Y Y Z := ⟨h.2.1, h.2.2.1, hx_gv hN h.2.2.2⟩
theorem hq_tg (h : th M I0 I Y J W1) (h2 : gh M I0 J W1 J2 Z) : hxQ M I J2 Y W1 Z := ⟨h2.2.1, h2.2.2.1.trans h.2.2.1, hx_tg h.2.2.2 (by have := h2.2.2.2; rw [h.2.2.1] at this; exact this)⟩
theorem th_0 (hg : gs M I0 I Y) (ho : eoM M I) (hN : hsN 6 (I M 0) (hdR M I) Y) : th M I0 I Y I Y := ⟨hg, ho, rfl, tk_00 hN⟩
theorem gh_0 (hg : gs M I0 I Y) (ho : eoM M I) (hN : hsN 6 (I M 0) (hdR M I) Y) : gh M I0 I Y I Y := ⟨hg, ho, rfl, gv_0 hN⟩
theorem xp_take9 (hS : m_S M K L R) {I1 : Nat → Nat → Int32} (hm : okY Y) {c : Nat} (hc : c + 130 ≤ 84000) (hF : mF M c I1 I) (hg : gs M I0 I Y) (ho : eoM M I) (hN : hsN 6 (I M 0) (hdR M I) Y) {a : Int32} (hP : ∀ J, mF M (c + 120) I1 J → gs M I0 J (tkY Y a).2 → hxQ M I J Y (tkY Y a).2 (tkY Y a).2 → P (some (.int (tkY Y a).1)) (n, t, K, L, J, R)) : a_does (d + 13) 233 [a_rf M, .int a] (n, t, K, L, I, R) P := by
  have hy := hm.1
  have h17 := hy.2.2.2.2.1
  have h10 := hy.2.1
  have h6 := hy.2.2.2.2.2.1
  have hl := hy.2.2.1
  have hrf : ∀ k : Nat, mF M (c + 120) I1 (a_ui I (M + 23) k (I (M + 23) k + 1)) ∧ gs M I0 (a_ui I (M + 23) k (I (M + 23) k + 1)) Y := fun k => ⟨mF_le (sF_refused hF) (by omega), gs_ui hg (sR_refused hg.1) (by omega) ⟨by unfold ps1; omega, by omega⟩⟩
  have hrx : ∀ k : Nat, hxQ M I (a_ui I (M + 23) k (I (M + 23) k + 1)) Y Y Y := fun k => hq_ui (hq_0 ho hN) (by omega)
  have e17 : I M 17 = Y 0 17 := hg.2.2.1 0 17 (by unfold ps1; omega)
  have e6 : I M 6 = Y 0 6 := hg.2.2.1 0 6 (by unfold ps1; omega)
  have e0 : I M 0 = Y 0 0 := hg.2.2.1 0 0 (by unfold ps1; omega)
  have m17 : ∀ x : Int32, (x ≤ Y 0 17 - 1) = (x < Y 0 17) := fun x => le_m1 h17
  have m6 : ∀ x : Int32, (x ≤ Y 0 6 - 1) = (x < Y 0 6) := fun x => le_m1 ⟨h6.1, Int32.le_trans h6.2 (by decide)⟩
  have m199 : ∀ x : Int32, (x ≤ 199) = (x < 200) := fun x => propext ⟨fun q => Int32.lt_of_le_of_lt q (by decide), fun q => by ((try clear hP); (try clear hrx); (try clear hrf); (try clear ho); (try clear hN); (try clear hm); (try clear hg); (try clear hF)); grind⟩
  have e20 : I (M + 20) a.toNatClampNeg = Y 20 a.toNatClampNeg := hg.2.2.1 20 _ (by unfold ps1; omega)
  have e21 : I (M + 21) a.toNatClampNeg = Y 21 a.toNatClampNeg := hg.2.2.1 21 _ (by unfold ps1; omega)
  unfold tkY at hP
  by_cases c1 : 0 ≤ a ∧ a < Y 0 17
  · have ha : 0 ≤ a ∧ a < 30 := ⟨c1.1, Int32.lt_of_lt_of_le c1.2 h17.2⟩
    rw [if_neg (fun q => q c1)] at hP
    by_cases c2 : 0 ≤ Y 20 a.toNatClampNeg ∧ ¬ Y 21 a.toNatClampNeg * 8 < Y 0 0
    · rw [if_neg (fun q => q c2)] at hP
      have hcl : a_does (d + 12) 186 [a_rf M, .int a] (n, t, K, L, I, R) (fun r h' => a_at (d + 12) (a_xm a_m233) 47 [some (a_rf M), some (.int a)] (r.toList ++ []) h' P) := by
        refine xh_takeFrom (d := d + 10) hS hF (by omega) ha (fun J f1 _ y1 tk1 => ?_)
        have ht := th_un (th_0 hg ho hN) h10 hm.2.1.2.2.2.1 ha c1.2 c2.1 y1 tk1
        have hp := hP J (mF_le f1 (by omega)) ht.1 (hq_t ht)
        ((try clear hP); (try clear hrx); (try clear hrf); (try clear ho); (try clear hN); (try clear hm); (try clear hy); (try clear hl); (try clear hg); (try clear hF); (try clear f1); (try clear y1))
        simp only [q233_47, q233_48, as_nil, as_i, as_r, Nat.reduceAdd, Nat.reduceLeDiff, z_eq0, z_eq1, z_or, z_em, Classical.not_not, not_false_eq_true, not_true_eq_false, true_and, and_true, false_and, and_false, and_self, true_implies, false_implies, implies_true, Option.toList_some, Option.toList_none, List.cons_append, List.nil_append, Nat.add_eq_zero_iff, a_nl_i, a_nl_r, a_nl_n, true_or, or_true, eq_self, ok_4, ok_5, ok_6, ok_7, ok_9, ok_10, ok_20, ok_21, ok_24, ok_30, ok_48, ok_50, ok_60, ok_80, ok_120, ok_180, ok_192, ok_200, ok_900, ok_1000, ok_84000]
        exact hp
      rw [Int32.mul_comm] at c2
      ((try clear hP); (try clear hrx); (try clear hrf); (try clear ho); (try clear hN); (try clear hm); (try clear hy); (try clear hl); (try clear hg); (try clear hF))
      rw [a_enter1 (M := a_m233) rfl (a_cat_rf (a_cat_int a_cat_nil)) (show 2 ≤ 2 by decide)]
      show a_at _ (a_xm a_m233) 0 [some (a_rf M), some (.int a)] [] _ _
      simp only [q233_0, q233_1, q233_2, q233_5, q233_8, q233_9, q233_10, q233_13, q233_14, q233_15, q233_16, q233_19, q233_22, q233_23, q233_24, q233_27, q233_28, q233_29, q233_32, q233_35, q233_36, q233_38, q233_41, q233_42, q233_43, q233_44, m_0 hS, m_K hS, mR_atShift hS, mK_atShift hS, mL_atShift hS, sp_isAsk hS, sp_refuse_1 hS, sp_refuse_2 hS, sp_refuse_3 hS, sp_refuse_4 hS, sp_refuse_5 hS, sp_refuse_6 hS, sp_hasPlace hS, sp_isBegun hS, as_nil, as_i, as_r, Nat.reduceAdd, Nat.reduceLeDiff, z_eq0, z_eq1, z_or, z_em, Classical.not_not, not_false_eq_true, not_true_eq_false, true_and, and_true, false_and, and_false, and_self, true_implies, false_implies, implies_true, Option.toList_some, Option.toList_none, List.cons_append, List.nil_append, Nat.add_eq_zero_iff, a_nl_i, a_nl_r, a_nl_n, true_or, or_true, eq_self, ok_4, ok_5, ok_6, ok_7, ok_9, ok_10, ok_20, ok_21, ok_24, ok_30, ok_48, ok_50, ok_60, ok_80, ok_120, ok_180, ok_192, ok_200, ok_900, ok_1000, ok_84000, e17, m17, c1, ha, e20, e21, e0, c2]
      try simp only [true_and, and_true, true_implies, false_implies, implies_true, not_true_eq_false, not_false_eq_true]
      first
        | exact hcl
        | grind
    · rw [if_pos c2] at hP
      have hr := hP _ (hrf 3).1 (hrf 3).2 (hrx 3)
      rw [Int32.mul_comm] at c2
      ((try clear hP); (try clear hrx); (try clear hrf); (try clear ho); (try clear hN); (try clear hm); (try clear hy); (try clear hl); (try clear hg); (try clear hF))
      rw [a_enter1 (M := a_m233) rfl (a_cat_rf (a_cat_int a_cat_nil)) (show 2 ≤ 2 by decide)]
      show a_at _ (a_xm a_m233) 0 [some (a_rf M), some (.int a)] [] _ _
      simp only [q233_0, q233_1, q233_2, q233_5, q233_8, q233_9, q233_10, q233_13, q233_14, q233_15, q233_16, q233_19, q233_22, q233_23, q233_24, q233_27, q233_28, q233_29, q233_32, q233_35, q233_36, q233_38, q233_41, m_0 hS, m_K hS, mR_atShift hS, mK_atShift hS, mL_atShift hS, sp_isAsk hS, sp_refuse_1 hS, sp_refuse_2 hS, sp_refuse_3 hS, sp_refuse_4 hS, sp_refuse_5 hS, sp_refuse_6 hS, sp_hasPlace hS, sp_isBegun hS, as_nil, as_i, as_r, Nat.reduceAdd, Nat.reduceLeDiff, z_eq0, z_eq1, z_or, z_em, Classical.not_not, not_false_eq_true, not_true_eq_false, true_and, and_true, false_and, and_false, and_self, true_implies, false_implies, implies_true, Option.toList_some, Option.toList_none, List.cons_append, List.nil_append, Nat.add_eq_zero_iff, a_nl_i, a_nl_r, a_nl_n, true_or, or_true, eq_self, ok_4, ok_5, ok_6, ok_7, ok_9, ok_10, ok_20, ok_21, ok_24, ok_30, ok_48, ok_50, ok_60, ok_80, ok_120, ok_180, ok_192, ok_200, ok_900, ok_1000, ok_84000, e17, m17, c1, ha, e20, e21, e0]
      try simp only [true_and, and_true, true_implies, false_implies, implies_true, not_true_eq_false, not_false_eq_true]
      first
        | exact hr
        | grind
  · rw [if_pos c1] at hP
    have hr := hP _ (hrf 1).1 (hrf 1).2 (hrx 1)
    ((try clear hP); (try clear hrx); (try clear hrf); (try clear ho); (try clear hN); (try clear hm); (try clear hy); (try clear hl); (try clear hg); (try clear hF))
    rw [a_enter1 (M := a_m233) rfl (a_cat_rf (a_cat_int a_cat_nil)) (show 2 ≤ 2 by decide)]
    show a_at _ (a_xm a_m233) 0 [some (a_rf M), some (.int a)] [] _ _
    simp only [q233_0, q233_1, q233_2, q233_5, q233_8, q233_9, q233_10, q233_13, m_0 hS, m_K hS, sp_isAsk hS, sp_refuse_1 hS, sp_refuse_2 hS, sp_refuse_3 hS, sp_refuse_4 hS, sp_refuse_5 hS, sp_refuse_6 hS, as_nil, as_i, as_r, Nat.reduceAdd, Nat.reduceLeDiff, z_eq0, z_eq1, z_or, z_em, Classical.not_not, not_false_eq_true, not_true_eq_false, true_and, and_true, false_and, and_false, and_self, true_implies, false_implies, implies_true, Option.toList_some, Option.toList_none, List.cons_append, List.nil_append, Nat.add_eq_zero_iff, a_nl_i, a_nl_r, a_nl_n, true_or, or_true, eq_self, ok_4, ok_5, ok_6, ok_7, ok_9, ok_10, ok_20, ok_21, ok_24, ok_30, ok_48, ok_50, ok_60, ok_80, ok_120, ok_180, ok_192, ok_200, ok_900, ok_1000, ok_84000, e17, m17, c1]
    try simp only [true_and, and_true, true_implies, false_implies, implies_true, not_true_eq_false, not_false_eq_true]
    first
      | exact hr
      | grind
theorem xp_plan9 (hS : m_S M K L R) {I1 : Nat → Nat → Int32} (hm : okY Y) {c : Nat} (hc : c + 130 ≤ 84000) (hF : mF M c I1 I) (hg : gs M I0 I Y) (ho : eoM M I) (hN : hsN 6 (I M 0) (hdR M I) Y) {a b : Int32} (hP : ∀ J, mF M (c + 120) I1 J → gs M I0 J (plO Y a b).2 → hxQ M I J Y Y (plO Y a b).2 → P (some (.int (plO Y a b).1)) (n, t, K, L, J, R)) : a_does (d + 14) 234 [a_rf M, .int a, .int b] (n, t, K, L, I, R) P := by
  have hy := hm.1
  have h17 := hy.2.2.2.2.1
  have h10 := hy.2.1
  have h6 := hy.2.2.2.2.2.1
  have hl := hy.2.2.1
  have hrf : ∀ k : Nat, mF M (c + 120) I1 (a_ui I (M + 23) k (I (M + 23) k + 1)) ∧ gs M I0 (a_ui I (M + 23) k (I (M + 23) k + 1)) Y := fun k => ⟨mF_le (sF_refused hF) (by omega), gs_ui hg (sR_refused hg.1) (by omega) ⟨by unfold ps1; omega, by omega⟩⟩
  have hrx : ∀ k : Nat, hxQ M I (a_ui I (M + 23) k (I (M + 23) k + 1)) Y Y Y := fun k => hq_ui (hq_0 ho hN) (by omega)
  have e17 : I M 17 = Y 0 17 := hg.2.2.1 0 17 (by unfold ps1; omega)
  have e6 : I M 6 = Y 0 6 := hg.2.2.1 0 6 (by unfold ps1; omega)
  have e0 : I M 0 = Y 0 0 := hg.2.2.1 0 0 (by unfold ps1; omega)
  have m17 : ∀ x : Int32, (x ≤ Y 0 17 - 1) = (x < Y 0 17) := fun x => le_m1 h17
  have m6 : ∀ x : Int32, (x ≤ Y 0 6 - 1) = (x < Y 0 6) := fun x => le_m1 ⟨h6.1, Int32.le_trans h6.2 (by decide)⟩
  have m199 : ∀ x : Int32, (x ≤ 199) = (x < 200) := fun x => propext ⟨fun q => Int32.lt_of_le_of_lt q (by decide), fun q => by ((try clear hP); (try clear hrx); (try clear hrf); (try clear ho); (try clear hN); (try clear hm); (try clear hg); (try clear hF)); grind⟩
  unfold plO at hP
  by_cases c1 : (0 ≤ a ∧ a < 200) ∧ (0 ≤ b ∧ b < 200) ∧ a ≤ b
  · rw [if_neg (fun q => q c1)] at hP
    have hcl := xt_plan149 (d := d) (P := P) (f := a) (e := b) hS hm.2.1 h17 h10 h6 hl hc hF (gh_0 hg ho hN) ⟨c1.1.1, by rw [m199]; exact c1.1.2⟩ (by rw [m199]; exact c1.2.1.2) (fun J q1 q2 _ _ _ _ _ => hP J q1 q2.1 (hq_g hN q2))
    ((try clear hP); (try clear hrx); (try clear hrf); (try clear ho); (try clear hN); (try clear hm); (try clear hy); (try clear hl); (try clear hg); (try clear hF))
    rw [a_enter1 (M := a_m234) rfl (a_cat_rf (a_cat_int (a_cat_int a_cat_nil))) (show 3 ≤ 6 by decide)]
    show a_at _ (a_xm a_m234) 0 [some (a_rf M), some (.int a), some (.int b), none, none, none] [] _ _
    simp only [q234_0, q234_1, q234_2, q234_5, sp_isSpan, as_nil, as_i, as_r, Nat.reduceAdd, Nat.reduceLeDiff, z_eq0, z_eq1, z_or, z_em, Classical.not_not, not_false_eq_true, not_true_eq_false, true_and, and_true, false_and, and_false, and_self, true_implies, false_implies, implies_true, Option.toList_some, Option.toList_none, List.cons_append, List.nil_append, Nat.add_eq_zero_iff, a_nl_i, a_nl_r, a_nl_n, true_or, or_true, eq_self, ok_4, ok_5, ok_6, ok_7, ok_9, ok_10, ok_20, ok_21, ok_24, ok_30, ok_48, ok_50, ok_60, ok_80, ok_120, ok_180, ok_192, ok_200, ok_900, ok_1000, ok_84000, m199, c1]
    try simp only [true_and, and_true, true_implies, false_implies, implies_true, not_true_eq_false, not_false_eq_true]
    first
      | exact hcl
      | grind
  · rw [if_pos c1] at hP
    have hr := hP _ (hrf 1).1 (hrf 1).2 (hrx 1)
    ((try clear hP); (try clear hrx); (try clear hrf); (try clear ho); (try clear hN); (try clear hm); (try clear hy); (try clear hl); (try clear hg); (try clear hF))
    rw [a_enter1 (M := a_m234) rfl (a_cat_rf (a_cat_int (a_cat_int a_cat_nil))) (show 3 ≤ 6 by decide)]
    show a_at _ (a_xm a_m234) 0 [some (a_rf M), some (.int a), some (.int b), none, none, none] [] _ _
    simp only [q234_0, q234_1, q234_2, q234_5, q234_8, q234_9, q234_10, q234_13, m_0 hS, m_K hS, sp_isSpan, sp_refuse_1 hS, sp_refuse_2 hS, sp_refuse_3 hS, sp_refuse_4 hS, sp_refuse_5 hS, sp_refuse_6 hS, as_nil, as_i, as_r, Nat.reduceAdd, Nat.reduceLeDiff, z_eq0, z_eq1, z_or, z_em, Classical.not_not, not_false_eq_true, not_true_eq_false, true_and, and_true, false_and, and_false, and_self, true_implies, false_implies, implies_true, Option.toList_some, Option.toList_none, List.cons_append, List.nil_append, Nat.add_eq_zero_iff, a_nl_i, a_nl_r, a_nl_n, true_or, or_true, eq_self, ok_4, ok_5, ok_6, ok_7, ok_9, ok_10, ok_20, ok_21, ok_24, ok_30, ok_48, ok_50, ok_60, ok_80, ok_120, ok_180, ok_192, ok_200, ok_900, ok_1000, ok_84000, m199, c1]
    try simp only [true_and, and_true, true_implies, false_implies, implies_true, not_true_eq_false, not_false_eq_true]
    first
      | exact hr
      | grind
theorem xp_give9 (hS : m_S M K L R) {I1 : Nat → Nat → Int32} (hm : okY Y) {c : Nat} (hc : c + 130 ≤ 84000) (hF : mF M c I1 I) (hg : gs M I0 I Y) (ho : eoM M I) (hN : hsN 6 (I M 0) (hdR M I) Y) {a b s : Int32} (hP : ∀ J, mF M (c + 120) I1 J → gs M I0 J (gvY Y a b s).2 → hxQ M I J Y Y (gvY Y a b s).2 → P (some (.int (gvY Y a b s).1)) (n, t, K, L, J, R)) : a_does (d + 13) 229 [a_rf M, .int a, .int b, .int s] (n, t, K, L, I, R) P := by
  have hy := hm.1
  have h17 := hy.2.2.2.2.1
  have h10 := hy.2.1
  have h6 := hy.2.2.2.2.2.1
  have hl := hy.2.2.1
  have hrf : ∀ k : Nat, mF M (c + 120) I1 (a_ui I (M + 23) k (I (M + 23) k + 1)) ∧ gs M I0 (a_ui I (M + 23) k (I (M + 23) k + 1)) Y := fun k => ⟨mF_le (sF_refused hF) (by omega), gs_ui hg (sR_refused hg.1) (by omega) ⟨by unfold ps1; omega, by omega⟩⟩
  have hrx : ∀ k : Nat, hxQ M I (a_ui I (M + 23) k (I (M + 23) k + 1)) Y Y Y := fun k => hq_ui (hq_0 ho hN) (by omega)
  have e17 : I M 17 = Y 0 17 := hg.2.2.1 0 17 (by unfold ps1; omega)
  have e6 : I M 6 = Y 0 6 := hg.2.2.1 0 6 (by unfold ps1; omega)
  have e0 : I M 0 = Y 0 0 := hg.2.2.1 0 0 (by unfold ps1; omega)
  have m17 : ∀ x : Int32, (x ≤ Y 0 17 - 1) = (x < Y 0 17) := fun x => le_m1 h17
  have m6 : ∀ x : Int32, (x ≤ Y 0 6 - 1) = (x < Y 0 6) := fun x => le_m1 ⟨h6.1, Int32.le_trans h6.2 (by decide)⟩
  have m199 : ∀ x : Int32, (x ≤ 199) = (x < 200) := fun x => propext ⟨fun q => Int32.lt_of_le_of_lt q (by decide), fun q => by ((try clear hP); (try clear hrx); (try clear hrf); (try clear ho); (try clear hN); (try clear hm); (try clear hg); (try clear hF)); grind⟩
  have e20 : I (M + 20) a.toNatClampNeg = Y 20 a.toNatClampNeg := hg.2.2.1 20 _ (by unfold ps1; omega)
  have e18 : I (M + 18) a.toNatClampNeg = Y 18 a.toNatClampNeg := hg.2.2.1 18 _ (by unfold ps1; omega)
  unfold gvY at hP
  by_cases c1 : (0 ≤ a ∧ a < Y 0 17) ∧ (0 ≤ b ∧ b < Y 0 6) ∧ (0 ≤ s ∧ s < 200)
  · have ha : 0 ≤ a ∧ a < 30 := ⟨c1.1.1, Int32.lt_of_lt_of_le c1.1.2 h17.2⟩
    have hb : 0 ≤ b ∧ b ≤ 5 := ⟨c1.2.1.1, by ((try clear hP); (try clear hrx); (try clear hrf); (try clear ho); (try clear hN); (try clear hm); (try clear hy); (try clear hg); (try clear hF)); grind⟩
    have hs : 0 ≤ s ∧ s ≤ 199 := ⟨c1.2.2.1, by rw [m199]; exact c1.2.2.2⟩
    rw [if_neg (fun q => q c1)] at hP
    by_cases c4 : Y 18 a.toNatClampNeg = 0
    · by_cases c5 : 0 ≤ Y 20 a.toNatClampNeg
      · rw [if_pos (Or.inr (Or.inl c5))] at hP
        have hr := hP _ (hrf 3).1 (hrf 3).2 (hrx 3)
        ((try clear hP); (try clear hrx); (try clear hrf); (try clear ho); (try clear hN); (try clear hm); (try clear hy); (try clear hl); (try clear hg); (try clear hF))
        rw [a_enter1 (M := a_m229) rfl (a_cat_rf (a_cat_int (a_cat_int (a_cat_int a_cat_nil)))) (show 4 ≤ 4 by decide)]
        show a_at _ (a_xm a_m229) 0 [some (a_rf M), some (.int a), some (.int b), some (.int s)] [] _ _
        simp only [q229_0, q229_1, q229_2, q229_5, q229_8, q229_9, q229_10, q229_13, q229_16, q229_17, q229_20, q229_23, q229_24, q229_25, q229_28, q229_29, q229_30, q229_33, q229_34, q229_35, q229_38, q229_39, q229_40, q229_43, q229_46, q229_47, q229_48, q229_49, q229_50, q229_53, q229_56, q229_57, q229_59, q229_62, m_0 hS, m_K hS, mR_isGone hS, mK_isGone hS, mL_isGone hS, sp_isAsk hS, sp_isBench hS, sp_isShift, sp_refuse_1 hS, sp_refuse_2 hS, sp_refuse_3 hS, sp_refuse_4 hS, sp_refuse_5 hS, sp_refuse_6 hS, sp_hasPlace hS, as_nil, as_i, as_r, Nat.reduceAdd, Nat.reduceLeDiff, z_eq0, z_eq1, z_or, z_em, Classical.not_not, not_false_eq_true, not_true_eq_false, true_and, and_true, false_and, and_false, and_self, true_implies, false_implies, implies_true, Option.toList_some, Option.toList_none, List.cons_append, List.nil_append, Nat.add_eq_zero_iff, a_nl_i, a_nl_r, a_nl_n, true_or, or_true, eq_self, ok_4, ok_5, ok_6, ok_7, ok_9, ok_10, ok_20, ok_21, ok_24, ok_30, ok_48, ok_50, ok_60, ok_80, ok_120, ok_180, ok_192, ok_200, ok_900, ok_1000, ok_84000, e17, m17, e6, m6, m199, c1, ha, e20, e18, c4, c5]
        try simp only [true_and, and_true, true_implies, false_implies, implies_true, not_true_eq_false, not_false_eq_true]
        first
          | exact hr
          | grind
      · have hfit : a_does (d + 12) 221 [a_rf M, .int a, .int b, .int s] (n, t, K, L, I, R) (fun r h' => a_at (d + 12) (a_xm a_m229) 53 [some (a_rf M), some (.int a), some (.int b), some (.int s)] (r.toList ++ []) h' P) := by
          refine xt_fitOf (d := d + 2) hS (moP_of hg.1 hm.2.1 hg.2.2) (mC_refl hg.1) ha hb hs (fun J hJ => ?_)
          rw [ftY_p h17 h10 hg.2.2]
          have f1 := mF_C hF hJ
          have g1 := gs_C hg hJ
          by_cases cf : ftY Y a b s = 0
          · rw [if_neg (fun q => by rcases q with q | q | q; exact q c4; exact c5 q; exact q cf)] at hP
            have hgive : a_does (d + 12) 230 [a_rf M, .int a, .int b, .int s] (n, t, K, L, J, R) (fun r h' => a_at (d + 12) (a_xm a_m229) 70 [some (a_rf M), some (.int a), some (.int b), some (.int s)] (r.toList ++ []) h' P) := by
              refine xh_giveTo (d := d + 1) hS (moP_of g1.1 hm.2.1 g1.2.2) f1 (by omega) ha hb ⟨Int32.le_trans (by decide) hs.1, Int32.le_trans hs.2 (by decide)⟩ (fun J3 f3 y3 tk3 => ?_)
              have hl1 : 1 ≤ Y 10 a.toNatClampNeg := hl a c1.1.1 c1.1.2
              have hin := ft_in cf ⟨hl1, (h10 _).2⟩ ⟨hs.1, Int32.le_trans hs.2 (by decide)⟩
              have ht := gh_put (gh_C (gh_0 hg ho hN) hJ) h17 h10 ha c1.1.2 c5 hb hs hin.2 (ft_no h17.1 (h10 _) ⟨hs.1, Int32.le_trans hs.2 (by decide)⟩ hin.2 cf) y3 tk3
              have hp := hP J3 (mF_le f3 (by omega)) ht.1 (hq_g hN ht)
              ((try clear hP); (try clear hrx); (try clear hrf); (try clear ho); (try clear hN); (try clear hm); (try clear hy); (try clear hl); (try clear hg); (try clear hF); (try clear f1); (try clear g1); (try clear f3); (try clear y3))
              simp only [q229_70, q229_71, as_nil, as_i, as_r, Nat.reduceAdd, Nat.reduceLeDiff, z_eq0, z_eq1, z_or, z_em, Classical.not_not, not_false_eq_true, not_true_eq_false, true_and, and_true, false_and, and_false, and_self, true_implies, false_implies, implies_true, Option.toList_some, Option.toList_none, List.cons_append, List.nil_append, Nat.add_eq_zero_iff, a_nl_i, a_nl_r, a_nl_n, true_or, or_true, eq_self, ok_4, ok_5, ok_6, ok_7, ok_9, ok_10, ok_20, ok_21, ok_24, ok_30, ok_48, ok_50, ok_60, ok_80, ok_120, ok_180, ok_192, ok_200, ok_900, ok_1000, ok_84000]
              exact hp
            ((try clear hP); (try clear hrx); (try clear hrf); (try clear ho); (try clear hN); (try clear hm); (try clear hy); (try clear hl); (try clear hg); (try clear hF); (try clear f1); (try clear g1))
            simp only [q229_53, q229_63, q229_64, q229_65, q229_66, q229_67, m_0 hS, m_K hS, as_nil, as_i, as_r, Nat.reduceAdd, Nat.reduceLeDiff, z_eq0, z_eq1, z_or, z_em, Classical.not_not, not_false_eq_true, not_true_eq_false, true_and, and_true, false_and, and_false, and_self, true_implies, false_implies, implies_true, Option.toList_some, Option.toList_none, List.cons_append, List.nil_append, Nat.add_eq_zero_iff, a_nl_i, a_nl_r, a_nl_n, true_or, or_true, eq_self, ok_4, ok_5, ok_6, ok_7, ok_9, ok_10, ok_20, ok_21, ok_24, ok_30, ok_48, ok_50, ok_60, ok_80, ok_120, ok_180, ok_192, ok_200, ok_900, ok_1000, ok_84000, cf]
            try simp only [true_and, and_true, true_implies, false_implies, implies_true, not_true_eq_false, not_false_eq_true]
            first
              | exact hgive
              | grind
          · rw [if_pos (Or.inr (Or.inr cf))] at hP
            have hr := hP (a_ui J (M + 23) 3 (J (M + 23) 3 + 1)) (mF_le (sF_refused f1) (by omega)) (gs_ui g1 (sR_refused g1.1) (by omega) ⟨by unfold ps1; omega, by omega⟩) (hq_ui (hq_C (hq_0 ho hN) hJ) (by omega))
            ((try clear hP); (try clear hrx); (try clear hrf); (try clear ho); (try clear hN); (try clear hm); (try clear hy); (try clear hl); (try clear hg); (try clear hF); (try clear f1); (try clear g1))
            simp only [q229_53, q229_56, q229_57, q229_59, q229_62, m_0 hS, m_K hS, sp_refuse_1 hS, sp_refuse_2 hS, sp_refuse_3 hS, sp_refuse_4 hS, sp_refuse_5 hS, sp_refuse_6 hS, as_nil, as_i, as_r, Nat.reduceAdd, Nat.reduceLeDiff, z_eq0, z_eq1, z_or, z_em, Classical.not_not, not_false_eq_true, not_true_eq_false, true_and, and_true, false_and, and_false, and_self, true_implies, false_implies, implies_true, Option.toList_some, Option.toList_none, List.cons_append, List.nil_append, Nat.add_eq_zero_iff, a_nl_i, a_nl_r, a_nl_n, true_or, or_true, eq_self, ok_4, ok_5, ok_6, ok_7, ok_9, ok_10, ok_20, ok_21, ok_24, ok_30, ok_48, ok_50, ok_60, ok_80, ok_120, ok_180, ok_192, ok_200, ok_900, ok_1000, ok_84000, cf]
            try simp only [true_and, and_true, true_implies, false_implies, implies_true, not_true_eq_false, not_false_eq_true]
            first
              | exact hr
              | grind
        ((try clear hP); (try clear hrx); (try clear hrf); (try clear ho); (try clear hN); (try clear hm); (try clear hy); (try clear hl); (try clear hg); (try clear hF))
        rw [a_enter1 (M := a_m229) rfl (a_cat_rf (a_cat_int (a_cat_int (a_cat_int a_cat_nil)))) (show 4 ≤ 4 by decide)]
        show a_at _ (a_xm a_m229) 0 [some (a_rf M), some (.int a), some (.int b), some (.int s)] [] _ _
        simp only [q229_0, q229_1, q229_2, q229_5, q229_8, q229_9, q229_10, q229_13, q229_16, q229_17, q229_20, q229_23, q229_24, q229_25, q229_28, q229_29, q229_30, q229_33, q229_34, q229_35, q229_38, q229_39, q229_40, q229_43, q229_46, q229_47, q229_48, q229_49, q229_50, m_0 hS, m_K hS, mR_isGone hS, mK_isGone hS, mL_isGone hS, sp_isAsk hS, sp_isBench hS, sp_isShift, sp_refuse_1 hS, sp_refuse_2 hS, sp_refuse_3 hS, sp_refuse_4 hS, sp_refuse_5 hS, sp_refuse_6 hS, sp_hasPlace hS, as_nil, as_i, as_r, Nat.reduceAdd, Nat.reduceLeDiff, z_eq0, z_eq1, z_or, z_em, Classical.not_not, not_false_eq_true, not_true_eq_false, true_and, and_true, false_and, and_false, and_self, true_implies, false_implies, implies_true, Option.toList_some, Option.toList_none, List.cons_append, List.nil_append, Nat.add_eq_zero_iff, a_nl_i, a_nl_r, a_nl_n, true_or, or_true, eq_self, ok_4, ok_5, ok_6, ok_7, ok_9, ok_10, ok_20, ok_21, ok_24, ok_30, ok_48, ok_50, ok_60, ok_80, ok_120, ok_180, ok_192, ok_200, ok_900, ok_1000, ok_84000, e17, m17, e6, m6, m199, c1, ha, e20, e18, c4, c5]
        try simp only [true_and, and_true, true_implies, false_implies, implies_true, not_true_eq_false, not_false_eq_true]
        first
          | exact hfit
          | grind
    · rw [if_pos (Or.inl c4)] at hP
      have hr := hP _ (hrf 3).1 (hrf 3).2 (hrx 3)
      ((try clear hP); (try clear hrx); (try clear hrf); (try clear ho); (try clear hN); (try clear hm); (try clear hy); (try clear hl); (try clear hg); (try clear hF))
      rw [a_enter1 (M := a_m229) rfl (a_cat_rf (a_cat_int (a_cat_int (a_cat_int a_cat_nil)))) (show 4 ≤ 4 by decide)]
      show a_at _ (a_xm a_m229) 0 [some (a_rf M), some (.int a), some (.int b), some (.int s)] [] _ _
      simp only [q229_0, q229_1, q229_2, q229_5, q229_8, q229_9, q229_10, q229_13, q229_16, q229_17, q229_20, q229_23, q229_24, q229_25, q229_28, q229_29, q229_30, q229_33, q229_34, q229_35, q229_38, q229_39, q229_40, q229_43, q229_46, q229_47, q229_48, q229_49, q229_50, q229_53, q229_56, q229_57, q229_59, q229_62, m_0 hS, m_K hS, mR_isGone hS, mK_isGone hS, mL_isGone hS, sp_isAsk hS, sp_isBench hS, sp_isShift, sp_refuse_1 hS, sp_refuse_2 hS, sp_refuse_3 hS, sp_refuse_4 hS, sp_refuse_5 hS, sp_refuse_6 hS, sp_hasPlace hS, as_nil, as_i, as_r, Nat.reduceAdd, Nat.reduceLeDiff, z_eq0, z_eq1, z_or, z_em, Classical.not_not, not_false_eq_true, not_true_eq_false, true_and, and_true, false_and, and_false, and_self, true_implies, false_implies, implies_true, Option.toList_some, Option.toList_none, List.cons_append, List.nil_append, Nat.add_eq_zero_iff, a_nl_i, a_nl_r, a_nl_n, true_or, or_true, eq_self, ok_4, ok_5, ok_6, ok_7, ok_9, ok_10, ok_20, ok_21, ok_24, ok_30, ok_48, ok_50, ok_60, ok_80, ok_120, ok_180, ok_192, ok_200, ok_900, ok_1000, ok_84000, e17, m17, e6, m6, m199, c1, ha, e20, e18, c4]
      try simp only [true_and, and_true, true_implies, false_implies, implies_true, not_true_eq_false, not_false_eq_true]
      first
        | exact hr
        | grind
  · rw [if_pos c1] at hP
    have hr := hP _ (hrf 1).1 (hrf 1).2 (hrx 1)
    ((try clear hP); (try clear hrx); (try clear hrf); (try clear ho); (try clear hN); (try clear hm); (try clear hy); (try clear hl); (try clear hg); (try clear hF))
    rw [a_enter1 (M := a_m229) rfl (a_cat_rf (a_cat_int (a_cat_int (a_cat_int a_cat_nil)))) (show 4 ≤ 4 by decide)]
    show a_at _ (a_xm a_m229) 0 [some (a_rf M), some (.int a), some (.int b), some (.int s)] [] _ _
    simp only [q229_0, q229_1, q229_2, q229_5, q229_8, q229_9, q229_10, q229_13, q229_16, q229_17, q229_20, q229_23, q229_24, q229_25, q229_28, m_0 hS, m_K hS, sp_isAsk hS, sp_isBench hS, sp_isShift, sp_refuse_1 hS, sp_refuse_2 hS, sp_refuse_3 hS, sp_refuse_4 hS, sp_refuse_5 hS, sp_refuse_6 hS, as_nil, as_i, as_r, Nat.reduceAdd, Nat.reduceLeDiff, z_eq0, z_eq1, z_or, z_em, Classical.not_not, not_false_eq_true, not_true_eq_false, true_and, and_true, false_and, and_false, and_self, true_implies, false_implies, implies_true, Option.toList_some, Option.toList_none, List.cons_append, List.nil_append, Nat.add_eq_zero_iff, a_nl_i, a_nl_r, a_nl_n, true_or, or_true, eq_self, ok_4, ok_5, ok_6, ok_7, ok_9, ok_10, ok_20, ok_21, ok_24, ok_30, ok_48, ok_50, ok_60, ok_80, ok_120, ok_180, ok_192, ok_200, ok_900, ok_1000, ok_84000, e17, m17, e6, m6, m199]
    try simp only [true_and, and_true, true_implies, false_implies, implies_true, not_true_eq_false, not_false_eq_true]
    by_cases q1 : 0 ≤ a ∧ a < Y 0 17
    · by_cases q2 : 0 ≤ b ∧ b < Y 0 6
      · have q3 : ¬ (0 ≤ s ∧ s < 200) := fun q => c1 ⟨q1, q2, q⟩
        simp only [q1, q2, q3]
        try simp only [true_and, and_true, true_implies, false_implies, implies_true, not_true_eq_false, not_false_eq_true]
        first
          | exact hr
          | grind
      · simp only [q1, q2]
        try simp only [true_and, and_true, true_implies, false_implies, implies_true, not_true_eq_false, not_false_eq_true]
        first
          | exact hr
          | grind
    · simp only [q1]
      try simp only [true_and, and_true, true_implies, false_implies, implies_true, not_true_eq_false, not_false_eq_true]
      first
        | exact hr
        | grind
theorem xp_again9 (hS : m_S M K L R) {I1 : Nat → Nat → Int32} (hm : okY Y) {c : Nat} (hc : c + 130 ≤ 84000) (hF : mF M c I1 I) (hg : gs M I0 I Y) (ho : eoM M I) (hN : hsN 6 (I M 0) (hdR M I) Y) (hP : ∀ J, mF M (c + 120) I1 J → gs M I0 J (agY Y).1 → hxQ M I J Y (agP Y).1 (agY Y).1 → P (some (.int (Int32.ofNat (agY Y).2))) (n, t, K, L, J, R)) : a_does (d + 13) 247 [a_rf M] (n, t, K, L, I, R) P := xt_again9 hS hm.2.1 hm.1.2.2.2.2.1 hm.1.2.1 hm.1.2.2.2.2.2.1 hm.1.2.2.1 hm.2.2 hc hF (J3 := I) (W1 := Y) (th_0 hg ho hN) rfl (fun J J4 q1 q2 q3 _ _ => hP J q1 q3.1 (hq_tg q2 q3))
theorem up_r {k j : Nat} {v : Int32} (hk : ¬ k = 20 ∧ ¬ k = 21 ∧ ¬ k = 10) : ∀ q, q = 20 ∨ q = 21 ∨ q = 10 → Y q = upY Y k j v q := fun q hq => funext (fun i => (up_no (by omega)).symm)
theorem hsN_up {nb n0 : Int32} {hd : Int32 → Int32 → Int32 → Int32} {k j : Nat} {v : Int32} (h : hsN nb n0 hd Y) (hk : ¬ k = 20 ∧ ¬ k = 21 ∧ ¬ k = 10 ∧ ¬ k = 0) : hsN nb n0 hd (upY Y k j v) := hsN_w h (up_no (by omega)) (fun q hq => (up_r (by omega) q hq).symm)
theorem inP_ow (e20 : Y 20 = Z 20) (e21 : Y 21 = Z 21) (e10 : Y 10 = Z 10) (h : inP Y) : inP Z := fun a ha p => by
  rw [← e20] at p
  rw [← e20, ← e21, ← e10]
  exact h a ha p
theorem xp_withdraw9 (hS : m_S M K L R) {I1 : Nat → Nat → Int32} (hm : okY Y) {c : Nat} (hc : c + 130 ≤ 84000) (hF : mF M c I1 I) (hg : gs M I0 I Y) (ho : eoM M I) (hN : hsN 6 (I M 0) (hdR M I) Y) {a : Int32} (hP : ∀ J, mF M (c + 120) I1 J → gs M I0 J (wdY Y a).2 → hxQ M I J Y (wdY Y a).2 (wdY Y a).2 → P (some (.int (wdY Y a).1)) (n, t, K, L, J, R)) : a_does (d + 13) 184 [a_rf M, .int a] (n, t, K, L, I, R) P := by
  have hy := hm.1
  have h17 := hy.2.2.2.2.1
  have h10 := hy.2.1
  have h6 := hy.2.2.2.2.2.1
  have hl := hy.2.2.1
  have hrf : ∀ k : Nat, mF M (c + 120) I1 (a_ui I (M + 23) k (I (M + 23) k + 1)) ∧ gs M I0 (a_ui I (M + 23) k (I (M + 23) k + 1)) Y := fun k => ⟨mF_le (sF_refused hF) (by omega), gs_ui hg (sR_refused hg.1) (by omega) ⟨by unfold ps1; omega, by omega⟩⟩
  have hrx : ∀ k : Nat, hxQ M I (a_ui I (M + 23) k (I (M + 23) k + 1)) Y Y Y := fun k => hq_ui (hq_0 ho hN) (by omega)
  have e17 : I M 17 = Y 0 17 := hg.2.2.1 0 17 (by unfold ps1; omega)
  have e6 : I M 6 = Y 0 6 := hg.2.2.1 0 6 (by unfold ps1; omega)
  have e0 : I M 0 = Y 0 0 := hg.2.2.1 0 0 (by unfold ps1; omega)
  have m17 : ∀ x : Int32, (x ≤ Y 0 17 - 1) = (x < Y 0 17) := fun x => le_m1 h17
  have m6 : ∀ x : Int32, (x ≤ Y 0 6 - 1) = (x < Y 0 6) := fun x => le_m1 ⟨h6.1, Int32.le_trans h6.2 (by decide)⟩
  have m199 : ∀ x : Int32, (x ≤ 199) = (x < 200) := fun x => propext ⟨fun q => Int32.lt_of_le_of_lt q (by decide), fun q => by ((try clear hP); (try clear hrx); (try clear hrf); (try clear ho); (try clear hN); (try clear hm); (try clear hg); (try clear hF)); grind⟩
  have e20 : I (M + 20) a.toNatClampNeg = Y 20 a.toNatClampNeg := hg.2.2.1 20 _ (by unfold ps1; omega)
  have e18 : I (M + 18) a.toNatClampNeg = Y 18 a.toNatClampNeg := hg.2.2.1 18 _ (by unfold ps1; omega)
  have b11 : (1 : Int32) &&& 1 = 1 := by decide
  unfold wdY at hP
  by_cases c1 : 0 ≤ a ∧ a < Y 0 17
  · have ha : 0 ≤ a ∧ a < 30 := ⟨c1.1, Int32.lt_of_lt_of_le c1.2 h17.2⟩
    rw [if_neg (fun q => q c1)] at hP
    by_cases c2 : Y 18 a.toNatClampNeg = 0
    · rw [if_neg (fun q => q c2)] at hP
      have f1 := sF_isGone hF (k := a.toNatClampNeg) (v := 1)
      have g1 := gs_up hg (k := 18) (j := a.toNatClampNeg) (v := 1) (Or.inr (Or.inl rfl)) (sR_isGone hg.1)
      have e20' : a_ui I (M + 18) a.toNatClampNeg 1 (M + 20) a.toNatClampNeg = Y 20 a.toNatClampNeg := by rw [ui_ap, if_neg (by omega)]; exact e20
      have eH : ∀ x j, hC M x j → a_ui I (M + 18) a.toNatClampNeg 1 x j = I x j := fun x j q => by rw [ui_ap, if_neg (fun e => by unfold hC at q; omega)]
      have ho1 : eoM M (a_ui I (M + 18) a.toNatClampNeg 1) := (hR_eq eH).2.2.2 ho
      have hN1 : hsN 6 (a_ui I (M + 18) a.toNatClampNeg 1 M 0) (hdR M (a_ui I (M + 18) a.toNatClampNeg 1)) (upY Y 18 a.toNatClampNeg 1) := by
        rw [(hR_eq eH).1, (hR_eq eH).2.2.1]
        exact hsN_up hN (by omega)
      have z17 : upY Y 18 a.toNatClampNeg 1 0 17 = Y 0 17 := up_no (by omega)
      have zr := up_r (Y := Y) (k := 18) (j := a.toNatClampNeg) (v := 1) (by omega)
      have eH2 : ∀ x j, hC M x j → I x j = a_ui I (M + 18) a.toNatClampNeg 1 x j := fun x j q => (eH x j q).symm
      generalize eJ : a_ui I (M + 18) a.toNatClampNeg 1 = J1 at f1 g1 e20' ho1 hN1 eH eH2
      dsimp only at hP
      by_cases c3 : 0 ≤ Y 20 a.toNatClampNeg
      · rw [if_pos c3] at hP
        have hcl : a_does (d + 12) 186 [a_rf M, .int a] (n, t, K, L, J1, R) (fun r h' => a_at (d + 12) (a_xm a_m184) 50 [some (a_rf M), some (.int a)] (r.toList ++ []) h' P) := by
          refine xh_takeFrom (d := d + 10) hS f1 (by omega) ha (fun J f2 _ y2 tk2 => ?_)
          have ht := th_un (th_0 g1 ho1 hN1) (by rw [← zr 10 (by omega)]; exact h10) (inP_ow (zr 20 (by omega)) (zr 21 (by omega)) (zr 10 (by omega)) hm.2.1.2.2.2.1) ha (by rw [z17]; exact c1.2) (by rw [← zr 20 (by omega)]; exact c3) y2 tk2
          have hp := hP J (mF_le f2 (by omega)) ht.1 (hq_b (hq_t ht) (fun x j q => (eH2 x j q).symm) z17.symm zr)
          ((try clear hP); (try clear hrx); (try clear hrf); (try clear ho); (try clear hN); (try clear hm); (try clear hy); (try clear hl); (try clear hg); (try clear hF); (try clear f1); (try clear g1); (try clear f2); (try clear y2))
          simp only [q184_50, q184_51, as_nil, as_i, as_r, Nat.reduceAdd, Nat.reduceLeDiff, z_eq0, z_eq1, z_or, z_em, Classical.not_not, not_false_eq_true, not_true_eq_false, true_and, and_true, false_and, and_false, and_self, true_implies, false_implies, implies_true, Option.toList_some, Option.toList_none, List.cons_append, List.nil_append, Nat.add_eq_zero_iff, a_nl_i, a_nl_r, a_nl_n, true_or, or_true, eq_self, ok_4, ok_5, ok_6, ok_7, ok_9, ok_10, ok_20, ok_21, ok_24, ok_30, ok_48, ok_50, ok_60, ok_80, ok_120, ok_180, ok_192, ok_200, ok_900, ok_1000, ok_84000]
          exact hp
        ((try clear hP); (try clear hrx); (try clear hrf); (try clear ho); (try clear hN); (try clear hm); (try clear hy); (try clear hl); (try clear hg); (try clear hF); (try clear f1); (try clear g1))
        rw [a_enter1 (M := a_m184) rfl (a_cat_rf (a_cat_int a_cat_nil)) (show 2 ≤ 2 by decide)]
        show a_at _ (a_xm a_m184) 0 [some (a_rf M), some (.int a)] [] _ _
        simp only [q184_0, q184_1, q184_2, q184_5, q184_8, q184_9, q184_10, q184_13, q184_14, q184_15, q184_18, q184_19, q184_20, q184_23, q184_24, q184_26, q184_29, q184_30, q184_31, q184_34, q184_35, q184_36, q184_37, q184_38, q184_39, q184_42, q184_45, q184_46, q184_47, m_0 hS, m_K hS, mR_isGone hS, mK_isGone hS, mL_isGone hS, sp_isAsk hS, sp_refuse_1 hS, sp_refuse_2 hS, sp_refuse_3 hS, sp_refuse_4 hS, sp_refuse_5 hS, sp_refuse_6 hS, sp_hasPlace hS, as_nil, as_i, as_r, Nat.reduceAdd, Nat.reduceLeDiff, z_eq0, z_eq1, z_or, z_em, Classical.not_not, not_false_eq_true, not_true_eq_false, true_and, and_true, false_and, and_false, and_self, true_implies, false_implies, implies_true, Option.toList_some, Option.toList_none, List.cons_append, List.nil_append, Nat.add_eq_zero_iff, a_nl_i, a_nl_r, a_nl_n, true_or, or_true, eq_self, ok_4, ok_5, ok_6, ok_7, ok_9, ok_10, ok_20, ok_21, ok_24, ok_30, ok_48, ok_50, ok_60, ok_80, ok_120, ok_180, ok_192, ok_200, ok_900, ok_1000, ok_84000, e17, m17, c1, ha, e18, c2, b11, eJ, e20', c3]
        try simp only [true_and, and_true, true_implies, false_implies, implies_true, not_true_eq_false, not_false_eq_true]
        first
          | exact hcl
          | grind
      · rw [if_neg c3] at hP
        have hp := hP J1 (mF_le f1 (by omega)) g1 (hq_b (hq_0 ho1 hN1) (fun x j q => (eH2 x j q).symm) z17.symm zr)
        ((try clear hP); (try clear hrx); (try clear hrf); (try clear ho); (try clear hN); (try clear hm); (try clear hy); (try clear hl); (try clear hg); (try clear hF); (try clear f1); (try clear g1))
        rw [a_enter1 (M := a_m184) rfl (a_cat_rf (a_cat_int a_cat_nil)) (show 2 ≤ 2 by decide)]
        show a_at _ (a_xm a_m184) 0 [some (a_rf M), some (.int a)] [] _ _
        simp only [q184_0, q184_1, q184_2, q184_5, q184_8, q184_9, q184_10, q184_13, q184_14, q184_15, q184_18, q184_19, q184_20, q184_23, q184_24, q184_26, q184_29, q184_30, q184_31, q184_34, q184_35, q184_36, q184_37, q184_38, q184_39, q184_42, q184_45, q184_46, q184_47, q184_50, q184_51, m_0 hS, m_K hS, mR_isGone hS, mK_isGone hS, mL_isGone hS, sp_isAsk hS, sp_refuse_1 hS, sp_refuse_2 hS, sp_refuse_3 hS, sp_refuse_4 hS, sp_refuse_5 hS, sp_refuse_6 hS, sp_hasPlace hS, as_nil, as_i, as_r, Nat.reduceAdd, Nat.reduceLeDiff, z_eq0, z_eq1, z_or, z_em, Classical.not_not, not_false_eq_true, not_true_eq_false, true_and, and_true, false_and, and_false, and_self, true_implies, false_implies, implies_true, Option.toList_some, Option.toList_none, List.cons_append, List.nil_append, Nat.add_eq_zero_iff, a_nl_i, a_nl_r, a_nl_n, true_or, or_true, eq_self, ok_4, ok_5, ok_6, ok_7, ok_9, ok_10, ok_20, ok_21, ok_24, ok_30, ok_48, ok_50, ok_60, ok_80, ok_120, ok_180, ok_192, ok_200, ok_900, ok_1000, ok_84000, e17, m17, c1, ha, e18, c2, b11, eJ, e20', c3]
        try simp only [true_and, and_true, true_implies, false_implies, implies_true, not_true_eq_false, not_false_eq_true]
        first
          | exact hp
          | grind
    · rw [if_pos c2] at hP
      have hr := hP _ (hrf 3).1 (hrf 3).2 (hrx 3)
      ((try clear hP); (try clear hrx); (try clear hrf); (try clear ho); (try clear hN); (try clear hm); (try clear hy); (try clear hl); (try clear hg); (try clear hF))
      rw [a_enter1 (M := a_m184) rfl (a_cat_rf (a_cat_int a_cat_nil)) (show 2 ≤ 2 by decide)]
      show a_at _ (a_xm a_m184) 0 [some (a_rf M), some (.int a)] [] _ _
      simp only [q184_0, q184_1, q184_2, q184_5, q184_8, q184_9, q184_10, q184_13, q184_14, q184_15, q184_18, q184_19, q184_20, q184_23, q184_24, q184_26, q184_29, m_0 hS, m_K hS, mR_isGone hS, mK_isGone hS, mL_isGone hS, sp_isAsk hS, sp_refuse_1 hS, sp_refuse_2 hS, sp_refuse_3 hS, sp_refuse_4 hS, sp_refuse_5 hS, sp_refuse_6 hS, as_nil, as_i, as_r, Nat.reduceAdd, Nat.reduceLeDiff, z_eq0, z_eq1, z_or, z_em, Classical.not_not, not_false_eq_true, not_true_eq_false, true_and, and_true, false_and, and_false, and_self, true_implies, false_implies, implies_true, Option.toList_some, Option.toList_none, List.cons_append, List.nil_append, Nat.add_eq_zero_iff, a_nl_i, a_nl_r, a_nl_n, true_or, or_true, eq_self, ok_4, ok_5, ok_6, ok_7, ok_9, ok_10, ok_20, ok_21, ok_24, ok_30, ok_48, ok_50, ok_60, ok_80, ok_120, ok_180, ok_192, ok_200, ok_900, ok_1000, ok_84000, e17, m17, c1, ha, e18, c2]
      try simp only [true_and, and_true, true_implies, false_implies, implies_true, not_true_eq_false, not_false_eq_true]
      first
        | exact hr
        | grind
  · rw [if_pos c1] at hP
    have hr := hP _ (hrf 1).1 (hrf 1).2 (hrx 1)
    ((try clear hP); (try clear hrx); (try clear hrf); (try clear ho); (try clear hN); (try clear hm); (try clear hy); (try clear hl); (try clear hg); (try clear hF))
    rw [a_enter1 (M := a_m184) rfl (a_cat_rf (a_cat_int a_cat_nil)) (show 2 ≤ 2 by decide)]
    show a_at _ (a_xm a_m184) 0 [some (a_rf M), some (.int a)] [] _ _
    simp only [q184_0, q184_1, q184_2, q184_5, q184_8, q184_9, q184_10, q184_13, m_0 hS, m_K hS, sp_isAsk hS, sp_refuse_1 hS, sp_refuse_2 hS, sp_refuse_3 hS, sp_refuse_4 hS, sp_refuse_5 hS, sp_refuse_6 hS, as_nil, as_i, as_r, Nat.reduceAdd, Nat.reduceLeDiff, z_eq0, z_eq1, z_or, z_em, Classical.not_not, not_false_eq_true, not_true_eq_false, true_and, and_true, false_and, and_false, and_self, true_implies, false_implies, implies_true, Option.toList_some, Option.toList_none, List.cons_append, List.nil_append, Nat.add_eq_zero_iff, a_nl_i, a_nl_r, a_nl_n, true_or, or_true, eq_self, ok_4, ok_5, ok_6, ok_7, ok_9, ok_10, ok_20, ok_21, ok_24, ok_30, ok_48, ok_50, ok_60, ok_80, ok_120, ok_180, ok_192, ok_200, ok_900, ok_1000, ok_84000, e17, m17, c1]
    try simp only [true_and, and_true, true_implies, false_implies, implies_true, not_true_eq_false, not_false_eq_true]
    first
      | exact hr
      | grind
theorem xp_danger9 (hS : m_S M K L R) {I1 : Nat → Nat → Int32} (hm : okY Y) {c : Nat} (hc : c + 130 ≤ 84000) (hF : mF M c I1 I) (hg : gs M I0 I Y) (ho : eoM M I) (hN : hsN 6 (I M 0) (hdR M I) Y) {a v : Int32} (hP : ∀ J, mF M (c + 120) I1 J → gs M I0 J (dgY Y a v).2 → hxQ M I J Y (dgY Y a v).2 (dgY Y a v).2 → P (some (.int (dgY Y a v).1)) (n, t, K, L, J, R)) : a_does (d + 13) 249 [a_rf M, .int a, .int v] (n, t, K, L, I, R) P := by
  have hy := hm.1
  have h17 := hy.2.2.2.2.1
  have h10 := hy.2.1
  have h6 := hy.2.2.2.2.2.1
  have hl := hy.2.2.1
  have hrf : ∀ k : Nat, mF M (c + 120) I1 (a_ui I (M + 23) k (I (M + 23) k + 1)) ∧ gs M I0 (a_ui I (M + 23) k (I (M + 23) k + 1)) Y := fun k => ⟨mF_le (sF_refused hF) (by omega), gs_ui hg (sR_refused hg.1) (by omega) ⟨by unfold ps1; omega, by omega⟩⟩
  have hrx : ∀ k : Nat, hxQ M I (a_ui I (M + 23) k (I (M + 23) k + 1)) Y Y Y := fun k => hq_ui (hq_0 ho hN) (by omega)
  have e17 : I M 17 = Y 0 17 := hg.2.2.1 0 17 (by unfold ps1; omega)
  have e6 : I M 6 = Y 0 6 := hg.2.2.1 0 6 (by unfold ps1; omega)
  have e0 : I M 0 = Y 0 0 := hg.2.2.1 0 0 (by unfold ps1; omega)
  have m17 : ∀ x : Int32, (x ≤ Y 0 17 - 1) = (x < Y 0 17) := fun x => le_m1 h17
  have m6 : ∀ x : Int32, (x ≤ Y 0 6 - 1) = (x < Y 0 6) := fun x => le_m1 ⟨h6.1, Int32.le_trans h6.2 (by decide)⟩
  have m199 : ∀ x : Int32, (x ≤ 199) = (x < 200) := fun x => propext ⟨fun q => Int32.lt_of_le_of_lt q (by decide), fun q => by ((try clear hP); (try clear hrx); (try clear hrf); (try clear ho); (try clear hN); (try clear hm); (try clear hg); (try clear hF)); grind⟩
  unfold dgY at hP
  by_cases c1 : 0 ≤ a ∧ a < Y 0 17
  · have ha : 0 ≤ a ∧ a < 30 := ⟨c1.1, Int32.lt_of_lt_of_le c1.2 h17.2⟩
    rw [if_neg (fun q => q c1)] at hP
    by_cases c2 : v < 0
    · rw [if_pos c2] at hP
      have c2' : ¬ 0 ≤ v := Int32.not_le.mpr c2
      have hr := hP _ (hrf 4).1 (hrf 4).2 (hrx 4)
      ((try clear hP); (try clear hrx); (try clear hrf); (try clear ho); (try clear hN); (try clear hm); (try clear hy); (try clear hl); (try clear hg); (try clear hF))
      rw [a_enter1 (M := a_m249) rfl (a_cat_rf (a_cat_int (a_cat_int a_cat_nil))) (show 3 ≤ 3 by decide)]
      show a_at _ (a_xm a_m249) 0 [some (a_rf M), some (.int a), some (.int v)] [] _ _
      simp only [q249_0, q249_1, q249_2, q249_5, q249_8, q249_9, q249_10, q249_13, q249_14, q249_15, q249_18, q249_19, q249_21, q249_24, m_0 hS, m_K hS, sp_isAsk hS, sp_refuse_1 hS, sp_refuse_2 hS, sp_refuse_3 hS, sp_refuse_4 hS, sp_refuse_5 hS, sp_refuse_6 hS, as_nil, as_i, as_r, Nat.reduceAdd, Nat.reduceLeDiff, z_eq0, z_eq1, z_or, z_em, Classical.not_not, not_false_eq_true, not_true_eq_false, true_and, and_true, false_and, and_false, and_self, true_implies, false_implies, implies_true, Option.toList_some, Option.toList_none, List.cons_append, List.nil_append, Nat.add_eq_zero_iff, a_nl_i, a_nl_r, a_nl_n, true_or, or_true, eq_self, ok_4, ok_5, ok_6, ok_7, ok_9, ok_10, ok_20, ok_21, ok_24, ok_30, ok_48, ok_50, ok_60, ok_80, ok_120, ok_180, ok_192, ok_200, ok_900, ok_1000, ok_84000, e17, m17, c1, ha, c2, c2']
      try simp only [true_and, and_true, true_implies, false_implies, implies_true, not_true_eq_false, not_false_eq_true]
      first
        | exact hr
        | grind
    · rw [if_neg c2] at hP
      have c2' : 0 ≤ v := Int32.not_lt.mp c2
      by_cases c3 : 9 < v
      · rw [if_pos c3] at hP
        have c3' : ¬ v ≤ 9 := Int32.not_le.mpr c3
        have hr := hP _ (hrf 6).1 (hrf 6).2 (hrx 6)
        ((try clear hP); (try clear hrx); (try clear hrf); (try clear ho); (try clear hN); (try clear hm); (try clear hy); (try clear hl); (try clear hg); (try clear hF))
        rw [a_enter1 (M := a_m249) rfl (a_cat_rf (a_cat_int (a_cat_int a_cat_nil))) (show 3 ≤ 3 by decide)]
        show a_at _ (a_xm a_m249) 0 [some (a_rf M), some (.int a), some (.int v)] [] _ _
        simp only [q249_0, q249_1, q249_2, q249_5, q249_8, q249_9, q249_10, q249_13, q249_14, q249_15, q249_18, q249_19, q249_21, q249_24, q249_25, q249_26, q249_28, q249_31, q249_32, q249_34, q249_37, m_0 hS, m_K hS, sp_isAsk hS, sp_refuse_1 hS, sp_refuse_2 hS, sp_refuse_3 hS, sp_refuse_4 hS, sp_refuse_5 hS, sp_refuse_6 hS, as_nil, as_i, as_r, Nat.reduceAdd, Nat.reduceLeDiff, z_eq0, z_eq1, z_or, z_em, Classical.not_not, not_false_eq_true, not_true_eq_false, true_and, and_true, false_and, and_false, and_self, true_implies, false_implies, implies_true, Option.toList_some, Option.toList_none, List.cons_append, List.nil_append, Nat.add_eq_zero_iff, a_nl_i, a_nl_r, a_nl_n, true_or, or_true, eq_self, ok_4, ok_5, ok_6, ok_7, ok_9, ok_10, ok_20, ok_21, ok_24, ok_30, ok_48, ok_50, ok_60, ok_80, ok_120, ok_180, ok_192, ok_200, ok_900, ok_1000, ok_84000, e17, m17, c1, ha, c2, c2', c3, c3']
        try simp only [true_and, and_true, true_implies, false_implies, implies_true, not_true_eq_false, not_false_eq_true]
        first
          | exact hr
          | grind
      · rw [if_neg c3] at hP
        have c3' : v ≤ 9 := Int32.not_lt.mp c3
        have f1 := sF_danger hF (k := a.toNatClampNeg) (v := v)
        have g1 := gs_up hg (k := 15) (j := a.toNatClampNeg) (v := v) (Or.inl rfl) (sR_danger hg.1)
        have ok1 : okY (upY Y 15 a.toNatClampNeg v) := ok_rw (rw_up9 (Or.inl rfl)) hm
        have z10 : upY Y 15 a.toNatClampNeg v 10 = Y 10 := rw_up9 (Or.inl rfl) 10 (by omega) (by omega) (by omega) (by omega)
        have e20' : a_ui I (M + 15) a.toNatClampNeg v (M + 20) a.toNatClampNeg = upY Y 15 a.toNatClampNeg v 20 a.toNatClampNeg := g1.2.2.1 20 _ (by unfold ps1; omega)
        have e17' : a_ui I (M + 15) a.toNatClampNeg v M 17 = upY Y 15 a.toNatClampNeg v 0 17 := g1.2.2.1 0 17 (by unfold ps1; omega)
        have eH : ∀ x j, hC M x j → a_ui I (M + 15) a.toNatClampNeg v x j = I x j := fun x j q => by rw [ui_ap, if_neg (fun e => by unfold hC at q; omega)]
        have ho1 : eoM M (a_ui I (M + 15) a.toNatClampNeg v) := (hR_eq eH).2.2.2 ho
        have hN1 : hsN 6 (a_ui I (M + 15) a.toNatClampNeg v M 0) (hdR M (a_ui I (M + 15) a.toNatClampNeg v)) (upY Y 15 a.toNatClampNeg v) := by
          rw [(hR_eq eH).1, (hR_eq eH).2.2.1]
          exact hsN_up hN (by omega)
        have z17 : upY Y 15 a.toNatClampNeg v 0 17 = Y 0 17 := up_no (by omega)
        have zr := up_r (Y := Y) (k := 15) (j := a.toNatClampNeg) (v := v) (by omega)
        generalize eZ : upY Y 15 a.toNatClampNeg v = Z at hP g1 ok1 z10 e20' e17' hN1 z17 zr
        generalize eJ : a_ui I (M + 15) a.toNatClampNeg v = J1 at f1 g1 e20' e17' ho1 hN1 eH
        have hcl : a_does (d + 12) 248 [a_rf M, .int a] (n, t, K, L, J1, R) (fun r h' => a_at (d + 12) (a_xm a_m249) 50 [some (a_rf M), some (.int a), some (.int v)] (r.toList ++ []) h' P) := by
          refine xt_fitsNoMore (d := d + 1) hS ok1.2.1 ok1.1.2.2.2.2.1 ok1.1.2.1 g1 ha (by rw [z10]; exact hl a c1.1 c1.2) (fun J hJ => ?_)
          have f2 := mF_C f1 hJ
          have g2 := gs_C g1 hJ
          by_cases ag : agB Z a = true
          · rw [if_pos ag] at hP ⊢
            have n10 : ¬ (1 : Int32) = 0 := by decide
            have htk : a_does (d + 12) 186 [a_rf M, .int a] (n, t, K, L, J, R) (fun r h' => a_at (d + 12) (a_xm a_m249) 58 [some (a_rf M), some (.int a), some (.int v)] (r.toList ++ []) h' P) := by
              refine xh_takeFrom (d := d + 10) hS f2 (by omega) ha (fun J3 f3 _ y3 tk3 => ?_)
              have ht := th_un (th_C (th_0 g1 ho1 hN1) hJ) ok1.1.2.1 ok1.2.1.2.2.2.1 ha (by rw [z17]; exact c1.2) (of_decide_eq_true ag).1.1 y3 tk3
              have hp := hP J3 (mF_le f3 (by omega)) ht.1 (hq_b (hq_t ht) eH z17.symm zr)
              ((try clear hP); (try clear hrx); (try clear hrf); (try clear ho); (try clear hN); (try clear hm); (try clear hy); (try clear hl); (try clear hg); (try clear hF); (try clear f1); (try clear g1); (try clear f2); (try clear g2); (try clear f3); (try clear y3))
              simp only [q249_58, q249_59, as_nil, as_i, as_r, Nat.reduceAdd, Nat.reduceLeDiff, z_eq0, z_eq1, z_or, z_em, Classical.not_not, not_false_eq_true, not_true_eq_false, true_and, and_true, false_and, and_false, and_self, true_implies, false_implies, implies_true, Option.toList_some, Option.toList_none, List.cons_append, List.nil_append, Nat.add_eq_zero_iff, a_nl_i, a_nl_r, a_nl_n, true_or, or_true, eq_self, ok_4, ok_5, ok_6, ok_7, ok_9, ok_10, ok_20, ok_21, ok_24, ok_30, ok_48, ok_50, ok_60, ok_80, ok_120, ok_180, ok_192, ok_200, ok_900, ok_1000, ok_84000]
              exact hp
            ((try clear hP); (try clear hrx); (try clear hrf); (try clear ho); (try clear hN); (try clear hm); (try clear hy); (try clear hl); (try clear hg); (try clear hF); (try clear f1); (try clear g1); (try clear f2); (try clear g2))
            simp only [q249_50, q249_53, q249_54, q249_55, m_0 hS, m_K hS, as_nil, as_i, as_r, Nat.reduceAdd, Nat.reduceLeDiff, z_eq0, z_eq1, z_or, z_em, Classical.not_not, not_false_eq_true, not_true_eq_false, true_and, and_true, false_and, and_false, and_self, true_implies, false_implies, implies_true, Option.toList_some, Option.toList_none, List.cons_append, List.nil_append, Nat.add_eq_zero_iff, a_nl_i, a_nl_r, a_nl_n, true_or, or_true, eq_self, ok_4, ok_5, ok_6, ok_7, ok_9, ok_10, ok_20, ok_21, ok_24, ok_30, ok_48, ok_50, ok_60, ok_80, ok_120, ok_180, ok_192, ok_200, ok_900, ok_1000, ok_84000, n10]
            try simp only [true_and, and_true, true_implies, false_implies, implies_true, not_true_eq_false, not_false_eq_true]
            first
              | exact htk
              | grind
          · rw [if_neg ag] at hP ⊢
            have hp := hP J (mF_le f2 (by omega)) g2 (hq_b (hq_C (hq_0 ho1 hN1) hJ) eH z17.symm zr)
            ((try clear hP); (try clear hrx); (try clear hrf); (try clear ho); (try clear hN); (try clear hm); (try clear hy); (try clear hl); (try clear hg); (try clear hF); (try clear f1); (try clear g1); (try clear f2); (try clear g2))
            simp only [q249_50, q249_60, q249_61, as_nil, as_i, as_r, Nat.reduceAdd, Nat.reduceLeDiff, z_eq0, z_eq1, z_or, z_em, Classical.not_not, not_false_eq_true, not_true_eq_false, true_and, and_true, false_and, and_false, and_self, true_implies, false_implies, implies_true, Option.toList_some, Option.toList_none, List.cons_append, List.nil_append, Nat.add_eq_zero_iff, a_nl_i, a_nl_r, a_nl_n, true_or, or_true, eq_self, ok_4, ok_5, ok_6, ok_7, ok_9, ok_10, ok_20, ok_21, ok_24, ok_30, ok_48, ok_50, ok_60, ok_80, ok_120, ok_180, ok_192, ok_200, ok_900, ok_1000, ok_84000]
            try simp only [true_and, and_true, true_implies, false_implies, implies_true, not_true_eq_false, not_false_eq_true]
            first
              | exact hp
              | grind
        ((try clear hP); (try clear hrx); (try clear hrf); (try clear ho); (try clear hN); (try clear hm); (try clear hy); (try clear hl); (try clear hg); (try clear hF); (try clear f1); (try clear g1); (try clear ok1))
        rw [a_enter1 (M := a_m249) rfl (a_cat_rf (a_cat_int (a_cat_int a_cat_nil))) (show 3 ≤ 3 by decide)]
        show a_at _ (a_xm a_m249) 0 [some (a_rf M), some (.int a), some (.int v)] [] _ _
        simp only [q249_0, q249_1, q249_2, q249_5, q249_8, q249_9, q249_10, q249_13, q249_14, q249_15, q249_18, q249_19, q249_21, q249_24, q249_25, q249_26, q249_28, q249_31, q249_32, q249_34, q249_37, q249_38, q249_39, q249_42, q249_43, q249_44, q249_45, q249_46, q249_47, m_0 hS, m_K hS, mR_danger hS, mK_danger hS, mL_danger hS, sp_isAsk hS, sp_refuse_1 hS, sp_refuse_2 hS, sp_refuse_3 hS, sp_refuse_4 hS, sp_refuse_5 hS, sp_refuse_6 hS, as_nil, as_i, as_r, Nat.reduceAdd, Nat.reduceLeDiff, z_eq0, z_eq1, z_or, z_em, Classical.not_not, not_false_eq_true, not_true_eq_false, true_and, and_true, false_and, and_false, and_self, true_implies, false_implies, implies_true, Option.toList_some, Option.toList_none, List.cons_append, List.nil_append, Nat.add_eq_zero_iff, a_nl_i, a_nl_r, a_nl_n, true_or, or_true, eq_self, ok_4, ok_5, ok_6, ok_7, ok_9, ok_10, ok_20, ok_21, ok_24, ok_30, ok_48, ok_50, ok_60, ok_80, ok_120, ok_180, ok_192, ok_200, ok_900, ok_1000, ok_84000, e17, m17, c1, ha, c2, c2', c3, c3', eJ]
        try simp only [true_and, and_true, true_implies, false_implies, implies_true, not_true_eq_false, not_false_eq_true]
        first
          | exact hcl
          | grind
  · rw [if_pos c1] at hP
    have hr := hP _ (hrf 1).1 (hrf 1).2 (hrx 1)
    ((try clear hP); (try clear hrx); (try clear hrf); (try clear ho); (try clear hN); (try clear hm); (try clear hy); (try clear hl); (try clear hg); (try clear hF))
    rw [a_enter1 (M := a_m249) rfl (a_cat_rf (a_cat_int (a_cat_int a_cat_nil))) (show 3 ≤ 3 by decide)]
    show a_at _ (a_xm a_m249) 0 [some (a_rf M), some (.int a), some (.int v)] [] _ _
    simp only [q249_0, q249_1, q249_2, q249_5, q249_8, q249_9, q249_10, q249_13, m_0 hS, m_K hS, sp_isAsk hS, sp_refuse_1 hS, sp_refuse_2 hS, sp_refuse_3 hS, sp_refuse_4 hS, sp_refuse_5 hS, sp_refuse_6 hS, as_nil, as_i, as_r, Nat.reduceAdd, Nat.reduceLeDiff, z_eq0, z_eq1, z_or, z_em, Classical.not_not, not_false_eq_true, not_true_eq_false, true_and, and_true, false_and, and_false, and_self, true_implies, false_implies, implies_true, Option.toList_some, Option.toList_none, List.cons_append, List.nil_append, Nat.add_eq_zero_iff, a_nl_i, a_nl_r, a_nl_n, true_or, or_true, eq_self, ok_4, ok_5, ok_6, ok_7, ok_9, ok_10, ok_20, ok_21, ok_24, ok_30, ok_48, ok_50, ok_60, ok_80, ok_120, ok_180, ok_192, ok_200, ok_900, ok_1000, ok_84000, e17, m17, c1]
    try simp only [true_and, and_true, true_implies, false_implies, implies_true, not_true_eq_false, not_false_eq_true]
    first
      | exact hr
      | grind
end HC1
end
section
/-! what was had: the reference's swap -/
section HD0
variable {d n t M : Nat} {K L : Nat → Nat} {I I0 J J0 J1 J2 : Nat → Nat → Int32} {R : Nat → Nat → Nat} {P : Option Value → AH → Prop} {f : Nat → Int32} {e : Int32}
variable {Y Z W J3 J4 W1 : Nat → Nat → Int32} {m c : Nat} {g w v : Nat → Int32}
theorem inP_rgU (h : inP Y) : ∀ k, inP (rgU g Y k) := by
  intro k
  induction k with
  | zero => exact h
  | succ k ih =>
    unfold rgU
    exact inP_un ih
/-- swap: what is taken back, what is given -/
def swW (Y W1 : Nat → Nat → Int32) : Prop := ∃ m g, rgR Y m g ∧ W1 = rgU g Y m
theorem swW_u (h : swW Y W) (h2 : swW Y Z) : W = Z := by
  obtain ⟨m, g, r, e⟩ := h
  obtain ⟨z, t, s, e2⟩ := h2
  obtain ⟨e1, e3⟩ := rgR_u r s
  subst e1
  rw [e, e2]
  first
    | exact rgU_c e3 _ (Nat.le_refl _)
    | exact (rgU_c e3 _ (Nat.le_refl _)).symm
    | exact rgU_c (fun j hj => (e3 j hj).symm) _ (Nat.le_refl _)
theorem xt_swap_209 (hS : m_S M K L R) {I1 : Nat → Nat → Int32} {z : Int32} (ez : z.toNatClampNeg = m) (hz : 2 ≤ z ∧ z ≤ 5) (hy : ∀ k, k < m → (0 ≤ g k ∧ g k < 30) ∧ (0 ≤ Y 20 (g k).toNatClampNeg ∧ Y 20 (g k).toNatClampNeg ≤ 5) ∧ (0 ≤ Y 21 (g k).toNatClampNeg ∧ Y 21 (g k).toNatClampNeg ≤ 199)) (hP : ∀ J i, mF M c I1 J → th M I0 J3 W1 J Y → (∀ k, k < m → J (M + 48) k = g k) → J M 74 = z → (∀ k, k < m → J (M + 49) k = Y 20 (g k).toNatClampNeg ∧ J (M + 50) k = Y 21 (g k).toNatClampNeg) → a_at d (a_xm a_m255) 68 [some (a_rf M), some (.int i), none, none] [] (n, t, K, L, J, R) P) : ∀ i : Int32, i ≤ 5 → ∀ J, 0 ≤ i → i ≤ z → mF M c I1 J → th M I0 J3 W1 J Y → (∀ k, k < m → J (M + 48) k = g k) → J M 74 = z → (∀ k, k < i.toNatClampNeg → J (M + 49) k = Y 20 (g k).toNatClampNeg ∧ J (M + 50) k = Y 21 (g k).toNatClampNeg) → a_at d (a_xm a_m255) 20 [some (a_rf M), some (.int i), none, none] [] (n, t, K, L, J, R) P := by
  refine up_ind 5 (fun i hk ih => ?_)
  intro J q0 q1 hF hg ra st ob
  rw [q255_20]
  by_cases ci : i < z
  · obtain ⟨t1, t2, t3, t4⟩ := lp_st q0 ci
    have him : i.toNatClampNeg < m := by rw [← ez]; exact cl_lt q0 ci
    have hi5 : i < 5 := Int32.lt_of_lt_of_le ci hz.2
    have i6 : 0 ≤ i ∧ i < 6 := ⟨q0, Int32.lt_trans hi5 (by decide)⟩
    obtain ⟨g30, b20, b21⟩ := hy _ him
    have e48 := ra _ him
    have f20 : J (M + 20) (g i.toNatClampNeg).toNatClampNeg = Y 20 (g i.toNatClampNeg).toNatClampNeg := hg.1.2.2.1 20 _ (by unfold ps1; omega)
    have f21 : J (M + 21) (g i.toNatClampNeg).toNatClampNeg = Y 21 (g i.toNatClampNeg).toNatClampNeg := hg.1.2.2.1 21 _ (by unfold ps1; omega)
    have c' : ¬ z ≤ i := Int32.not_le.mpr ci
    have r20 : (-9 : Int32) ≤ Y 20 (g i.toNatClampNeg).toNatClampNeg ∧ Y 20 (g i.toNatClampNeg).toNatClampNeg ≤ 5 := ⟨Int32.le_trans (by decide) b20.1, b20.2⟩
    have r21 : (-9 : Int32) ≤ Y 21 (g i.toNatClampNeg).toNatClampNeg ∧ Y 21 (g i.toNatClampNeg).toNatClampNeg ≤ 200 := ⟨Int32.le_trans (by decide) b21.1, Int32.le_trans b21.2 (by decide)⟩
    have hp := ih hi5 (a_ui (a_ui J (M + 49) i.toNatClampNeg (Y 20 (g i.toNatClampNeg).toNatClampNeg)) (M + 50) i.toNatClampNeg (Y 21 (g i.toNatClampNeg).toNatClampNeg)) t2 t3 (sF_oldShift (sF_oldBench hF r20) r21) (th_ui (th_ui hg (sR_oldBench hg.1.1 r20) (by omega) ⟨by unfold ps1; omega, by omega⟩ (by omega)) (sR_oldShift (sR_oldBench hg.1.1 r20) r21) (by omega) ⟨by unfold ps1; omega, by omega⟩ (by omega)) (fun k hk => by rw [ui_ap, if_neg (by omega), ui_ap, if_neg (by omega)]; exact ra k hk) (by rw [ui_ap, if_neg (by omega), ui_ap, if_neg (by omega)]; exact st) (fun k hk => by
      rw [t4] at hk
      rw [ui_ap, if_neg (by omega), ui_ap, ui_ap, ui_ap, if_neg (by omega : ¬ (M + 50 = M + 49 ∧ k = i.toNatClampNeg))]
      by_cases e : k = i.toNatClampNeg
      · rw [if_pos ⟨rfl, e⟩, if_pos ⟨rfl, e⟩, e]
        exact ⟨rfl, rfl⟩
      · rw [if_neg (fun q => e q.2), if_neg (fun q => e q.2)]
        exact ob k (by omega))
    ((try clear ih); (try clear hP); (try clear hy); (try clear hF); (try clear hg); (try clear ra); (try clear ob))
    simp only [q255_21, q255_22, q255_25, q255_28, q255_29, q255_32, q255_33, q255_34, q255_37, q255_38, q255_41, q255_42, q255_43, q255_44, q255_45, q255_46, q255_49, q255_50, q255_51, q255_54, q255_55, q255_58, q255_59, q255_60, q255_61, q255_62, q255_65, m_0 hS, m_K hS, mR_oldBench hS, mK_oldBench hS, mL_oldBench hS, mR_atBench hS, mK_atBench hS, mL_atBench hS, mR_ringAsk hS, mK_ringAsk hS, mL_ringAsk hS, mR_oldShift hS, mK_oldShift hS, mL_oldShift hS, mR_atShift hS, mK_atShift hS, mL_atShift hS, as_nil, as_i, as_r, Nat.reduceAdd, Nat.reduceLeDiff, z_eq0, z_eq1, z_or, z_em, Classical.not_not, not_false_eq_true, not_true_eq_false, true_and, and_true, false_and, and_false, and_self, true_implies, false_implies, implies_true, Option.toList_some, Option.toList_none, List.cons_append, List.nil_append, Nat.add_eq_zero_iff, a_nl_i, a_nl_r, a_nl_n, true_or, or_true, eq_self, ok_4, ok_5, ok_6, ok_7, ok_9, ok_10, ok_20, ok_21, ok_24, ok_30, ok_48, ok_50, ok_60, ok_80, ok_120, ok_180, ok_192, ok_200, ok_900, ok_1000, ok_84000, ui_ap, ne_MM, ne_M0, ne_0M, Nat.reduceEqDiff, reduceIte, if_true, if_false, st, c', e48, f20, f21, i6]
    try simp only [true_and, and_true, true_implies, false_implies, implies_true, not_true_eq_false, not_false_eq_true]
    first
      | exact hp
      | (repeat refine And.intro (by grind) ?_
         exact hp)
      | grind
  · have e := (lp_end q1 ci).2
    have hp := hP J i hF hg ra st (by rw [e, ez] at ob; exact ob)
    have c' : z ≤ i := Int32.not_lt.mp ci
    ((try clear ih); (try clear hP); (try clear hy); (try clear hF); (try clear hg); (try clear ra); (try clear ob))
    simp only [q255_21, q255_22, q255_25, m_0 hS, m_K hS, as_nil, as_i, as_r, Nat.reduceAdd, Nat.reduceLeDiff, z_eq0, z_eq1, z_or, z_em, Classical.not_not, not_false_eq_true, not_true_eq_false, true_and, and_true, false_and, and_false, and_self, true_implies, false_implies, implies_true, Option.toList_some, Option.toList_none, List.cons_append, List.nil_append, Nat.add_eq_zero_iff, a_nl_i, a_nl_r, a_nl_n, true_or, or_true, eq_self, ok_4, ok_5, ok_6, ok_7, ok_9, ok_10, ok_20, ok_21, ok_24, ok_30, ok_48, ok_50, ok_60, ok_80, ok_120, ok_180, ok_192, ok_200, ok_900, ok_1000, ok_84000, ui_ap, ne_MM, ne_M0, ne_0M, Nat.reduceEqDiff, reduceIte, if_true, if_false, st, c']
    try simp only [true_and, and_true, true_implies, false_implies, implies_true, not_true_eq_false, not_false_eq_true]
    first
      | exact hp
      | grind
theorem xt_swap_709 (hS : m_S M K L R) {I1 : Nat → Nat → Int32} {z : Int32} (ez : z.toNatClampNeg = m) (hz : 2 ≤ z ∧ z ≤ 5) (hc : c + 40 ≤ 84000) (hy : ∀ k, k < m → (0 ≤ g k ∧ g k < 30)) (ty : tyP Y m g) (hi0 : inP Y) (h10 : ∀ j, 0 ≤ Y 10 j ∧ Y 10 j ≤ 4) (hP : ∀ J i, mF M (c + 20) I1 J → th M I0 J3 W1 J (rgU g Y m) → (∀ k, k < m → J (M + 48) k = g k) → J M 74 = z → (∀ k, k < m → J (M + 49) k = Y 20 (g k).toNatClampNeg ∧ J (M + 50) k = Y 21 (g k).toNatClampNeg) → a_at (d + 12) (a_xm a_m255) 94 [some (a_rf M), some (.int i), none, none] [] (n, t, K, L, J, R) P) : ∀ i : Int32, i ≤ 5 → ∀ J, 0 ≤ i → i ≤ z → mF M (c + 4 * i.toNatClampNeg) I1 J → th M I0 J3 W1 J (rgU g Y i.toNatClampNeg) → (∀ k, k < m → J (M + 48) k = g k) → J M 74 = z → (∀ k, k < m → J (M + 49) k = Y 20 (g k).toNatClampNeg ∧ J (M + 50) k = Y 21 (g k).toNatClampNeg) → a_at (d + 12) (a_xm a_m255) 70 [some (a_rf M), some (.int i), none, none] [] (n, t, K, L, J, R) P := by
  refine up_ind 5 (fun i hk ih => ?_)
  intro J q0 q1 hF hg ra st ob
  have i5 : i.toNatClampNeg < 6 := cl_lt (j := 6) q0 (Int32.lt_of_le_of_lt hk (by decide))
  rw [q255_70]
  by_cases ci : i < z
  · obtain ⟨t1, t2, t3, t4⟩ := lp_st q0 ci
    have him : i.toNatClampNeg < m := by rw [← ez]; exact cl_lt q0 ci
    have hi5 : i < 5 := Int32.lt_of_lt_of_le ci hz.2
    have i6 : 0 ≤ i ∧ i < 6 := ⟨q0, Int32.lt_trans hi5 (by decide)⟩
    have g30 := hy _ him
    have e48 := ra _ him
    have c' : ¬ z ≤ i := Int32.not_le.mpr ci
    have hcall := xh_takeFrom (d := d + 10) (n := n) (t := t) (K := K) (L := L) (R := R) hS hF (by omega) g30 (P := fun r' h' => a_at (d + 12) (a_xm a_m255) 88 [some (a_rf M), some (.int i), none, none] (r'.toList ++ []) h' P) (fun J2 g1 _ y2 tk2 => by
      have sU := rgU_s (g := g) (Y := Y) i.toNatClampNeg
      have o20 := rgU_o (g := g) (Y := Y) (q := 20) (j := (g i.toNatClampNeg).toNatClampNeg) i.toNatClampNeg (fun k hk e => by have := ty.2.1 _ _ him (by omega) e; omega)
      have hg2 := th_un hg (fun j => by rw [sU 10 j (by unfold ss ps1; omega)]; exact h10 j) (inP_rgU hi0 _) g30 (by rw [sU 0 17 (by unfold ss ps1; omega)]; exact (ty.1 _ him).1.2) (by rw [o20]; exact (ty.1 _ him).2) y2 tk2
      have keep : ∀ k j, k ≤ 52 → ¬ mk0 k j → ¬ k = 20 ∧ ¬ k = 21 → J2 (M + k) j = J (M + k) j := fun k j h1 h2 h3 => yR_k y2 h1 h2 (un_o (Or.inl h3))
      have hp := ih hi5 J2 t2 t3 (mF_le g1 (by rw [t4]; omega)) (by rw [t4]; exact hg2) (fun k hk => (keep 48 k (by omega) (by unfold mk0; omega) (by omega)).trans (ra k hk)) ((keep 0 74 (by omega) (by unfold mk0; omega) (by omega)).trans st) (fun k hk => ⟨(keep 49 k (by omega) (by unfold mk0; omega) (by omega)).trans (ob k hk).1, (keep 50 k (by omega) (by unfold mk0; omega) (by omega)).trans (ob k hk).2⟩)
      ((try clear ih); (try clear hP); (try clear hy); (try clear hF); (try clear hg); (try clear ra); (try clear ob); (try clear g1); (try clear y2); (try clear hg2); (try clear keep))
      simp only [q255_88, q255_91, as_nil, as_i, as_r, Nat.reduceAdd, Nat.reduceLeDiff, z_eq0, z_eq1, z_or, z_em, Classical.not_not, not_false_eq_true, not_true_eq_false, true_and, and_true, false_and, and_false, and_self, true_implies, false_implies, implies_true, Option.toList_some, Option.toList_none, List.cons_append, List.nil_append, Nat.add_eq_zero_iff, a_nl_i, a_nl_r, a_nl_n, true_or, or_true, eq_self, ok_4, ok_5, ok_6, ok_7, ok_9, ok_10, ok_20, ok_21, ok_24, ok_30, ok_48, ok_50, ok_60, ok_80, ok_120, ok_180, ok_192, ok_200, ok_900, ok_1000, ok_84000]
      exact hp)
    ((try clear ih); (try clear hP); (try clear hy); (try clear hF); (try clear hg); (try clear ra); (try clear ob))
    simp only [q255_71, q255_72, q255_75, q255_78, q255_79, q255_80, q255_83, q255_84, q255_85, m_0 hS, m_K hS, mR_ringAsk hS, mK_ringAsk hS, mL_ringAsk hS, as_nil, as_i, as_r, Nat.reduceAdd, Nat.reduceLeDiff, z_eq0, z_eq1, z_or, z_em, Classical.not_not, not_false_eq_true, not_true_eq_false, true_and, and_true, false_and, and_false, and_self, true_implies, false_implies, implies_true, Option.toList_some, Option.toList_none, List.cons_append, List.nil_append, Nat.add_eq_zero_iff, a_nl_i, a_nl_r, a_nl_n, true_or, or_true, eq_self, ok_4, ok_5, ok_6, ok_7, ok_9, ok_10, ok_20, ok_21, ok_24, ok_30, ok_48, ok_50, ok_60, ok_80, ok_120, ok_180, ok_192, ok_200, ok_900, ok_1000, ok_84000, st, c', e48, i6]
    try simp only [true_and, and_true, true_implies, false_implies, implies_true, not_true_eq_false, not_false_eq_true]
    first
      | exact hcall
      | (repeat refine And.intro (by grind) ?_
         exact hcall)
      | grind
  · have e := (lp_end q1 ci).2
    have hp := hP J i (mF_le hF (by omega)) (by rw [e, ez] at hg; exact hg) ra st ob
    have c' : z ≤ i := Int32.not_lt.mp ci
    ((try clear ih); (try clear hP); (try clear hy); (try clear hF); (try clear hg); (try clear ra); (try clear ob))
    simp only [q255_71, q255_72, q255_75, m_0 hS, m_K hS, as_nil, as_i, as_r, Nat.reduceAdd, Nat.reduceLeDiff, z_eq0, z_eq1, z_or, z_em, Classical.not_not, not_false_eq_true, not_true_eq_false, true_and, and_true, false_and, and_false, and_self, true_implies, false_implies, implies_true, Option.toList_some, Option.toList_none, List.cons_append, List.nil_append, Nat.add_eq_zero_iff, a_nl_i, a_nl_r, a_nl_n, true_or, or_true, eq_self, ok_4, ok_5, ok_6, ok_7, ok_9, ok_10, ok_20, ok_21, ok_24, ok_30, ok_48, ok_50, ok_60, ok_80, ok_120, ok_180, ok_192, ok_200, ok_900, ok_1000, ok_84000, st, c']
    try simp only [true_and, and_true, true_implies, false_implies, implies_true, not_true_eq_false, not_false_eq_true]
    first
      | exact hp
      | grind
theorem xt_swap_969 (hS : m_S M K L R) {I1 : Nat → Nat → Int32} (hm : okY Y) {z : Int32} (ez : z.toNatClampNeg = m) (hz : 2 ≤ z ∧ z ≤ 5) (hc : c + 40 ≤ 84000) (ty : tyP Y m g) (hr : ∀ k, k < m → rgF Y m g k) (hb5 : ∀ k, k < m → (0 ≤ Y 20 (g k).toNatClampNeg ∧ Y 20 (g k).toNatClampNeg ≤ 5) ∧ (0 ≤ Y 21 (g k).toNatClampNeg ∧ Y 21 (g k).toNatClampNeg ≤ 199) ∧ Y 21 (g k).toNatClampNeg + Y 10 (g 0).toNatClampNeg ≤ 200) (hP : ∀ J, mF M (c + 40) I1 J → gh M I0 J3 W1 J (swS g m Y m) → P (some (.int z)) (n, t, K, L, J, R)) : ∀ i : Int32, i ≤ 5 → ∀ J x y, 0 ≤ i → i ≤ z → mF M (c + 20 + 4 * i.toNatClampNeg) I1 J → gh M I0 J3 W1 J (swS g m Y i.toNatClampNeg) → (∀ k, k < m → J (M + 48) k = g k) → J M 74 = z → (∀ k, k < m → J (M + 49) k = Y 20 (g k).toNatClampNeg ∧ J (M + 50) k = Y 21 (g k).toNatClampNeg) → a_at (d + 12) (a_xm a_m255) 96 [some (a_rf M), some (.int i), x, y] [] (n, t, K, L, J, R) P := by
  have h17 := hm.1.2.2.2.2.1
  refine up_ind 5 (fun i hk ih => ?_)
  intro J x y q0 q1 hF hg ra st ob
  have i5 : i.toNatClampNeg < 6 := cl_lt (j := 6) q0 (Int32.lt_of_le_of_lt hk (by decide))
  rw [q255_96]
  by_cases ci : i < z
  · obtain ⟨t1, t2, t3, t4⟩ := lp_st q0 ci
    have him : i.toNatClampNeg < m := by rw [← ez]; exact cl_lt q0 ci
    have hi5 : i < 5 := Int32.lt_of_lt_of_le ci hz.2
    have in5 : i.toNatClampNeg < 5 := cl_lt q0 hi5
    have i6 : 0 ≤ i ∧ i < 6 := ⟨q0, Int32.lt_trans hi5 (by decide)⟩
    have hnm := nxN_lt (m := m) him
    obtain ⟨⟨a0, a1⟩, -⟩ := ty.1 _ him
    have g30 : 0 ≤ g i.toNatClampNeg ∧ g i.toNatClampNeg < 30 := ⟨a0, Int32.lt_of_lt_of_le a1 h17.2⟩
    have e48 := ra _ him
    have c' : ¬ z ≤ i := Int32.not_le.mpr ci
    obtain ⟨bb, bs, bl⟩ := hb5 _ hnm
    have bW : sbE Y (swS g m Y i.toNatClampNeg) := sw_b _
    have o10 : (swS g m Y i.toNatClampNeg) 10 = Y 10 := sbE_r bW (by omega)
    have e17 : (swS g m Y i.toNatClampNeg) 0 17 = Y 0 17 := by
      rw [sw_row (g := g) (m := m) (Y := Y) (q := 0) (by decide) i.toNatClampNeg]
      exact ss_tr (rgU_s m) (rgP_s _) 0 17 (by unfold ss ps1; omega)
    have inW : inP (swS g m Y i.toNatClampNeg) := sw_in hm.2.1.2.2.2.1 ty hb5 _ (by omega)
    have mW : moY (swS g m Y i.toNatClampNeg) := moY_b hm.2.1 bW inW
    have h121 : ∀ j : Int32, 0 ≤ j ∧ j < 6 → j.toNatClampNeg = (nxN m i.toNatClampNeg) → ∀ y, a_at (d + 12) (a_xm a_m255) 122 [some (a_rf M), some (.int i), some (.int j), y] [] (n, t, K, L, J, R) P := fun j hj ej y => by
      have x49 : J (M + 49) j.toNatClampNeg = (Y 20 (g (nxN m i.toNatClampNeg)).toNatClampNeg) := by rw [ej]; exact (ob _ hnm).1
      have x50 : J (M + 50) j.toNatClampNeg = (Y 21 (g (nxN m i.toNatClampNeg)).toNatClampNeg) := by rw [ej]; exact (ob _ hnm).2
      have hcall := xh_giveTo (d := d + 1) (n := n) (t := t) (K := K) (L := L) (R := R) hS (moP_of hg.1.1 mW hg.1.2.2) hF (by omega) g30 bb ⟨Int32.le_trans (by decide) bs.1, Int32.le_trans bs.2 (by decide)⟩ (P := fun r' h' => a_at (d + 12) (a_xm a_m255) 144 [some (a_rf M), some (.int i), some (.int j), y] (r'.toList ++ []) h' P) (fun J2 g1 y2 tk2 => by
        have e10 := ty.2.2 _ him
        have hsl : (Y 21 (g (nxN m i.toNatClampNeg)).toNatClampNeg) + (swS g m Y i.toNatClampNeg) 10 (g i.toNatClampNeg).toNatClampNeg ≤ 200 := by rw [o10, e10]; exact bl
        have r20 : (swS g m Y i.toNatClampNeg) 20 = (rgP g m Y (rgU g Y m) i.toNatClampNeg) 20 := sw_row (by decide) _
        have r21 : (swS g m Y i.toNatClampNeg) 21 = (rgP g m Y (rgU g Y m) i.toNatClampNeg) 21 := sw_row (by decide) _
        have r10 : (swS g m Y i.toNatClampNeg) 10 = (rgP g m Y (rgU g Y m) i.toNatClampNeg) 10 := sw_row (by decide) _
        have r0 : (swS g m Y i.toNatClampNeg) 0 = (rgP g m Y (rgU g Y m) i.toNatClampNeg) 0 := sw_row (by decide) _
        have un : ¬ 0 ≤ (swS g m Y i.toNatClampNeg) 20 (g i.toNatClampNeg).toNatClampNeg := by
          rw [r20, rgP_o (g := g) (by decide) i.toNatClampNeg (fun k hk e => by have := ty.2.1 _ _ him (by omega) e; omega), rgU_at (g := g) (Or.inl rfl) m i.toNatClampNeg him]
          decide
        have w17 : 0 ≤ (rgP g m Y (rgU g Y m) i.toNatClampNeg) 0 17 := by rw [← r0, e17]; exact h17.1
        have fr : ∀ t, (Y 21 (g (nxN m i.toNatClampNeg)).toNatClampNeg) ≤ t → t < (Y 21 (g (nxN m i.toNatClampNeg)).toNatClampNeg) + (swS g m Y i.toNatClampNeg) 10 (g i.toNatClampNeg).toNatClampNeg → ∀ x : Int32, 0 ≤ x → x < (swS g m Y i.toNatClampNeg) 0 17 → ¬ x = g i.toNatClampNeg → ¬ hoY (swS g m Y i.toNatClampNeg) x (Y 20 (g (nxN m i.toNatClampNeg)).toNatClampNeg) t := fun t t0 t1 x x0 x1 xa q => by
          rw [ho_e (W := (rgP g m Y (rgU g Y m) i.toNatClampNeg)) (fun k hk => by rcases hk with h | h | h <;> subst h <;> simp only [r20, r21, r10])] at q
          rw [r0] at x1
          rw [r10] at t1 hsl
          exact ft_no w17 (by rw [rg_10]; exact hm.1.2.1 _) ⟨bs.1, Int32.le_trans bs.2 (by decide)⟩ hsl (hr _ him) t t0 t1 x x0 x1 xa q
        have hg2 := gh_put hg (by rw [e17]; exact h17) (by rw [o10]; exact hm.1.2.1) g30 (by rw [e17]; exact a1) un bb bs hsl fr y2 tk2
        have keep : ∀ k j, k ≤ 52 → ¬ mk0 k j → ¬ k = 20 ∧ ¬ k = 21 ∧ ¬ k = 22 → J2 (M + k) j = J (M + k) j := fun k j h1 h2 h3 => yR_k y2 h1 h2 (by unfold puY; rw [if_neg (by omega), if_neg (by omega), if_neg (by omega)]; rfl)
        have k48 : J2 (M + 48) i.toNatClampNeg = g i.toNatClampNeg := (keep 48 _ (by omega) (by unfold mk0; omega) (by omega)).trans e48
        have hl := xt_swap_146 (d := d + 12) (n := n) (t := t) (K := K) (L := L) (R := R) (P := P) (c := c + 20 + 4 * i.toNatClampNeg + 4) (j := j) hS g30 i6 k48 (fun J5 hF3 h3 => by
          have hx3 : ∀ k q, ¬ k = 47 → J5 (M + k) q = J2 (M + k) q := fun k q hk => by rw [h3, if_neg (by omega)]
          have hg3 : gh M I0 J3 W1 J5 (clW (puY (swS g m Y i.toNatClampNeg) (g i.toNatClampNeg) (Y 20 (g (nxN m i.toNatClampNeg)).toNatClampNeg) (Y 21 (g (nxN m i.toNatClampNeg)).toNatClampNeg)) (g i.toNatClampNeg)) := by
            refine ⟨⟨hF3.1.1, fun x q hx => by rw [h3, if_neg (by omega)]; exact hg2.1.2.1 x q hx, ?_⟩, ?_⟩
            rotate_left
            · obtain ⟨z1, z2, z3⟩ := gvQ_fr (J2 := J5) hg2.2 (fun x q hx => by rw [h3, if_neg (fun e => by unfold hC at hx; omega)])
              exact ⟨z1, z2, gv_w z3 (cl_no (by omega)) (fun k hk => funext (fun j => cl_no (by omega)))⟩
            have e : yv M J5 = clW (yv M J2) (g i.toNatClampNeg) := by
              funext k q
              show J5 (M + k) q = _
              rw [h3]
              unfold clW
              by_cases e : k = 47 ∧ 30 * (g i.toNatClampNeg).toNatClampNeg ≤ q ∧ q < 30 * (g i.toNatClampNeg).toNatClampNeg + 30
              · rw [if_pos e, if_pos ⟨by omega, e.2⟩]
              · rw [if_neg e, if_neg (by omega)]
                rfl
            rw [e]
            exact cl_p hg2.1.2.2
          have hp := ih hi5 J5 (some (.int j)) (some (.int 30)) t2 t3 (mF_le hF3 (by rw [t4]; omega)) (by rw [t4]; exact hg3) (fun k hk => (hx3 48 k (by omega)).trans ((keep 48 k (by omega) (by unfold mk0; omega) (by omega)).trans (ra k hk))) ((hx3 0 74 (by omega)).trans ((keep 0 74 (by omega) (by unfold mk0; omega) (by omega)).trans st)) (fun k hk => ⟨(hx3 49 k (by omega)).trans ((keep 49 k (by omega) (by unfold mk0; omega) (by omega)).trans (ob k hk).1), (hx3 50 k (by omega)).trans ((keep 50 k (by omega) (by unfold mk0; omega) (by omega)).trans (ob k hk).2)⟩)
          ((try clear ih); (try clear hP); (try clear hF); (try clear hg); (try clear ra); (try clear ob); (try clear g1); (try clear y2); (try clear hg2); (try clear keep); (try clear h3); (try clear hg3); (try clear hx3); (try clear ty); (try clear hb5); (try clear hm); (try clear mW))
          simp only [q255_175, q255_178, as_nil, as_i, as_r, Nat.reduceAdd, Nat.reduceLeDiff, z_eq0, z_eq1, z_or, z_em, Classical.not_not, not_false_eq_true, not_true_eq_false, true_and, and_true, false_and, and_false, and_self, true_implies, false_implies, implies_true, Option.toList_some, Option.toList_none, List.cons_append, List.nil_append, Nat.add_eq_zero_iff, a_nl_i, a_nl_r, a_nl_n, true_or, or_true, eq_self, ok_4, ok_5, ok_6, ok_7, ok_9, ok_10, ok_20, ok_21, ok_24, ok_30, ok_48, ok_50, ok_60, ok_80, ok_120, ok_180, ok_192, ok_200, ok_900, ok_1000, ok_84000]
          exact hp) 0 (by decide) J2 (by decide) g1 (fun x q => by rw [show (0 : Int32).toNatClampNeg = 0 from rfl, if_neg (by omega)])
        ((try clear ih); (try clear hP); (try clear hF); (try clear hg); (try clear ra); (try clear ob); (try clear g1); (try clear y2); (try clear hg2); (try clear keep); (try clear ty); (try clear hb5); (try clear hm); (try clear mW))
        simp only [q255_144, q255_145, as_nil, as_i, as_r, Nat.reduceAdd, Nat.reduceLeDiff, z_eq0, z_eq1, z_or, z_em, Classical.not_not, not_false_eq_true, not_true_eq_false, true_and, and_true, false_and, and_false, and_self, true_implies, false_implies, implies_true, Option.toList_some, Option.toList_none, List.cons_append, List.nil_append, Nat.add_eq_zero_iff, a_nl_i, a_nl_r, a_nl_n, true_or, or_true, eq_self, ok_4, ok_5, ok_6, ok_7, ok_9, ok_10, ok_20, ok_21, ok_24, ok_30, ok_48, ok_50, ok_60, ok_80, ok_120, ok_180, ok_192, ok_200, ok_900, ok_1000, ok_84000]
        exact hl)
      ((try clear ih); (try clear hP); (try clear hF); (try clear hg); (try clear ra); (try clear ob); (try clear ty); (try clear hb5); (try clear hm); (try clear mW))
      simp only [q255_122, q255_123, q255_124, q255_127, q255_128, q255_129, q255_130, q255_133, q255_134, q255_135, q255_136, q255_139, q255_140, q255_141, m_0 hS, m_K hS, mR_ringAsk hS, mK_ringAsk hS, mL_ringAsk hS, mR_oldBench hS, mK_oldBench hS, mL_oldBench hS, mR_oldShift hS, mK_oldShift hS, mL_oldShift hS, as_nil, as_i, as_r, Nat.reduceAdd, Nat.reduceLeDiff, z_eq0, z_eq1, z_or, z_em, Classical.not_not, not_false_eq_true, not_true_eq_false, true_and, and_true, false_and, and_false, and_self, true_implies, false_implies, implies_true, Option.toList_some, Option.toList_none, List.cons_append, List.nil_append, Nat.add_eq_zero_iff, a_nl_i, a_nl_r, a_nl_n, true_or, or_true, eq_self, ok_4, ok_5, ok_6, ok_7, ok_9, ok_10, ok_20, ok_21, ok_24, ok_30, ok_48, ok_50, ok_60, ok_80, ok_120, ok_180, ok_192, ok_200, ok_900, ok_1000, ok_84000, e48, x49, x50, i6, hj]
      try simp only [true_and, and_true, true_implies, false_implies, implies_true, not_true_eq_false, not_false_eq_true]
      first
        | exact hcall
        | (repeat refine And.intro (by grind) ?_
           exact hcall)
        | grind
    by_cases c2 : i + 1 < z
    · have hp := h121 (i + 1) ⟨t2, Int32.lt_trans (Int32.lt_of_lt_of_le c2 hz.2) (by decide)⟩ (by
        rw [t4]
        unfold nxN
        rw [if_pos]
        rw [← ez, ← t4]
        exact cl_lt t2 c2)
      ((try clear ih); (try clear hP); (try clear hF); (try clear hg); (try clear ra); (try clear ob); (try clear ty); (try clear hb5); (try clear hm); (try clear mW); (try clear h121))
      simp only [q255_97, q255_98, q255_101, q255_104, q255_105, q255_106, q255_107, q255_108, q255_111, q255_114, q255_115, q255_116, q255_117, q255_120, q255_121, m_0 hS, m_K hS, as_nil, as_i, as_r, Nat.reduceAdd, Nat.reduceLeDiff, z_eq0, z_eq1, z_or, z_em, Classical.not_not, not_false_eq_true, not_true_eq_false, true_and, and_true, false_and, and_false, and_self, true_implies, false_implies, implies_true, Option.toList_some, Option.toList_none, List.cons_append, List.nil_append, Nat.add_eq_zero_iff, a_nl_i, a_nl_r, a_nl_n, true_or, or_true, eq_self, ok_4, ok_5, ok_6, ok_7, ok_9, ok_10, ok_20, ok_21, ok_24, ok_30, ok_48, ok_50, ok_60, ok_80, ok_120, ok_180, ok_192, ok_200, ok_900, ok_1000, ok_84000, st, c', c2]
      try simp only [true_and, and_true, true_implies, false_implies, implies_true, not_true_eq_false, not_false_eq_true]
      first
        | exact hp _
        | grind
    · have hp := h121 0 (by decide) (by
        rw [show (0 : Int32).toNatClampNeg = 0 from rfl]
        unfold nxN
        rw [if_neg]
        have e : i + 1 = z := by ((try clear ih); (try clear hP); (try clear hF); (try clear hg); (try clear ra); (try clear ob); (try clear ty); (try clear hb5); (try clear hm); (try clear mW); (try clear h121)); grind
        rw [← ez, ← t4, e]
        omega)
      ((try clear ih); (try clear hP); (try clear hF); (try clear hg); (try clear ra); (try clear ob); (try clear ty); (try clear hb5); (try clear hm); (try clear mW); (try clear h121))
      simp only [q255_97, q255_98, q255_101, q255_104, q255_105, q255_106, q255_107, q255_108, q255_111, q255_114, q255_115, q255_116, q255_117, q255_120, q255_121, m_0 hS, m_K hS, as_nil, as_i, as_r, Nat.reduceAdd, Nat.reduceLeDiff, z_eq0, z_eq1, z_or, z_em, Classical.not_not, not_false_eq_true, not_true_eq_false, true_and, and_true, false_and, and_false, and_self, true_implies, false_implies, implies_true, Option.toList_some, Option.toList_none, List.cons_append, List.nil_append, Nat.add_eq_zero_iff, a_nl_i, a_nl_r, a_nl_n, true_or, or_true, eq_self, ok_4, ok_5, ok_6, ok_7, ok_9, ok_10, ok_20, ok_21, ok_24, ok_30, ok_48, ok_50, ok_60, ok_80, ok_120, ok_180, ok_192, ok_200, ok_900, ok_1000, ok_84000, st, c', c2]
      try simp only [true_and, and_true, true_implies, false_implies, implies_true, not_true_eq_false, not_false_eq_true]
      first
        | exact hp _
        | grind
  · have e := (lp_end q1 ci).2
    have hp := hP J (mF_le hF (by omega)) (by rw [e, ez] at hg; exact hg)
    have c' : z ≤ i := Int32.not_lt.mp ci
    ((try clear ih); (try clear hP); (try clear hF); (try clear hg); (try clear ra); (try clear ob); (try clear ty); (try clear hb5); (try clear hm))
    simp only [q255_97, q255_98, q255_101, q255_181, q255_182, q255_185, m_0 hS, m_K hS, as_nil, as_i, as_r, Nat.reduceAdd, Nat.reduceLeDiff, z_eq0, z_eq1, z_or, z_em, Classical.not_not, not_false_eq_true, not_true_eq_false, true_and, and_true, false_and, and_false, and_self, true_implies, false_implies, implies_true, Option.toList_some, Option.toList_none, List.cons_append, List.nil_append, Nat.add_eq_zero_iff, a_nl_i, a_nl_r, a_nl_n, true_or, or_true, eq_self, ok_4, ok_5, ok_6, ok_7, ok_9, ok_10, ok_20, ok_21, ok_24, ok_30, ok_48, ok_50, ok_60, ok_80, ok_120, ok_180, ok_192, ok_200, ok_900, ok_1000, ok_84000, st, c']
    try simp only [true_and, and_true, true_implies, false_implies, implies_true, not_true_eq_false, not_false_eq_true]
    first
      | exact hp
      | grind
theorem xh_findRing (hS : m_S M K L R) {I1 : Nat → Nat → Int32} (hm : okY Y) (hF : mF M c I1 I) (hg : gs M I0 I Y) (hP : ∀ J, mF M c I1 J → gs M I0 J Y → (J M 74 = 0 ∨ (2 ≤ J M 74 ∧ J M 74 ≤ 5)) → rgR Y (J M 74).toNatClampNeg (J (M + 48)) → (∀ x j, hC M x j → J x j = I x j) → P none (n, t, K, L, J, R)) : a_does (d + 12) 252 [a_rf M] (n, t, K, L, I, R) P := by
  have h1 := xt_findRing (d := d) (n := n) (t := t) (K := K) (L := L) (R := R) hS hm hF hg (P := fun r h' => r = none ∧ ∃ J, h' = (n, t, K, L, J, R) ∧ mF M c I1 J ∧ gs M I0 J Y ∧ (J M 74 = 0 ∨ (2 ≤ J M 74 ∧ J M 74 ≤ 5)) ∧ rgR Y (J M 74).toNatClampNeg (J (M + 48))) (fun J q1 q2 q3 q4 => ⟨rfl, J, rfl, q1, q2, q3, q4⟩)
  have h2 := ct_findRingh (d := d) (n := n) (t := t) (K := K) (L := L) (R := R) (c := c) (I0 := I) hS ⟨⟨hF.1.1, fun _ _ _ => rfl⟩, hF.2⟩ (P := fun _ h' => ∃ J, h' = (n, t, K, L, J, R) ∧ mFh M c I J) (fun J q _ _ => ⟨J, rfl, q⟩)
  refine (does_and h1 h2).weaken (fun r h' q => ?_)
  obtain ⟨⟨e1, J, e2, q1, q2, q3, q4⟩, J2, e3, q5⟩ := q
  subst e1
  subst e2
  cases e3
  exact hP J q1 q2 q3 q4 (fun x j p => q5.1.2 x j (by unfold eCh eC; unfold hC at p; omega))
theorem xp_swap9 (hS : m_S M K L R) {I1 : Nat → Nat → Int32} (hm : okY Y) {c : Nat} (hc : c + 130 ≤ 84000) (hF : mF M c I1 I) (hg : gs M I0 I Y) (hoe : eoM M I) (hN : hsN 6 (I M 0) (hdR M I) Y) {v : Int32} {Z : Nat → Nat → Int32} (ho : swO Y v Z) (hP : ∀ J W1, swW Y W1 → mF M (c + 120) I1 J → gs M I0 J Z → hxQ M I J Y W1 Z → P (some (.int v)) (n, t, K, L, J, R)) : a_does (d + 16) 255 [a_rf M] (n, t, K, L, I, R) P := by
  have h17 := hm.1.2.2.2.2.1
  have hl := xh_findRing (d := d + 3) (n := n) (t := t) (c := c) (K := K) (L := L) (R := R) hS hm hF hg (P := fun r' h' => a_at (d + 15) (a_xm a_m255) 4 [some (a_rf M), none, none, none] (r'.toList ++ []) h' P) (fun J hF2 hg2 hv hr eJ => by
    have hr0 := hr
    by_cases c1 : J M 74 = 0
    · have hso : swO Y (-3) Y := ⟨_, _, hr, Or.inl ⟨by rw [c1]; rfl, rfl, rfl⟩⟩
      obtain ⟨e1, e2⟩ := swO_u hso ho
      rw [e1, e2] at hP
      have hp := fun k : Nat => hP (a_ui J (M + 23) k (J (M + 23) k + 1)) Y ⟨_, _, hr, by rw [c1]; rfl⟩ (mF_le (sF_refused hF2) (by omega)) (gs_ui hg2 (sR_refused hg2.1) (by omega) ⟨by unfold ps1; omega, by omega⟩) (hq_ui (hq_fr (hq_0 hoe hN) eJ) (by omega))
      ((try clear hP); (try clear ho); (try clear hoe); (try clear hN); (try clear hm); (try clear hF); (try clear hg); (try clear hF2); (try clear hg2); (try clear hr); (try clear hso))
      simp only [q255_4, q255_5, q255_8, q255_11, q255_12, q255_14, q255_17, m_0 hS, m_K hS, sp_refuse_1 hS, sp_refuse_2 hS, sp_refuse_3 hS, sp_refuse_4 hS, sp_refuse_5 hS, sp_refuse_6 hS, as_nil, as_i, as_r, Nat.reduceAdd, Nat.reduceLeDiff, z_eq0, z_eq1, z_or, z_em, Classical.not_not, not_false_eq_true, not_true_eq_false, true_and, and_true, false_and, and_false, and_self, true_implies, false_implies, implies_true, Option.toList_some, Option.toList_none, List.cons_append, List.nil_append, Nat.add_eq_zero_iff, a_nl_i, a_nl_r, a_nl_n, true_or, or_true, eq_self, ok_4, ok_5, ok_6, ok_7, ok_9, ok_10, ok_20, ok_21, ok_24, ok_30, ok_48, ok_50, ok_60, ok_80, ok_120, ok_180, ok_192, ok_200, ok_900, ok_1000, ok_84000, c1]
      try simp only [true_and, and_true, true_implies, false_implies, implies_true, not_true_eq_false, not_false_eq_true]
      first
        | exact hp _
        | grind
    · have v25 := hv.resolve_left c1
      have v0 : 0 ≤ J M 74 := Int32.le_trans (by decide) v25.1
      have vn : 1 < (J M 74).toNatClampNeg := cl_lt (i := 1) (by decide) (Int32.lt_of_lt_of_le (by decide) v25.1)
      have hso : swO Y (J M 74) (swS (J (M + 48)) (J M 74).toNatClampNeg Y (J M 74).toNatClampNeg) := ⟨_, _, hr, Or.inr ⟨by omega, on_cl v0, rfl⟩⟩
      obtain ⟨e1, e2⟩ := swO_u hso ho
      rw [e1, e2] at hP
      rcases hr with ⟨e, -⟩ | hr2
      · omega
      · have ty := rg_ty hr2.2.1
        have hb5 := ok_b5 hm ty
        have hy : ∀ k, k < (J M 74).toNatClampNeg → (0 ≤ J (M + 48) k ∧ J (M + 48) k < 30) := fun k hk => ⟨(ty.1 k hk).1.1, Int32.lt_of_lt_of_le (ty.1 k hk).1.2 h17.2⟩
        have hl := xt_swap_209 (d := d + 15) (n := n) (t := t) (K := K) (L := L) (R := R) (P := P) (c := c) hS rfl v25 (fun k hk => ⟨hy k hk, (hb5 k hk).1, (hb5 k hk).2.1⟩) (fun J2 i2 hF3 hg3 ra3 st3 ob3 => by
          have hl := xt_swap_709 (d := d + 3) (n := n) (t := t) (K := K) (L := L) (R := R) (P := P) (c := c) (Y := Y) hS rfl v25 (by omega) hy ty hm.2.1.2.2.2.1 hm.1.2.1 (fun J4 i4 hF4 hg4 ra4 st4 ob4 => by
            have hl := xt_swap_969 (d := d + 3) (n := n) (t := t) (K := K) (L := L) (R := R) (P := P) (c := c) hS hm rfl v25 (by omega) ty hr2.2.1.2 hb5 (fun J5 hF5 hg5 => hP J5 _ ⟨_, _, hr0, rfl⟩ (mF_le hF5 (by omega)) hg5.1 (hq_tg hg4 hg5)) 0 (by decide) J4 none none (by decide) v0 hF4 (⟨hg4.1, hg4.2.1, rfl, gv_0 (by rw [hg4.2.2.1]; exact hg4.2.2.2.1)⟩ : gh M I0 J4 _ J4 _) ra4 st4 ob4
            ((try clear hP); (try clear ho); (try clear hoe); (try clear hN); (try clear hm); (try clear hF); (try clear hg); (try clear hF2); (try clear hg2); (try clear hr2); (try clear hso); (try clear ty); (try clear hb5); (try clear hy); (try clear hF3); (try clear hg3); (try clear ra3); (try clear ob3); (try clear hF4); (try clear hg4); (try clear ra4); (try clear ob4))
            simp only [q255_94, q255_95, as_nil, as_i, as_r, Nat.reduceAdd, Nat.reduceLeDiff, z_eq0, z_eq1, z_or, z_em, Classical.not_not, not_false_eq_true, not_true_eq_false, true_and, and_true, false_and, and_false, and_self, true_implies, false_implies, implies_true, Option.toList_some, Option.toList_none, List.cons_append, List.nil_append, Nat.add_eq_zero_iff, a_nl_i, a_nl_r, a_nl_n, true_or, or_true, eq_self, ok_4, ok_5, ok_6, ok_7, ok_9, ok_10, ok_20, ok_21, ok_24, ok_30, ok_48, ok_50, ok_60, ok_80, ok_120, ok_180, ok_192, ok_200, ok_900, ok_1000, ok_84000]
            exact hl) 0 (by decide) J2 (by decide) v0 hF3 hg3 ra3 st3 ob3
          ((try clear hP); (try clear ho); (try clear hoe); (try clear hN); (try clear hm); (try clear hF); (try clear hg); (try clear hF2); (try clear hg2); (try clear hr2); (try clear hso); (try clear ty); (try clear hb5); (try clear hy); (try clear hF3); (try clear hg3); (try clear ra3); (try clear ob3))
          simp only [q255_68, q255_69, as_nil, as_i, as_r, Nat.reduceAdd, Nat.reduceLeDiff, z_eq0, z_eq1, z_or, z_em, Classical.not_not, not_false_eq_true, not_true_eq_false, true_and, and_true, false_and, and_false, and_self, true_implies, false_implies, implies_true, Option.toList_some, Option.toList_none, List.cons_append, List.nil_append, Nat.add_eq_zero_iff, a_nl_i, a_nl_r, a_nl_n, true_or, or_true, eq_self, ok_4, ok_5, ok_6, ok_7, ok_9, ok_10, ok_20, ok_21, ok_24, ok_30, ok_48, ok_50, ok_60, ok_80, ok_120, ok_180, ok_192, ok_200, ok_900, ok_1000, ok_84000]
          exact hl) 0 (by decide) J (by decide) v0 hF2 (⟨hg2, tkQ_fr ⟨hoe, rfl, tk_00 hN⟩ eJ⟩ : th M I0 I Y J Y) (fun _ _ => rfl) rfl (fun k hk => absurd hk (Nat.not_lt_zero k))
        ((try clear hP); (try clear ho); (try clear hoe); (try clear hN); (try clear hm); (try clear hF); (try clear hg); (try clear hF2); (try clear hg2); (try clear hr2); (try clear hso); (try clear ty); (try clear hb5); (try clear hy))
        simp only [q255_4, q255_5, q255_8, q255_18, q255_19, m_0 hS, m_K hS, as_nil, as_i, as_r, Nat.reduceAdd, Nat.reduceLeDiff, z_eq0, z_eq1, z_or, z_em, Classical.not_not, not_false_eq_true, not_true_eq_false, true_and, and_true, false_and, and_false, and_self, true_implies, false_implies, implies_true, Option.toList_some, Option.toList_none, List.cons_append, List.nil_append, Nat.add_eq_zero_iff, a_nl_i, a_nl_r, a_nl_n, true_or, or_true, eq_self, ok_4, ok_5, ok_6, ok_7, ok_9, ok_10, ok_20, ok_21, ok_24, ok_30, ok_48, ok_50, ok_60, ok_80, ok_120, ok_180, ok_192, ok_200, ok_900, ok_1000, ok_84000, c1]
        try simp only [true_and, and_true, true_implies, false_implies, implies_true, not_true_eq_false, not_false_eq_true]
        first
          | exact hl
          | grind)
  ((try clear hP); (try clear ho); (try clear hoe); (try clear hN); (try clear hm); (try clear hF); (try clear hg))
  rw [a_enter1 (M := a_m255) rfl (a_cat_rf a_cat_nil) (show 1 ≤ 4 by decide)]
  show a_at _ (a_xm a_m255) 0 [some (a_rf M), none, none, none] [] _ _
  simp only [q255_0, q255_1, m_0 hS, m_K hS, as_nil, as_i, as_r, Nat.reduceAdd, Nat.reduceLeDiff, z_eq0, z_eq1, z_or, z_em, Classical.not_not, not_false_eq_true, not_true_eq_false, true_and, and_true, false_and, and_false, and_self, true_implies, false_implies, implies_true, Option.toList_some, Option.toList_none, List.cons_append, List.nil_append, Nat.add_eq_zero_iff, a_nl_i, a_nl_r, a_nl_n, true_or, or_true, eq_self, ok_4, ok_5, ok_6, ok_7, ok_9, ok_10, ok_20, ok_21, ok_24, ok_30, ok_48, ok_50, ok_60, ok_80, ok_120, ok_180, ok_192, ok_200, ok_900, ok_1000, ok_84000]
  try simp only [true_and, and_true, true_implies, false_implies, implies_true, not_true_eq_false, not_false_eq_true]
  first
    | exact hl
    | grind
end HD0
end

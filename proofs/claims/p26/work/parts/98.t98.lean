/-! the class: extend, just so -/
section Z98
variable {d n t C c : Nat} {K L : Nat → Nat} {I I0 J J0 J1 J2 : Nat → Nat → Int32} {R : Nat → Nat → Nat} {P : Option Value → AH → Prop}
variable {Y Z W : Nat → Nat → Int32} {R' R1 R2 : Nat → Nat → Nat} {g rch way : Nat → Int32} {r f e : Int32} {pl : Nat}
def enB (Y : Nat → Nat → Int32) (f : Int32) (pl : Nat) (x : Int32) : Int32 := if x.toNatClampNeg < pl then 8 * (f + Int32.ofNat x.toNatClampNeg / Y 0 6) + (Int32.ofNat x.toNatClampNeg - Int32.ofNat x.toNatClampNeg / Y 0 6 * Y 0 6) else -9
def sbH (C : Nat) (Y : Nat → Nat → Int32) (f : Int32) (pl mn : Nat) (B : bB) (J : Nat → Nat → Int32) : Prop := J (C + 27) 9 = B.1 ∧ (0 ≤ B.1 → ∀ k, k < mn → J (C + 34) k = enB Y f pl (B.2 k))
/-- the last place: none -/
theorem bsL_last {St : Type} {fit : St → Nat → Nat → Bool} {put : St → Nat → Nat → St} {wt : Nat → Int32} {rec : St → Int32 → (Nat → Int32) → bB → bB} {i : Nat} {X : St} {acc : Int32} {way : Nat → Int32} {B : bB} : bsL fit put wt pl rec i X acc way 1 pl B = rec X acc (up1 way i (Int32.ofNat pl)) B := by
  unfold bsL
  rw [if_neg (Nat.lt_irrefl _)]
  rfl
/-- no place makes a change -/
theorem bsL_same {St : Type} {fit : St → Nat → Nat → Bool} {put : St → Nat → Nat → St} {wt : Nat → Int32} {rec : St → Int32 → (Nat → Int32) → bB → bB} {i : Nat} {X : St} {acc : Int32} {way : Nat → Int32} {B : bB} : ∀ (d p : Nat), p + d = pl → (∀ x, p ≤ x → x < pl → fit X i x = true → rec (put X i x) (acc + wt i) (up1 way i (Int32.ofNat x)) B = B) → bsL fit put wt pl rec i X acc way (d + 1) p B = rec X acc (up1 way i (Int32.ofNat pl)) B := by
  intro d
  induction d with
  | zero =>
    intro p h1 _
    have e : p = pl := by omega
    subst e
    exact bsL_last
  | succ d ih =>
    intro p h1 h2
    conv => lhs; unfold bsL
    rw [if_pos (by omega)]
    by_cases c : fit X i p = true
    · rw [if_pos c, h2 p (Nat.le_refl _) (by omega) c]
      exact ih (p + 1) (by omega) (fun x x0 x1 => h2 x (by omega) x1)
    · rw [if_neg c]
      exact ih (p + 1) (by omega) (fun x x0 x1 => h2 x (by omega) x1)
/-- the sum stays within bounds -/
theorem bsR_rng {St : Type} {fit : St → Nat → Nat → Bool} {put : St → Nat → Nat → St} {wt : Nat → Int32} (hw : ∀ k, 0 ≤ wt k ∧ wt k ≤ 100) : ∀ (z i : Nat) (X : St) (acc : Int32) (way : Nat → Int32) (B : bB), 0 ≤ acc → acc.toInt + 100 * z ≤ 400 → B.1 ≤ 400 → B.1 ≤ (bsR fit put wt pl z i X acc way B).1 ∧ (bsR fit put wt pl z i X acc way B).1 ≤ 400 := by
  intro z
  induction z with
  | zero =>
    intro i X acc way B h0 h1 h2
    refine ⟨bsU_le, ?_⟩
    show (bsU acc way B).1 ≤ 400
    unfold bsU
    by_cases c : B.1 < acc
    · rw [if_pos c, Int32.le_iff_toInt_le]
      show acc.toInt ≤ 400
      omega
    · rw [if_neg c]
      exact h2
  | succ z ih =>
    intro i X acc way B h0 h1 h2
    have w1 := hw i
    have c0 : (0 : Int32).toInt = 0 := rfl
    have c100 : (100 : Int32).toInt = 100 := rfl
    have e0 := Int32.le_iff_toInt_le.mp h0
    have e1 := Int32.le_iff_toInt_le.mp w1.1
    have e2 := Int32.le_iff_toInt_le.mp w1.2
    have ea : (acc + wt i).toInt = acc.toInt + (wt i).toInt := ti_add (by omega)
    have a0 : 0 ≤ acc + wt i := by rw [Int32.le_iff_toInt_le]; omega
    have key : ∀ (k p : Nat) (B : bB), B.1 ≤ 400 → B.1 ≤ (bsL fit put wt pl (bsR fit put wt pl z (i + 1)) i X acc way k p B).1 ∧ (bsL fit put wt pl (bsR fit put wt pl z (i + 1)) i X acc way k p B).1 ≤ 400 := by
      intro k
      induction k with
      | zero => intro p B hB; exact ⟨Int32.le_refl _, hB⟩
      | succ k ihk =>
        intro p B hB
        unfold bsL
        by_cases c : p < pl
        · rw [if_pos c]
          by_cases c2 : fit X i p = true
          · rw [if_pos c2]
            have q1 := ih (i + 1) (put X i p) (acc + wt i) (up1 way i (Int32.ofNat p)) B a0 (by omega) hB
            have q2 := ihk (p + 1) _ q1.2
            exact ⟨Int32.le_trans q1.1 q2.1, q2.2⟩
          · rw [if_neg c2]
            exact ihk _ _ hB
        · rw [if_neg c]
          have q1 := ih (i + 1) X acc (up1 way i (Int32.ofNat p)) B h0 (by omega) hB
          have q2 := ihk (p + 1) _ q1.2
          exact ⟨Int32.le_trans q1.1 q2.1, q2.2⟩
    exact key _ _ _ h2
/-- four bits, whatever they are -/
theorem w_ex (p : Int32 → Prop) : ∃ w : Int32, ∀ z : Int32, 0 ≤ z → z < 4 → ((w >>> (z &&& 31)) &&& 1 = 0 ↔ p z) := by
  have hb : ∀ z : Int32, ∃ b : Bool, (b = false ↔ p z) := fun z => by
    by_cases c : p z
    · exact ⟨false, ⟨fun _ => c, fun _ => rfl⟩⟩
    · exact ⟨true, ⟨fun q => absurd q (by decide), fun q => absurd q c⟩⟩
  obtain ⟨b0, h0⟩ := hb 0
  obtain ⟨b1, h1⟩ := hb 1
  obtain ⟨b2, h2⟩ := hb 2
  obtain ⟨b3, h3⟩ := hb 3
  have key : ∀ b0 b1 b2 b3 : Bool, ((Int32.ofNat (b0.toNat + 2 * b1.toNat + 4 * b2.toNat + 8 * b3.toNat) >>> ((0 : Int32) &&& 31)) &&& 1 = 0 ↔ b0 = false) ∧ ((Int32.ofNat (b0.toNat + 2 * b1.toNat + 4 * b2.toNat + 8 * b3.toNat) >>> ((1 : Int32) &&& 31)) &&& 1 = 0 ↔ b1 = false) ∧ ((Int32.ofNat (b0.toNat + 2 * b1.toNat + 4 * b2.toNat + 8 * b3.toNat) >>> ((2 : Int32) &&& 31)) &&& 1 = 0 ↔ b2 = false) ∧ ((Int32.ofNat (b0.toNat + 2 * b1.toNat + 4 * b2.toNat + 8 * b3.toNat) >>> ((3 : Int32) &&& 31)) &&& 1 = 0 ↔ b3 = false) := by decide
  obtain ⟨k0, k1, k2, k3⟩ := key b0 b1 b2 b3
  refine ⟨Int32.ofNat (b0.toNat + 2 * b1.toNat + 4 * b2.toNat + 8 * b3.toNat), fun z z0 z4 => ?_⟩
  rcases i_cases z0 (Int32.le_of_lt z4) with h | h | h | h | h <;> subst h
  · exact k0.trans h0
  · exact k1.trans h1
  · exact k2.trans h2
  · exact k3.trans h3
  · exact absurd z4 (by decide)
/-- a place fits: it is kept -/
theorem cs_fit (hyo : yoP Y) (hx : exY Y W) (hpt : (∀ x : Int32, 0 ≤ x → x < 30 → ¬ bq r x.toNatClampNeg = true → W 20 x.toNatClampNeg = Y 20 x.toNatClampNeg ∧ W 21 x.toNatClampNeg = Y 21 x.toNatClampNeg)) {k p : Nat} (hg : 0 ≤ g k ∧ g k < Y 0 17) (hf : bfi Y f e g W k p = true) : csB Y r e (g k) (f + Int32.ofNat p / Y 0 6) (Int32.ofNat p - Int32.ofNat p / Y 0 6 * Y 0 6) = true := by
  obtain ⟨-, l10, l1, -, h17, -, -, -, h6, h16⟩ := hyo
  obtain ⟨f1, f2⟩ := of_decide_eq_true hf
  obtain ⟨w, hw⟩ := w_ex (fun z => ¬ 0 ≤ wtA Y 87 (g k) (Int32.ofNat p - Int32.ofNat p / Y 0 6 * Y 0 6) ((f + Int32.ofNat p / Y 0 6) + z))
  exact cs_of l10 h17 h6 hx (l1 _ hg.1 hg.2) (fun q => by
    have := h16 _ hg.1 hg.2 q
    exact ⟨this.1, Int32.lt_of_lt_of_le this.2 h17.2⟩) hpt (fun z z0 z1 => hw z z0 (Int32.lt_of_lt_of_le z1 (l10 _).2)) f1 f2
/-- a place that the class keeps fits if it is still open -/
theorem fit_cs (hyo : yoP Y) (hx : exY Y W) {k p : Nat} (hg : 0 ≤ g k ∧ g k < Y 0 17) {w : Int32} (hw : (∀ z : Int32, 0 ≤ z → z < Y 10 (g k).toNatClampNeg → ((w >>> (z &&& 31)) &&& 1 = 0 ↔ ¬ 0 ≤ wtA Y 87 (g k) (Int32.ofNat p - Int32.ofNat p / Y 0 6 * Y 0 6) ((f + Int32.ofNat p / Y 0 6) + z)))) (hc : csB Y r e (g k) (f + Int32.ofNat p / Y 0 6) (Int32.ofNat p - Int32.ofNat p / Y 0 6 * Y 0 6) = true) : bfi Y f e g W k p = true ↔ ¬ tnY W (g k) (f + Int32.ofNat p / Y 0 6) ∧ opB W (g k) (Int32.ofNat p - Int32.ofNat p / Y 0 6 * Y 0 6) (f + Int32.ofNat p / Y 0 6) w = true := by
  obtain ⟨-, l10, l1, -⟩ := hyo
  have r10 : W 10 = Y 10 := sbE_r hx.1 (k := 10) (by omega)
  unfold csB at hc
  rw [Bool.and_eq_true, Bool.and_eq_true, Bool.and_eq_true] at hc
  obtain ⟨c1, c2, c3, c4⟩ := hc
  have hk := ft_K (Y := W) (a := g k) (b := (Int32.ofNat p - Int32.ofNat p / Y 0 6 * Y 0 6)) (s := (f + Int32.ofNat p / Y 0 6)) (w := w) (by rw [r10]; exact l10) (by rw [r10]; exact l1 _ hg.1 hg.2) (fun z z0 z1 => by
    rw [r10] at z1
    rw [wtA_b hx.1]
    exact hw z z0 z1)
  rw [suB_b hx.1] at hk
  unfold bfi
  rw [decide_eq_true_iff, hk]
  exact ⟨fun q => ⟨q.2.2.1, q.2.2.2⟩, fun q => ⟨of_decide_eq_true c1, c3, q.1, q.2⟩⟩
theorem pt_pu (hpt : (∀ x : Int32, 0 ≤ x → x < 30 → ¬ bq r x.toNatClampNeg = true → W 20 x.toNatClampNeg = Y 20 x.toNatClampNeg ∧ W 21 x.toNatClampNeg = Y 21 x.toNatClampNeg)) {a b s : Int32} (ha : 0 ≤ a) (hr : bq r a.toNatClampNeg = true) : (∀ x : Int32, 0 ≤ x → x < 30 → ¬ bq r x.toNatClampNeg = true → (puY W a b s) 20 x.toNatClampNeg = Y 20 x.toNatClampNeg ∧ (puY W a b s) 21 x.toNatClampNeg = Y 21 x.toNatClampNeg) := fun x x0 x1 hn => by
  have hne : ¬ x.toNatClampNeg = a.toNatClampNeg := fun q => hn (by rw [q]; exact hr)
  rw [pu_pp, pp_o (Or.inr ⟨hne, by omega⟩), pp_o (Or.inr ⟨hne, by omega⟩)]
  exact hpt x x0 x1 hn
theorem rch_rng {mn : Nat} (h4 : mn ≤ 4) (rm : rch mn = 0) (rr : ∀ k, k < mn → rch k = rch (k + 1) + (if 0 < cnB Y r f e (g k) pl then bwt Y g k else 0)) : ∀ d k, k + d = mn → 0 ≤ (rch k).toInt ∧ (rch k).toInt ≤ 100 * d := by
  intro d
  induction d with
  | zero =>
    intro k hk
    rw [show k = mn by omega, rm]
    decide
  | succ d ih =>
    intro k hk
    have i1 := ih (k + 1) (by omega)
    have w := bwt_rng (Y := Y) (g := g) (k := k)
    have c0 : (0 : Int32).toInt = 0 := rfl
    have c100 : (100 : Int32).toInt = 100 := rfl
    have e1 := Int32.le_iff_toInt_le.mp w.1
    have e2 := Int32.le_iff_toInt_le.mp w.2
    rw [rr k (by omega)]
    by_cases c : 0 < cnB Y r f e (g k) pl
    · rw [if_pos c, ti_add (by omega)]
      omega
    · rw [if_neg c, Int32.add_zero]
      omega
/-- what can't rise over the sum -/
theorem cut_all (hyo : yoP Y) (hpr : plR Y f e pl) {mn : Nat} (h4 : mn ≤ 4) (hg : ∀ k, k < mn → 0 ≤ g k ∧ g k < Y 0 17) (br : ∀ k, k < mn → bq r (g k).toNatClampNeg = true) (bu : ∀ k, k < mn → ¬ 0 ≤ Y 20 (g k).toNatClampNeg) (rm : rch mn = 0) (rr : ∀ k, k < mn → rch k = rch (k + 1) + (if 0 < cnB Y r f e (g k) pl then bwt Y g k else 0)) {z i : Nat} {acc : Int32} {B : bB} (hz : i + z = mn) (hx : exY Y W) (hpt : (∀ x : Int32, 0 ≤ x → x < 30 → ¬ bq r x.toNatClampNeg = true → W 20 x.toNatClampNeg = Y 20 x.toNatClampNeg ∧ W 21 x.toNatClampNeg = Y 21 x.toNatClampNeg)) (ha : 0 ≤ acc ∧ acc.toInt ≤ 400) (hB : B.1 ≤ 400) (hc : acc + rch i ≤ B.1) : bsR (bfi Y f e g) (bpu Y f g) (bwt Y g) pl z i W acc way B = B := by
  have h17 := hyo.2.2.2.2.1
  refine bsR_cut (m := mn) (Iv := fun X => exY Y X ∧ (∀ x : Int32, 0 ≤ x → x < 30 → ¬ bq r x.toNatClampNeg = true → X 20 x.toNatClampNeg = Y 20 x.toNatClampNeg ∧ X 21 x.toNatClampNeg = Y 21 x.toNatClampNeg)) (st := fun k => decide (0 < cnB Y r f e (g k) pl)) (rch := rch) (fun X k p hX hk hp hf => ?_) (fun X k p hX hk hp hf => ?_) (fun k _ => bwt_rng) rm (fun k hk => ?_) (fun k hk => ?_) z i W acc way B hz ⟨hx, hpt⟩ ⟨ha.1, ?_⟩ (Int32.le_trans hB (by decide)) hc
  · exact ⟨ex_pu hyo.2.1 hX.1 ⟨(hg k hk).1, Int32.lt_of_lt_of_le (hg k hk).2 h17.2⟩ (bu k hk), pt_pu hX.2 (hg k hk).1 (br k hk)⟩
  · have hcs := cs_fit hyo hX.1 hX.2 (hg k hk) hf
    have m := cn_mono (Y := Y) (r := r) (f := f) (e := e) (a := g k) (p := p + 1) (pl - (p + 1))
    rw [show p + 1 + (pl - (p + 1)) = pl by omega] at m
    have s1 : cnB Y r f e (g k) (p + 1) = cnB Y r f e (g k) p + 1 := by
      conv => lhs; unfold cnB
      rw [if_pos hcs]
    exact decide_eq_true (by omega)
  · rw [rr k hk]
    by_cases c : 0 < cnB Y r f e (g k) pl
    · rw [if_pos c, if_pos (decide_eq_true c)]
    · rw [if_neg c, if_neg (by rw [decide_eq_true_iff]; exact c)]
  · have q := rch_rng h4 rm rr (mn - k) k (by omega)
    have c0 : (0 : Int32).toInt = 0 := rfl
    have c400 : (400 : Int32).toInt = 400 := rfl
    exact ⟨by rw [Int32.le_iff_toInt_le]; omega, by rw [Int32.le_iff_toInt_le]; omega⟩
  · rw [Int32.le_iff_toInt_le]
    show acc.toInt ≤ 100000
    omega
def kyP (C n t : Nat) (K L : Nat → Nat) (R : Nat → Nat → Nat) (Y : Nat → Nat → Int32) (g rch : Nat → Int32) (r f e : Int32) (pl : Nat) (m : Int32) (z : Nat) : Prop := ∀ (i sf : Int32) (J W : Nat → Nat → Int32) (B : bB) (way : Nat → Int32) (D : Nat) (P : Option Value → AH → Prop), 0 ≤ i → i.toInt + z = m.toInt → z + 20 ≤ D → cT C K L J R → cpP C K L J R W → exY Y W → noP W → (∀ x : Int32, 0 ≤ x → x < 30 → ¬ bq r x.toNatClampNeg = true → W 20 x.toNatClampNeg = Y 20 x.toNatClampNeg ∧ W 21 x.toNatClampNeg = Y 21 x.toNatClampNeg) → J (C + 27) 8 = m → (∀ k, k < m.toNatClampNeg → spE C Y r f e (g k) k pl J) → (∀ k, k ≤ m.toNatClampNeg → J (C + 32) k = rch k) → (∀ k, i.toNatClampNeg ≤ k → k < m.toNatClampNeg → ¬ 0 ≤ W 20 (g k).toNatClampNeg) → (0 ≤ sf ∧ sf.toInt + 100 * z ≤ 400) → (-1 ≤ B.1 ∧ B.1 ≤ 400) → sbH C Y f pl m.toNatClampNeg B J → (∀ k, k < i.toNatClampNeg → J (C + 33) k = enB Y f pl (way k)) → (∀ J2, cT C K L J2 R → xfP C J J2 → sbH C Y f pl m.toNatClampNeg (bsR (bfi Y f e g) (bpu Y f g) (bwt Y g) pl z i.toNatClampNeg W sf way B) J2 → (∀ k, k < i.toNatClampNeg → J2 (C + 33) k = J (C + 33) k) → P none (n, t, K, L, J2, R)) → a_does D 138 [a_rf (C + 27), .int i, .int sf] (n, t, K, L, J, R) P

theorem lz_try {m i : Int32} (hse : seP C R Y) (hyo : yoP Y) (hpr : plR Y f e pl) (bm : ∀ k, k < m.toNatClampNeg → (0 ≤ g k ∧ g k < Y 0 17) ∧ R (C + 28) k = R (C + 15) (g k).toNatClampNeg) (bd : ∀ k j, k < j → j < m.toNatClampNeg → ¬ (g k).toNatClampNeg = (g j).toNatClampNeg) (br : ∀ k, k < m.toNatClampNeg → bq r (g k).toNatClampNeg = true) (bu : ∀ k, k < m.toNatClampNeg → ¬ 0 ≤ Y 20 (g k).toNatClampNeg) (rm : rch m.toNatClampNeg = 0) (rr : ∀ k, k < m.toNatClampNeg → rch k = rch (k + 1) + (if 0 < cnB Y r f e (g k) pl then bwt Y g k else 0)) (hi : 0 ≤ i ∧ i < 4) (him : i.toNatClampNeg < m.toNatClampNeg) {E z : Nat} {sf' b s v w : Int32} {B : bB} {way' : Nat → Int32} (hr : kyP C n t K L R Y g rch r f e pl m z) (eup : (i + 1).toNatClampNeg = i.toNatClampNeg + 1) (hT : cT C K L I R) (hc : cpP C K L I R W) (hex : exY Y W) (hpt : (∀ x : Int32, 0 ≤ x → x < 30 → ¬ bq r x.toNatClampNeg = true → W 20 x.toNatClampNeg = Y 20 x.toNatClampNeg ∧ W 21 x.toNatClampNeg = Y 21 x.toNatClampNeg)) (hno : noP W) (hm : I (C + 27) 8 = m) (sp : (∀ k, k < m.toNatClampNeg → spE C Y r f e (g k) k pl I)) (hrc : (∀ k, k ≤ m.toNatClampNeg → I (C + 32) k = rch k)) (hzz : (i + 1).toInt + z = m.toInt) (hzE : z + 20 ≤ E + 19) (hac : 0 ≤ sf' ∧ sf'.toInt + 100 * z ≤ 400) (hBr : -1 ≤ B.1 ∧ B.1 ≤ 400) (hsb : sbH C Y f pl m.toNatClampNeg B I) (htr : ∀ k, k < i.toNatClampNeg → I (C + 33) k = enB Y f pl (way' k)) (hwv : enB Y f pl (way' i.toNatClampNeg) = v) (hun : (∀ k, i.toNatClampNeg ≤ k → k < m.toNatClampNeg → ¬ 0 ≤ W 20 (g k).toNatClampNeg)) (hb : 0 ≤ b ∧ b < Y 0 6) (hs : 0 ≤ s ∧ s ≤ 199) (hsl : s + Y 10 (g i.toNatClampNeg).toNatClampNeg ≤ 200) (hw : ∀ z : Int32, 0 ≤ z → z < Y 10 (g i.toNatClampNeg).toNatClampNeg → ((w >>> (z &&& 31)) &&& 1 = 0 ↔ ¬ 0 ≤ wtA Y 87 (g i.toNatClampNeg) b (s + z))) (hop : opB W (g i.toNatClampNeg) b s w = true) {x2 x3 x5 : Option Value} (hP : ∀ J, cT C K L J R → xfP C I J → sbH C Y f pl m.toNatClampNeg (bsR (bfi Y f e g) (bpu Y f g) (bwt Y g) pl z (i + 1).toNatClampNeg (puY W (g i.toNatClampNeg) b s) sf' way' B) J → (∀ k, k < i.toNatClampNeg → J (C + 33) k = I (C + 33) k) → a_at (E + 19) (a_xm a_m138) 212 [some (a_rf (C + 27)), some (.int i), x2, some (a_rf (R (C + 15) (g i.toNatClampNeg).toNatClampNeg)), x3, x5, some (.int v), some (.int w)] [] (n, t, K, L, J, R) P) (hx3 : x3 = some (.int sf')) : a_does (E + 19) 115 [a_rf (C + 14), a_rf (R (C + 15) (g i.toNatClampNeg).toNatClampNeg), .int b, .int s, .int w] (n, t, K, L, I, R) (fun r h' => a_at (E + 19) (a_xm a_m138) 187 [some (a_rf (C + 27)), some (.int i), x2, some (a_rf (R (C + 15) (g i.toNatClampNeg).toNatClampNeg)), x3, x5, some (.int v), some (.int w)] (r.toList ++ []) h' P) := by
  have hS := hT.s
  have hb0 := hex.1
  have hi1 : 0 ≤ i + 1 := (lp_st hi.1 hi.2).2.1
  obtain ⟨⟨a0, a1⟩, -⟩ := bm _ him
  have e17 : W 0 17 = Y 0 17 := hb0 0 17 (by unfold sb; omega)
  have e06 : W 0 6 = Y 0 6 := hb0 0 6 (by unfold sb; omega)
  have o10 : W 10 = Y 10 := sbE_r hb0 (by omega)
  have ag : 0 ≤ g i.toNatClampNeg ∧ g i.toNatClampNeg < W 0 17 := ⟨a0, by rw [e17]; exact a1⟩
  have ap := aa_of hc ag.1 ag.2
  obtain ⟨-, ⟨ha, an0, -⟩, -, al⟩ := id ap
  have hseW := se_b hse hb0
  have hbW : 0 ≤ b ∧ b < W 0 6 := by rw [e06]; exact hb
  have hslW : s + W 10 (g i.toNatClampNeg).toNatClampNeg ≤ 200 := by rw [o10]; exact hsl
  have un := hun _ (Nat.le_refl _) him
  have i30 : (g i.toNatClampNeg).toNatClampNeg < 30 := a_lt30 ⟨a0, Int32.lt_of_lt_of_le ag.2 hc.2.2.2.2.2.2.2.2.1.2⟩
  have hnoi := hno _ i30 un
  have l4 := hc.2.2.2.2.2.1 (g i.toNatClampNeg).toNatClampNeg
  have l4n : (W 10 (g i.toNatClampNeg).toNatClampNeg).toNatClampNeg < 5 := cl_lt (j := 5) l4.1 (Int32.lt_of_le_of_lt l4.2 (by decide))
  have s200 : 0 ≤ s ∧ s ≤ 200 := ⟨hs.1, Int32.le_trans hs.2 (by decide)⟩
  obtain ⟨kb, kb0, -⟩ := hc.2.1.2.2.1 b hbW.1 hbW.2
  obtain ⟨eB2, eB3, -⟩ := hseW.1 b hbW.1 hbW.2
  obtain ⟨bB, ⟨w1, w2, w3⟩, ⟨s1, s2, s3⟩, -⟩ := hT.g_bnc _ kb
  have hx96 := (hT.g_ask _ ha).1
  -- the cells are free
  have fr : ∀ y : Int32, 0 ≤ y → y < W 10 (g i.toNatClampNeg).toNatClampNeg → whC C I R b (s + y).toNatClampNeg = -9 := fun y y0 y1 => by
    have hsz := (sh_lt (i := y) s200 l4 hslW ⟨y0, Int32.le_of_lt y1⟩).1 y1
    refine hg_free hc ag hbW hsz.1 un ?_
    have := op_hg _ 0 hop y.toNatClampNeg (cl_lt y0 y1)
    rw [← on_cl y0, Int32.zero_add] at this
    exact this
  have cell : ∀ j, s.toNatClampNeg ≤ j → j < s.toNatClampNeg + (W 10 (g i.toNatClampNeg).toNatClampNeg).toNatClampNeg → I (R (C + 16) b.toNatClampNeg + 1) j = -9 ∧ I (R (C + 16) b.toNatClampNeg + 2) j = 0 := fun j j0 j1 => by
    have hy0 : 0 ≤ Int32.ofNat (j - s.toNatClampNeg) := (on_ok (p := j - s.toNatClampNeg) (by omega)).1
    have hyn : (Int32.ofNat (j - s.toNatClampNeg)).toNatClampNeg = j - s.toNatClampNeg := (on_p (p := j - s.toNatClampNeg) (by omega)).2.2.1
    have hy1 : Int32.ofNat (j - s.toNatClampNeg) < W 10 (g i.toNatClampNeg).toNatClampNeg := cl_lt2 hy0 l4.1 (by rw [hyn]; omega)
    have hf := fr _ hy0 hy1
    obtain ⟨es, -⟩ := sh_at (i := Int32.ofNat (j - s.toNatClampNeg)) s200.1 s200.2 ⟨hy0, Int32.le_of_lt (Int32.lt_of_lt_of_le hy1 l4.2)⟩
    have hsz := (sh_lt (i := Int32.ofNat (j - s.toNatClampNeg)) s200 l4 hslW ⟨hy0, Int32.le_of_lt hy1⟩).1 hy1
    have ej : (s + Int32.ofNat (j - s.toNatClampNeg)).toNatClampNeg = j := by rw [es, hyn]; omega
    have h2 := hc.2.1.2.2.2.2 b _ hbW.1 hbW.2 hsz.1.1 hsz.1.2
    rw [ej] at hf h2
    have hst : snC C I R b j = 0 := by
      rcases h2 with h2 | ⟨o, x, o0, o1, o2, x0, x1, o3⟩
      · exact h2.2
      · have h3 := (hc.2.1.2.2.2.1 o o0 o1 (by rw [o2]; exact hbW.1)).2.2.2 x x0 x1
        rw [o2, ← o3, ej, hf] at h3
        exact absurd h3.1 (fun q => by rw [← q] at o0; exact absurd o0 (by decide))
    unfold whC at hf
    unfold snC at hst
    rw [eB2] at hf
    rw [eB3] at hst
    exact ⟨hf, hst⟩
  refine cx_lay (d := E + 15) hT hc hseW ap rfl hbW hs hslW un fr (fun z z0 z1 => by
    rw [o10] at z1
    rw [wtA_b hb0]
    exact hw z z0 z1) (fun J1 j1 c1 f1 => ?_)
  have hT1 := j1.1
  have hS1 := hT1.s
  have hT1' : cT C K L (a_ui J1 (C + 33) i.toNatClampNeg v) R := sT_Best_tried hT1
  have s27 : ∀ q j, (q = 27 ∨ (29 ≤ q ∧ q ≤ 32) ∨ q = 34) → a_ui J1 (C + 33) i.toNatClampNeg v (C + q) j = I (C + q) j := fun q j hq => by
    rw [ui_ap, if_neg (by omega)]
    exact f1 _ _ (by omega) (by omega)
  have sp1 : (∀ k, k < m.toNatClampNeg → spE C Y r f e (g k) k pl (a_ui J1 (C + 33) i.toNatClampNeg v)) := fun k hk => se_C (sp k hk) (fun q j hq => s27 q j (by omega))
  have rc1 : (∀ k, k ≤ m.toNatClampNeg → (a_ui J1 (C + 33) i.toNatClampNeg v) (C + 32) k = rch k) := fun k hk => (s27 32 k (by omega)).trans (hrc k hk)
  have sb1 : sbH C Y f pl m.toNatClampNeg B (a_ui J1 (C + 33) i.toNatClampNeg v) := ⟨(s27 27 9 (by omega)).trans hsb.1, fun q k hk => (s27 34 k (by omega)).trans (hsb.2 q k hk)⟩
  have tr1 : ∀ k, k < (i + 1).toNatClampNeg → a_ui J1 (C + 33) i.toNatClampNeg v (C + 33) k = enB Y f pl (way' k) := fun k hk => by
    rw [eup] at hk
    rw [ui_ap]
    by_cases c : k = i.toNatClampNeg
    · rw [if_pos ⟨rfl, c⟩, c, hwv]
    · rw [if_neg (fun q => c q.2), f1 _ _ (by omega) (by omega)]
      exact htr k (by omega)
  have ex1 : exY Y (puY W (g i.toNatClampNeg) b s) := ex_pu hyo.2.1 hex ⟨a0, Int32.lt_of_lt_of_le a1 hyo.2.2.2.2.1.2⟩ (bu _ him)
  have pt1 : (∀ x : Int32, 0 ≤ x → x < 30 → ¬ bq r x.toNatClampNeg = true → (puY W (g i.toNatClampNeg) b s) 20 x.toNatClampNeg = Y 20 x.toNatClampNeg ∧ (puY W (g i.toNatClampNeg) b s) 21 x.toNatClampNeg = Y 21 x.toNatClampNeg) := pt_pu hpt a0 (br _ him)
  have c1' : cpP C K L (a_ui J1 (C + 33) i.toNatClampNeg v) R (puY W (g i.toNatClampNeg) b s) := cp_sc hT1 c1 (k := 33) (by omega) (by omega)
  have bW1 : sbE Y (puY W (g i.toNatClampNeg) b s) := sb_tr hb0 puY_b
  have hcall := hr (i + 1) sf' (a_ui J1 (C + 33) i.toNatClampNeg v) (puY W (g i.toNatClampNeg) b s) B way' (E + 19) (fun r' h' => a_at (E + 19) (a_xm a_m138) 204 [some (a_rf (C + 27)), some (.int i), x2, some (a_rf (R (C + 15) (g i.toNatClampNeg).toNatClampNeg)), x3, x5, some (.int v), some (.int w)] (r'.toList ++ []) h' P) hi1 hzz hzE hT1' c1' ex1 (no_pu hb.1 hno) pt1 ((s27 27 8 (by omega)).trans hm) sp1 rc1 (fun k k0 k1 => by
    rw [eup] at k0
    have hne : ¬ (g k).toNatClampNeg = (g i.toNatClampNeg).toNatClampNeg := fun e => bd _ _ (by omega : i.toNatClampNeg < k) k1 e.symm
    rw [pu_pp, pp_o (Or.inr ⟨hne, by omega⟩)]
    exact hun k (by omega) k1) hac hBr sb1 tr1 (fun J2 T2 x2f sb2 tr2 => by
    have hS2 := T2.s
    have c2 := xf_cp hT1' c1' x2f
    have ag2 : 0 ≤ g i.toNatClampNeg ∧ g i.toNatClampNeg < puY W (g i.toNatClampNeg) b s 0 17 := by rw [pu_pp, pp_o (Or.inl (by omega))]; exact ag
    have ap2 := aa_of c2 ag2.1 ag2.2
    have e20 : puY W (g i.toNatClampNeg) b s 20 (g i.toNatClampNeg).toNatClampNeg = b := by rw [pu_pp, pp_20]
    have e21 : puY W (g i.toNatClampNeg) b s 21 (g i.toNatClampNeg).toNatClampNeg = s := by rw [pu_pp, pp_21]
    have e10 : puY W (g i.toNatClampNeg) b s 10 (g i.toNatClampNeg).toNatClampNeg = W 10 (g i.toNatClampNeg).toNatClampNeg := by rw [pu_pp, pp_10]
    have hl := cy_lift (d := E + 15) (n := n) (t := t) T2 c2 (se_b hse bW1) ap2 rfl (by rw [e20]; exact hb.1) (P := fun r' h' => a_at (E + 19) (a_xm a_m138) 212 [some (a_rf (C + 27)), some (.int i), x2, some (a_rf (R (C + 15) (g i.toNatClampNeg).toNatClampNeg)), x3, x5, some (.int v), some (.int w)] (r'.toList ++ []) h' P) (fun J4 j4 c4 f4 => by
      rw [e20, e21, e10] at f4
      have u4 : ∀ q j, (q = 27 ∨ q = 33 ∨ q = 34) → J4 (C + q) j = J2 (C + q) j := fun q j hq => by
        rw [f4 _ _ (fun z => by omega)]
        unfold lfI
        rw [if_neg (fun z => by omega), if_neg (fun z => by omega)]
      refine hP J4 j4.1 (fun x j q1 q2 q3 q4 q5 => ?_) ⟨(u4 27 9 (by omega)).trans sb2.1, fun q k hk => (u4 34 k (by omega)).trans (sb2.2 q k hk)⟩ (fun k hk => by
        rw [u4 33 k (by omega), tr2 k (by rw [eup]; omega), ui_ap, if_neg (fun z => by omega)]
        exact f1 _ _ (by omega) (by omega))
      by_cases ca : x = (R (C + 15) (g i.toNatClampNeg).toNatClampNeg) ∧ (j = 13 ∨ j = 14)
      · have a4 := (c4.2.2.1.2.2.2 (g i.toNatClampNeg) ag.1 (by rw [un_o (Or.inl (by omega))]; exact ag2.2)).2.2.2.1
        rw [un_a (Or.inl rfl), un_a (Or.inr rfl)] at a4
        have b4 := al.2.2.2.1
        rw [hnoi.1, hnoi.2] at b4
        rcases ca with ⟨ca, cj | cj⟩
        · rw [ca, cj, a4.1, b4.1]
        · rw [ca, cj, a4.2, b4.2]
      · rw [f4 x j ca]
        unfold lfI
        by_cases c1 : x = R (C + 16) b.toNatClampNeg + 1 ∧ s.toNatClampNeg ≤ j ∧ j < s.toNatClampNeg + (W 10 (g i.toNatClampNeg).toNatClampNeg).toNatClampNeg
        · rw [if_pos c1, c1.1]
          exact (cell j c1.2.1 c1.2.2).1.symm
        · rw [if_neg c1]
          by_cases c2 : x = R (C + 16) b.toNatClampNeg + 2 ∧ s.toNatClampNeg ≤ j ∧ j < s.toNatClampNeg + (W 10 (g i.toNatClampNeg).toNatClampNeg).toNatClampNeg
          · rw [if_pos c2, c2.1]
            exact (cell j c2.2.1 c2.2.2).2.symm
          · rw [if_neg c2, x2f x j q1 q2 q3 q4 q5, ui_ap, if_neg (fun e => q4 e.1)]
            exact f1 x j (fun q => q.1.elim (fun e => c1 ⟨e, q.2⟩) (fun e => c2 ⟨e, q.2⟩)) ca)
    ((try clear hP); (try clear hr); (try clear hc); (try clear c1); (try clear c1'); (try clear c2); (try clear ap2); (try clear cell); (try clear fr); (try clear sp); (try clear sp1); (try clear rc1); (try clear sb1); (try clear tr1); (try clear sb2); (try clear tr2); (try clear hsb); (try clear htr); (try clear hrc); (try clear ex1); (try clear pt1); (try clear hpt); (try clear bm); (try clear bd); (try clear br); (try clear bu); (try clear rr); (try clear hun))
    simp only [q138_204, q138_205, q138_208, q138_209, k_27 hS, z_27, r_27_0 hS, k_14 hS, z_14, as_nil, as_i, as_r, Nat.reduceAdd, Nat.reduceLeDiff, z_eq0, z_eq1, z_or, z_em, Classical.not_not, not_false_eq_true, not_true_eq_false, true_and, and_true, false_and, and_false, and_self, true_implies, false_implies, implies_true, Option.toList_some, Option.toList_none, List.cons_append, List.nil_append, Nat.add_eq_zero_iff, a_nl_i, a_nl_r, a_nl_n, true_or, or_true, eq_self, a_isRA_22, a_isRA_24, a_isRA_32, a_isA_20, ok_4, ok_5, ok_6, ok_7, ok_9, ok_20, ok_21, ok_30, ok_50, ok_180, ok_192, ok_200]
    exact hl)
  ((try clear hP); (try clear hr); (try clear hc); (try clear c1); (try clear c1'); (try clear cell); (try clear fr); (try clear sp); (try clear sp1); (try clear rc1); (try clear sb1); (try clear tr1); (try clear hsb); (try clear htr); (try clear hrc); (try clear ex1); (try clear pt1); (try clear hpt); (try clear bm); (try clear bd); (try clear br); (try clear bu); (try clear rr); (try clear hun))
  subst hx3
  simp only [q138_187, q138_188, q138_191, q138_192, q138_194, q138_195, q138_196, q138_197, q138_198, q138_199, q138_201, k_27 hS, z_27, r_27_6 hS, k_33 hS, l_33 hS, z_33, as_nil, as_i, as_r, Nat.reduceAdd, Nat.reduceLeDiff, z_eq0, z_eq1, z_or, z_em, Classical.not_not, not_false_eq_true, not_true_eq_false, true_and, and_true, false_and, and_false, and_self, true_implies, false_implies, implies_true, Option.toList_some, Option.toList_none, List.cons_append, List.nil_append, Nat.add_eq_zero_iff, a_nl_i, a_nl_r, a_nl_n, true_or, or_true, eq_self, a_isRA_22, a_isRA_24, a_isRA_32, a_isA_20, ok_4, ok_5, ok_6, ok_7, ok_9, ok_20, ok_21, ok_30, ok_50, ok_180, ok_192, ok_200]
  try simp only [true_and, and_true, true_implies, false_implies, implies_true, not_true_eq_false, not_false_eq_true]
  first
    | exact ⟨hi, hcall⟩
    | exact hcall
    | grind
end Z98
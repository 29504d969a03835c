/-! hours, mode, kin, feed, check -/
section ZB0
variable {d n t C c : Nat} {K L : Nat → Nat} {I I0 J J0 J1 J2 : Nat → Nat → Int32} {R : Nat → Nat → Nat} {P : Option Value → AH → Prop}
variable {Y Z W : Nat → Nat → Int32} {R' R1 : Nat → Nat → Nat} {K' L' : Nat → Nat}
theorem up_same {k j : Nat} {v : Int32} (h : Y k j = v) : upY Y k j v = Y := by
  funext x i
  unfold upY
  by_cases e : x = k ∧ i = j
  · rw [if_pos e, e.1, e.2, h]
  · rw [if_neg e]
theorem lhu_k {f e g : Nat → Int32} {k k' h : Int32} : ∀ z i, (∀ j, i ≤ j → j < i + z → (g j ≤ k ↔ g j ≤ k')) → lhu f e g k h z i = lhu f e g k' h z i := by
  intro z
  induction z with
  | zero => intro i _; rfl
  | succ z ih =>
    intro i hi
    unfold lhu
    simp only [hi i (Nat.le_refl _) (by omega)]
    split
    · rfl
    · exact ih (i + 1) (fun j h1 h2 => hi j (by omega) (by omega))
theorem lk_now (hs : siY Y) {v : Int32} (h : Y 0 0 ≤ v) : lkY (upY Y 0 0 v) = lkY Y := by
  have zr : ∀ k, ¬ k = 0 → upY Y 0 0 v k = Y k := fun k hk => funext (fun j => up_no (by omega))
  funext x
  unfold lkY
  rw [zr 2 (by omega), zr 3 (by omega), zr 4 (by omega), up_at, up_no (by omega)]
  exact lhu_k _ _ (fun j _ h1 => ⟨fun _ => hs.2.2.2.2.2.2.2 j (by omega), fun _ => Int32.le_trans (hs.2.2.2.2.2.2.2 j (by omega)) h⟩)
theorem ix_60 {r g : Int32} (ha : 0 ≤ r ∧ r < 6) (ho : 0 ≤ g ∧ g < 10) : (10 * r + g).toNatClampNeg = 10 * r.toNatClampNeg + g.toNatClampNeg ∧ (0 ≤ 10 * r + g ∧ 10 * r + g < 60) ∧ r.toNatClampNeg < 6 ∧ g.toNatClampNeg < 10 := by
  have c0 : (0 : Int32).toInt = 0 := rfl
  have cm : (10 : Int32).toInt = 10 := rfl
  have cn : (6 : Int32).toInt = 6 := rfl
  have c9 : (60 : Int32).toInt = 60 := rfl
  have a0 := Int32.le_iff_toInt_le.mp ha.1
  have a1 := Int32.lt_iff_toInt_lt.mp ha.2
  have o0 := Int32.le_iff_toInt_le.mp ho.1
  have o1 := Int32.lt_iff_toInt_lt.mp ho.2
  rw [c0] at a0 o0
  rw [cn] at a1
  rw [cm] at o1
  have e1 : (10 * r).toInt = 10 * r.toInt := by rw [Int32.toInt_mul, cm, in_bm (by omega) (by omega)]
  have e2 : (10 * r + g).toInt = 10 * r.toInt + g.toInt := by rw [Int32.toInt_add, e1, in_bm (by omega) (by omega)]
  refine ⟨?_, ⟨by rw [Int32.le_iff_toInt_le, e2, c0]; omega, by rw [Int32.lt_iff_toInt_lt, e2, c9]; omega⟩, ?_, ?_⟩
  · show (10 * r + g).toInt.toNat = 10 * r.toInt.toNat + g.toInt.toNat
    rw [e2]
    omega
  · show r.toInt.toNat < 6
    omega
  · show g.toInt.toNat < 10
    omega
theorem ix_180 {r a : Int32} (ha : 0 ≤ r ∧ r < 6) (ho : 0 ≤ a ∧ a < 30) : (30 * r + a).toNatClampNeg = 30 * r.toNatClampNeg + a.toNatClampNeg ∧ (0 ≤ 30 * r + a ∧ 30 * r + a < 180) ∧ r.toNatClampNeg < 6 ∧ a.toNatClampNeg < 30 := by
  have c0 : (0 : Int32).toInt = 0 := rfl
  have cm : (30 : Int32).toInt = 30 := rfl
  have cn : (6 : Int32).toInt = 6 := rfl
  have c9 : (180 : Int32).toInt = 180 := rfl
  have a0 := Int32.le_iff_toInt_le.mp ha.1
  have a1 := Int32.lt_iff_toInt_lt.mp ha.2
  have o0 := Int32.le_iff_toInt_le.mp ho.1
  have o1 := Int32.lt_iff_toInt_lt.mp ho.2
  rw [c0] at a0 o0
  rw [cn] at a1
  rw [cm] at o1
  have e1 : (30 * r).toInt = 30 * r.toInt := by rw [Int32.toInt_mul, cm, in_bm (by omega) (by omega)]
  have e2 : (30 * r + a).toInt = 30 * r.toInt + a.toInt := by rw [Int32.toInt_add, e1, in_bm (by omega) (by omega)]
  refine ⟨?_, ⟨by rw [Int32.le_iff_toInt_le, e2, c0]; omega, by rw [Int32.lt_iff_toInt_lt, e2, c9]; omega⟩, ?_, ?_⟩
  · show (30 * r + a).toInt.toNat = 30 * r.toInt.toNat + a.toInt.toNat
    rw [e2]
    omega
  · show r.toInt.toNat < 6
    omega
  · show a.toInt.toNat < 30
    omega
/-- the words behind them -/
def hrY (Y : Nat → Nat → Int32) (v : Int32) : Nat → Nat → Int32 := if v < 0 ∨ 1600 - Y 0 0 < v then Y else upY Y 0 0 (Y 0 0 + v)
def mdW (Y : Nat → Nat → Int32) (a b m : Int32) : Nat → Nat → Int32 := fun k j => if k = 1 ∧ a.toNatClampNeg ≤ j ∧ j ≤ b.toNatClampNeg then m else Y k j
def mdY (Y : Nat → Nat → Int32) (a b m : Int32) : Nat → Nat → Int32 := if ((0 ≤ a ∧ a < 200) ∧ (0 ≤ b ∧ b < 200) ∧ a ≤ b) ∧ ¬ (m < 0 ∨ 4 < m) then mdW Y a b m else Y
def kiY (Y : Nat → Nat → Int32) (r g : Int32) : Nat → Nat → Int32 := if (0 ≤ r ∧ r ≤ 5) ∧ (0 ≤ g ∧ g ≤ 9) then upY Y 35 (10 * r.toNatClampNeg + g.toNatClampNeg) 1 else Y
def feW (Y : Nat → Nat → Int32) (m : Int32) (w : Int64) : Nat → Nat → Int32 := fun k j => if k = 0 ∧ j = 40 then Y 0 40 + m else if k = 27 ∧ (Y 0 40).toNatClampNeg ≤ j ∧ j < (Y 0 40 + m).toNatClampNeg then bX w (Int32.ofNat (j - (Y 0 40).toNatClampNeg)) else Y k j
def feY (Y : Nat → Nat → Int32) (m : Int32) (w : Int64) : Nat → Nat → Int32 := if m < 1 ∨ 8 < m ∨ 50 < Y 0 40 + m then Y else feW Y m w
def ckY (Y : Nat → Nat → Int32) (b a k : Int32) : Nat → Nat → Int32 := if ((0 ≤ b ∧ b < Y 0 6) ∧ (0 ≤ a ∧ a < 200) ∧ a + Y 0 79 ≤ 200) ∧ ¬ k < 0 ∧ ¬ Y 0 0 < k then upY Y 0 79 0 else Y
theorem ge_hours (hH : cH C c (n + 1) t K L I R) (hu : cuP C K L I R Y) {v : Int32} (hP : ∀ w n' t' K' L' J R', cH C c (n' + 1) t' K' L' J R' → cuP C K' L' J R' (hrY Y v) → P (some (.int w)) (n' + 1, t', K', L', J, R')) : a_does (d + 70) 9 [a_rf C, .int v] (n + 1, t, K, L, I, R) P := by
  have hT := hH.1
  have hS := hT.s
  have hc := hu.1
  have e6 : I (C + 1) 6 = Y 0 0 := hc.1.1
  have g0 := hT.g_now
  unfold hrY at hP
  refine kr_hours hH (fun q J z => ?_) (fun q q2 J z => ?_) (fun q1 q2 g => ?_)
  · rw [if_pos (Or.inl q)] at hP
    exact hP _ n t K L J R z.1 (cu_re hH hu z)
  · rw [if_pos (Or.inr (by rw [← e6]; exact q2))] at hP
    exact hP _ n t K L J R z.1 (cu_re hH hu z)
  · rw [e6] at q2 g g0 ⊢
    rw [if_neg (fun q => q.elim q1 q2)] at hP
    have hle : Y 0 0 ≤ Y 0 0 + v := by clear hP hu hc g; grind
    refine hP _ n t K L _ R g ?_
    have hJ : ∀ k j, ¬ (k = 1 ∧ j = 6) → a_ui I (C + 1) 6 (Y 0 0 + v) (C + k) j = I (C + k) j := fun k j hk => by rw [ui_ap, if_neg (by omega)]
    have hX : ∀ x j, C + 43 < x → a_ui I (C + 1) 6 (Y 0 0 + v) x j = I x j := fun x j hx => by rw [ui_ap, if_neg (by omega)]
    have hz : ∀ k j, ¬ (k = 0 ∧ j = 0) → upY Y 0 0 (Y 0 0 + v) k j = Y k j := fun k j hk => up_no hk
    have hs := hu.2.2.1.2.2.2
    refine cu_gen hT hu ⟨fun k hk => funext (fun j => hz k j (by omega)), fun j hj => hz 0 j (by omega)⟩ (fE_of hH hX ⟨hJ 14 4 (by omega), hJ 14 5 (by omega)⟩ (hJ 7 3 (by omega))) (by rw [ui_ap, if_pos ⟨rfl, rfl⟩, up_at]) (fun j => by rw [hJ 2 j (by omega), hz 1 j (by omega)]; exact hu.1.1.2.1 j) (fun s s0 s1 => ?_) ⟨by rw [hJ 14 6 (by omega), hz 0 9 (by omega)]; exact hu.1.2.1.2.1, by rw [hz 0 9 (by omega)]; exact hu.1.2.2.2.2.2.2.2.1⟩ (mr_e hu.1.2.2.1.2.1 hu.1.2.2.1.2.2.1 (fun x kx => hX _ _ (by have := (hT.g_ask x kx).1; omega)) (fun k j hk => hz k j (by unfold kK at hk; omega))) (mk_e hu.1.2.2.2.2.2.2.2.2.2.2.2.1 (fun k j hk => hz k j (by unfold kK at hk; omega))) (siM_e hu.2.2.1.1 (fun k j hk => hJ k j (by omega)) (fun k j hk => hz k j (by unfold kM at hk; omega))) (siT_e hu.2.2.1.2.1 (fun k j hk => hJ k j (by omega)) (fun k j hk => hz k j (by unfold kT at hk; omega))) ?_ (fun e => hX _ _ (by have := (hT.g_ask _ (hu.2.2.1.2.2.1.2 e).1).1; omega))
    · unfold liY
      rw [hJ 3 _ (by omega), lk_now hs hle]
      exact hu.1.1.2.2 s s0 s1
    · obtain ⟨y1, y2, y3, y4, y5, y6, y7, y8⟩ := hs
      have zr : ∀ k, ¬ k = 0 → upY Y 0 0 (Y 0 0 + v) k = Y k := fun k hk => funext (fun j => up_no (by omega))
      have wt : ∀ x, wtY (upY Y 0 0 (Y 0 0 + v)) x = wtY Y x := fun x => by
        unfold wtY
        rw [zr 28 (by omega)]
      unfold siY
      rw [zr 38 (by omega), zr 37 (by omega), zr 47 (by omega), zr 2 (by omega), zr 3 (by omega), zr 4 (by omega), up_at, hz 0 2 (by omega), hz 0 17 (by omega)]
      refine ⟨y1, y2, y3, y4, fun x hx => ?_, y6, y7, fun j hj => Int32.le_trans (y8 j hj) hle⟩
      rw [hz 0 41 (by omega)] at hx
      rw [wt, zr 29 (by omega)]
      exact y5 x hx
theorem ge_mode (hH : cH C c (n + 1) t K L I R) (hu : cuP C K L I R Y) {a b m : Int32} (hP : ∀ w n' t' K' L' J R', cH C c (n' + 1) t' K' L' J R' → cuP C K' L' J R' (mdY Y a b m) → P (some (.int w)) (n' + 1, t', K', L', J, R')) : a_does (d + 70) 11 [a_rf C, .int a, .int b, .int m] (n + 1, t, K, L, I, R) P := by
  have hT := hH.1
  have hS := hT.s
  have hc := hu.1
  unfold mdY at hP
  refine kr_mode hH (fun q J z => ?_) (fun q q2 J z => ?_) (fun q1 q2 J g f1 f2 => ?_)
  · rw [if_neg (fun w => q w.1)] at hP
    exact hP _ n t K L J R z.1 (cu_re hH hu z)
  · rw [if_neg (fun w => w.2 q2)] at hP
    exact hP _ n t K L J R z.1 (cu_re hH hu z)
  · rw [if_pos ⟨q1, q2⟩] at hP
    refine hP _ n t K L J R g ?_
    have hJ : ∀ k j, ¬ k = 2 → J (C + k) j = I (C + k) j := fun k j hk => f1 _ _ (by omega)
    have hX : ∀ x j, C + 43 < x → J x j = I x j := fun x j hx => f1 _ _ (by omega)
    have hz : ∀ k j, ¬ k = 1 → mdW Y a b m k j = Y k j := fun k j hk => if_neg (fun q => hk q.1)
    have hm : ∀ j, mdW Y a b m 1 j = if a.toNatClampNeg ≤ j ∧ j ≤ b.toNatClampNeg then m else Y 1 j := fun j => by
      unfold mdW
      by_cases e : a.toNatClampNeg ≤ j ∧ j ≤ b.toNatClampNeg
      · rw [if_pos ⟨rfl, e⟩, if_pos e]
      · rw [if_neg (fun q => e q.2), if_neg e]
    exact cu_gen hT hu ⟨fun k hk => funext (fun j => hz k j (by omega)), fun j hj => hz 0 j (by omega)⟩ (fE_of hH hX ⟨hJ 14 4 (by omega), hJ 14 5 (by omega)⟩ (hJ 7 3 (by omega))) (by rw [hJ 1 6 (by omega), hz 0 0 (by omega)]; exact hu.1.1.1) (fun j => by rw [f2, hm, hu.1.1.2.1 j]) (lsP_e hu.1.1.2.2 (fun j => hJ 3 j (by omega)) (fun k j hk => hz k j (by unfold kL at hk; omega))) ⟨by rw [hJ 14 6 (by omega), hz 0 9 (by omega)]; exact hu.1.2.1.2.1, by rw [hz 0 9 (by omega)]; exact hu.1.2.2.2.2.2.2.2.1⟩ (mr_e hu.1.2.2.1.2.1 hu.1.2.2.1.2.2.1 (fun x kx => hX _ _ (by have := (hT.g_ask x kx).1; omega)) (fun k j hk => hz k j (by unfold kK at hk; omega))) (mk_e hu.1.2.2.2.2.2.2.2.2.2.2.2.1 (fun k j hk => hz k j (by unfold kK at hk; omega))) (siM_e hu.2.2.1.1 (fun k j hk => hJ k j (by omega)) (fun k j hk => hz k j (by unfold kM at hk; omega))) (siT_e hu.2.2.1.2.1 (fun k j hk => hJ k j (by omega)) (fun k j hk => hz k j (by unfold kT at hk; omega))) (siY_e hu.2.2.1.2.2.2 (fun k j hk => hz k j (by unfold kY at hk; omega))) (fun e => hX _ _ (by have := (hT.g_ask _ (hu.2.2.1.2.2.1.2 e).1).1; omega))
theorem ge_kin (hH : cH C c (n + 1) t K L I R) (hu : cuP C K L I R Y) {r g : Int32} (hP : ∀ w n' t' K' L' J R', cH C c (n' + 1) t' K' L' J R' → cuP C K' L' J R' (kiY Y r g) → P (some (.int w)) (n' + 1, t', K', L', J, R')) : a_does (d + 70) 89 [a_rf C, .int r, .int g] (n + 1, t, K, L, I, R) P := by
  have hT := hH.1
  have hS := hT.s
  have hc := hu.1
  unfold kiY at hP
  refine kr_kin hH (fun q J z => ?_) (fun q1 q2 g1 => ?_)
  · rw [if_neg q] at hP
    exact hP _ n t K L J R z.1 (cu_re hH hu z)
  · rw [if_pos ⟨q1, q2⟩] at hP
    refine hP _ n t K L _ R (cH_J hH g1) ?_
    have hJ : ∀ k j, ¬ k = 18 → (a_ui I (C + 18) r.toNatClampNeg ((I (C + 18) r.toNatClampNeg) ||| (1 <<< (g &&& 31)))) (C + k) j = I (C + k) j := fun k j hk => by rw [ui_ap, if_neg (by omega)]
    have hX : ∀ x j, C + 43 < x → (a_ui I (C + 18) r.toNatClampNeg ((I (C + 18) r.toNatClampNeg) ||| (1 <<< (g &&& 31)))) x j = I x j := fun x j hx => by rw [ui_ap, if_neg (by omega)]
    have hz : ∀ k j, ¬ k = 35 → upY Y 35 (10 * r.toNatClampNeg + g.toNatClampNeg) 1 k j = Y k j := fun k j hk => up_no (by omega)
    obtain ⟨-, -, r6, g10⟩ := ix_60 (r := r) (g := g) ⟨q1.1, by clear hP hu hc g1 hz hJ hX; grind⟩ ⟨q2.1, by clear hP hu hc g1 hz hJ hX; grind⟩
    refine cu_gen hT hu ⟨fun k hk => funext (fun j => hz k j (by omega)), fun j hj => hz 0 j (by omega)⟩ (fE_of hH hX ⟨hJ 14 4 (by omega), hJ 14 5 (by omega)⟩ (hJ 7 3 (by omega))) (by rw [hJ 1 6 (by omega), hz 0 0 (by omega)]; exact hu.1.1.1) (fun j => by rw [hJ 2 j (by omega), hz 1 j (by omega)]; exact hu.1.1.2.1 j) (lsP_e hu.1.1.2.2 (fun j => hJ 3 j (by omega)) (fun k j hk => hz k j (by unfold kL at hk; omega))) ⟨by rw [hJ 14 6 (by omega), hz 0 9 (by omega)]; exact hu.1.2.1.2.1, by rw [hz 0 9 (by omega)]; exact hu.1.2.2.2.2.2.2.2.1⟩ (mr_e hu.1.2.2.1.2.1 hu.1.2.2.1.2.2.1 (fun x kx => hX _ _ (by have := (hT.g_ask x kx).1; omega)) (fun k j hk => hz k j (by unfold kK at hk; omega))) (mk_e hu.1.2.2.2.2.2.2.2.2.2.2.2.1 (fun k j hk => hz k j (by unfold kK at hk; omega))) ?_ (siT_e hu.2.2.1.2.1 (fun k j hk => hJ k j (by omega)) (fun k j hk => hz k j (by unfold kT at hk; omega))) (siY_e hu.2.2.1.2.2.2 (fun k j hk => hz k j (by unfold kY at hk; omega))) (fun e => hX _ _ (by have := (hT.g_ask _ (hu.2.2.1.2.2.1.2 e).1).1; omega))
    obtain ⟨⟨m1, m2⟩, m3, m4, m5, m6⟩ := hu.2.2.1.1
    refine ⟨⟨by rw [hJ _ _ (by omega), hz _ _ (by omega)]; exact m1, by rw [hJ _ _ (by omega), hz _ _ (by omega)]; exact m2⟩, fun k hk => by rw [hJ _ _ (by omega), hz 38 _ (by omega), hz 36 _ (by omega)]; exact m3 k hk, fun x y hx hy => ?_, fun x y hx hy => by rw [hJ _ _ (by omega), hz 37 _ (by omega)]; exact m5 x y hx hy, fun x y hx hy => by rw [hJ _ _ (by omega), hz 47 _ (by omega)]; exact m6 x y hx hy⟩
    by_cases e : x = r.toNatClampNeg
    · rw [e, ui_ap, if_pos ⟨rfl, rfl⟩]
      have q := bq_set (k := g.toNatClampNeg) (i := y) (by omega) (by omega) (I (C + 18) r.toNatClampNeg)
      rw [← on_cl q2.1] at q
      rw [q]
      by_cases e2 : y = g.toNatClampNeg
      · rw [e2, up_at, decide_eq_true rfl, Bool.or_true]
        exact ⟨fun _ => by decide, fun _ => rfl⟩
      · rw [up_no (by omega), decide_eq_false e2, Bool.or_false]
        exact m4 _ _ r6 hy
    · rw [ui_ap, if_neg (fun q => e q.2), up_no (by omega)]
      exact m4 x y hx hy
theorem ge_feed (hH : cH C c (n + 1) t K L I R) (hu : cuP C K L I R Y) {m : Int32} {w : Int64} (hP : ∀ v n' t' K' L' J R', cH C c (n' + 1) t' K' L' J R' → cuP C K' L' J R' (feY Y m w) → P (some (.int v)) (n' + 1, t', K', L', J, R')) : a_does (d + 70) 66 [a_rf C, .int m, .long w] (n + 1, t, K, L, I, R) P := by
  have hT := hH.1
  have hS := hT.s
  have hc := hu.1
  have e2 : I (C + 11) 2 = Y 0 40 := hu.2.2.1.2.1.2.1.1
  unfold feY at hP
  refine kr_feed hH (fun q J z => ?_) (fun q q2 J z => ?_) (fun q1 q2 J g1 f1 f2 f3 => ?_)
  · rw [if_pos (Or.inl q)] at hP
    exact hP _ n t K L J R z.1 (cu_re hH hu z)
  · rw [e2] at q2
    rw [if_pos (Or.inr q2)] at hP
    exact hP _ n t K L J R z.1 (cu_re hH hu z)
  · rw [e2] at q2 f2 f3
    rw [if_neg (fun q => q.elim q1 q2)] at hP
    refine hP _ n t K L J R (cH_J hH g1) ?_
    have hJ : ∀ k j, ¬ k = 12 → ¬ (k = 11 ∧ j = 2) → J (C + k) j = I (C + k) j := fun k j hk hk2 => f1 _ _ (by omega) (by omega)
    have hX : ∀ x j, C + 43 < x → J x j = I x j := fun x j hx => f1 _ _ (by omega) (by omega)
    have hz : ∀ k j, ¬ (k = 0 ∧ j = 40) ∧ ¬ k = 27 → feW Y m w k j = Y k j := fun k j hk => by
      unfold feW
      rw [if_neg hk.1, if_neg (fun q => hk.2 q.1)]
    have hJ : ∀ k j, ¬ k = 12 ∧ ¬ (k = 11 ∧ j = 2) → J (C + k) j = I (C + k) j := fun k j hk => hJ k j hk.1 hk.2
    refine cu_gen hT hu ⟨fun k hk => funext (fun j => hz k j (by omega)), fun j hj => hz 0 j (by omega)⟩ (fE_of hH hX ⟨hJ 14 4 (by omega), hJ 14 5 (by omega)⟩ (hJ 7 3 (by omega))) (by rw [hJ 1 6 (by omega), hz 0 0 (by omega)]; exact hu.1.1.1) (fun j => by rw [hJ 2 j (by omega), hz 1 j (by omega)]; exact hu.1.1.2.1 j) (lsP_e hu.1.1.2.2 (fun j => hJ 3 j (by omega)) (fun k j hk => hz k j (by unfold kL at hk; omega))) ⟨by rw [hJ 14 6 (by omega), hz 0 9 (by omega)]; exact hu.1.2.1.2.1, by rw [hz 0 9 (by omega)]; exact hu.1.2.2.2.2.2.2.2.1⟩ (mr_e hu.1.2.2.1.2.1 hu.1.2.2.1.2.2.1 (fun x kx => hX _ _ (by have := (hT.g_ask x kx).1; omega)) (fun k j hk => hz k j (by unfold kK at hk; omega))) (mk_e hu.1.2.2.2.2.2.2.2.2.2.2.2.1 (fun k j hk => hz k j (by unfold kK at hk; omega))) (siM_e hu.2.2.1.1 (fun k j hk => hJ k j (by omega)) (fun k j hk => hz k j (by unfold kM at hk; omega))) ?_ (siY_e hu.2.2.1.2.2.2 (fun k j hk => hz k j (by unfold kY at hk; omega))) (fun e => hX _ _ (by have := (hT.g_ask _ (hu.2.2.1.2.2.1.2 e).1).1; omega))
    obtain ⟨⟨t1, t2⟩, ⟨t3, t4⟩, t5, t6⟩ := hu.2.2.1.2.1
    have c0 : J C 10 = I C 10 := hJ 0 10 (by omega)
    refine ⟨⟨by rw [hJ _ _ (by omega), hz _ _ (by omega)]; exact t1, fun j hj => ?_⟩, ⟨by rw [f2]; exact (if_pos ⟨rfl, rfl⟩).symm, fun j => ?_⟩, by rw [c0, hz 0 79 (by omega)]; exact t5, fun j hj => ?_⟩
    · rw [hz 0 2 (by omega)] at hj
      rw [hJ _ _ (by omega), hJ _ _ (by omega), hJ _ _ (by omega), hz 2 _ (by omega), hz 3 _ (by omega), hz 4 _ (by omega)]
      exact t2 j hj
    · rw [f3 j, t4 j]
      by_cases e : (Y 0 40).toNatClampNeg ≤ j ∧ j < (Y 0 40 + m).toNatClampNeg
      · rw [if_pos e]
        unfold feW
        rw [if_neg (by omega), if_pos ⟨rfl, e⟩]
      · rw [if_neg e]
        unfold feW
        rw [if_neg (by omega), if_neg (fun q => e q.2)]
    · rw [hz 0 79 (by omega)] at hj
      rw [hJ _ _ (by omega), hz 52 _ (by omega)]
      exact t6 j hj
theorem ge_check (hH : cH C c (n + 1) t K L I R) (hu : cuP C K L I R Y) {b a k : Int32} (hP : ∀ w n' t' K' L' J R', cH C c (n' + 1) t' K' L' J R' → cuP C K' L' J R' (ckY Y b a k) → P (some (.int w)) (n' + 1, t', K', L', J, R')) : a_does (d + 70) 164 [a_rf C, .int b, .int a, .int k] (n + 1, t, K, L, I, R) P := by
  have hT := hH.1
  have hS := hT.s
  have hc := hu.1
  have e6 : I (C + 1) 6 = Y 0 0 := hc.1.1
  have e5 : I (C + 14) 5 = Y 0 6 := hc.2.1.1
  have e10 : I C 10 = Y 0 79 := hu.2.2.1.2.1.2.2.1
  unfold ckY at hP
  refine kr_check hH (fun q J z => ?_) (fun q q2 J z => ?_) (fun q q2 q3 J z => ?_) (fun q1 q2 q3 g1 v => ?_)
  · rw [e5, e10] at q
    rw [if_neg (fun w => q w.1)] at hP
    exact hP _ n t K L J R z.1 (cu_re hH hu z)
  · rw [if_neg (fun w => w.2.1 q2)] at hP
    exact hP _ n t K L J R z.1 (cu_re hH hu z)
  · rw [e6] at q3
    rw [if_neg (fun w => w.2.2 q3)] at hP
    exact hP _ n t K L J R z.1 (cu_re hH hu z)
  · rw [e5, e10] at q1
    rw [e6] at q3
    rw [if_pos ⟨q1, q2, q3⟩] at hP
    refine hP _ n t K L _ R (cH_J hH g1) ?_
    have hJ : ∀ k j, ¬ (k = 0 ∧ j = 10) → a_ui I C 10 0 (C + k) j = I (C + k) j := fun k j hk => by rw [ui_ap, if_neg (by omega)]
    have hX : ∀ x j, C + 43 < x → a_ui I C 10 0 x j = I x j := fun x j hx => by rw [ui_ap, if_neg (by omega)]
    have hz : ∀ k j, ¬ (k = 0 ∧ j = 79) → upY Y 0 79 0 k j = Y k j := fun k j hk => up_no hk
    refine cu_gen hT hu ⟨fun k hk => funext (fun j => hz k j (by omega)), fun j hj => hz 0 j (by omega)⟩ (fE_of hH hX ⟨hJ 14 4 (by omega), hJ 14 5 (by omega)⟩ (hJ 7 3 (by omega))) (by rw [hJ 1 6 (by omega), hz 0 0 (by omega)]; exact hu.1.1.1) (fun j => by rw [hJ 2 j (by omega), hz 1 j (by omega)]; exact hu.1.1.2.1 j) (lsP_e hu.1.1.2.2 (fun j => hJ 3 j (by omega)) (fun k j hk => hz k j (by unfold kL at hk; omega))) ⟨by rw [hJ 14 6 (by omega), hz 0 9 (by omega)]; exact hu.1.2.1.2.1, by rw [hz 0 9 (by omega)]; exact hu.1.2.2.2.2.2.2.2.1⟩ (mr_e hu.1.2.2.1.2.1 hu.1.2.2.1.2.2.1 (fun x kx => hX _ _ (by have := (hT.g_ask x kx).1; omega)) (fun k j hk => hz k j (by unfold kK at hk; omega))) (mk_e hu.1.2.2.2.2.2.2.2.2.2.2.2.1 (fun k j hk => hz k j (by unfold kK at hk; omega))) (siM_e hu.2.2.1.1 (fun k j hk => hJ k j (by omega)) (fun k j hk => hz k j (by unfold kM at hk; omega))) ?_ (siY_e hu.2.2.1.2.2.2 (fun k j hk => hz k j (by unfold kY at hk; omega))) (fun e => hX _ _ (by have := (hT.g_ask _ (hu.2.2.1.2.2.1.2 e).1).1; omega))
    obtain ⟨⟨t1, t2⟩, ⟨t3, t4⟩, t5, t6⟩ := hu.2.2.1.2.1
    refine ⟨⟨by rw [hJ _ _ (by omega), hz _ _ (by omega)]; exact t1, fun j hj => ?_⟩, ⟨by rw [hJ _ _ (by omega), hz _ _ (by omega)]; exact t3, fun j => by rw [hJ _ _ (by omega), hz 27 _ (by omega)]; exact t4 j⟩, by rw [ui_ap, if_pos ⟨rfl, rfl⟩, up_at], fun j hj => ?_⟩
    · rw [hz 0 2 (by omega)] at hj
      rw [hJ _ _ (by omega), hJ _ _ (by omega), hJ _ _ (by omega), hz 2 _ (by omega), hz 3 _ (by omega), hz 4 _ (by omega)]
      exact t2 j hj
    · rw [up_at] at hj
      exact absurd hj (Nat.not_lt_zero _)
theorem ge_shiftOf (hH : cH C c (n + 1) t K L I R) (hu : cuP C K L I R Y) {s k x : Int32} (hP : ∀ w n' t' K' L' J R', cH C c (n' + 1) t' K' L' J R' → cuP C K' L' J R' (Y) → P (some (.int w)) (n' + 1, t', K', L', J, R')) : a_does (d + 70) 17 [a_rf C, .int s, .int x, .int k] (n + 1, t, K, L, I, R) P := kr_shiftOf hH (fun _ J z => hP _ n t K L J R z.1 (cu_re hH hu z)) (fun _ _ J z => hP _ n t K L J R z.1 (cu_re hH hu z)) (fun _ _ _ J z => hP _ n t K L J R z.1 (cu_re hH hu z)) (fun _ _ _ _ J z => hP _ n t K L J R z.1 (cu_re hH hu z)) (fun _ _ _ _ => hP _ n t K L I R hH hu)
end ZB0
section ZB1
variable {d n t M : Nat} {K L : Nat → Nat} {I I0 J J0 J1 J2 : Nat → Nat → Int32} {R : Nat → Nat → Nat} {P : Option Value → AH → Prop} {f : Nat → Int32} {e : Int32}
variable {Y Z W : Nat → Nat → Int32}
theorem gs_mk {M : Nat} (hg : gs M I0 I Y) (hR : mR M J) (hx : ∀ x j, (x < M ∨ M + 52 < x) → J x j = I x j) (h10 : Z 10 = Y 10) (h20 : Z 20 = Y 20) (h22 : Z 22 = Y 22) (e22 : ∀ j, J (M + 22) j = I (M + 22) j) (hw : ∀ k j, ps1 k j → J (M + k) j = Z k j) : gs M I0 J Z := ⟨hR, fun x j p => (hx x j p).trans (hg.2.1 x j p), hw, fun o o0 o1 o2 i i0 i1 => by
  rw [h20] at o2
  rw [h10] at i1
  rw [h22]
  exact (e22 _).trans (hg.2.2.2 o o0 o1 o2 i i0 i1)⟩
theorem gs_Y (hg : gs M I0 I Y) (h : Z = Y) : gs M I0 I Z := by rw [h]; exact hg
theorem xp_hours (hS : m_S M K L R) {I1 : Nat → Nat → Int32} (hm : okY Y) {c : Nat} (hc : c + 130 ≤ 84000) (hF : mF M c I1 I) (hg : gs M I0 I Y) {v : Int32} (hP : ∀ w J, J M 35 = I M 35 → gs M I0 J (hrY Y v) → P (some (.int w)) (n, t, K, L, J, R)) : a_does (d + 13) 170 [a_rf M, .int v] (n, t, K, L, I, R) P := by
  have hy := hm.1
  have h17 := hy.2.2.2.2.1
  have h10 := hy.2.1
  have h6 := hy.2.2.2.2.2.1
  have hl := hy.2.2.1
  have hrf : ∀ k : Nat, mF M (c + 120) I1 (a_ui I (M + 23) k (I (M + 23) k + 1)) ∧ gs M I0 (a_ui I (M + 23) k (I (M + 23) k + 1)) Y := fun k => ⟨mF_le (sF_refused hF) (by omega), gs_ui hg (sR_refused hg.1) (by omega) ⟨by unfold ps1; omega, by omega⟩⟩
  have e17 : I M 17 = Y 0 17 := hg.2.2.1 0 17 (by unfold ps1; omega)
  have e6 : I M 6 = Y 0 6 := hg.2.2.1 0 6 (by unfold ps1; omega)
  have e0 : I M 0 = Y 0 0 := hg.2.2.1 0 0 (by unfold ps1; omega)
  have m17 : ∀ x : Int32, (x ≤ Y 0 17 - 1) = (x < Y 0 17) := fun x => le_m1 h17
  have m6 : ∀ x : Int32, (x ≤ Y 0 6 - 1) = (x < Y 0 6) := fun x => le_m1 ⟨h6.1, Int32.le_trans h6.2 (by decide)⟩
  have m199 : ∀ x : Int32, (x ≤ 199) = (x < 200) := fun x => propext ⟨fun q => Int32.lt_of_le_of_lt q (by decide), fun q => by clear hP hrf hm hg hF; grind⟩
  have g0 := rg_now hg.1
  rw [e0] at g0
  unfold hrY at hP
  refine pe_hours (d := d + 11) hS (fun q => ?_) (fun q1 q2 => ?_) (fun q1 q2 => ?_)
  · refine hP _ _ (by rw [ui_ap, if_neg (by omega)]) ?_
    by_cases c : v < 0 ∨ 1600 - Y 0 0 < v
    · rw [if_pos c]
      exact (hrf 4).2
    · rw [if_neg c]
      exact gs_Y (hrf 4).2 (up_same (by clear hP hrf hm hy hl hg hF; grind))
  · rw [e0] at q2
    rw [if_pos (Or.inr q2)] at hP
    exact hP _ _ (by rw [ui_ap, if_neg (by omega)]) (hrf 6).2
  · rw [e0] at q2 ⊢
    rw [if_neg (fun q => q.elim (fun q => q1 (by clear hP hrf hm hy hl hg hF; grind)) q2)] at hP
    refine hP _ _ (by rw [ui_ap, if_neg (by omega)]) ?_
    exact gs_up2 hg (k := 0) (j := 0) (by omega) (by omega) (sR_now hg.1 (by clear hP hrf hm hy hl hg hF; grind))
theorem mR_rw1 (h : mR M I) {k : Nat} (hk : k = 1 ∨ k = 27 ∨ k = 35) (e : ∀ x j, ¬ x = M + k → J x j = I x j) : mR M J := by
  have e0 : ∀ j, J M j = I M j := fun j => e _ _ (by omega)
  have e1 : ∀ i, ¬ i = 1 → ¬ i = 27 → ¬ i = 35 → J (M + i) = I (M + i) := fun i a b c => funext (fun j => e _ _ (by omega))
  unfold mR at h ⊢
  simp only [e0, e1 7 (by decide) (by decide) (by decide), e1 8 (by decide) (by decide) (by decide), e1 10 (by decide) (by decide) (by decide), e1 16 (by decide) (by decide) (by decide), e1 20 (by decide) (by decide) (by decide), e1 21 (by decide) (by decide) (by decide), e1 29 (by decide) (by decide) (by decide), e1 40 (by decide) (by decide) (by decide), e1 41 (by decide) (by decide) (by decide), e1 44 (by decide) (by decide) (by decide), e1 49 (by decide) (by decide) (by decide), e1 50 (by decide) (by decide) (by decide)]
  exact h
theorem xp_mode (hS : m_S M K L R) {I1 : Nat → Nat → Int32} (hm : okY Y) {c : Nat} (hc : c + 130 ≤ 84000) (hF : mF M c I1 I) (hg : gs M I0 I Y) {a b m : Int32} (hP : ∀ w J, J M 35 = I M 35 → gs M I0 J (mdY Y a b m) → P (some (.int w)) (n, t, K, L, J, R)) : a_does (d + 13) 172 [a_rf M, .int a, .int b, .int m] (n, t, K, L, I, R) P := by
  have hy := hm.1
  have h17 := hy.2.2.2.2.1
  have h10 := hy.2.1
  have h6 := hy.2.2.2.2.2.1
  have hl := hy.2.2.1
  have hrf : ∀ k : Nat, mF M (c + 120) I1 (a_ui I (M + 23) k (I (M + 23) k + 1)) ∧ gs M I0 (a_ui I (M + 23) k (I (M + 23) k + 1)) Y := fun k => ⟨mF_le (sF_refused hF) (by omega), gs_ui hg (sR_refused hg.1) (by omega) ⟨by unfold ps1; omega, by omega⟩⟩
  have e17 : I M 17 = Y 0 17 := hg.2.2.1 0 17 (by unfold ps1; omega)
  have e6 : I M 6 = Y 0 6 := hg.2.2.1 0 6 (by unfold ps1; omega)
  have e0 : I M 0 = Y 0 0 := hg.2.2.1 0 0 (by unfold ps1; omega)
  have m17 : ∀ x : Int32, (x ≤ Y 0 17 - 1) = (x < Y 0 17) := fun x => le_m1 h17
  have m6 : ∀ x : Int32, (x ≤ Y 0 6 - 1) = (x < Y 0 6) := fun x => le_m1 ⟨h6.1, Int32.le_trans h6.2 (by decide)⟩
  have m199 : ∀ x : Int32, (x ≤ 199) = (x < 200) := fun x => propext ⟨fun q => Int32.lt_of_le_of_lt q (by decide), fun q => by clear hP hrf hm hg hF; grind⟩
  unfold mdY at hP
  refine pe_mode (d := d + 10) hS (fun q => ?_) (fun q1 q2 => ?_) (fun q1 q2 J f1 f2 => ?_)
  · rw [if_neg (fun w => q ⟨⟨w.1.1.1, by rw [m199]; exact w.1.1.2⟩, ⟨w.1.2.1.1, by rw [m199]; exact w.1.2.1.2⟩, w.1.2.2⟩)] at hP
    exact hP _ _ (by rw [ui_ap, if_neg (by omega)]) (hrf 1).2
  · rw [if_neg (fun w => q2 ⟨Int32.not_lt.mp (fun q => w.2 (Or.inl q)), Int32.not_lt.mp (fun q => w.2 (Or.inr q))⟩)] at hP
    exact hP _ _ (by rw [ui_ap, if_neg (by omega)]) (hrf 2).2
  · rw [m199, m199] at q1
    rw [if_pos ⟨q1, fun q => q.elim (fun q => absurd q2.1 (Int32.not_le.mpr q)) (fun q => absurd q2.2 (Int32.not_le.mpr q))⟩] at hP
    refine hP _ J (f1 _ _ (by omega)) (gs_mk hg (mR_rw1 hg.1 (k := 1) (by omega) f1) (fun x j p => f1 _ _ (by omega)) (funext (fun j => if_neg (by omega))) (funext (fun j => if_neg (by omega))) (funext (fun j => if_neg (by omega))) (fun j => f1 _ _ (by omega)) (fun k j p => ?_))
    unfold mdW
    by_cases e : k = 1
    · rw [e, f2]
      by_cases e2 : a.toNatClampNeg ≤ j ∧ j ≤ b.toNatClampNeg
      · rw [if_pos e2, if_pos ⟨rfl, e2⟩]
      · rw [if_neg e2, if_neg (fun q => e2 q.2)]
        exact hg.2.2.1 1 j (by unfold ps1; omega)
    · rw [if_neg (fun q => e q.1), f1 _ _ (by omega)]
      exact hg.2.2.1 k j p
theorem xp_kin (hS : m_S M K L R) {I1 : Nat → Nat → Int32} (hm : okY Y) {c : Nat} (hc : c + 130 ≤ 84000) (hF : mF M c I1 I) (hg : gs M I0 I Y) {r g : Int32} (hP : ∀ w J, J M 35 = I M 35 → gs M I0 J (kiY Y r g) → P (some (.int w)) (n, t, K, L, J, R)) : a_does (d + 13) 213 [a_rf M, .int r, .int g] (n, t, K, L, I, R) P := by
  have hy := hm.1
  have h17 := hy.2.2.2.2.1
  have h10 := hy.2.1
  have h6 := hy.2.2.2.2.2.1
  have hl := hy.2.2.1
  have hrf : ∀ k : Nat, mF M (c + 120) I1 (a_ui I (M + 23) k (I (M + 23) k + 1)) ∧ gs M I0 (a_ui I (M + 23) k (I (M + 23) k + 1)) Y := fun k => ⟨mF_le (sF_refused hF) (by omega), gs_ui hg (sR_refused hg.1) (by omega) ⟨by unfold ps1; omega, by omega⟩⟩
  have e17 : I M 17 = Y 0 17 := hg.2.2.1 0 17 (by unfold ps1; omega)
  have e6 : I M 6 = Y 0 6 := hg.2.2.1 0 6 (by unfold ps1; omega)
  have e0 : I M 0 = Y 0 0 := hg.2.2.1 0 0 (by unfold ps1; omega)
  have m17 : ∀ x : Int32, (x ≤ Y 0 17 - 1) = (x < Y 0 17) := fun x => le_m1 h17
  have m6 : ∀ x : Int32, (x ≤ Y 0 6 - 1) = (x < Y 0 6) := fun x => le_m1 ⟨h6.1, Int32.le_trans h6.2 (by decide)⟩
  have m199 : ∀ x : Int32, (x ≤ 199) = (x < 200) := fun x => propext ⟨fun q => Int32.lt_of_le_of_lt q (by decide), fun q => by clear hP hrf hm hg hF; grind⟩
  unfold kiY at hP
  refine pe_kin (d := d + 10) hS (fun q => ?_) (fun q1 q2 => ?_)
  · rw [if_neg q] at hP
    exact hP _ _ (by rw [ui_ap, if_neg (by omega)]) (hrf 1).2
  · rw [if_pos ⟨q1, q2⟩] at hP
    obtain ⟨ex, -⟩ := ix_60 (r := r) (g := g) ⟨q1.1, by clear hP hrf hm hy hl hg hF; grind⟩ ⟨q2.1, by clear hP hrf hm hy hl hg hF; grind⟩
    rw [ex, show (1 : Int32) &&& 1 = 1 by decide]
    exact hP _ _ (by rw [ui_ap, if_neg (by omega)]) (gs_up2 hg (by omega) (by omega) (sR_isKin hg.1))
theorem xp_feed (hS : m_S M K L R) {I1 : Nat → Nat → Int32} (hm : okY Y) {c : Nat} (hc : c + 130 ≤ 84000) (hF : mF M c I1 I) (hg : gs M I0 I Y) {m : Int32} {w : Int64} (hP : ∀ v J, J M 35 = I M 35 → gs M I0 J (feY Y m w) → P (some (.int v)) (n, t, K, L, J, R)) : a_does (d + 16) 200 [a_rf M, .int m, .long w] (n, t, K, L, I, R) P := by
  have hy := hm.1
  have h17 := hy.2.2.2.2.1
  have h10 := hy.2.1
  have h6 := hy.2.2.2.2.2.1
  have hl := hy.2.2.1
  have hrf : ∀ k : Nat, mF M (c + 120) I1 (a_ui I (M + 23) k (I (M + 23) k + 1)) ∧ gs M I0 (a_ui I (M + 23) k (I (M + 23) k + 1)) Y := fun k => ⟨mF_le (sF_refused hF) (by omega), gs_ui hg (sR_refused hg.1) (by omega) ⟨by unfold ps1; omega, by omega⟩⟩
  have e17 : I M 17 = Y 0 17 := hg.2.2.1 0 17 (by unfold ps1; omega)
  have e6 : I M 6 = Y 0 6 := hg.2.2.1 0 6 (by unfold ps1; omega)
  have e0 : I M 0 = Y 0 0 := hg.2.2.1 0 0 (by unfold ps1; omega)
  have m17 : ∀ x : Int32, (x ≤ Y 0 17 - 1) = (x < Y 0 17) := fun x => le_m1 h17
  have m6 : ∀ x : Int32, (x ≤ Y 0 6 - 1) = (x < Y 0 6) := fun x => le_m1 ⟨h6.1, Int32.le_trans h6.2 (by decide)⟩
  have m199 : ∀ x : Int32, (x ≤ 199) = (x < 200) := fun x => propext ⟨fun q => Int32.lt_of_le_of_lt q (by decide), fun q => by clear hP hrf hm hg hF; grind⟩
  have e40 : I M 40 = Y 0 40 := hg.2.2.1 0 40 (by unfold ps1; omega)
  unfold feY at hP
  refine pe_feed hS hg.1 (rg_tapeMany hg.1) (fun q => ?_) (fun q1 q2 => ?_) (fun q1 q2 J f0 f1 f2 f3 => ?_)
  · rw [if_pos (Or.inl q)] at hP
    exact hP _ _ (by rw [ui_ap, if_neg (by omega)]) (hrf 4).2
  · rw [e40] at q2
    rw [if_pos (Or.inr q2)] at hP
    exact hP _ _ (by rw [ui_ap, if_neg (by omega)]) (hrf 6).2
  · rw [e40] at q2 f2 f3
    rw [if_neg (fun q => q.elim q1 q2)] at hP
    refine hP _ J (f1 _ _ (by omega) (by omega)) (gs_mk hg f0 (fun x j p => f1 _ _ (by omega) (by omega)) ?_ ?_ ?_ (fun j => f1 _ _ (by omega) (by omega)) (fun k j p => ?_))
    · funext j
      unfold feW
      rw [if_neg (by omega), if_neg (by omega)]
    · funext j
      unfold feW
      rw [if_neg (by omega), if_neg (by omega)]
    · funext j
      unfold feW
      rw [if_neg (by omega), if_neg (by omega)]
    · unfold feW
      by_cases e : k = 0 ∧ j = 40
      · rw [if_pos e, e.1, e.2]
        exact f2
      · rw [if_neg e]
        by_cases e2 : k = 27
        · rw [e2, f3 j]
          by_cases e3 : (Y 0 40).toNatClampNeg ≤ j ∧ j < (Y 0 40 + m).toNatClampNeg
          · rw [if_pos e3, if_pos ⟨rfl, e3⟩]
          · rw [if_neg e3, if_neg (fun q => e3 q.2)]
            exact hg.2.2.1 27 j (by unfold ps1; omega)
        · rw [if_neg (fun q => e2 q.1), f1 _ _ (by omega) (by omega)]
          exact hg.2.2.1 k j p
theorem xp_check (hS : m_S M K L R) {I1 : Nat → Nat → Int32} (hm : okY Y) {c : Nat} (hc : c + 130 ≤ 84000) (hF : mF M c I1 I) (hg : gs M I0 I Y) {b a k : Int32} (hP : ∀ w J, J M 35 = I M 35 → gs M I0 J (ckY Y b a k) → P (some (.int w)) (n, t, K, L, J, R)) : a_does (d + 13) 260 [a_rf M, .int b, .int a, .int k] (n, t, K, L, I, R) P := by
  have hy := hm.1
  have h17 := hy.2.2.2.2.1
  have h10 := hy.2.1
  have h6 := hy.2.2.2.2.2.1
  have hl := hy.2.2.1
  have hrf : ∀ k : Nat, mF M (c + 120) I1 (a_ui I (M + 23) k (I (M + 23) k + 1)) ∧ gs M I0 (a_ui I (M + 23) k (I (M + 23) k + 1)) Y := fun k => ⟨mF_le (sF_refused hF) (by omega), gs_ui hg (sR_refused hg.1) (by omega) ⟨by unfold ps1; omega, by omega⟩⟩
  have e17 : I M 17 = Y 0 17 := hg.2.2.1 0 17 (by unfold ps1; omega)
  have e6 : I M 6 = Y 0 6 := hg.2.2.1 0 6 (by unfold ps1; omega)
  have e0 : I M 0 = Y 0 0 := hg.2.2.1 0 0 (by unfold ps1; omega)
  have m17 : ∀ x : Int32, (x ≤ Y 0 17 - 1) = (x < Y 0 17) := fun x => le_m1 h17
  have m6 : ∀ x : Int32, (x ≤ Y 0 6 - 1) = (x < Y 0 6) := fun x => le_m1 ⟨h6.1, Int32.le_trans h6.2 (by decide)⟩
  have m199 : ∀ x : Int32, (x ≤ 199) = (x < 200) := fun x => propext ⟨fun q => Int32.lt_of_le_of_lt q (by decide), fun q => by clear hP hrf hm hg hF; grind⟩
  have e79 : I M 79 = Y 0 79 := hg.2.2.1 0 79 (by unfold ps1; omega)
  have g79 := rg_rowMany hg.1
  rw [e79] at g79
  have ec : ((0 ≤ b ∧ b ≤ I M 6 - 1) ∧ (0 ≤ a ∧ a ≤ 199) ∧ a + I M 79 - 1 ≤ 199) ↔ ((0 ≤ b ∧ b < Y 0 6) ∧ (0 ≤ a ∧ a < 200) ∧ a + Y 0 79 ≤ 200) := by
    rw [e6, e79, m6, m199]
    clear hP hrf hm hy hl hg hF
    grind
  unfold ckY at hP
  refine pe_check (d := d + 10) hS hg.1 (fun q => ?_) (fun q1 q2 => ?_) (fun q1 q2 q3 => ?_) (fun q1 q2 q3 v => ?_)
  · rw [if_neg (fun w => q (ec.mpr w.1))] at hP
    exact hP _ _ (by rw [ui_ap, if_neg (by omega)]) (hrf 1).2
  · rw [if_neg (fun w => w.2.1 q2)] at hP
    exact hP _ _ (by rw [ui_ap, if_neg (by omega)]) (hrf 4).2
  · rw [e0] at q3
    rw [if_neg (fun w => w.2.2 q3)] at hP
    exact hP _ _ (by rw [ui_ap, if_neg (by omega)]) (hrf 6).2
  · rw [e0] at q3
    rw [if_pos ⟨ec.mp q1, q2, q3⟩] at hP
    exact hP _ _ (by rw [ui_ap, if_neg (by omega)]) (gs_up2 hg (k := 0) (j := 79) (by omega) (by omega) (sR_rowMany hg.1 (by decide)))
end ZB1
/-! what a TEXT says hangs on its bytes -/
section ZM0
variable {f g : Nat → Int32} {e : Int32}
theorem xdg_c (H : ∀ a : Int32, a < e → f a.toNatClampNeg = g a.toNatClampNeg) : ∀ (k : Nat) (a v : Int32), xdg f e k a v = xdg g e k a v := by
  intro k
  induction k with
  | zero => intro a v; rfl
  | succ k ih =>
    intro a v
    unfold xdg
    by_cases c : a < e
    · rw [H a c, ih]
    · rw [if_neg (fun q => c q.1), if_neg (fun q => c q.1)]
theorem xU_cg (H : ∀ a : Int32, a < e → f a.toNatClampNeg = g a.toNatClampNeg) (a : Int32) : xU f e a = xU g e a := by
  unfold xU
  rw [xdg_c H]
  by_cases c : a < e
  · rw [H a c]
  · rw [if_neg (fun q => c q.1), if_neg (fun q => c q.1), if_neg (fun q => c q.1), if_neg (fun q => c q.1)]
theorem i3_cg (H : ∀ a : Int32, a < e → f a.toNatClampNeg = g a.toNatClampNeg) (a x y z : Int32) : i3 f e a x y z ↔ i3 g e a x y z := by
  unfold i3
  by_cases c : a < e
  · rw [H a c]
  · exact ⟨fun q => absurd q.1 c, fun q => absurd q.1 c⟩
theorem xsu_cg (H : ∀ a : Int32, a < e → f a.toNatClampNeg = g a.toNatClampNeg) : ∀ (k : Nat) (r : rdT), xsu f e k r = xsu g e k r := by
  intro k
  induction k with
  | zero => intro r; rfl
  | succ k ih =>
    intro r
    unfold xsu
    by_cases c : r.1 = true ∧ i3 f e r.2.1 43 45 42
    · rw [if_pos c, if_pos ⟨c.1, (i3_cg H _ _ _ _).mp c.2⟩, H _ c.2.1, xU_cg H, ih]
    · rw [if_neg c, if_neg (fun q => c ⟨q.1, (i3_cg H _ _ _ _).mpr q.2⟩)]
theorem xS_cg (H : ∀ a : Int32, a < e → f a.toNatClampNeg = g a.toNatClampNeg) (a : Int32) : xS f e a = xS g e a := by
  unfold xS
  rw [xU_cg H, xsu_cg H]
theorem xC_cg (H : ∀ a : Int32, a < e → f a.toNatClampNeg = g a.toNatClampNeg) (a : Int32) : xC f e a = xC g e a := by
  unfold xC
  rw [xS_cg H a]
  by_cases c : i3 f e (xS g e a).2.1 60 61 62
  · rw [if_pos c, if_pos ((i3_cg H _ _ _ _).mp c), H _ c.1, xS_cg H]
  · rw [if_neg c, if_neg (fun q => c ((i3_cg H _ _ _ _).mpr q))]
theorem xlo_cg (H : ∀ a : Int32, a < e → f a.toNatClampNeg = g a.toNatClampNeg) {q : Int32 → rdT} {c : Int32} {op : Int32 → Int32 → Int32} : ∀ (k : Nat) (r : rdT), xlo f e q c op k r = xlo g e q c op k r := by
  intro k
  induction k with
  | zero => intro r; rfl
  | succ k ih =>
    intro r
    unfold xlo
    by_cases d : r.2.1 < e
    · rw [H _ d, ih]
    · rw [if_neg (fun q => d q.2.1), if_neg (fun q => d q.2.1)]
theorem xjo_cg (H : ∀ a : Int32, a < e → f a.toNatClampNeg = g a.toNatClampNeg) {q : Int32 → rdT} : ∀ (y : Nat), xjo f e q y = xjo g e q y := by
  intro y
  induction y with
  | zero => rfl
  | succ y ih =>
    funext a
    unfold xjo
    rw [ih, xlo_cg H]
theorem xP_cg (H : ∀ a : Int32, a < e → f a.toNatClampNeg = g a.toNatClampNeg) : ∀ (z : Nat), xP f e z = xP g e z := by
  intro z
  induction z with
  | zero =>
    funext a
    unfold xP
    rw [xC_cg H]
    by_cases c : a < e
    · rw [H a c]
    · rw [if_neg (fun q => c q.1), if_neg (fun q => c q.1)]
  | succ z ih =>
    funext a
    unfold xP
    rw [xC_cg H, ih, xjo_cg H]
    by_cases c : a < e
    · rw [H a c]
      by_cases d : (xjo g e (xP g e z) 3 (a + 1)).2.1 < e
      · rw [H _ d]
      · rw [if_neg (c := (xjo g e (xP g e z) 3 (a + 1)).2.1 < e ∧ f (xjo g e (xP g e z) 3 (a + 1)).2.1.toNatClampNeg = 41) (fun q => d q.1), if_neg (c := (xjo g e (xP g e z) 3 (a + 1)).2.1 < e ∧ g (xjo g e (xP g e z) 3 (a + 1)).2.1.toNatClampNeg = 41) (fun q => d q.1)]
    · rw [if_neg (fun q => c q.1), if_neg (fun q => c q.1), if_neg (fun q => c q.1), if_neg (fun q => c q.1)]
theorem xT_cg (H : ∀ a : Int32, a < e → f a.toNatClampNeg = g a.toNatClampNeg) : xT f e = xT g e := by
  have h0 : 0 < e → f 0 = g 0 := fun q => H 0 q
  have h1 : 1 < e → f 1 = g 1 := fun q => H 1 q
  have hR : xR f e 2 = xR g e 2 := by
    unfold xR
    rw [xP_cg H, xjo_cg H]
  unfold xT
  rw [hR, xS_cg H]
  by_cases c : 0 < e
  · rw [h0 c]
    by_cases d : 1 < e
    · rw [h1 d]
    · rw [if_neg (c := 1 < e ∧ f 1 = 58) (fun q => d q.1), if_neg (c := 1 < e ∧ g 1 = 58) (fun q => d q.1)]
  · rw [if_neg (fun q => c q.1), if_neg (fun q => c q.1)]
/-- bytes below the end alone count -/
theorem xT_nat (h0 : 0 ≤ e) (h : ∀ j : Nat, j < e.toNatClampNeg → f j = g j) : xT f e = xT g e := by
  by_cases c : 0 < e
  · refine xT_cg (fun a ha => h _ ?_)
    by_cases d : 0 ≤ a
    · exact cl_lt d ha
    · have e1 : a.toNatClampNeg = 0 := by
        have := Int32.lt_iff_toInt_lt.mp (Int32.not_le.mp d)
        have c0 : (0 : Int32).toInt = 0 := rfl
        show a.toInt.toNat = 0
        omega
      have := cl_lt (show (0 : Int32) ≤ 0 by decide) c
      rw [e1]
      exact this
  · unfold xT
    rw [if_neg (fun q => c q.1), if_neg (fun q => c q.1)]
end ZM0
section ZM1
variable {d n t C c : Nat} {K L : Nat → Nat} {I I0 J J0 J1 J2 : Nat → Nat → Int32} {R : Nat → Nat → Nat} {P : Option Value → AH → Prop}
variable {Y Z W : Nat → Nat → Int32} {R' R1 : Nat → Nat → Nat} {K' L' : Nat → Nat}
/-- the words behind a TEXT -/
def txW (Y : Nat → Nat → Int32) (s : Int32) : Nat → Nat → Int32 := fun k j => if k = 0 ∧ j = 40 then 0 else if k = 0 ∧ j = 41 then Y 0 41 + 1 else if k = 28 ∧ 50 * (Y 0 41).toNatClampNeg ≤ j ∧ j < 50 * (Y 0 41).toNatClampNeg + (Y 0 40).toNatClampNeg then Y 27 (j - 50 * (Y 0 41).toNatClampNeg) else if k = 29 ∧ j = (Y 0 41).toNatClampNeg then Y 0 40 else if k = 30 ∧ j = (Y 0 41).toNatClampNeg then s else if k = 31 ∧ j = (Y 0 41).toNatClampNeg then 1000000 else Y k j
def txY (Y : Nat → Nat → Int32) (s : Int32) : Nat → Nat → Int32 := if ¬ (0 ≤ s ∧ s ≤ 199) ∨ Y 0 41 = 20 then Y else if (xT (Y 27) (Y 0 40)).1 = true then txW Y s else upY Y 0 40 0
theorem tw_no {s : Int32} {k j : Nat} (h : ¬ (k = 0 ∧ (j = 40 ∨ j = 41))) (h2 : ¬ (28 ≤ k ∧ k ≤ 31)) : txW Y s k j = Y k j := by
  unfold txW
  rw [if_neg (by omega), if_neg (by omega), if_neg (by omega), if_neg (by omega), if_neg (by omega), if_neg (by omega)]
theorem tw_ne {s : Int32} {k j : Nat} (h : 29 ≤ k ∧ k ≤ 31) (h2 : ¬ j = (Y 0 41).toNatClampNeg) : txW Y s k j = Y k j := by
  unfold txW
  rw [if_neg (by omega), if_neg (by omega), if_neg (by omega), if_neg (by omega), if_neg (by omega), if_neg (by omega)]
theorem tw_28 {s : Int32} {j : Nat} : txW Y s 28 j = if 50 * (Y 0 41).toNatClampNeg ≤ j ∧ j < 50 * (Y 0 41).toNatClampNeg + (Y 0 40).toNatClampNeg then Y 27 (j - 50 * (Y 0 41).toNatClampNeg) else Y 28 j := by
  unfold txW
  rw [if_neg (by omega), if_neg (by omega)]
  by_cases e : 50 * (Y 0 41).toNatClampNeg ≤ j ∧ j < 50 * (Y 0 41).toNatClampNeg + (Y 0 40).toNatClampNeg
  · rw [if_pos ⟨rfl, e⟩, if_pos e]
  · rw [if_neg (fun q => e q.2), if_neg (by omega), if_neg (by omega), if_neg (by omega), if_neg e]
theorem tw_at {s : Int32} : txW Y s 29 (Y 0 41).toNatClampNeg = Y 0 40 ∧ txW Y s 30 (Y 0 41).toNatClampNeg = s ∧ txW Y s 31 (Y 0 41).toNatClampNeg = 1000000 ∧ txW Y s 0 40 = 0 ∧ txW Y s 0 41 = Y 0 41 + 1 := by
  unfold txW
  simp
theorem cu_text (hT : cT C K L I R) (hu : cuP C K L I R Y) {X : Nat} {s : Int32} (h41 : Y 0 41 < 20) (h40 : 0 ≤ Y 0 40 ∧ Y 0 40 ≤ 50) (hst1 : (xT (Y 27) (Y 0 40)).1 = true) (kX : K X = 11) (hX : ∀ i : Int32, 0 ≤ i → i < Y 0 41 → ¬ R (C + 8) i.toNatClampNeg = X) (g0 : I X 0 = Y 27 0) (g1 : I X 1 = s) (g3 : I X 3 = 200) (g4 : I X 4 = 0) (hvs : ∀ fc, vs (I (R X 2)) fc (Int32.ofNat (L (R X 2))) 60 0 0 (fun _ => 0) = (xT (Y 27) (Y 0 40)).2.2 fc) (hsep : ∀ b : Int32, 0 ≤ b → b < Y 0 6 → (R X 2 < (R (C + 16) b.toNatClampNeg) + 1 ∨ (R (C + 16) b.toNatClampNeg) + 3 < R X 2) ∧ ¬ R X 2 = R (R (C + 16) b.toNatClampNeg) 5) : cuP C K L (a_ui (a_ui I (C + 7) 3 (Y 0 41 + 1)) (C + 11) 2 0) (a_ur R (C + 8) (Y 0 41).toNatClampNeg X) (txW Y s) := by
  have hS := hT.s
  have X1 := (hT.g_txt X kX).1
  have X2 := (hT.g_txt X kX).2.1
  have X3 := (hT.g_txt X kX).2.2.1
  obtain ⟨b29, b30, b31, b40, b41⟩ := tw_at (Y := Y) (s := s)
  obtain ⟨⟨⟨p1, p2, p3⟩, ⟨q1, q2, q3, q4⟩, ⟨r1, r2, r3, r4⟩, ⟨x1, x2⟩, hy⟩, hse, ⟨sM, sT, ⟨d1, d2⟩, sY⟩, hno, hst⟩ := hu
  have t0 := hy.1.1
  have hT20 : 0 ≤ Y 0 41 ∧ Y 0 41 < 20 := ⟨t0, h41⟩
  obtain ⟨-, u0, u1, nT⟩ := lp_st hT20.1 hT20.2
  have le50 : (Y 0 40).toNatClampNeg ≤ 50 := by
    have := cl_le0 h40.1 h40.2
    rw [show (50 : Int32).toNatClampNeg = 50 from rfl] at this
    exact this
  have hlt : ∀ o : Int32, 0 ≤ o → o < Y 0 41 + 1 → ¬ o = Y 0 41 → o < Y 0 41 := fun o o0 o1 e => by clear sM sT sY hst hvs hsep x2 r3 r4 q4 p3 hy hse; grind
  have zr : ∀ k, ¬ k = 0 → ¬ (28 ≤ k ∧ k ≤ 31) → txW Y s k = Y k := fun k h h2 => funext (fun j => tw_no (by omega) h2)
  have z0 : ∀ j, ¬ j = 40 → ¬ j = 41 → txW Y s 0 j = Y 0 j := fun j h h' => tw_no (by omega) (by omega)
  have cin : ∀ k j, ¬ (k = 7 ∧ j = 3) → ¬ (k = 11 ∧ j = 2) → (a_ui (a_ui I (C + 7) 3 (Y 0 41 + 1)) (C + 11) 2 0) (C + k) j = I (C + k) j := fun k j h h2 => by rw [ui_ap, if_neg (by omega), ui_ap, if_neg (by omega)]
  have c0 : (a_ui (a_ui I (C + 7) 3 (Y 0 41 + 1)) (C + 11) 2 0) C 10 = I C 10 := cin 0 10 (by omega) (by omega)
  have jx : ∀ x j, C + 43 < x → (a_ui (a_ui I (C + 7) 3 (Y 0 41 + 1)) (C + 11) 2 0) x j = I x j := fun x j hx => by rw [ui_ap, if_neg (by omega), ui_ap, if_neg (by omega)]
  have rin : ∀ x j, ¬ (x = C + 8 ∧ j = (Y 0 41).toNatClampNeg) → (a_ur R (C + 8) (Y 0 41).toNatClampNeg X) x j = R x j := fun x j h => by rw [ur_ap, if_neg h]
  have rX : (a_ur R (C + 8) (Y 0 41).toNatClampNeg X) (C + 8) (Y 0 41).toNatClampNeg = X := by rw [ur_ap, if_pos ⟨rfl, rfl⟩]
  have ro : ∀ o : Int32, 0 ≤ o → o < Y 0 41 → (a_ur R (C + 8) (Y 0 41).toNatClampNeg X) (C + 8) o.toNatClampNeg = R (C + 8) o.toNatClampNeg := fun o o0 o1 => rin _ _ (by have := cl_lt o0 o1; omega)
  have rob : ∀ x j, C + 96 < x → (a_ur R (C + 8) (Y 0 41).toNatClampNeg X) x j = R x j := fun x j hx => rin _ _ (by omega)
  have wtn : xT (wtY (txW Y s) (Y 0 41).toNatClampNeg) (txW Y s 29 (Y 0 41).toNatClampNeg) = (xT (Y 27) (Y 0 40)) := by
    rw [b29]
    refine xT_nat h40.1 (fun j hj => ?_)
    show txW Y s 28 (50 * (Y 0 41).toNatClampNeg + j) = Y 27 j
    rw [tw_28, if_pos (by omega)]
    congr 1
    omega
  have wto : ∀ k : Nat, k < (Y 0 41).toNatClampNeg → wtY (txW Y s) k 0 = wtY Y k 0 ∧ xT (wtY (txW Y s) k) (txW Y s 29 k) = xT (wtY Y k) (Y 29 k) := fun k hk => by
    have g := sY.2.2.2.2.1 k hk
    have e29 : txW Y s 29 k = Y 29 k := tw_ne (by omega) (by omega)
    have g50 := cl_le0 g.2.1 g.2.2
    rw [show (50 : Int32).toNatClampNeg = 50 from rfl] at g50
    have ej : ∀ j, j < 50 → wtY (txW Y s) k j = wtY Y k j := fun j hj => by
      show txW Y s 28 (50 * k + j) = Y 28 (50 * k + j)
      rw [tw_28, if_neg (by omega)]
    refine ⟨ej 0 (by omega), ?_⟩
    rw [e29]
    exact xT_nat g.2.1 (fun j hj => ej j (by omega))
  have wh : ∀ b : Int32, 0 ≤ b → b < Y 0 6 → whC C (a_ui (a_ui I (C + 7) 3 (Y 0 41 + 1)) (C + 11) 2 0) (a_ur R (C + 8) (Y 0 41).toNatClampNeg X) b = whC C I R b := fun b b0 b1 => by
    have g := hT.g_bnc _ (q3 b b0 b1).1
    unfold whC
    rw [rin (C + 16) _ (by omega), rob _ _ g.1]
    exact funext (fun j => jx _ _ (by have := g.2.1.1; omega))
  have sn : ∀ b : Int32, 0 ≤ b → b < Y 0 6 → snC C (a_ui (a_ui I (C + 7) 3 (Y 0 41 + 1)) (C + 11) 2 0) (a_ur R (C + 8) (Y 0 41).toNatClampNeg X) b = snC C I R b := fun b b0 b1 => by
    have g := hT.g_bnc _ (q3 b b0 b1).1
    unfold snC
    rw [rin (C + 16) _ (by omega), rob _ _ g.1]
    exact funext (fun j => jx _ _ (by have := g.2.2.1.1; omega))
  have ea : ∀ o : Int32, 0 ≤ o → o < Y 0 17 → ∀ j, (a_ui (a_ui I (C + 7) 3 (Y 0 41 + 1)) (C + 11) 2 0) (R (C + 15) o.toNatClampNeg) j = I (R (C + 15) o.toNatClampNeg) j := fun o o0 o1 j => jx _ _ (by have := (hT.g_ask _ (r2 o o0 o1).1).1; omega)
  obtain ⟨ec, eh⟩ := cmk_e (Y := Y) (Z := txW Y s) (fun k j hk => tw_no (by unfold kK at hk; omega) (by unfold kK at hk; omega))
  refine ⟨⟨⟨by rw [cin _ _ (by omega) (by omega), z0 0 (by omega) (by omega)]; exact p1, fun j => by rw [cin _ _ (by omega) (by omega), zr 1 (by omega) (by omega)]; exact p2 j, lsP_e p3 (fun j => cin _ _ (by omega) (by omega)) (fun k j hk => tw_no (by unfold kL at hk; omega) (by unfold kL at hk; omega))⟩, ⟨by rw [cin _ _ (by omega) (by omega), z0 6 (by omega) (by omega)]; exact q1, by rw [cin _ _ (by omega) (by omega), z0 9 (by omega) (by omega)]; exact q2, fun b b0 b1 => ?_, ?_⟩, ⟨by rw [cin _ _ (by omega) (by omega), z0 17 (by omega) (by omega)]; exact r1, fun o o0 o1 => ?_, fun o o0 o1 => ?_, fun o o0 o1 => ?_⟩, ⟨by rw [ui_ap, if_neg (by omega), ui_ap, if_pos ⟨rfl, rfl⟩, b41], fun k k0 k1 => ?_⟩, ?_⟩, ?_, ⟨siM_e sM (fun k j hk => cin _ _ (by omega) (by omega)) (fun k j hk => tw_no (by unfold kM at hk; omega) (by unfold kM at hk; omega)), ?_, ?_, ?_⟩, ?_, ?_⟩
  · rw [z0 6 (by omega) (by omega)] at b1
    obtain ⟨k1, k2, k3, k4⟩ := q3 b b0 b1
    have g := (hT.g_bnc _ k1).1
    rw [rin (C + 16) _ (by omega), jx _ _ (by omega), jx _ _ (by omega), zr 5 (by omega) (by omega), zr 6 (by omega) (by omega)]
    exact ⟨k1, k2, k3, k4⟩
  · have hq : plP (whC C (a_ui (a_ui I (C + 7) 3 (Y 0 41 + 1)) (C + 11) 2 0) (a_ur R (C + 8) (Y 0 41).toNatClampNeg X)) (snC C (a_ui (a_ui I (C + 7) 3 (Y 0 41 + 1)) (C + 11) 2 0) (a_ur R (C + 8) (Y 0 41).toNatClampNeg X)) Y := plP_eq q4 wh sn
    unfold plP at hq ⊢
    rw [z0 17 (by omega) (by omega), z0 6 (by omega) (by omega), zr 20 (by omega) (by omega), zr 21 (by omega) (by omega), zr 10 (by omega) (by omega), zr 22 (by omega) (by omega)]
    exact hq
  · rw [z0 17 (by omega) (by omega)] at o1
    rw [rin _ _ (by omega), ea o o0 o1]
    exact r2 o o0 o1
  · rw [z0 17 (by omega) (by omega)] at o1
    rw [rin _ _ (by omega), ea o o0 o1, ec, eh]
    exact r3 o o0 o1
  · rw [z0 17 (by omega) (by omega)] at o1
    have hl := r4 o o0 o1
    have er : ∀ k, 7 ≤ k ∧ k ≤ 21 → txW Y s k = Y k := fun k hk => zr k (by omega) (by omega)
    rw [rin _ _ (by omega)]
    unfold alP at hl ⊢
    simp only [ea o o0 o1]
    rw [er 7 (by omega), er 8 (by omega), er 9 (by omega), er 10 (by omega), er 11 (by omega), er 12 (by omega), er 13 (by omega), er 14 (by omega), er 15 (by omega), er 16 (by omega), er 17 (by omega), er 18 (by omega), er 19 (by omega), er 20 (by omega), er 21 (by omega)]
    exact hl
  · rw [b41] at k1
    by_cases e : k = Y 0 41
    · have hcd : (a_ui (a_ui I (C + 7) 3 (Y 0 41 + 1)) (C + 11) 2 0) (R X 2) = I (R X 2) := funext (fun j => jx _ _ (by omega))
      rw [e, rX, rob _ _ X1, jx _ _ (by omega), jx _ _ (by omega), jx _ _ (by omega), hcd, g0, g1, g3, b30, b31]
      refine ⟨kX, by omega, ?_, rfl, fun s' s0 s1 => ⟨fun _ => Int32.lt_of_le_of_lt s1 (by decide), fun _ => Int32.lt_of_le_of_lt s1 (by decide)⟩, fun fc => ?_⟩
      · show Y 27 0 = txW Y s 28 (50 * (Y 0 41).toNatClampNeg + 0)
        have h2 := xT_two hst1
        have := cl_lt (show (0 : Int32) ≤ 0 by decide) (show 0 < Y 0 40 from Int32.lt_of_lt_of_le (by decide) h2)
        rw [show (0 : Int32).toNatClampNeg = 0 from rfl] at this
        rw [tw_28, if_pos (by omega), Nat.add_zero, Nat.sub_self]
      · rw [hvs fc]
        unfold wvY
        rw [wtn]
    · have ho := hlt k k0 k1 e
      have kN := cl_lt k0 ho
      obtain ⟨k11, k12, k13, k14, k15, k16⟩ := x2 k k0 ho
      have g := hT.g_txt _ k11
      obtain ⟨w1, w2⟩ := wto _ kN
      have wv : ∀ fc, wvY (txW Y s) k.toNatClampNeg fc = wvY Y k.toNatClampNeg fc := fun fc => by
        unfold wvY
        rw [w2]
      have hcd : (a_ui (a_ui I (C + 7) 3 (Y 0 41 + 1)) (C + 11) 2 0) (R (R (C + 8) k.toNatClampNeg) 2) = I (R (R (C + 8) k.toNatClampNeg) 2) := funext (fun j => jx _ _ (by omega))
      rw [ro k k0 ho, rob _ _ g.1, jx _ _ (by omega), jx _ _ (by omega), jx _ _ (by omega), hcd, w1, tw_ne (k := 30) (by omega) (by omega), tw_ne (k := 31) (by omega) (by omega)]
      exact ⟨k11, k12, k13, k14, k15, fun fc => by rw [wv]; exact k16 fc⟩
  · obtain ⟨h1, h2, h3, h4, h5, h6, h7, h8, h9, h10⟩ := hy
    refine ⟨by rw [b41]; exact ⟨u0, u1⟩, by rw [zr 10 (by omega) (by omega)]; exact h2, by rw [z0 17 (by omega) (by omega), zr 10 (by omega) (by omega)]; exact h3, by rw [z0 9 (by omega) (by omega)]; exact h4, by rw [z0 17 (by omega) (by omega)]; exact h5, by rw [z0 6 (by omega) (by omega)]; exact h6, ?_, ?_, ?_, by rw [z0 17 (by omega) (by omega), zr 7 (by omega) (by omega), zr 16 (by omega) (by omega)]; exact h10⟩
    · unfold inP at h7 ⊢
      rw [zr 20 (by omega) (by omega), zr 21 (by omega) (by omega), zr 10 (by omega) (by omega)]
      exact h7
    · unfold mkP at h8 ⊢
      rw [zr 38 (by omega) (by omega), zr 36 (by omega) (by omega)]
      exact h8
    · unfold hbP at h9 ⊢
      rw [zr 6 (by omega) (by omega)]
      exact h9
  · obtain ⟨s1, s2, s3, s4⟩ := hse
    have bq1 : ∀ b : Int32, 0 ≤ b → b < Y 0 6 → C + 96 < (R (C + 16) b.toNatClampNeg) := fun b b0 b1 => (hT.g_bnc _ (q3 b b0 b1).1).1
    unfold seP
    rw [z0 6 (by omega) (by omega), b41]
    refine ⟨fun b b0 b1 => ?_, fun b c b0 b1 c0 c1 e => ?_, fun k b k0 k1 b0 b1 => ?_, fun b c b0 b1 c0 c1 => ?_⟩
    · rw [rin (C + 16) _ (by omega), rob _ _ (bq1 b b0 b1), rob _ _ (bq1 b b0 b1), rob _ _ (bq1 b b0 b1)]
      exact s1 b b0 b1
    · rw [rin (C + 16) b.toNatClampNeg (by omega), rin (C + 16) c.toNatClampNeg (by omega)] at e
      exact s2 b c b0 b1 c0 c1 e
    · rw [rin (C + 16) _ (by omega), rob _ _ (bq1 b b0 b1)]
      by_cases e : k = Y 0 41
      · rw [e, rX, rob _ _ X1]
        exact hsep b b0 b1
      · have ho := hlt k k0 k1 e
        rw [ro k k0 ho, rob _ _ (hT.g_txt _ (x2 k k0 ho).1).1]
        exact s3 k b k0 ho b0 b1
    · rw [rin (C + 16) b.toNatClampNeg (by omega), rin (C + 16) c.toNatClampNeg (by omega), rob _ _ (bq1 b b0 b1)]
      exact s4 b c b0 b1 c0 c1
  · obtain ⟨⟨t1, t2⟩, ⟨t3, t4⟩, t5, t6⟩ := sT
    refine ⟨⟨by rw [cin _ _ (by omega) (by omega), z0 2 (by omega) (by omega)]; exact t1, fun j hj => ?_⟩, ⟨by rw [ui_ap, if_pos ⟨rfl, rfl⟩, b40], fun j => by rw [cin _ _ (by omega) (by omega), zr 27 (by omega) (by omega)]; exact t4 j⟩, by rw [c0, z0 79 (by omega) (by omega)]; exact t5, fun j hj => ?_⟩
    · rw [z0 2 (by omega) (by omega)] at hj
      rw [cin _ _ (by omega) (by omega), cin _ _ (by omega) (by omega), cin _ _ (by omega) (by omega), zr 2 (by omega) (by omega), zr 3 (by omega) (by omega), zr 4 (by omega) (by omega)]
      exact t2 j hj
    · rw [z0 79 (by omega) (by omega)] at hj
      rw [cin _ _ (by omega) (by omega), zr 52 (by omega) (by omega)]
      exact t6 j hj
  · unfold siD
    rw [rin C 11 (by omega), z0 12 (by omega) (by omega)]
    refine ⟨d1, fun hd => ?_⟩
    obtain ⟨e1, e2, e3, e4⟩ := d2 hd
    have ej : ∀ j, (a_ui (a_ui I (C + 7) 3 (Y 0 41 + 1)) (C + 11) 2 0) (R C 11) j = I (R C 11) j := fun j => jx _ _ (by have := (hT.g_ask _ e1).1; omega)
    simp only [ej]
    rw [z0 13 (by omega) (by omega), z0 14 (by omega) (by omega), z0 15 (by omega) (by omega), z0 16 (by omega) (by omega), z0 17 (by omega) (by omega)]
    refine ⟨e1, e2, e3, fun i i0 i1 => ?_⟩
    rw [rin _ _ (by omega)]
    exact e4 i i0 i1
  · obtain ⟨y1, y2, y3, y4, y5, y6, y7, y8⟩ := sY
    unfold siY
    rw [zr 38 (by omega) (by omega), zr 37 (by omega) (by omega), zr 47 (by omega) (by omega), zr 2 (by omega) (by omega), zr 3 (by omega) (by omega), zr 4 (by omega) (by omega), z0 0 (by omega) (by omega), z0 2 (by omega) (by omega), z0 17 (by omega) (by omega)]
    refine ⟨y1, y2, y3, y4, fun x hx => ?_, y6, y7, y8⟩
    rw [b41, nT] at hx
    by_cases e : x = (Y 0 41).toNatClampNeg
    · rw [e, wtn, b29]
      exact ⟨hst1, h40⟩
    · rw [(wto x (by omega)).2, tw_ne (by omega) e]
      exact y5 x (by omega)
  · unfold noP at hno ⊢
    rw [zr 20 (by omega) (by omega), zr 21 (by omega) (by omega)]
    exact hno
  · unfold stP
    rw [b41]
    refine ⟨fun i i0 i1 => ?_, fun i o i0 i1 o0 o1 e => ?_⟩
    · by_cases e : i = Y 0 41
      · rw [e, rX, jx _ _ (by omega), g4, b31]
        exact ⟨fun q => absurd rfl q, fun q => absurd q (by decide)⟩
      · have ho := hlt i i0 i1 e
        have := cl_lt i0 ho
        rw [ro i i0 ho, jx _ _ (by have := (hT.g_txt _ (x2 i i0 ho).1).1; omega), tw_ne (by omega) (by omega)]
        exact hst.1 i i0 ho
    · by_cases e1 : i = Y 0 41
      · by_cases e2 : o = Y 0 41
        · rw [e1, e2]
        · have ho := hlt o o0 o1 e2
          rw [e1, rX, ro o o0 ho] at e
          exact absurd e.symm (hX o o0 ho)
      · have hi := hlt i i0 i1 e1
        by_cases e2 : o = Y 0 41
        · rw [e2, rX, ro i i0 hi] at e
          exact absurd e (hX i i0 hi)
        · have ho := hlt o o0 o1 e2
          rw [ro i i0 hi, ro o o0 ho] at e
          exact hst.2 i o i0 hi o0 ho e
end ZM1
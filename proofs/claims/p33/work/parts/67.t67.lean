/-! the class: PLAN -/
section YH0
variable {d n t C : Nat} {K L : Nat → Nat} {I I0 J J0 J1 J2 : Nat → Nat → Int32} {R : Nat → Nat → Nat} {P : Option Value → AH → Prop}
variable {Y Z W : Nat → Nat → Int32} {R' R1 : Nat → Nat → Nat} {Q : Nat → Prop}
/-- an entry put into the row keeps the row without doubles -/
theorem inS_inj {a : Int32} {m : Nat} : ∀ (p : Nat) (o : Nat → Int32), p ≤ m → (∀ j, j ≤ m → ¬ j = p → ¬ o j = a) → (∀ i j, i ≤ m → j ≤ m → ¬ i = p → ¬ j = p → o i = o j → i = j) → ∀ i j, i ≤ m → j ≤ m → inS Y a p o i = inS Y a p o j → i = j := by
  have key : ∀ (p : Nat) (o : Nat → Int32), (∀ j, j ≤ m → ¬ j = p → ¬ o j = a) → (∀ i j, i ≤ m → j ≤ m → ¬ i = p → ¬ j = p → o i = o j → i = j) → ∀ i j, i ≤ m → j ≤ m → up1 o p a i = up1 o p a j → i = j := by
    intro p o h1 h2 i j hi hj e
    unfold up1 at e
    by_cases c1 : i = p
    · by_cases c2 : j = p
      · omega
      · rw [if_pos c1, if_neg c2] at e
        exact absurd e.symm (h1 j hj c2)
    · by_cases c2 : j = p
      · rw [if_neg c1, if_pos c2] at e
        exact absurd e (h1 i hi c1)
      · rw [if_neg c1, if_neg c2] at e
        exact h2 i j hi hj c1 c2 e
  intro p
  induction p with
  | zero =>
    intro o _ h1 h2 i j hi hj e
    exact key 0 o h1 h2 i j hi hj e
  | succ p ih =>
    intro o hp h1 h2 i j hi hj e
    unfold inS at e
    by_cases c : ahB Y a (o p) = true
    · rw [if_pos c] at e
      refine ih _ (by omega) (fun x hx hn => ?_) (fun x y hx hy nx ny e2 => ?_) i j hi hj e
      · unfold up1
        by_cases q : x = p + 1
        · rw [if_pos q]
          exact h1 p (by omega) (by omega)
        · rw [if_neg q]
          exact h1 x hx q
      · unfold up1 at e2
        by_cases q1 : x = p + 1
        · by_cases q2 : y = p + 1
          · omega
          · rw [if_pos q1, if_neg q2] at e2
            have := h2 p y (by omega) hy (by omega) q2 e2
            omega
        · by_cases q2 : y = p + 1
          · rw [if_neg q1, if_pos q2] at e2
            have := h2 x p hx (by omega) q1 (by omega) e2
            omega
          · rw [if_neg q1, if_neg q2] at e2
            exact h2 x y hx hy q1 q2 e2
    · rw [if_neg c] at e
      exact key (p + 1) o h1 h2 i j hi hj e
/-- a row: marked ASKS below a number, none twice -/
def rwP (q : Int32 → Bool) (z : Int32) (p : (Nat → Int32) × Nat) : Prop := (∀ j, j < p.2 → (0 ≤ p.1 j ∧ p.1 j < z) ∧ q (p.1 j) = true) ∧ ∀ i j, i < p.2 → j < p.2 → p.1 i = p.1 j → i = j
theorem rw_in {q : Int32 → Bool} {a z : Int32} {o : Nat → Int32} {m : Nat} (h0 : 0 ≤ a) (w : a < z) (hq : q a = true) (h : rwP q a (o, m)) : rwP q (a + 1) (inS Y a m o, m + 1) := by
  have lt1 : a < a + 1 := (lp_st h0 w).2.2.2 |> fun e => cl_lt2 h0 (lp_st h0 w).2.1 (by omega)
  refine ⟨fun j hj => ?_, fun i j hi hj e => ?_⟩
  · have := inS_all (Y := Y) (Q := fun v => (0 ≤ v ∧ v < a + 1) ∧ q v = true) (a := a) ⟨⟨h0, lt1⟩, hq⟩ m o (Nat.le_refl _) (fun i hi hn => by
      obtain ⟨⟨u1, u2⟩, u3⟩ := h.1 i (by show i < m; omega)
      exact ⟨⟨u1, Int32.lt_trans u2 lt1⟩, u3⟩) j (by have : j < m + 1 := hj; omega)
    exact this
  · refine inS_inj (Y := Y) (a := a) (m := m) m o (Nat.le_refl _) (fun x hx hn e2 => ?_) (fun x y hx hy nx ny e2 => h.2 x y (by show x < m; omega) (by show y < m; omega) e2) i j (by have : i < m + 1 := hi; omega) (by have : j < m + 1 := hj; omega) e
    have this : o x < a := (h.1 x (by show x < m; omega)).1.2
    have e3 : o x = a := e2
    rw [e3] at this
    exact absurd this Int32.lt_irrefl
theorem rw_or {q : Int32 → Bool} {n : Int32} : ∀ (k : Nat) (a : Int32) (p : (Nat → Int32) × Nat), 0 ≤ a → a ≤ n → n.toNatClampNeg = a.toNatClampNeg + k → rwP q a p → rwP q n (orF Y q k a p) := by
  intro k
  induction k with
  | zero =>
    intro a p h0 h1 h2 h
    have e : a = n := cl_inj h0 (Int32.le_trans h0 h1) (by omega)
    rw [← e]
    exact h
  | succ k ih =>
    intro a p h0 h1 h2 h
    have w9 : a < n := cl_lt2 h0 (Int32.le_trans h0 h1) (by omega)
    obtain ⟨s1, s2, s3, s4⟩ := lp_st h0 w9
    have lt1 : a < a + 1 := cl_lt2 h0 s2 (by omega)
    unfold orF
    refine ih (a + 1) _ s2 s3 (by omega) ?_
    by_cases c : q a = true
    · rw [if_pos c]
      exact rw_in h0 w9 c h
    · rw [if_neg c]
      exact ⟨fun j hj => ⟨⟨(h.1 j hj).1.1, Int32.lt_trans (h.1 j hj).1.2 lt1⟩, (h.1 j hj).2⟩, h.2⟩
theorem rw_0 {q : Int32 → Bool} {f : Nat → Int32} : rwP q 0 (f, 0) := ⟨fun j hj => absurd hj (Nat.not_lt_zero j), fun i j hi _ _ => absurd hi (Nat.not_lt_zero i)⟩
theorem rw_orP (h17 : 0 ≤ Y 0 17) : rwP (seB Y) (Y 0 17) (orP Y) := rw_or _ 0 _ (by decide) h17 (by rw [show (0 : Int32).toNatClampNeg = 0 from rfl, Nat.zero_add]) rw_0
theorem or_le {q : Int32 → Bool} {z : Nat} : ∀ (k : Nat) (a : Int32) (p : (Nat → Int32) × Nat), p.2 + k ≤ z → (orF Y q k a p).2 ≤ z := by
  intro k
  induction k with
  | zero => intro a p h; exact h
  | succ k ih =>
    intro a p h
    unfold orF
    refine ih _ _ ?_
    by_cases c : q a = true
    · rw [if_pos c]
      show p.2 + 1 + k ≤ z
      omega
    · rw [if_neg c]
      omega
theorem on_sb {m p : Nat} (h : p ≤ m) : Int32.ofNat m - Int32.ofNat p = Int32.ofNat (m - p) := by
  have e : Int32.ofNat m = Int32.ofNat (m - p) + Int32.ofNat p := by rw [← Int32.ofNat_add]; congr 1; omega
  rw [e, Int32.add_sub_cancel]
theorem on_ok {p : Nat} (h : p < 30) : 0 ≤ Int32.ofNat p ∧ Int32.ofNat p < 30 := ⟨Int32.not_lt.mp (fun q => by rw [show (0 : Int32) = Int32.ofNat 0 from rfl, on_lt (by omega) (by omega)] at q; omega), by rw [show (30 : Int32) = Int32.ofNat 30 from rfl, on_lt (by omega) (by omega)]; omega⟩
theorem on_ok2 {p : Nat} (h : p ≤ 30) : 0 ≤ Int32.ofNat p ∧ Int32.ofNat p ≤ 30 := ⟨Int32.not_lt.mp (fun q => by rw [show (0 : Int32) = Int32.ofNat 0 from rfl, on_lt (by omega) (by omega)] at q; omega), Int32.not_lt.mp (fun q => by rw [show (30 : Int32) = Int32.ofNat 30 from rfl, on_lt (by omega) (by omega)] at q; omega)⟩
/-- the planner's own cells -/
def pnP (C : Nat) (m pc : Nat) (ps : Nat → Int32) (z : Int32) (J : Nat → Nat → Int32) : Prop := J (C + 22) 6 = Int32.ofNat m ∧ J (C + 22) 7 = Int32.ofNat pc ∧ J (C + 22) 8 = z ∧ ∀ j, j < pc → J (C + 24) j = ps j
theorem pn_L {m pc : Nat} {ps : Nat → Int32} {z : Int32} (h : pnP C m pc ps z J) (h2 : dL C K L R J J2) : pnP C m pc ps z J2 := by
  have e : ∀ k j, k = 22 ∨ k = 24 → J2 (C + k) j = J (C + k) j := fun k j hk => h2.2 _ _ (by omega) (by omega) (by omega)
  exact ⟨by rw [e _ _ (Or.inl rfl)]; exact h.1, by rw [e _ _ (Or.inl rfl)]; exact h.2.1, by rw [e _ _ (Or.inl rfl)]; exact h.2.2.1, fun j hj => by rw [e _ _ (Or.inr rfl)]; exact h.2.2.2 j hj⟩
/-- cells that no place hangs in -/
def siX (C : Nat) (K : Nat → Nat) (Q : Nat → Prop) (x j : Nat) : Prop := (x ≤ C + 43 ∧ ¬ x = C + 9 ∧ ¬ x = C + 10 ∧ ¬ x = C + 42 ∧ ¬ (x = C + 22 ∧ ¬ j = 8) ∧ ¬ (C + 23 ≤ x ∧ x ≤ C + 35) ∧ ¬ (C + 37 ≤ x ∧ x ≤ C + 41)) ∨ (C + 44 ≤ x ∧ x ≤ C + 96) ∨ K x = 11 ∨ (K x = 1 ∧ ((¬ j = 13 ∧ ¬ j = 14) ∨ Q x))
def sZ (C : Nat) (K : Nat → Nat) (Q : Nat → Prop) (I J : Nat → Nat → Int32) : Prop := ∀ x j, siX C K Q x j → J x j = I x j
theorem sz_refl : sZ C K Q I I := fun _ _ _ => rfl
theorem sz_K (hT : cT C K L I R) {x : Nat} (h : K x = 1 ∨ K x = 11) : C + 96 < x := by
  rcases h with h | h
  · exact (hT.g_ask x h).1
  · exact (hT.g_txt x h).1
theorem sz_C (h : sZ C K Q I0 J) (hT : cT C K L J R) (h2 : dC C K L R J J2) : sZ C K Q I0 J2 := fun x j p => by
  have q : (K x = 1 ∨ K x = 11) → C + 96 < x := sz_K hT
  rw [h2.2 x j (by unfold siX at p; omega) (by unfold siX at p; omega)]
  exact h x j p
theorem sz_L (h : sZ C K Q I0 J) (hT : cT C K L J R) (h2 : dL C K L R J J2) {a : Nat} (ha : ¬ Q a) (hz : aZ K a J J2) : sZ C K Q I0 J2 := fun x j p => by
  have q : (K x = 1 ∨ K x = 11) → C + 96 < x := sz_K hT
  by_cases c : K x = 1 ∧ Q x
  · rw [hz x j c.1 (fun e => ha (by rw [← e]; exact c.2))]
    exact h x j p
  · rw [h2.2 x j (by unfold siX at p; omega) (by unfold siX at p; omega) (by
      have c2 : K x = 1 → ¬ Q x := fun e q => c ⟨e, q⟩
      unfold siX at p
      rcases p with p | p | p | p
      · omega
      · omega
      · omega
      · have := c2 p.1
        rcases p.2 with p2 | p2
        · omega
        · exact absurd p2 this)]
    exact h x j p
theorem sz_ui (h : sZ C K Q I0 J) (hT : cT C K L J R) {k j : Nat} {v : Int32} (hk : (k = 22 ∧ ¬ j = 8) ∨ (23 ≤ k ∧ k ≤ 35) ∨ (37 ≤ k ∧ k ≤ 42) ∨ k = 9 ∨ k = 10) : sZ C K Q I0 (a_ui J (C + k) j v) := fun x i p => by
  have q : (K x = 1 ∨ K x = 11) → C + 96 < x := sz_K hT
  rw [ui_ap, if_neg (by unfold siX at p; omega)]
  exact h x i p
theorem le_planAll_68 (hse : seP C R Y) (hQ : ∀ i : Int32, 0 ≤ i → i < Y 0 17 → ¬ Q (R (C + 15) i.toNatClampNeg)) {f e : Int32} (hf : 0 ≤ f ∧ f ≤ 202) (he9 : e ≤ 199) {o : Nat → Int32} {m : Nat} (hm30 : m ≤ 30) (ho : ∀ j, j < m → odP C R Y o j) (hoi : ∀ i j, i < m → j < m → o i = o j → i = j) {V : (Nat → Nat → Int32) × Nat × (Nat → Int32)} (hP : ∀ J, cT C K L J R → cpP C K L J R V.1 → sbE Y V.1 → V.2.1 ≤ m → pnP C m V.2.1 V.2.2 (Y 0 10) J → sZ C K Q I0 J → P (some (.int (Int32.ofNat (m - V.2.1)))) (n, t, K, L, J, R)) : ∀ (k i : Nat) (J W : Nat → Nat → Int32) (pc : Nat) (ps : Nat → Int32) (u : Option Value), i + k = m → cT C K L J R → cpP C K L J R W → sbE Y W → W 0 10 = Y 0 10 → pc ≤ i → pnP C m pc ps (Y 0 10) J → sZ C K Q I0 J → (∀ j, i ≤ j → j < m → ¬ 0 ≤ W 20 (o j).toNatClampNeg) → plS o f e k i (W, pc, ps) = V → a_at (d + 7) (a_xm a_m119) 68 [some (a_rf (C + 22)), some (.int f), some (.int e), some (.int (Int32.ofNat i)), u] [] (n, t, K, L, J, R) P := by
  intro k
  induction k with
  | zero =>
    intro i J W pc ps u hk hT hc hb w10 hpc hpn hz hun hV
    have e : (W, pc, ps) = V := hV
    subst e
    have ei : i = m := by omega
    have hp := hP J hT hc hb (by show pc ≤ m; omega) hpn hz
    have h6 := hpn.1
    have h7 := hpn.2.1
    have hS := hT.s
    have es : Int32.ofNat m - Int32.ofNat pc = Int32.ofNat (m - pc) := on_sb (by omega)
    rw [ei]
    clear hP hc hb hun hpn ho hse
    rw [q119_68]
    simp only [q119_69, q119_70, q119_73, q119_140, q119_141, q119_144, q119_145, q119_148, q119_149, k_22 hS, z_22, as_nil, as_i, as_r, Nat.reduceAdd, Nat.reduceLeDiff, z_eq0, z_eq1, z_or, z_em, Classical.not_not, not_false_eq_true, not_true_eq_false, true_and, and_true, false_and, and_false, and_self, true_implies, false_implies, implies_true, Option.toList_some, Option.toList_none, List.cons_append, List.nil_append, Nat.add_eq_zero_iff, a_nl_i, a_nl_r, a_nl_n, true_or, or_true, eq_self, a_isRA_22, a_isRA_24, a_isRA_32, a_isA_20, ok_4, ok_5, ok_6, ok_7, ok_9, ok_20, ok_21, ok_30, ok_50, ok_180, ok_192, ok_200, h6, h7, es]
    first
      | exact hp
      | exact ⟨fun _ => hp, fun q => absurd (Int32.le_refl _) q⟩
      | grind
  | succ k ih =>
    intro i J W pc ps u hk hT hc hb w10 hpc hpn hz hun hV
    have hS := hT.s
    have w17 : W 0 17 = Y 0 17 := hb 0 17 (by unfold sb; omega)
    have hse2 := se_b hse hb
    have him : i < m := by omega
    obtain ⟨q0, q1, q2⟩ := ho i him
    rw [← w17] at q2
    have ap := aa_of hc q1 q2
    have hsh : J (C + 22) 8 = W 0 10 := by rw [w10]; exact hpn.2.2.1
    have un : ¬ 0 ≤ W 20 (o i).toNatClampNeg := hun i (Nat.le_refl _) him
    have hok := on_ok (p := i) (by omega)
    have hokp := on_ok (p := pc) (by omega)
    have ei := (on_p (p := i) (by omega)).2.2.1
    have ei1 := (on_p (p := i) (by omega)).2.2.2.2.1
    have epc := (on_p (p := pc) (by omega)).2.2.1
    have epc1 := (on_p (p := pc) (by omega)).2.2.2.2.1
    have nle : ¬ Int32.ofNat m ≤ Int32.ofNat i := Int32.not_le.mpr (by rw [on_lt (by omega) (by omega)]; omega)
    have ka := ap.2.1.1
    have kn := ap.2.1.2.1
    have k0 : (R (C + 15) (o i).toNatClampNeg = 0) = False := eq_false kn
    have h6 := hpn.1
    have hfail : ¬ (shB W (o i) f e = true ∧ 0 ≤ (gnY W (o i) f e).2) → ∀ J2, dC C K L R J J2 → a_at (d + 7) (a_xm a_m119) 106 [some (a_rf (C + 22)), some (.int f), some (.int e), some (.int (Int32.ofNat i)), u] [] (n, t, K, L, J2, R) P := fun c J2 d2 => by
      have hT2 := d2.1
      have hS2 := hT2.s
      have hc2 := cpP_C hT hc d2
      have n2 := pn_L hpn (dL_C (dL_refl hT) d2)
      have ap2 := aaP_C hT ap d2
      have e4 : J2 (R (C + 15) (o i).toNatClampNeg) 4 = o i := ap2.2.1.2.2
      have e7 := n2.2.1
      have hT3 := sT_Planner_passed hT2 (k := pc) (v := o i)
      have hc3 := cp_sc hT2 hc2 (k := 24) (j := pc) (v := o i) (by omega) (by omega)
      have hT4 := sT_Planner_passedCount hT3 (v := Int32.ofNat (pc + 1)) (on_ok2 (by omega))
      have hc4 := cp_sc hT3 hc3 (k := 22) (j := 7) (v := Int32.ofNat (pc + 1)) (by omega) (by omega)
      unfold plS at hV
      rw [if_neg c] at hV
      have hn := ih (i + 1) (a_ui (a_ui J2 (C + 24) pc (o i)) (C + 22) 7 (Int32.ofNat (pc + 1))) W (pc + 1) (up1 ps pc (o i)) u (by omega) hT4 hc4 hb w10 (by omega) ⟨by rw [ui_ap, if_neg (by omega), ui_ap, if_neg (by omega)]; exact n2.1, by rw [ui_ap, if_pos ⟨rfl, rfl⟩], by rw [ui_ap, if_neg (by omega), ui_ap, if_neg (by omega)]; exact n2.2.2.1, fun j hj => by
        rw [ui_ap, if_neg (by omega), ui_ap]
        unfold up1
        by_cases q : j = pc
        · rw [if_pos ⟨rfl, q⟩, if_pos q]
        · rw [if_neg (fun z => q z.2), if_neg q]
          exact n2.2.2.2 j (by omega)⟩ (sz_ui (sz_ui (sz_C hz hT d2) hT2 (by omega)) hT3 (by omega)) (fun j hj hj2 => hun j (by omega) hj2) hV
      clear ih hP hc hb hun hpn ho hse hse2 hc2 hc3 hc4 hT3 hT4 ap ap2 n2
      simp only [q119_106, q119_107, q119_110, q119_111, q119_114, q119_115, q119_118, q119_119, q119_120, q119_123, q119_124, q119_125, q119_126, q119_129, q119_130, q119_131, q119_134, q119_137, k_22 hS2, z_22, r_22_3 hS2, k_24 hS2, l_24 hS2, z_24, r_22_2 hS2, k_23 hS2, l_23 hS2, z_23, as_nil, as_i, as_r, Nat.reduceAdd, Nat.reduceLeDiff, z_eq0, z_eq1, z_or, z_em, Classical.not_not, not_false_eq_true, not_true_eq_false, true_and, and_true, false_and, and_false, and_self, true_implies, false_implies, implies_true, Option.toList_some, Option.toList_none, List.cons_append, List.nil_append, Nat.add_eq_zero_iff, a_nl_i, a_nl_r, a_nl_n, true_or, or_true, eq_self, a_isRA_22, a_isRA_24, a_isRA_32, a_isA_20, ok_4, ok_5, ok_6, ok_7, ok_9, ok_20, ok_21, ok_30, ok_50, ok_180, ok_192, ok_200, ui_ap, cc_ne, cc_n0, cc_0n, Nat.reduceEqDiff, reduceIte, if_true, if_false, q0, ei, ei1, epc, epc1, e7, e4, hok, hokp, ka, k0]
      try simp only [true_and, and_true, true_implies, false_implies, implies_true, not_true_eq_false, not_false_eq_true]
      first
        | exact hn
        | grind
    have hok2 : shB W (o i) f e = true → 0 ≤ (gnY W (o i) f e).2 → ∀ J2, dL C K L R J J2 → aZ K (R (C + 15) (o i).toNatClampNeg) J J2 → cpP C K L J2 R (puY W (o i) (gnY W (o i) f e).2 (gnY W (o i) f e).1) → a_at (d + 7) (a_xm a_m119) 134 [some (a_rf (C + 22)), some (.int f), some (.int e), some (.int (Int32.ofNat i)), u] [] (n, t, K, L, J2, R) P := fun c1 c2 J2 d2 z2 hc2 => by
      unfold plS at hV
      rw [if_pos ⟨c1, c2⟩] at hV
      have hn := ih (i + 1) J2 _ pc ps u (by omega) d2.1 hc2 (sb_tr hb puY_b) (by unfold puY; rw [if_neg (by omega), if_neg (by omega), if_neg (by omega)]; exact w10) (by omega) (pn_L hpn d2) (sz_L hz hT d2 (hQ _ q1 (by rw [← hb 0 17 (by unfold sb; omega)]; exact q2)) z2) (fun j hj hj2 => by
        have hne : ¬ (o j).toNatClampNeg = (o i).toNatClampNeg := fun q => by
          have := hoi j i hj2 him (cl_inj (ho j hj2).2.1 q1 q)
          omega
        unfold puY
        rw [if_neg (fun q => hne q.2), if_neg (by omega), if_neg (by omega)]
        exact hun j (by omega) hj2) hV
      clear ih hP hc hb hun hpn ho hse hse2 hc2 ap
      simp only [q119_134, q119_137, as_nil, as_i, as_r, Nat.reduceAdd, Nat.reduceLeDiff, z_eq0, z_eq1, z_or, z_em, Classical.not_not, not_false_eq_true, not_true_eq_false, true_and, and_true, false_and, and_false, and_self, true_implies, false_implies, implies_true, Option.toList_some, Option.toList_none, List.cons_append, List.nil_append, Nat.add_eq_zero_iff, a_nl_i, a_nl_r, a_nl_n, true_or, or_true, eq_self, a_isRA_22, a_isRA_24, a_isRA_32, a_isA_20, ok_4, ok_5, ok_6, ok_7, ok_9, ok_20, ok_21, ok_30, ok_50, ok_180, ok_192, ok_200, ei1]
      exact hn
    have hfirst : shB W (o i) f e = true → a_does (d + 7) 124 [a_rf (C + 22), a_rf (R (C + 15) (o i).toNatClampNeg), .int f, .int e] (n, t, K, L, J, R) (fun r h' => a_at (d + 7) (a_xm a_m119) 103 [some (a_rf (C + 22)), some (.int f), some (.int e), some (.int (Int32.ofNat i)), u] (r.toList ++ []) h' P) := fun c1 => by
      refine ce_placeFirst (d := d) hT hc hse2 ap rfl un hf he9 (fun c2 J2 d2 z2 hc2 => ?_) (fun c2 J2 d2 => ?_)
      · have hn := hok2 c1 c2 J2 d2 z2 hc2
        have n10 : ¬ (1 : Int32) = 0 := by decide
        clear ih hP hc hb hun hpn ho hse hse2 hc2 ap hok2 hfail
        simp only [q119_103, as_nil, as_i, as_r, Nat.reduceAdd, Nat.reduceLeDiff, z_eq0, z_eq1, z_or, z_em, Classical.not_not, not_false_eq_true, not_true_eq_false, true_and, and_true, false_and, and_false, and_self, true_implies, false_implies, implies_true, Option.toList_some, Option.toList_none, List.cons_append, List.nil_append, Nat.add_eq_zero_iff, a_nl_i, a_nl_r, a_nl_n, true_or, or_true, eq_self, a_isRA_22, a_isRA_24, a_isRA_32, a_isA_20, ok_4, ok_5, ok_6, ok_7, ok_9, ok_20, ok_21, ok_30, ok_50, ok_180, ok_192, ok_200, n10]
        try simp only [true_and, and_true, true_implies, false_implies, implies_true, not_true_eq_false, not_false_eq_true]
        first
          | exact hn
          | grind
      · have hn := hfail (fun q => c2 q.2) J2 d2
        clear ih hP hc hb hun hpn ho hse hse2 ap hok2 hfail
        simp only [q119_103, as_nil, as_i, as_r, Nat.reduceAdd, Nat.reduceLeDiff, z_eq0, z_eq1, z_or, z_em, Classical.not_not, not_false_eq_true, not_true_eq_false, true_and, and_true, false_and, and_false, and_self, true_implies, false_implies, implies_true, Option.toList_some, Option.toList_none, List.cons_append, List.nil_append, Nat.add_eq_zero_iff, a_nl_i, a_nl_r, a_nl_n, true_or, or_true, eq_self, a_isRA_22, a_isRA_24, a_isRA_32, a_isA_20, ok_4, ok_5, ok_6, ok_7, ok_9, ok_20, ok_21, ok_30, ok_50, ok_180, ok_192, ok_200]
        try simp only [true_and, and_true, true_implies, false_implies, implies_true, not_true_eq_false, not_false_eq_true]
        first
          | exact hn
          | grind
    have hcall : a_does (d + 7) 123 [a_rf (C + 22), a_rf (R (C + 15) (o i).toNatClampNeg), .int f, .int e] (n, t, K, L, J, R) (fun r h' => a_at (d + 7) (a_xm a_m119) 88 [some (a_rf (C + 22)), some (.int f), some (.int e), some (.int (Int32.ofNat i)), u] (r.toList ++ []) h' P) := by
      refine ce_isInShare (d := d + 5) hT hc ap rfl hsh ?_
      by_cases c1 : shB W (o i) f e = true
      · rw [if_pos c1]
        have hn := hfirst c1
        have n10 : ¬ (1 : Int32) = 0 := by decide
        clear ih hP hc hb hun hpn ho hse hse2 ap hok2 hfail hfirst
        simp only [q119_88, q119_91, q119_92, q119_93, q119_96, q119_97, q119_98, q119_99, q119_100, k_22 hS, z_22, r_22_2 hS, k_23 hS, l_23 hS, z_23, as_nil, as_i, as_r, Nat.reduceAdd, Nat.reduceLeDiff, z_eq0, z_eq1, z_or, z_em, Classical.not_not, not_false_eq_true, not_true_eq_false, true_and, and_true, false_and, and_false, and_self, true_implies, false_implies, implies_true, Option.toList_some, Option.toList_none, List.cons_append, List.nil_append, Nat.add_eq_zero_iff, a_nl_i, a_nl_r, a_nl_n, true_or, or_true, eq_self, a_isRA_22, a_isRA_24, a_isRA_32, a_isA_20, ok_4, ok_5, ok_6, ok_7, ok_9, ok_20, ok_21, ok_30, ok_50, ok_180, ok_192, ok_200, n10, q0, ei, hok]
        try simp only [true_and, and_true, true_implies, false_implies, implies_true, not_true_eq_false, not_false_eq_true]
        first
          | exact hn
          | grind
      · rw [if_neg c1]
        have hn := hfail (fun q => c1 q.1) J (dC_refl hT)
        clear ih hP hc hb hun hpn ho hse hse2 ap hok2 hfail hfirst
        simp only [q119_88, q119_91, q119_92, q119_93, q119_96, q119_97, q119_98, q119_99, q119_100, k_22 hS, z_22, r_22_2 hS, k_23 hS, l_23 hS, z_23, as_nil, as_i, as_r, Nat.reduceAdd, Nat.reduceLeDiff, z_eq0, z_eq1, z_or, z_em, Classical.not_not, not_false_eq_true, not_true_eq_false, true_and, and_true, false_and, and_false, and_self, true_implies, false_implies, implies_true, Option.toList_some, Option.toList_none, List.cons_append, List.nil_append, Nat.add_eq_zero_iff, a_nl_i, a_nl_r, a_nl_n, true_or, or_true, eq_self, a_isRA_22, a_isRA_24, a_isRA_32, a_isA_20, ok_4, ok_5, ok_6, ok_7, ok_9, ok_20, ok_21, ok_30, ok_50, ok_180, ok_192, ok_200]
        try simp only [true_and, and_true, true_implies, false_implies, implies_true, not_true_eq_false, not_false_eq_true]
        first
          | exact hn
          | grind
    clear ih hP hc hb hun hpn ho hse hse2 ap hok2 hfail hfirst
    rw [q119_68]
    simp only [q119_69, q119_70, q119_73, q119_76, q119_77, q119_78, q119_81, q119_82, q119_83, q119_84, q119_85, k_22 hS, z_22, r_22_2 hS, k_23 hS, l_23 hS, z_23, as_nil, as_i, as_r, Nat.reduceAdd, Nat.reduceLeDiff, z_eq0, z_eq1, z_or, z_em, Classical.not_not, not_false_eq_true, not_true_eq_false, true_and, and_true, false_and, and_false, and_self, true_implies, false_implies, implies_true, Option.toList_some, Option.toList_none, List.cons_append, List.nil_append, Nat.add_eq_zero_iff, a_nl_i, a_nl_r, a_nl_n, true_or, or_true, eq_self, a_isRA_22, a_isRA_24, a_isRA_32, a_isA_20, ok_4, ok_5, ok_6, ok_7, ok_9, ok_20, ok_21, ok_30, ok_50, ok_180, ok_192, ok_200, h6, q0, ei, hok, nle]
    try simp only [true_and, and_true, true_implies, false_implies, implies_true, not_true_eq_false, not_false_eq_true]
    first
      | exact hcall
      | grind
theorem le_planAll_12 (hT0 : cT C K L I R) (hc : cpP C K L I R Y) (hse : seP C R Y) {f e : Int32} (hN : ∀ J R1 u, cT C K L J R1 → cpP C K L J R1 Y → rfP C R R1 → pnP C (orP Y).2 0 (fun _ => 0) (Y 0 10) J → (∀ j, j < (orP Y).2 → odP C R1 Y (orP Y).1 j) → sZ C K Q I0 J → a_at (d + 7) (a_xm a_m119) 68 [some (a_rf (C + 22)), some (.int f), some (.int e), some (.int 0), u] [] (n, t, K, L, J, R1) P) : ∀ i : Int32, i ≤ 30 → ∀ J R1 u m o, 0 ≤ i → i ≤ Y 0 17 → cT C K L J R1 → cpP C K L J R1 Y → rfP C R R1 → pnP C m 0 (fun _ => 0) (Y 0 10) J → m ≤ i.toNatClampNeg → (∀ j, j < m → odP C R1 Y o j) → sZ C K Q I0 J → orF Y (seB Y) ((Y 0 17).toNatClampNeg - i.toNatClampNeg) i (o, m) = orP Y → a_at (d + 7) (a_xm a_m119) 12 [some (a_rf (C + 22)), some (.int f), some (.int e), some (.int i), u] [] (n, t, K, L, J, R1) P := by
  have h17 := hc.2.2.2.2.2.2.2.2.1
  have l30 := cl_le0 h17.1 h17.2
  rw [show (30 : Int32).toNatClampNeg = 30 from rfl] at l30
  refine up_ind 30 (fun i i30 ih => ?_)
  intro J R1 u m o h0 h1 hT hc1 hr hpn hmi ho hz hV
  have hS := hT.s
  have gA := hT.g_asksR
  have gB := hT.g_benchesR
  have gX := hT.g_textsR
  have e4 : J (C + 14) 4 = Y 0 17 := hc1.2.2.1.1
  have hexit : ¬ i < Y 0 17 → a_at (d + 7) (a_xm a_m119) 66 [some (a_rf (C + 22)), some (.int f), some (.int e), some (.int i), u] [] (n, t, K, L, J, R1) P := fun w => by
    rw [(lp_end h1 w).1] at hV
    have e9 : (o, m) = orP Y := hV
    rw [← e9] at hN
    have hn := hN J R1 u hT hc1 hr hpn ho hz
    clear ih hN hV hc hc1 hr hse hpn ho
    simp only [q119_66, q119_67, as_nil, as_i, as_r, Nat.reduceAdd, Nat.reduceLeDiff, z_eq0, z_eq1, z_or, z_em, Classical.not_not, not_false_eq_true, not_true_eq_false, true_and, and_true, false_and, and_false, and_self, true_implies, false_implies, implies_true, Option.toList_some, Option.toList_none, List.cons_append, List.nil_append, Nat.add_eq_zero_iff, a_nl_i, a_nl_r, a_nl_n, true_or, or_true, eq_self, a_isRA_22, a_isRA_24, a_isRA_32, a_isA_20, ok_4, ok_5, ok_6, ok_7, ok_9, ok_20, ok_21, ok_30, ok_50, ok_180, ok_192, ok_200]
    exact hn
  have hV2 : i < Y 0 17 → orF Y (seB Y) ((Y 0 17).toNatClampNeg - (i + 1).toNatClampNeg) (i + 1) (if seB Y i = true then (inS Y i m o, m + 1) else (o, m)) = orP Y := fun w => by
    rw [(lp_st h0 w).1] at hV
    exact hV
  have hno : i < Y 0 17 → ¬ seB Y i = true → ∀ u, a_at (d + 7) (a_xm a_m119) 60 [some (a_rf (C + 22)), some (.int f), some (.int e), some (.int i), u] [] (n, t, K, L, J, R1) P := fun w c u => by
    obtain ⟨s1, s2, s3, s4⟩ := lp_st h0 w
    have hV := hV2 w
    rw [if_neg c] at hV
    have hn := ih (Int32.lt_of_lt_of_le w h17.2) J R1 u m o s2 s3 hT hc1 hr hpn (by omega) ho hz hV
    clear ih hN hV hV2 hc hc1 hr hse hpn ho
    simp only [q119_60, q119_63, as_nil, as_i, as_r, Nat.reduceAdd, Nat.reduceLeDiff, z_eq0, z_eq1, z_or, z_em, Classical.not_not, not_false_eq_true, not_true_eq_false, true_and, and_true, false_and, and_false, and_self, true_implies, false_implies, implies_true, Option.toList_some, Option.toList_none, List.cons_append, List.nil_append, Nat.add_eq_zero_iff, a_nl_i, a_nl_r, a_nl_n, true_or, or_true, eq_self, a_isRA_22, a_isRA_24, a_isRA_32, a_isA_20, ok_4, ok_5, ok_6, ok_7, ok_9, ok_20, ok_21, ok_30, ok_50, ok_180, ok_192, ok_200]
    exact hn
  have hyes : i < Y 0 17 → seB Y i = true → ∀ u, a_does (d + 7) 120 [a_rf (C + 22), a_rf (R1 (C + 15) i.toNatClampNeg)] (n, t, K, L, J, R1) (fun r h' => a_at (d + 7) (a_xm a_m119) 60 [some (a_rf (C + 22)), some (.int f), some (.int e), some (.int i), u] (r.toList ++ []) h' P) := fun w c u => by
    obtain ⟨s1, s2, s3, s4⟩ := lp_st h0 w
    have hV := hV2 w
    rw [if_pos c] at hV
    have iT := cl_lt h0 w
    refine ce_enter (d := d + 4) hT hc1 (se_rf hT0 hc hse hr) (aa_of hc1 h0 w) rfl (m := m) (by omega) hpn.1 ho (fun R2 hT2 hr2 ho2 => ?_)
    have hT1' := sT_Planner_orderSize hT (v := Int32.ofNat (m + 1)) (on_ok2 (by omega))
    have hc2 := cp_rf hT1' (cp_sc hT hc1 (k := 22) (j := 6) (v := Int32.ofNat (m + 1)) (by omega) (by omega)) hr2
    have hn := ih (Int32.lt_of_lt_of_le w h17.2) (a_ui J (C + 22) 6 (Int32.ofNat (m + 1))) R2 u (m + 1) (inS Y i m o) s2 s3 hT2 hc2 (fun x j a1 a2 a3 => (hr2 x j a1 a2 a3).trans (hr x j a1 a2 a3)) ⟨by rw [ui_ap, if_pos ⟨rfl, rfl⟩], by rw [ui_ap, if_neg (by omega)]; exact hpn.2.1, by rw [ui_ap, if_neg (by omega)]; exact hpn.2.2.1, fun j hj => absurd hj (Nat.not_lt_zero j)⟩ (by omega) (fun j hj => ho2 j (by omega)) (sz_ui hz hT (by omega)) hV
    clear ih hN hV hV2 hc hc1 hr hse hpn ho hc2 hr2 ho2 hno
    simp only [q119_60, q119_63, as_nil, as_i, as_r, Nat.reduceAdd, Nat.reduceLeDiff, z_eq0, z_eq1, z_or, z_em, Classical.not_not, not_false_eq_true, not_true_eq_false, true_and, and_true, false_and, and_false, and_self, true_implies, false_implies, implies_true, Option.toList_some, Option.toList_none, List.cons_append, List.nil_append, Nat.add_eq_zero_iff, a_nl_i, a_nl_r, a_nl_n, true_or, or_true, eq_self, a_isRA_22, a_isRA_24, a_isRA_32, a_isA_20, ok_4, ok_5, ok_6, ok_7, ok_9, ok_20, ok_21, ok_30, ok_50, ok_180, ok_192, ok_200]
    exact hn
  have hin : i < Y 0 17 → a_at (d + 7) (a_xm a_m119) 31 [some (a_rf (C + 22)), some (.int f), some (.int e), some (.int i), u] [a_rf (R1 (C + 15) i.toNatClampNeg)] (n, t, K, L, J, R1) P := fun w => by
    have hno := hno w
    have hyes := hyes w
    obtain ⟨-, ⟨kb, bn, b4⟩, bm, bl⟩ := aa_of hc1 h0 w
    have b0 : (R1 (C + 15) i.toNatClampNeg = 0) = False := eq_false bn
    have f13 : J (R1 (C + 15) i.toNatClampNeg) 13 = Y 20 i.toNatClampNeg := bl.2.2.2.1.1
    have f15 : (J (R1 (C + 15) i.toNatClampNeg) 15 = 0) = (Y 18 i.toNatClampNeg = 0) := propext bl.2.2.2.2.1
    have es : (seB Y i = true) = (¬ 0 ≤ Y 20 i.toNatClampNeg ∧ Y 18 i.toNatClampNeg = 0) := propext ⟨fun q => of_decide_eq_true q, fun q => decide_eq_true q⟩
    rw [es] at hno hyes
    clear ih hN hV hV2 hc hc1 hr hse hpn ho hexit bl bm
    by_cases c1 : 0 ≤ Y 20 i.toNatClampNeg
    · have hno := hno (fun q => q.1 c1)
      clear hyes
      simp only [q119_31, q119_33, q119_35, q119_38, q119_40, q119_43, q119_46, q119_48, q119_51, q119_54, q119_55, q119_57, k_22 hS, z_22, sp_isPlaced, as_nil, as_i, as_r, Nat.reduceAdd, Nat.reduceLeDiff, z_eq0, z_eq1, z_or, z_em, Classical.not_not, not_false_eq_true, not_true_eq_false, true_and, and_true, false_and, and_false, and_self, true_implies, false_implies, implies_true, Option.toList_some, Option.toList_none, List.cons_append, List.nil_append, Nat.add_eq_zero_iff, a_nl_i, a_nl_r, a_nl_n, true_or, or_true, eq_self, a_isRA_22, a_isRA_24, a_isRA_32, a_isA_20, ok_4, ok_5, ok_6, ok_7, ok_9, ok_20, ok_21, ok_30, ok_50, ok_180, ok_192, ok_200, kb, b0, f13, c1]
      try simp only [true_and, and_true, true_implies, false_implies, implies_true, not_true_eq_false, not_false_eq_true]
      first
        | exact hno _
        | grind
    · by_cases c2 : Y 18 i.toNatClampNeg = 0
      · have hyes := hyes ⟨c1, c2⟩
        clear hno
        simp only [q119_31, q119_33, q119_35, q119_38, q119_40, q119_43, q119_46, q119_48, q119_51, q119_54, q119_55, q119_57, k_22 hS, z_22, sp_isPlaced, as_nil, as_i, as_r, Nat.reduceAdd, Nat.reduceLeDiff, z_eq0, z_eq1, z_or, z_em, Classical.not_not, not_false_eq_true, not_true_eq_false, true_and, and_true, false_and, and_false, and_self, true_implies, false_implies, implies_true, Option.toList_some, Option.toList_none, List.cons_append, List.nil_append, Nat.add_eq_zero_iff, a_nl_i, a_nl_r, a_nl_n, true_or, or_true, eq_self, a_isRA_22, a_isRA_24, a_isRA_32, a_isA_20, ok_4, ok_5, ok_6, ok_7, ok_9, ok_20, ok_21, ok_30, ok_50, ok_180, ok_192, ok_200, kb, b0, f13, f15, c1, c2]
        try simp only [true_and, and_true, true_implies, false_implies, implies_true, not_true_eq_false, not_false_eq_true]
        first
          | exact hyes _
          | grind
      · have hno := hno (fun q => c2 q.2)
        clear hyes
        simp only [q119_31, q119_33, q119_35, q119_38, q119_40, q119_43, q119_46, q119_48, q119_51, q119_54, q119_55, q119_57, k_22 hS, z_22, sp_isPlaced, as_nil, as_i, as_r, Nat.reduceAdd, Nat.reduceLeDiff, z_eq0, z_eq1, z_or, z_em, Classical.not_not, not_false_eq_true, not_true_eq_false, true_and, and_true, false_and, and_false, and_self, true_implies, false_implies, implies_true, Option.toList_some, Option.toList_none, List.cons_append, List.nil_append, Nat.add_eq_zero_iff, a_nl_i, a_nl_r, a_nl_n, true_or, or_true, eq_self, a_isRA_22, a_isRA_24, a_isRA_32, a_isA_20, ok_4, ok_5, ok_6, ok_7, ok_9, ok_20, ok_21, ok_30, ok_50, ok_180, ok_192, ok_200, kb, b0, f13, f15, c1, c2]
        try simp only [true_and, and_true, true_implies, false_implies, implies_true, not_true_eq_false, not_false_eq_true]
        first
          | exact hno _
          | grind
  clear ih hN hV hV2 hc hc1 hr hse hpn ho hno hyes
  rw [q119_12]
  repeat' first
    | with_reducible apply And.intro
    | with_reducible assumption
    | with_reducible intro _
    | refine hexit ?_
    | refine hin ?_
    | simp only [q119_13, q119_14, q119_17, q119_20, q119_23, q119_24, q119_27, q119_28, k_22 hS, z_22, r_22_0 hS, k_14 hS, z_14, sp_askAt hS gA, as_nil, as_i, as_r, Nat.reduceAdd, Nat.reduceLeDiff, z_eq0, z_eq1, z_or, z_em, Classical.not_not, not_false_eq_true, not_true_eq_false, true_and, and_true, false_and, and_false, and_self, true_implies, false_implies, implies_true, Option.toList_some, Option.toList_none, List.cons_append, List.nil_append, Nat.add_eq_zero_iff, a_nl_i, a_nl_r, a_nl_n, true_or, or_true, eq_self, a_isRA_22, a_isRA_24, a_isRA_32, a_isA_20, ok_4, ok_5, ok_6, ok_7, ok_9, ok_20, ok_21, ok_30, ok_50, ok_180, ok_192, ok_200, e4]
  all_goals ((try clear hexit); (try clear hin); (try clear hT); (try clear hS); (try clear gA); (try clear gB); (try clear gX); grind [ui_ap])
/-- PLAN, whole -/
theorem ce_planAll (hT : cT C K L I R) (hc : cpP C K L I R Y) (hse : seP C R Y) (hsh : I (C + 22) 8 = Y 0 10) (hQ : ∀ i : Int32, 0 ≤ i → i < Y 0 17 → ¬ Q (R (C + 15) i.toNatClampNeg)) {f e : Int32} (hf : 0 ≤ f ∧ f ≤ 202) (he9 : e ≤ 199) (hP : ∀ J R2, cT C K L J R2 → cpP C K L J R2 (plY Y f e).1 → sbE Y (plY Y f e).1 → rfP C R R2 → (plY Y f e).2.1 ≤ (orP Y).2 → pnP C (orP Y).2 (plY Y f e).2.1 (plY Y f e).2.2 (Y 0 10) J → sZ C K Q I J → P (some (.int (Int32.ofNat ((orP Y).2 - (plY Y f e).2.1)))) (n, t, K, L, J, R2)) : a_does (d + 8) 119 [a_rf (C + 22), .int f, .int e] (n, t, K, L, I, R) P := by
  have hS := hT.s
  have h17 := hc.2.2.2.2.2.2.2.2.1
  have l30 := cl_le0 h17.1 h17.2
  rw [show (30 : Int32).toNatClampNeg = 30 from rfl] at l30
  have hrw := rw_orP (Y := Y) h17.1
  have hor : (orP Y).2 ≤ 30 := or_le (z := 30) _ _ _ (by show 0 + _ ≤ 30; omega)
  have hT1 := sT_Planner_orderSize hT (v := 0) (by decide)
  have hc1 := cp_sc hT hc (k := 22) (j := 6) (v := 0) (by omega) (by omega)
  have hT2 := sT_Planner_passedCount hT1 (v := 0) (by decide)
  have hc2 := cp_sc hT1 hc1 (k := 22) (j := 7) (v := 0) (by omega) (by omega)
  have hl := fun u => le_planAll_12 (d := d) (Q := Q) (n := n) (t := t) (P := P) (f := f) (e := e) (I0 := I) hT2 hc2 hse (fun J R1 u hT3 hc3 hr3 hpn3 ho3 hz3 => by
    have e0 : (0 : Int32) = Int32.ofNat 0 := rfl
    rw [e0]
    exact le_planAll_68 (d := d) (Q := Q) (se_rf hT2 hc2 hse hr3) (fun i i0 i1 => by rw [hr3 _ _ (by omega) (by omega) (by omega)]; exact hQ i i0 i1) hf he9 (o := (orP Y).1) hor ho3 hrw.2 (I0 := I) (fun J2 a1 a2 a3 a4 a5 a6 => hP J2 R1 a1 a2 a3 hr3 a4 a5 a6) (orP Y).2 0 J Y 0 (fun _ => 0) u (by omega) hT3 hc3 (fun _ _ _ => rfl) rfl (Nat.le_refl _) hpn3 hz3 (fun j _ hj => (of_decide_eq_true (hrw.1 j hj).2).1) rfl) 0 (by decide) _ R u 0 (fun _ => 0) (by decide) h17.1 hT2 hc2 (fun _ _ _ _ _ => rfl) ⟨by rw [ui_ap, if_neg (by omega), ui_ap, if_pos ⟨rfl, rfl⟩]; rfl, by rw [ui_ap, if_pos ⟨rfl, rfl⟩]; rfl, by rw [ui_ap, if_neg (by omega), ui_ap, if_neg (by omega)]; exact hsh, fun j hj => absurd hj (Nat.not_lt_zero j)⟩ (Nat.zero_le _) (fun j hj => absurd hj (Nat.not_lt_zero j)) (sz_ui (sz_ui sz_refl hT (by omega)) hT1 (by omega)) (by rw [lp_0]; rfl)
  clear hP hc hc1 hc2 hse hrw
  rw [a_enter1 (M := a_m119) rfl (a_cat_rf (a_cat_int (a_cat_int a_cat_nil))) (show 3 ≤ 5 by decide)]
  show a_at _ (a_xm a_m119) 0 [some (a_rf (C + 22)), some (.int f), some (.int e), none, none] [] _ _
  simp only [q119_0, q119_1, q119_2, q119_5, q119_6, q119_7, q119_10, q119_11, k_22 hS, z_22, as_nil, as_i, as_r, Nat.reduceAdd, Nat.reduceLeDiff, z_eq0, z_eq1, z_or, z_em, Classical.not_not, not_false_eq_true, not_true_eq_false, true_and, and_true, false_and, and_false, and_self, true_implies, false_implies, implies_true, Option.toList_some, Option.toList_none, List.cons_append, List.nil_append, Nat.add_eq_zero_iff, a_nl_i, a_nl_r, a_nl_n, true_or, or_true, eq_self, a_isRA_22, a_isRA_24, a_isRA_32, a_isA_20, ok_4, ok_5, ok_6, ok_7, ok_9, ok_20, ok_21, ok_30, ok_50, ok_180, ok_192, ok_200]
  exact hl _
end YH0
/-! AGAIN: the words, the class -/
section YI0
variable {d n t C c : Nat} {K L : Nat → Nat} {I I0 J J0 J1 J2 : Nat → Nat → Int32} {R : Nat → Nat → Nat} {P : Option Value → AH → Prop}
variable {Y Z W : Nat → Nat → Int32} {R' R1 : Nat → Nat → Nat} {Q : Nat → Prop}
/-- an ASK with a place not begun fits there no more -/
def agB (Y : Nat → Nat → Int32) (a : Int32) : Bool := decide ((0 ≤ Y 20 a.toNatClampNeg ∧ ¬ Y 21 a.toNatClampNeg * 8 < Y 0 0) ∧ ¬ ftY Y a (Y 20 a.toNatClampNeg) (Y 21 a.toNatClampNeg) = 0)
/-- those lose their places, and make up the row of ORDER -/
def agS : Nat → Int32 → (Nat → Nat → Int32) × (Nat → Int32) × Nat → (Nat → Nat → Int32) × (Nat → Int32) × Nat
  | 0, _, p => p
  | k + 1, a, p => agS k (a + 1) (if agB p.1 a = true then (unY p.1 a, inS p.1 a p.2.2 p.2.1, p.2.2 + 1) else p)
def agP (Y : Nat → Nat → Int32) : (Nat → Nat → Int32) × (Nat → Int32) × Nat := agS (Y 0 17).toNatClampNeg 0 (Y, fun _ => 0, 0)
/-- one by one places are given; how many moved -/
def agM (o : Nat → Int32) (f e : Int32) (Y : Nat → Nat → Int32) : Nat → Nat → (Nat → Nat → Int32) × Nat → (Nat → Nat → Int32) × Nat
  | 0, _, p => p
  | k + 1, i, p => agM o f e Y k (i + 1) (giY p.1 (o i) f e true, if giY p.1 (o i) f e true 20 (o i).toNatClampNeg = Y 20 (o i).toNatClampNeg ∧ giY p.1 (o i) f e true 21 (o i).toNatClampNeg = Y 21 (o i).toNatClampNeg then p.2 else p.2 + 1)
def agY (Y : Nat → Nat → Int32) : (Nat → Nat → Int32) × Nat := agM (agP Y).2.1 (Y 0 0 / 8 + 1) 199 Y (agP Y).2.2 0 ((agP Y).1, 0)
theorem rw_mono {q r : Int32 → Bool} {z : Int32} {p : (Nat → Int32) × Nat} (h : rwP q z p) (hq : ∀ x, 0 ≤ x → x < z → q x = true → r x = true) : rwP r z p := ⟨fun j hj => ⟨(h.1 j hj).1, hq _ (h.1 j hj).1.1 (h.1 j hj).1.2 (h.1 j hj).2⟩, h.2⟩
theorem rw_up {q : Int32 → Bool} {a z : Int32} {p : (Nat → Int32) × Nat} (h0 : 0 ≤ a) (w : a < z) (h : rwP q a p) : rwP q (a + 1) p := by
  have lt1 : a < a + 1 := cl_lt2 h0 (lp_st h0 w).2.1 (by have := (lp_st h0 w).2.2.2; omega)
  exact ⟨fun j hj => ⟨⟨(h.1 j hj).1.1, Int32.lt_trans (h.1 j hj).1.2 lt1⟩, (h.1 j hj).2⟩, h.2⟩
/-- without a place -/
def unB (W : Nat → Nat → Int32) (x : Int32) : Bool := decide (¬ 0 ≤ W 20 x.toNatClampNeg)
theorem un_ag {a : Int32} (h0 : 0 ≤ a) {x : Int32} (hx : 0 ≤ x) (h : unB W x = true) : unB (unY W a) x = true := by
  have h := of_decide_eq_true h
  refine decide_eq_true ?_
  by_cases e : x.toNatClampNeg = a.toNatClampNeg
  · rw [e, un_a (Or.inl rfl)]
    decide
  · rw [un_o (Or.inr e)]
    exact h
theorem cH_rf {m : Nat} (h : cH C c m t K L I R) {J : Nat → Nat → Int32} (hr : rfP C R R') (hT : cT C K L J R') : cH C c m t K L J R' := by
  have e16 : ∀ j, R' (C + 16) j = R (C + 16) j := fun j => hr _ _ (by omega) (by omega) (by omega)
  have e5 : ∀ j, R' (R (C + 16) j) 5 = R (R (C + 16) j) 5 := fun j => by
    have hS := h.1.s
    rcases h.1.g_benchesR j with q | q
    · rw [q]
      exact hr _ _ (by omega) (by omega) (by omega)
    · have := (h.1.g_bnc _ q).1
      exact hr _ _ (by omega) (by omega) (by omega)
  refine ⟨hT, h.2.1, h.2.2.1, ⟨by rw [hr _ _ (by omega) (by omega) (by omega)]; exact h.2.2.2.1.1, h.2.2.2.1.2⟩, ?_⟩
  have ev : cV C L R' = cV C L R := by
    unfold cV
    rw [e16, e16, e16, e16, e16, e16, e5, e5, e5, e5, e5, e5]
  rw [ev]
  exact h.2.2.2.2
/-- what calls that change places alone leave as it was -/
def fZ (C n : Nat) (K : Nat → Nat) (Q : Nat → Prop) (I : Nat → Nat → Int32) (R : Nat → Nat → Nat) (n' : Nat) (K' : Nat → Nat) (J : Nat → Nat → Int32) (R' : Nat → Nat → Nat) : Prop := (C + 96 < n ∧ n ≤ n') ∧ (∀ x, n ≤ x → K x = 0) ∧ (∀ x, x < n → K' x = K x) ∧ sZ C K Q I J ∧ ∀ x j, x < n → ¬ K x = 3 → ¬ x = C + 23 → ¬ x = C + 28 → ¬ x = C + 38 → R' x j = R x j
theorem fz_lt {n0 : Nat} {K0 : Nat → Nat} {R0 : Nat → Nat → Nat} (h : fZ C n0 K0 Q I0 R0 n K J R) {x j : Nat} (p : siX C K0 Q x j) : x < n0 := by
  have := h.1.1
  by_cases e : n0 ≤ x
  · have := h.2.1 x e
    unfold siX at p
    omega
  · omega
theorem fz_refl {m : Nat} (h : cH C c m t K L I R) : fZ C m K Q I R m K I R := ⟨⟨h.2.2.1, Nat.le_refl _⟩, h.2.1, fun _ _ => rfl, sz_refl, fun _ _ _ _ _ _ _ => rfl⟩
theorem fz_Q0 {n0 n' : Nat} {K0 K' L' : Nat → Nat} {R0 : Nat → Nat → Nat} (h : fZ C n0 K0 Q I0 R0 n K J R) (hT : cT C K L J R) (h2 : dQ C n K L J R n' K' L' J2 R') (hz : ∀ x j, K x = 1 → Q x → J2 x j = J x j) : fZ C n0 K0 Q I0 R0 n' K' J2 R' := by
  have hlt := fun {x j : Nat} (p : siX C K0 Q x j) => fz_lt h p
  obtain ⟨⟨p1, p2⟩, p3, p4, p5, p6⟩ := h
  obtain ⟨q1, q2, q3, q4, q5⟩ := h2
  refine ⟨⟨p1, by omega⟩, p3, fun x hx => (q2 x (by omega)).trans (p4 x hx), fun x j p => ?_, fun x j hx k3 a1 a2 a3 => ?_⟩
  · have hx := hlt p
    have ek := p4 x hx
    have g1 : (K x = 1 ∨ K x = 11) → C + 96 < x := sz_K hT
    by_cases c : K x = 1 ∧ Q x
    · rw [hz x j c.1 c.2]
      exact p5 x j p
    · have c2 : K x = 1 → ¬ Q x := fun e q => c ⟨e, q⟩
      have p' := p
      unfold siX at p'
      rw [q5 x j (by omega) (by omega) (by omega) (by
        rcases p' with p' | p' | p' | p'
        · omega
        · omega
        · omega
        · have := c2 (by rw [ek]; exact p'.1)
          rcases p'.2 with p2 | p2
          · omega
          · exact absurd p2 this)]
      exact p5 x j p
  · rw [q4 x j (by omega) (by rw [p4 x hx]; exact k3)]
    exact p6 x j hx k3 a1 a2 a3
theorem fz_Q {n0 n' : Nat} {K0 K' L' : Nat → Nat} {R0 : Nat → Nat → Nat} (h : fZ C n0 K0 Q I0 R0 n K J R) (hT : cT C K L J R) (h2 : dQ C n K L J R n' K' L' J2 R') {a : Nat} (ha : ¬ Q a) (hz : aZ K a J J2) : fZ C n0 K0 Q I0 R0 n' K' J2 R' := fz_Q0 h hT h2 (fun x j k1 hq => hz x j k1 (fun e => ha (by rw [← e]; exact hq)))
theorem fz_L {n0 : Nat} {K0 : Nat → Nat} {R0 : Nat → Nat → Nat} (h : fZ C n0 K0 Q I0 R0 n K J R) (hT : cT C K L J R) (h2 : dL C K L R J J2) {a : Nat} (ha : ¬ Q a) (hz : aZ K a J J2) : fZ C n0 K0 Q I0 R0 n K J2 R := fz_Q h hT (dQ_L h2) ha hz
theorem fz_C {n0 : Nat} {K0 : Nat → Nat} {R0 : Nat → Nat → Nat} (h : fZ C n0 K0 Q I0 R0 n K J R) (hT : cT C K L J R) (h2 : dC C K L R J J2) : fZ C n0 K0 Q I0 R0 n K J2 R := fz_Q0 h hT (dQ_C h2) (fun x j k1 _ => dC_at h2 hT k1 j)
theorem fz_rf {n0 : Nat} {K0 : Nat → Nat} {R0 : Nat → Nat → Nat} (h : fZ C n0 K0 Q I0 R0 n K J R) (hr : rfP C R R') : fZ C n0 K0 Q I0 R0 n K J R' := ⟨h.1, h.2.1, h.2.2.1, h.2.2.2.1, fun x j hx k3 a1 a2 a3 => (hr x j a1 a2 a3).trans (h.2.2.2.2 x j hx k3 a1 a2 a3)⟩
theorem fz_ui {n0 : Nat} {K0 : Nat → Nat} {R0 : Nat → Nat → Nat} (h : fZ C n0 K0 Q I0 R0 n K J R) (hT : cT C K L J R) {k j : Nat} {v : Int32} (hk : (k = 22 ∧ ¬ j = 8) ∨ (23 ≤ k ∧ k ≤ 35) ∨ (37 ≤ k ∧ k ≤ 42) ∨ k = 9 ∨ k = 10) : fZ C n0 K0 Q I0 R0 n K (a_ui J (C + k) j v) R := ⟨h.1, h.2.1, h.2.2.1, fun x i p => by
  have ek := h.2.2.1 x (fz_lt h p)
  have q : (K x = 1 ∨ K x = 11) → C + 96 < x := sz_K hT
  rw [ui_ap, if_neg (by unfold siX at p; omega)]
  exact h.2.2.2.1 x i p, h.2.2.2.2⟩
theorem ce_clearUnfit (hH : cH C c (n + 1) t K L I R) (hc : cpP C K L I R Y) (hse : seP C R Y) {a : Nat} {i : Int32} (ap : aaP C K I Y i a) (haa : (R (C + 15) i.toNatClampNeg) = a) (hP1 : agB Y i = true → ∀ n' t' K' L' J R', cH C c (n' + 1) t' K' L' J R' → dQ C (n + 1) K L I R (n' + 1) K' L' J R' → cpP C K' L' J R' (unY Y i) → seP C R' Y → (∀ j, R' (C + 15) j = R (C + 15) j) → aZ K a I J → P (some (.int 1)) (n' + 1, t', K', L', J, R')) (hP0 : ¬ agB Y i = true → ∀ J, dC C K L R I J → P (some (.int 0)) (n + 1, t, K, L, J, R)) : a_does (d + 6) 145 [a_rf (C + 14), a_rf a] (n + 1, t, K, L, I, R) P := by
  have hT := hH.1
  have hS := hT.s
  obtain ⟨ai, ⟨ha, an0, a4n⟩, am, al⟩ := id ap
  obtain ⟨a1, a2, a4, a3⟩ := hT.g_ask a ha
  have a0 : (a = 0) = False := eq_false an0
  have gA := hT.g_asksR
  have gB := hT.g_benchesR
  have gX := hT.g_textsR
  have hy := hc.2.2.2.2
  have e13 : I a 13 = Y 20 i.toNatClampNeg := al.2.2.2.1.1
  have e14 : I a 14 = Y 21 i.toNatClampNeg := al.2.2.2.1.2
  have en : I (C + 1) 6 = Y 0 0 := hc.1.1
  have es : (agB Y i = true) = ((0 ≤ Y 20 i.toNatClampNeg ∧ ¬ Y 21 i.toNatClampNeg * 8 < Y 0 0) ∧ ¬ ftY Y i (Y 20 i.toNatClampNeg) (Y 21 i.toNatClampNeg) = 0) := propext ⟨fun q => of_decide_eq_true q, fun q => decide_eq_true q⟩
  rw [es] at hP1 hP0
  by_cases c1 : 0 ≤ Y 20 i.toNatClampNeg ∧ ¬ Y 21 i.toNatClampNeg * 8 < Y 0 0
  · have pa := c1.1
    have i30 : i.toNatClampNeg < 30 := a_lt30 ⟨ai.1, Int32.lt_of_lt_of_le ai.2 hy.2.2.2.2.1.2⟩
    obtain ⟨⟨p21, p200, psl⟩, p5⟩ := hy.2.2.2.2.2.2.1 _ i30 pa
    have p6 : Y 20 i.toNatClampNeg < Y 0 6 := (hc.2.1.2.2.2.1 i ai.1 ai.2 pa).1
    have ps : 0 ≤ Y 21 i.toNatClampNeg ∧ Y 21 i.toNatClampNeg ≤ 199 := by
      have := hy.2.2.1 i ai.1 ai.2
      clear hP1 hP0 hse gA gB gX es
      grind
    have hcall : a_does (d + 5) 100 [a_rf (C + 14), a_rf a, .int (Y 20 i.toNatClampNeg), .int (Y 21 i.toNatClampNeg)] (n + 1, t, K, L, I, R) (fun r h' => a_at (d + 5) (a_xm a_m145) 21 [some (a_rf (C + 14)), some (a_rf a)] (r.toList ++ []) h' P) := by
      refine ce_firstBar (d := d) hT hc ap ⟨pa, p6⟩ ps (fun J hJ => ?_)
      have hT2 := hJ.1
      have hS2 := hT2.s
      by_cases cf : ftY Y i (Y 20 i.toNatClampNeg) (Y 21 i.toNatClampNeg) = 0
      · have hn := hP0 (fun q => q.2 cf) J hJ
        clear hP1 hP0 hc ap al am hse es
        simp only [q145_21, q145_24, q145_25, as_nil, as_i, as_r, Nat.reduceAdd, Nat.reduceLeDiff, z_eq0, z_eq1, z_or, z_em, Classical.not_not, not_false_eq_true, not_true_eq_false, true_and, and_true, false_and, and_false, and_self, true_implies, false_implies, implies_true, Option.toList_some, Option.toList_none, List.cons_append, List.nil_append, Nat.add_eq_zero_iff, a_nl_i, a_nl_r, a_nl_n, true_or, or_true, eq_self, a_isRA_22, a_isRA_24, a_isRA_32, a_isA_20, ok_4, ok_5, ok_6, ok_7, ok_9, ok_20, ok_21, ok_30, ok_50, ok_180, ok_192, ok_200, cf]
        try simp only [true_and, and_true, true_implies, false_implies, implies_true, not_true_eq_false, not_false_eq_true]
        first
          | exact hn
          | exact ⟨by decide, hn⟩
          | grind
      · have hcl : a_does (d + 5) 45 [a_rf (C + 14), a_rf a] (n + 1, t, K, L, J, R) (fun r h' => a_at (d + 5) (a_xm a_m145) 31 [some (a_rf (C + 14)), some (a_rf a)] (r.toList ++ []) h' P) := by
          refine ce_clear (d := d) (cH_J hH hT2) (cpP_C hT hc hJ) hse (aaP_C hT ap hJ) haa (fun n' t' K' L' J2 R' hH' hQ hc' hse' h15 hz' => ?_) pa
          have hn := hP1 ⟨c1, cf⟩ n' t' K' L' J2 R' hH' (dQ_Q (dQ_C hJ) hQ) hc' hse' h15 (fun x j kx hx => (hz' x j kx hx).trans (dC_at hJ hT kx j))
          have hS3 := hH'.1.s
          clear hP1 hP0 hc ap al am hse es hc' hse'
          simp only [q145_31, q145_32, as_nil, as_i, as_r, Nat.reduceAdd, Nat.reduceLeDiff, z_eq0, z_eq1, z_or, z_em, Classical.not_not, not_false_eq_true, not_true_eq_false, true_and, and_true, false_and, and_false, and_self, true_implies, false_implies, implies_true, Option.toList_some, Option.toList_none, List.cons_append, List.nil_append, Nat.add_eq_zero_iff, a_nl_i, a_nl_r, a_nl_n, true_or, or_true, eq_self, a_isRA_22, a_isRA_24, a_isRA_32, a_isA_20, ok_4, ok_5, ok_6, ok_7, ok_9, ok_20, ok_21, ok_30, ok_50, ok_180, ok_192, ok_200]
          first
            | exact hn
            | exact ⟨by decide, hn⟩
            | grind
        clear hP1 hP0 hc ap al am hse es
        simp only [q145_21, q145_24, q145_25, q145_26, q145_27, q145_28, k_14 hS, z_14, as_nil, as_i, as_r, Nat.reduceAdd, Nat.reduceLeDiff, z_eq0, z_eq1, z_or, z_em, Classical.not_not, not_false_eq_true, not_true_eq_false, true_and, and_true, false_and, and_false, and_self, true_implies, false_implies, implies_true, Option.toList_some, Option.toList_none, List.cons_append, List.nil_append, Nat.add_eq_zero_iff, a_nl_i, a_nl_r, a_nl_n, true_or, or_true, eq_self, a_isRA_22, a_isRA_24, a_isRA_32, a_isA_20, ok_4, ok_5, ok_6, ok_7, ok_9, ok_20, ok_21, ok_30, ok_50, ok_180, ok_192, ok_200, cf]
        try simp only [true_and, and_true, true_implies, false_implies, implies_true, not_true_eq_false, not_false_eq_true]
        first
          | exact hcl
          | grind
    clear hP1 hP0 hc ap al am hse es
    rw [a_enter1 (M := a_m145) rfl (a_cat_rf (a_cat_rf a_cat_nil)) (show 2 ≤ 2 by decide)]
    show a_at _ (a_xm a_m145) 0 [some (a_rf (C + 14)), some (a_rf a)] [] _ _
    simp only [q145_0, q145_1, q145_2, q145_5, q145_8, q145_9, q145_10, q145_11, q145_14, q145_15, q145_18, k_14 hS, z_14, sp_mayMove hS, as_nil, as_i, as_r, Nat.reduceAdd, Nat.reduceLeDiff, z_eq0, z_eq1, z_or, z_em, Classical.not_not, not_false_eq_true, not_true_eq_false, true_and, and_true, false_and, and_false, and_self, true_implies, false_implies, implies_true, Option.toList_some, Option.toList_none, List.cons_append, List.nil_append, Nat.add_eq_zero_iff, a_nl_i, a_nl_r, a_nl_n, true_or, or_true, eq_self, a_isRA_22, a_isRA_24, a_isRA_32, a_isA_20, ok_4, ok_5, ok_6, ok_7, ok_9, ok_20, ok_21, ok_30, ok_50, ok_180, ok_192, ok_200, ha, a0, e13, e14, en, c1, pa]
    try simp only [true_and, and_true, true_implies, false_implies, implies_true, not_true_eq_false, not_false_eq_true]
    first
      | exact hcall
      | grind
  · have hn := hP0 (fun q => c1 q.1) I (dC_refl hT)
    clear hP1 hP0 hc ap al am hse es
    rw [a_enter1 (M := a_m145) rfl (a_cat_rf (a_cat_rf a_cat_nil)) (show 2 ≤ 2 by decide)]
    show a_at _ (a_xm a_m145) 0 [some (a_rf (C + 14)), some (a_rf a)] [] _ _
    simp only [q145_0, q145_1, q145_2, q145_5, q145_24, q145_25, k_14 hS, z_14, sp_mayMove hS, as_nil, as_i, as_r, Nat.reduceAdd, Nat.reduceLeDiff, z_eq0, z_eq1, z_or, z_em, Classical.not_not, not_false_eq_true, not_true_eq_false, true_and, and_true, false_and, and_false, and_self, true_implies, false_implies, implies_true, Option.toList_some, Option.toList_none, List.cons_append, List.nil_append, Nat.add_eq_zero_iff, a_nl_i, a_nl_r, a_nl_n, true_or, or_true, eq_self, a_isRA_22, a_isRA_24, a_isRA_32, a_isA_20, ok_4, ok_5, ok_6, ok_7, ok_9, ok_20, ok_21, ok_30, ok_50, ok_180, ok_192, ok_200, ha, a0, e13, e14, en, c1]
    try simp only [true_and, and_true, true_implies, false_implies, implies_true, not_true_eq_false, not_false_eq_true]
    first
      | exact hn
      | exact ⟨by decide, hn⟩
      | grind
theorem od_b (hb : sbE Y W) {o : Nat → Int32} {j : Nat} (h : odP C R Y o j) : odP C R W o j := ⟨h.1, h.2.1, by rw [hb 0 17 (by unfold sb; omega)]; exact h.2.2⟩
theorem le_planAgain_77 (hH : cH C c (n + 1) t K L I R) {n0 : Nat} {K0 : Nat → Nat} {R0 : Nat → Nat → Nat} (hse : seP C R Y) (hQ : ∀ i : Int32, 0 ≤ i → i < Y 0 17 → ¬ Q (R (C + 15) i.toNatClampNeg)) {f : Int32} (hf : 0 ≤ f ∧ f ≤ 202) (ef : Y 0 0 / 8 + 1 = f) {o : Nat → Int32} {m : Nat} (hm30 : m ≤ 30) (ho : ∀ j, j < m → odP C R Y o j) (hoi : ∀ i j, i < m → j < m → o i = o j → i = j) {V : (Nat → Nat → Int32) × Nat} (hP : ∀ J, cT C K L J R → cpP C K L J R V.1 → sbE Y V.1 → fZ C n0 K0 Q I0 R0 (n + 1) K J R → P (some (.int (Int32.ofNat V.2))) (n + 1, t, K, L, J, R)) : ∀ (k i : Nat) (J W : Nat → Nat → Int32) (mv : Nat) (u : Option Value), i + k = m → cT C K L J R → cpP C K L J R W → sbE Y W → mv ≤ i → J (C + 22) 6 = Int32.ofNat m → fZ C n0 K0 Q I0 R0 (n + 1) K J R → (∀ j, j < m → J (C + 25) (o j).toNatClampNeg = Y 20 (o j).toNatClampNeg ∧ J (C + 26) (o j).toNatClampNeg = Y 21 (o j).toNatClampNeg) → (∀ j, i ≤ j → j < m → ¬ 0 ≤ W 20 (o j).toNatClampNeg) → agM o f 199 Y k i (W, mv) = V → a_at (d + 7) (a_xm a_m144) 77 [some (a_rf (C + 22)), some (.int (Int32.ofNat mv)), some (.int (Int32.ofNat i)), u] [] (n + 1, t, K, L, J, R) P := by
  intro k
  induction k with
  | zero =>
    intro i J W mv u hk hT hc hb hmv h6 hz hol hun hV
    have e : (W, mv) = V := hV
    subst e
    have ei : i = m := by omega
    have hp := hP J hT hc hb hz
    have hS := hT.s
    rw [ei]
    clear hP hc hb hun ho hse hol hH hz
    rw [q144_77]
    simp only [q144_78, q144_79, q144_82, q144_154, q144_155, k_22 hS, z_22, as_nil, as_i, as_r, Nat.reduceAdd, Nat.reduceLeDiff, z_eq0, z_eq1, z_or, z_em, Classical.not_not, not_false_eq_true, not_true_eq_false, true_and, and_true, false_and, and_false, and_self, true_implies, false_implies, implies_true, Option.toList_some, Option.toList_none, List.cons_append, List.nil_append, Nat.add_eq_zero_iff, a_nl_i, a_nl_r, a_nl_n, true_or, or_true, eq_self, a_isRA_22, a_isRA_24, a_isRA_32, a_isA_20, ok_4, ok_5, ok_6, ok_7, ok_9, ok_20, ok_21, ok_30, ok_50, ok_180, ok_192, ok_200, h6]
    first
      | exact hp
      | exact ⟨fun _ => hp, fun q => absurd (Int32.le_refl _) q⟩
      | grind
  | succ k ih =>
    intro i J W mv u hk hT hc hb hmv h6 hz hol hun hV
    have hS := hT.s
    have w17 : W 0 17 = Y 0 17 := hb 0 17 (by unfold sb; omega)
    have w00 : W 0 0 = Y 0 0 := hb 0 0 (by unfold sb; omega)
    have hse2 := se_b hse hb
    have him : i < m := by omega
    obtain ⟨q0, q1, q2⟩ := ho i him
    rw [← w17] at q2
    have ap := aa_of hc q1 q2
    have h17 := hc.2.2.2.2.2.2.2.2.1
    have o30 : 0 ≤ o i ∧ o i < 30 := ⟨q1, Int32.lt_of_lt_of_le q2 h17.2⟩
    have un : ¬ 0 ≤ W 20 (o i).toNatClampNeg := hun i (Nat.le_refl _) him
    have hok := on_ok (p := i) (by omega)
    have ei := (on_p (p := i) (by omega)).2.2.1
    have ei1 := (on_p (p := i) (by omega)).2.2.2.2.1
    have ev1 := (on_p (p := mv) (by omega)).2.2.2.2.1
    have nle : ¬ Int32.ofNat m ≤ Int32.ofNat i := Int32.not_le.mpr (by rw [on_lt (by omega) (by omega)]; omega)
    have ka := ap.2.1.1
    have kn := ap.2.1.2.1
    have k0 : (R (C + 15) (o i).toNatClampNeg = 0) = False := eq_false kn
    have n8 : ¬ (8 : Int32) = 0 := by decide
    have enow : J (C + 1) 6 = Y 0 0 := by rw [hc.1.1]; exact w00
    have hold := hol i him
    have hafter : ∀ (v : Int32) (Z : Nat → Nat → Int32), giY W (o i) f 199 true = Z → sbE Y Z → (∀ j, i < j → j < m → ¬ 0 ≤ Z 20 (o j).toNatClampNeg) → ∀ J2, dL C K L R J J2 → aZ K (R (C + 15) (o i).toNatClampNeg) J J2 → cpP C K L J2 R Z → a_at (d + 7) (a_xm a_m144) 112 [some (a_rf (C + 22)), some (.int (Int32.ofNat mv)), some (.int (Int32.ofNat i)), some (a_rf (R (C + 15) (o i).toNatClampNeg))] [.int v] (n + 1, t, K, L, J2, R) P := fun v Z eZ hbZ hunZ J2 d2 z2 hc2 => by
      have hT2 := d2.1
      have hS2 := hT2.s
      have e : ∀ k j, k = 22 ∨ k = 25 ∨ k = 26 → J2 (C + k) j = J (C + k) j := fun k j hk => d2.2 _ _ (by omega) (by omega) (by omega)
      have g25 : J2 (C + 25) (o i).toNatClampNeg = Y 20 (o i).toNatClampNeg := by rw [e _ _ (Or.inr (Or.inl rfl))]; exact hold.1
      have g26 : J2 (C + 26) (o i).toNatClampNeg = Y 21 (o i).toNatClampNeg := by rw [e _ _ (Or.inr (Or.inr rfl))]; exact hold.2
      obtain ⟨-, ⟨-, -, a4⟩, -, al⟩ := aa_of hc2 q1 (by rw [hbZ 0 17 (by unfold sb; omega), ← w17]; exact q2)
      have a13 : J2 (R (C + 15) (o i).toNatClampNeg) 13 = Z 20 (o i).toNatClampNeg := al.2.2.2.1.1
      have a14 : J2 (R (C + 15) (o i).toNatClampNeg) 14 = Z 21 (o i).toNatClampNeg := al.2.2.2.1.2
      unfold agM at hV
      have e1 : ∀ (x : Nat → Nat → Int32) (y : Nat), (x, y).1 = x ∧ (x, y).2 = y := fun _ _ => ⟨rfl, rfl⟩
      rw [(e1 _ _).1, (e1 _ _).2, eZ] at hV
      have hn := fun mv2 hmv2 (hv2 : agM o f 199 Y k (i + 1) (Z, mv2) = V) => ih (i + 1) J2 Z mv2 (some (a_rf (R (C + 15) (o i).toNatClampNeg))) (by omega) hT2 hc2 hbZ hmv2 (by rw [e _ _ (Or.inl rfl)]; exact h6) (fz_L hz hT d2 (hQ _ q1 (by rw [← w17]; exact q2)) z2) (fun j hj => by rw [e _ _ (Or.inr (Or.inl rfl)), e _ _ (Or.inr (Or.inr rfl))]; exact hol j hj) (fun j hj hj2 => hunZ j (by omega) hj2) hv2
      by_cases cs : Z 20 (o i).toNatClampNeg = Y 20 (o i).toNatClampNeg ∧ Z 21 (o i).toNatClampNeg = Y 21 (o i).toNatClampNeg
      · rw [if_pos cs] at hV
        have hn := hn mv (by omega) hV
        obtain ⟨c1, c2⟩ := cs
        clear ih hP hc hb hun ho hse hol hH hV hc2 al hbZ hunZ
        simp only [q144_112, q144_113, q144_114, q144_117, q144_118, q144_121, q144_122, q144_125, q144_126, q144_129, q144_130, q144_133, q144_134, q144_137, q144_138, q144_141, q144_142, q144_145, q144_148, q144_151, k_22 hS2, z_22, r_22_4 hS2, k_25 hS2, l_25 hS2, z_25, r_22_5 hS2, k_26 hS2, l_26 hS2, z_26, as_nil, as_i, as_r, Nat.reduceAdd, Nat.reduceLeDiff, z_eq0, z_eq1, z_or, z_em, Classical.not_not, not_false_eq_true, not_true_eq_false, true_and, and_true, false_and, and_false, and_self, true_implies, false_implies, implies_true, Option.toList_some, Option.toList_none, List.cons_append, List.nil_append, Nat.add_eq_zero_iff, a_nl_i, a_nl_r, a_nl_n, true_or, or_true, eq_self, a_isRA_22, a_isRA_24, a_isRA_32, a_isA_20, ok_4, ok_5, ok_6, ok_7, ok_9, ok_20, ok_21, ok_30, ok_50, ok_180, ok_192, ok_200, ka, k0, a4, a13, a14, g25, g26, o30, c1, c2, ei1]
        try simp only [true_and, and_true, true_implies, false_implies, implies_true, not_true_eq_false, not_false_eq_true]
        first
          | exact hn
          | grind
      · rw [if_neg cs] at hV
        have hn := hn (mv + 1) (by omega) hV
        clear ih hP hc hb hun ho hse hol hH hV hc2 al hbZ hunZ
        by_cases c1 : Z 20 (o i).toNatClampNeg = Y 20 (o i).toNatClampNeg
        · have c2 : ¬ Z 21 (o i).toNatClampNeg = Y 21 (o i).toNatClampNeg := fun q => cs ⟨c1, q⟩
          simp only [q144_112, q144_113, q144_114, q144_117, q144_118, q144_121, q144_122, q144_125, q144_126, q144_129, q144_130, q144_133, q144_134, q144_137, q144_138, q144_141, q144_142, q144_145, q144_148, q144_151, k_22 hS2, z_22, r_22_4 hS2, k_25 hS2, l_25 hS2, z_25, r_22_5 hS2, k_26 hS2, l_26 hS2, z_26, as_nil, as_i, as_r, Nat.reduceAdd, Nat.reduceLeDiff, z_eq0, z_eq1, z_or, z_em, Classical.not_not, not_false_eq_true, not_true_eq_false, true_and, and_true, false_and, and_false, and_self, true_implies, false_implies, implies_true, Option.toList_some, Option.toList_none, List.cons_append, List.nil_append, Nat.add_eq_zero_iff, a_nl_i, a_nl_r, a_nl_n, true_or, or_true, eq_self, a_isRA_22, a_isRA_24, a_isRA_32, a_isA_20, ok_4, ok_5, ok_6, ok_7, ok_9, ok_20, ok_21, ok_30, ok_50, ok_180, ok_192, ok_200, ka, k0, a4, a13, a14, g25, g26, o30, c1, c2, ei1, ev1]
          try simp only [true_and, and_true, true_implies, false_implies, implies_true, not_true_eq_false, not_false_eq_true]
          first
            | exact hn
            | grind
        · simp only [q144_112, q144_113, q144_114, q144_117, q144_118, q144_121, q144_122, q144_125, q144_126, q144_129, q144_130, q144_133, q144_134, q144_137, q144_138, q144_141, q144_142, q144_145, q144_148, q144_151, k_22 hS2, z_22, r_22_4 hS2, k_25 hS2, l_25 hS2, z_25, r_22_5 hS2, k_26 hS2, l_26 hS2, z_26, as_nil, as_i, as_r, Nat.reduceAdd, Nat.reduceLeDiff, z_eq0, z_eq1, z_or, z_em, Classical.not_not, not_false_eq_true, not_true_eq_false, true_and, and_true, false_and, and_false, and_self, true_implies, false_implies, implies_true, Option.toList_some, Option.toList_none, List.cons_append, List.nil_append, Nat.add_eq_zero_iff, a_nl_i, a_nl_r, a_nl_n, true_or, or_true, eq_self, a_isRA_22, a_isRA_24, a_isRA_32, a_isA_20, ok_4, ok_5, ok_6, ok_7, ok_9, ok_20, ok_21, ok_30, ok_50, ok_180, ok_192, ok_200, ka, k0, a4, a13, a14, g25, g26, o30, c1, ei1, ev1]
          try simp only [true_and, and_true, true_implies, false_implies, implies_true, not_true_eq_false, not_false_eq_true]
          first
            | exact hn
            | grind
    have hcall : a_does (d + 7) 124 [a_rf (C + 22), a_rf (R (C + 15) (o i).toNatClampNeg), .int f, .int 199] (n + 1, t, K, L, J, R) (fun r h' => a_at (d + 7) (a_xm a_m144) 112 [some (a_rf (C + 22)), some (.int (Int32.ofNat mv)), some (.int (Int32.ofNat i)), some (a_rf (R (C + 15) (o i).toNatClampNeg))] (r.toList ++ []) h' P) := by
      refine ce_placeFirst (d := d) hT hc hse2 ap rfl un hf (by decide) (fun c2 J2 d2 z2 hc2 => ?_) (fun c2 J2 d2 => ?_)
      · refine hafter 1 (puY W (o i) (gnY W (o i) f 199).2 (gnY W (o i) f 199).1) (by unfold giY; rw [if_pos ⟨rfl, c2⟩]) (sb_tr hb puY_b) (fun j hj hj2 => ?_) J2 d2 z2 hc2
        have hne : ¬ (o j).toNatClampNeg = (o i).toNatClampNeg := fun q => by
          have := hoi j i hj2 him (cl_inj (ho j hj2).2.1 q1 q)
          omega
        unfold puY
        rw [if_neg (fun q => hne q.2), if_neg (by omega), if_neg (by omega)]
        exact hun j (by omega) hj2
      · exact hafter 0 W (by unfold giY; rw [if_neg (fun q => c2 q.2)]) hb (fun j hj hj2 => hun j (by omega) hj2) J2 (dL_C (dL_refl hT) d2) (fun x j kx _ => dC_at d2 hT kx j) (cpP_C hT hc d2)
    clear ih hP hc hb hun ho hse hse2 ap hol hH hV hafter
    rw [q144_77]
    simp only [q144_78, q144_79, q144_82, q144_85, q144_86, q144_89, q144_90, q144_91, q144_92, q144_93, q144_94, q144_95, q144_98, q144_101, q144_103, q144_104, q144_105, q144_106, q144_109, k_22 hS, z_22, r_22_2 hS, k_23 hS, l_23 hS, z_23, r_22_1 hS, k_1 hS, z_1, as_nil, as_i, as_r, Nat.reduceAdd, Nat.reduceLeDiff, z_eq0, z_eq1, z_or, z_em, Classical.not_not, not_false_eq_true, not_true_eq_false, true_and, and_true, false_and, and_false, and_self, true_implies, false_implies, implies_true, Option.toList_some, Option.toList_none, List.cons_append, List.nil_append, Nat.add_eq_zero_iff, a_nl_i, a_nl_r, a_nl_n, true_or, or_true, eq_self, a_isRA_22, a_isRA_24, a_isRA_32, a_isA_20, ok_4, ok_5, ok_6, ok_7, ok_9, ok_20, ok_21, ok_30, ok_50, ok_180, ok_192, ok_200, h6, q0, ei, hok, nle, n8, enow, ef]
    try simp only [true_and, and_true, true_implies, false_implies, implies_true, not_true_eq_false, not_false_eq_true]
    first
      | exact hcall
      | grind
theorem le_planAgain_7 {n0 : Nat} {K0 : Nat → Nat} {R0 : Nat → Nat → Nat} (hN : ∀ n t K L J R1 (u : Int32) v w, cH C c (n + 1) t K L J R1 → cpP C K L J R1 (agP Y).1 → sbE Y (agP Y).1 → seP C R1 Y → J (C + 22) 6 = Int32.ofNat (agP Y).2.2 → (agP Y).2.2 ≤ 30 → (∀ j, j < (agP Y).2.2 → odP C R1 Y (agP Y).2.1 j) → rwP (unB (agP Y).1) (Y 0 17) (agP Y).2 → (∀ x : Int32, 0 ≤ x → x < Y 0 17 → J (C + 25) x.toNatClampNeg = Y 20 x.toNatClampNeg ∧ J (C + 26) x.toNatClampNeg = Y 21 x.toNatClampNeg) → fZ C n0 K0 Q I0 R0 (n + 1) K J R1 → (∀ i : Int32, 0 ≤ i → i < Y 0 17 → ¬ Q (R1 (C + 15) i.toNatClampNeg)) → a_at (d + 7) (a_xm a_m144) 73 [some (a_rf (C + 22)), some (.int u), v, w] [] (n + 1, t, K, L, J, R1) P) : ∀ i : Int32, i ≤ 30 → ∀ n t K L J R1 W u w m o, 0 ≤ i → i ≤ Y 0 17 → cH C c (n + 1) t K L J R1 → cpP C K L J R1 W → sbE Y W → seP C R1 Y → J (C + 22) 6 = Int32.ofNat m → m ≤ i.toNatClampNeg → (∀ j, j < m → odP C R1 Y o j) → rwP (unB W) i (o, m) → (∀ x : Int32, 0 ≤ x → x < i → J (C + 25) x.toNatClampNeg = Y 20 x.toNatClampNeg ∧ J (C + 26) x.toNatClampNeg = Y 21 x.toNatClampNeg) → (∀ x : Int32, i ≤ x → x < Y 0 17 → W 20 x.toNatClampNeg = Y 20 x.toNatClampNeg ∧ W 21 x.toNatClampNeg = Y 21 x.toNatClampNeg) → fZ C n0 K0 Q I0 R0 (n + 1) K J R1 → (∀ i : Int32, 0 ≤ i → i < Y 0 17 → ¬ Q (R1 (C + 15) i.toNatClampNeg)) → agS ((Y 0 17).toNatClampNeg - i.toNatClampNeg) i (W, o, m) = agP Y → a_at (d + 7) (a_xm a_m144) 7 [some (a_rf (C + 22)), some (.int i), u, w] [] (n + 1, t, K, L, J, R1) P := by
  refine up_ind 30 (fun i i30 ih => ?_)
  intro n t K L J R1 W u w m o h0 h1 hH hc hb hse h6 hmi ho hrw hol hW hz hQ hV
  have hT := hH.1
  have hS := hT.s
  have gA := hT.g_asksR
  have gB := hT.g_benchesR
  have gX := hT.g_textsR
  have w17 : W 0 17 = Y 0 17 := hb 0 17 (by unfold sb; omega)
  have h17 := hc.2.2.2.2.2.2.2.2.1
  rw [w17] at h17
  have l30 := cl_le0 h0 (Int32.le_trans h1 h17.2)
  rw [show (30 : Int32).toNatClampNeg = 30 from rfl] at l30
  have e4 : J (C + 14) 4 = Y 0 17 := hc.2.2.1.1.trans w17
  have hexit : ¬ i < Y 0 17 → ∀ v w, a_at (d + 7) (a_xm a_m144) 73 [some (a_rf (C + 22)), some (.int i), v, w] [] (n + 1, t, K, L, J, R1) P := fun c v w => by
    obtain ⟨e1, e2⟩ := lp_end h1 c
    rw [e1] at hV
    have e9 : (W, o, m) = agP Y := hV
    rw [← e9] at hN
    exact hN n t K L J R1 _ v w hH hc hb hse h6 (by show m ≤ 30; omega) ho (by rw [← e2]; exact hrw) (by rw [← e2]; exact hol) hz hQ
  have hin : i < Y 0 17 → ∀ v w, a_at (d + 7) (a_xm a_m144) 26 [some (a_rf (C + 22)), some (.int i), v, w] [a_rf (R1 (C + 15) i.toNatClampNeg)] (n + 1, t, K, L, J, R1) P := fun w uv wv => by
    obtain ⟨s1, s2, s3, s4⟩ := lp_st h0 w
    have hi30 : 0 ≤ i ∧ i < 30 := ⟨h0, Int32.lt_of_lt_of_le w h17.2⟩
    have iT := cl_lt h0 w
    have iT3 := cl_lt h0 hi30.2
    rw [show (30 : Int32).toNatClampNeg = 30 from rfl] at iT3
    have ap := aa_of hc h0 (by rw [w17]; exact w)
    obtain ⟨-, ⟨kb, bn, b4⟩, bm, bl⟩ := id ap
    have b0 : (R1 (C + 15) i.toNatClampNeg = 0) = False := eq_false bn
    have f13 : J (R1 (C + 15) i.toNatClampNeg) 13 = Y 20 i.toNatClampNeg := bl.2.2.2.1.1.trans (hW i (Int32.le_refl _) w).1
    have f14 : J (R1 (C + 15) i.toNatClampNeg) 14 = Y 21 i.toNatClampNeg := bl.2.2.2.1.2.trans (hW i (Int32.le_refl _) w).2
    have na : ¬ R1 (C + 15) i.toNatClampNeg = C + 25 := fun e => by have := (hT.g_ask _ kb).1; omega
    have nb : ¬ R1 (C + 15) i.toNatClampNeg = C + 26 := fun e => by have := (hT.g_ask _ kb).1; omega
    rw [s1] at hV
    unfold agS at hV
    have e1 : ∀ (x : Nat → Nat → Int32) (y : (Nat → Int32) × Nat), (x, y).1 = x ∧ (x, y).2 = y := fun _ _ => ⟨rfl, rfl⟩
    have e2 : ∀ (x : Nat → Int32) (y : Nat), (x, y).1 = x ∧ (x, y).2 = y := fun _ _ => ⟨rfl, rfl⟩
    rw [(e1 _ _).1, (e1 _ _).2, (e2 _ _).1, (e2 _ _).2] at hV
    -- the heap with what was had
    have hT1 := sT_Planner_oldBench hT (k := i.toNatClampNeg) (v := Y 20 i.toNatClampNeg)
    have hc1 := cp_sc hT hc (k := 25) (j := i.toNatClampNeg) (v := Y 20 i.toNatClampNeg) (by omega) (by omega)
    have hT2 := sT_Planner_oldShift hT1 (k := i.toNatClampNeg) (v := Y 21 i.toNatClampNeg)
    have hc2 := cp_sc hT1 hc1 (k := 26) (j := i.toNatClampNeg) (v := Y 21 i.toNatClampNeg) (by omega) (by omega)
    generalize eJ : a_ui (a_ui J (C + 25) i.toNatClampNeg (Y 20 i.toNatClampNeg)) (C + 26) i.toNatClampNeg (Y 21 i.toNatClampNeg) = J1 at hT2 hc2
    have hH1 := cH_J hH hT2
    have hz1 : fZ C n0 K0 Q I0 R0 (n + 1) K J1 R1 := by
      rw [← eJ]
      exact fz_ui (fz_ui hz hT (by omega)) hT1 (by omega)
    have h61 : J1 (C + 22) 6 = Int32.ofNat m := by rw [← eJ, ui_ap, if_neg (by omega), ui_ap, if_neg (by omega)]; exact h6
    have hol1 : ∀ x : Int32, 0 ≤ x → x < i + 1 → J1 (C + 25) x.toNatClampNeg = Y 20 x.toNatClampNeg ∧ J1 (C + 26) x.toNatClampNeg = Y 21 x.toNatClampNeg := fun x x0 x1 => by
      rw [← eJ]
      by_cases e : x.toNatClampNeg = i.toNatClampNeg
      · rw [ui_ap, if_neg (by omega), ui_ap, if_pos ⟨rfl, e⟩, ui_ap, if_pos ⟨rfl, e⟩, e]
        exact ⟨rfl, rfl⟩
      · rw [ui_ap, if_neg (by omega), ui_ap, if_neg (fun q => e q.2), ui_ap, if_neg (fun q => e q.2), ui_ap, if_neg (by omega)]
        have := cl_lt x0 x1
        exact hol x x0 (cl_lt2 x0 h0 (by omega))
    have ap2 := aa_of hc2 h0 (by rw [w17]; exact w)
    have hW1 : ∀ x : Int32, i + 1 ≤ x → x < Y 0 17 → W 20 x.toNatClampNeg = Y 20 x.toNatClampNeg ∧ W 21 x.toNatClampNeg = Y 21 x.toNatClampNeg := fun x x0 x1 => hW x (Int32.le_trans (Int32.le_of_lt (cl_lt2 h0 s2 (by omega))) x0) x1
    have hcall : a_does (d + 7) 145 [a_rf (C + 14), a_rf (R1 (C + 15) i.toNatClampNeg)] (n + 1, t, K, L, J1, R1) (fun r h' => a_at (d + 7) (a_xm a_m144) 59 [some (a_rf (C + 22)), some (.int i), some (a_rf (R1 (C + 15) i.toNatClampNeg)), wv] (r.toList ++ []) h' P) := by
      refine ce_clearUnfit (d := d + 1) hH1 hc2 (se_b hse hb) ap2 rfl (fun ag n' t' K' L' J' R' hH' hdQ hc' hse' h15 haz => ?_) (fun ag J2 d2 => ?_)
      · rw [if_pos ag] at hV
        have hS2 := hH'.1.s
        have hC := hH1.2.2.1
        have k23 : K (C + 23) = 22 := k_23 hS
        have al := kn_lt hH1.2.1 kb (by decide)
        have kb' : K' (R1 (C + 15) i.toNatClampNeg) = 1 := by rw [hdQ.2.1 _ al]; exact kb
        have e6 : ∀ k j, k = 22 ∨ k = 25 ∨ k = 26 → J' (C + k) j = J1 (C + k) j := fun k j hk => hdQ.2.2.2.2 _ _ (by omega) (by omega) (by omega) (by omega)
        have r23 : ∀ j, R' (C + 23) j = R1 (C + 23) j := fun j => hdQ.2.2.2.1 _ _ (by omega) (by rw [k23]; decide)
        have hb' : sbE Y (unY W i) := sb_tr hb unY_b
        have h6' : J' (C + 22) 6 = Int32.ofNat m := (e6 _ _ (Or.inl rfl)).trans h61
        have ho' : ∀ j, j < m → odP C R' (unY W i) o j := fun j hj => od_b hb' (by
          obtain ⟨p1, p2, p3⟩ := ho j hj
          exact ⟨by rw [r23, h15]; exact p1, p2, p3⟩)
        have apE := aa_of hc' h0 (by rw [hb' 0 17 (by unfold sb; omega)]; exact w)
        rw [h15] at apE
        have henter : a_does (d + 7) 120 [a_rf (C + 22), a_rf (R1 (C + 15) i.toNatClampNeg)] (n' + 1, t', K', L', J', R') (fun r h' => a_at (d + 7) (a_xm a_m144) 67 [some (a_rf (C + 22)), some (.int i), some (a_rf (R1 (C + 15) i.toNatClampNeg)), wv] (r.toList ++ []) h' P) := by
          refine ce_enter (d := d + 4) hH'.1 hc' (se_b hse' unY_b) apE (h15 _) (m := m) (by omega) h6' ho' (fun R2 hT3 hr2 ho2 => ?_)
          have hT3' := sT_Planner_orderSize hH'.1 (v := Int32.ofNat (m + 1)) (on_ok2 (by omega))
          have hc3 := cp_rf hT3' (cp_sc hH'.1 hc' (k := 22) (j := 6) (v := Int32.ofNat (m + 1)) (by omega) (by omega)) hr2
          have hse3 : seP C R2 Y := se_b (se_rf hH'.1 hc' (se_b hse' unY_b) hr2) (fun k j p => (hb' k j p).symm)
          have hn := ih hi30.2 n' t' K' L' (a_ui J' (C + 22) 6 (Int32.ofNat (m + 1))) R2 (unY W i) (some (a_rf (R1 (C + 15) i.toNatClampNeg))) wv (m + 1) (inS W i m o) s2 s3 (cH_rf hH' hr2 hT3) hc3 hb' hse3 (by rw [ui_ap, if_pos ⟨rfl, rfl⟩]) (by omega) (fun j hj => by
            obtain ⟨p1, p2, p3⟩ := ho2 j (by omega)
            rw [inS_b unY_b] at p1 p2 p3
            exact ⟨p1, p2, by rw [← hb' 0 17 (by unfold sb; omega)]; exact p3⟩) (rw_in h0 w (decide_eq_true (by rw [un_a (Or.inl rfl)]; decide)) (rw_mono hrw (fun x x0 x1 hq => un_ag h0 x0 hq))) (fun x x0 x1 => by
            rw [ui_ap, if_neg (by omega), ui_ap, if_neg (by omega), e6 _ _ (Or.inr (Or.inl rfl)), e6 _ _ (Or.inr (Or.inr rfl))]
            exact hol1 x x0 x1) (fun x x0 x1 => by
            have hne : ¬ x.toNatClampNeg = i.toNatClampNeg := fun q => by
              have := cl_le0 s2 x0
              omega
            rw [un_o (Or.inr hne), un_o (Or.inr hne)]
            exact hW1 x x0 x1) (fz_rf (fz_ui (fz_Q hz1 hT2 hdQ (hQ i h0 w) haz) hH'.1 (by omega)) hr2) (fun x x0 x1 => by rw [hr2 _ _ (by omega) (by omega) (by omega), h15]; exact hQ x x0 x1) hV
          clear ih hN hV hexit hc hc1 hc2 hc' hc3 ap ap2 apE hrw ho ho' ho2 hol hol1 hW hW1 hse hse' hse3
          simp only [q144_67, q144_70, as_nil, as_i, as_r, Nat.reduceAdd, Nat.reduceLeDiff, z_eq0, z_eq1, z_or, z_em, Classical.not_not, not_false_eq_true, not_true_eq_false, true_and, and_true, false_and, and_false, and_self, true_implies, false_implies, implies_true, Option.toList_some, Option.toList_none, List.cons_append, List.nil_append, Nat.add_eq_zero_iff, a_nl_i, a_nl_r, a_nl_n, true_or, or_true, eq_self, a_isRA_22, a_isRA_24, a_isRA_32, a_isA_20, ok_4, ok_5, ok_6, ok_7, ok_9, ok_20, ok_21, ok_30, ok_50, ok_180, ok_192, ok_200]
          exact hn
        clear ih hN hV hexit hc hc1 hc2 hc' ap ap2 apE hrw ho ho' hol hol1 hW hW1 hse hse'
        simp only [q144_59, q144_62, q144_63, q144_64, k_22 hS2, z_22, as_nil, as_i, as_r, Nat.reduceAdd, Nat.reduceLeDiff, z_eq0, z_eq1, z_or, z_em, Classical.not_not, not_false_eq_true, not_true_eq_false, true_and, and_true, false_and, and_false, and_self, true_implies, false_implies, implies_true, Option.toList_some, Option.toList_none, List.cons_append, List.nil_append, Nat.add_eq_zero_iff, a_nl_i, a_nl_r, a_nl_n, true_or, or_true, eq_self, a_isRA_22, a_isRA_24, a_isRA_32, a_isA_20, ok_4, ok_5, ok_6, ok_7, ok_9, ok_20, ok_21, ok_30, ok_50, ok_180, ok_192, ok_200, kb', b0]
        try simp only [true_and, and_true, true_implies, false_implies, implies_true, not_true_eq_false, not_false_eq_true]
        first
          | exact henter
          | grind
      · rw [if_neg ag] at hV
        have hS2 := d2.1.s
        have e6 : ∀ k j, k = 22 ∨ k = 25 ∨ k = 26 → J2 (C + k) j = J1 (C + k) j := fun k j hk => d2.2 _ _ (by omega) (by omega)
        have hn := ih hi30.2 n t K L J2 R1 W (some (a_rf (R1 (C + 15) i.toNatClampNeg))) wv m o s2 s3 (cH_J hH1 d2.1) (cpP_C hT2 hc2 d2) hb hse ((e6 _ _ (Or.inl rfl)).trans h61) (by omega) ho (rw_up h0 w hrw) (fun x x0 x1 => by
          rw [e6 _ _ (Or.inr (Or.inl rfl)), e6 _ _ (Or.inr (Or.inr rfl))]
          exact hol1 x x0 x1) hW1 (fz_C hz1 hT2 d2) hQ hV
        clear ih hN hV hexit hc hc1 hc2 ap ap2 hrw ho hol hol1 hW hW1 hse
        simp only [q144_59, q144_67, q144_70, as_nil, as_i, as_r, Nat.reduceAdd, Nat.reduceLeDiff, z_eq0, z_eq1, z_or, z_em, Classical.not_not, not_false_eq_true, not_true_eq_false, true_and, and_true, false_and, and_false, and_self, true_implies, false_implies, implies_true, Option.toList_some, Option.toList_none, List.cons_append, List.nil_append, Nat.add_eq_zero_iff, a_nl_i, a_nl_r, a_nl_n, true_or, or_true, eq_self, a_isRA_22, a_isRA_24, a_isRA_32, a_isA_20, ok_4, ok_5, ok_6, ok_7, ok_9, ok_20, ok_21, ok_30, ok_50, ok_180, ok_192, ok_200]
        try simp only [true_and, and_true, true_implies, false_implies, implies_true, not_true_eq_false, not_false_eq_true]
        first
          | exact hn
          | grind
    clear ih hN hV hexit hc hc1 hc2 ap ap2 hrw ho hol hol1 hW hW1 hse bl bm
    simp only [q144_26, q144_27, q144_28, q144_31, q144_32, q144_35, q144_36, q144_37, q144_40, q144_41, q144_42, q144_45, q144_46, q144_47, q144_50, q144_51, q144_52, q144_55, q144_56, k_22 hS, z_22, r_22_4 hS, k_25 hS, l_25 hS, z_25, r_22_5 hS, k_26 hS, l_26 hS, z_26, r_22_0 hS, k_14 hS, z_14, as_nil, as_i, as_r, Nat.reduceAdd, Nat.reduceLeDiff, z_eq0, z_eq1, z_or, z_em, Classical.not_not, not_false_eq_true, not_true_eq_false, true_and, and_true, false_and, and_false, and_self, true_implies, false_implies, implies_true, Option.toList_some, Option.toList_none, List.cons_append, List.nil_append, Nat.add_eq_zero_iff, a_nl_i, a_nl_r, a_nl_n, true_or, or_true, eq_self, a_isRA_22, a_isRA_24, a_isRA_32, a_isA_20, ok_4, ok_5, ok_6, ok_7, ok_9, ok_20, ok_21, ok_30, ok_50, ok_180, ok_192, ok_200, ui_ap, cc_ne, cc_n0, cc_0n, Nat.reduceEqDiff, reduceIte, if_true, if_false, kb, b0, na, nb, hi30, f13, f14, eJ]
    try simp only [true_and, and_true, true_implies, false_implies, implies_true, not_true_eq_false, not_false_eq_true]
    first
      | exact hcall
      | grind
  clear ih hN hV hc hrw ho hol hW hse
  rw [q144_7]
  repeat' first
    | with_reducible apply And.intro
    | with_reducible assumption
    | with_reducible intro _
    | refine hexit ?_ _ _
    | refine hin ?_ _ _
    | simp only [q144_8, q144_9, q144_12, q144_15, q144_18, q144_19, q144_22, q144_23, k_22 hS, z_22, r_22_0 hS, k_14 hS, z_14, sp_askAt hS gA, as_nil, as_i, as_r, Nat.reduceAdd, Nat.reduceLeDiff, z_eq0, z_eq1, z_or, z_em, Classical.not_not, not_false_eq_true, not_true_eq_false, true_and, and_true, false_and, and_false, and_self, true_implies, false_implies, implies_true, Option.toList_some, Option.toList_none, List.cons_append, List.nil_append, Nat.add_eq_zero_iff, a_nl_i, a_nl_r, a_nl_n, true_or, or_true, eq_self, a_isRA_22, a_isRA_24, a_isRA_32, a_isA_20, ok_4, ok_5, ok_6, ok_7, ok_9, ok_20, ok_21, ok_30, ok_50, ok_180, ok_192, ok_200, e4]
  all_goals ((try clear hexit); (try clear hin); (try clear hT); (try clear hS); (try clear gA); (try clear gB); (try clear gX); grind [ui_ap])
theorem now8s {v : Int32} (h : 0 ≤ v ∧ v ≤ 1600) : 0 ≤ v / 8 + 1 ∧ v / 8 + 1 ≤ 202 := by
  have c0 : (0 : Int32).toInt = 0 := rfl
  have c1 : (1 : Int32).toInt = 1 := rfl
  have c8 : (8 : Int32).toInt = 8 := rfl
  have c2 : (1600 : Int32).toInt = 1600 := rfl
  have c3 : (202 : Int32).toInt = 202 := rfl
  have e0 := Int32.le_iff_toInt_le.mp h.1
  have e1 := Int32.le_iff_toInt_le.mp h.2
  have e := ti_div h.1 (show (0 : Int32) < 8 by decide)
  rw [c8] at e
  have e2 : (v / 8 + 1).toInt = (v / 8).toInt + 1 := by rw [ti_add (by omega)]; omega
  exact ⟨by rw [Int32.le_iff_toInt_le]; omega, by rw [Int32.le_iff_toInt_le]; omega⟩
/-- AGAIN, whole -/
theorem ce_planAgain (hH : cH C c (n + 1) t K L I R) (hc : cpP C K L I R Y) (hse : seP C R Y) (hQ : ∀ i : Int32, 0 ≤ i → i < Y 0 17 → ¬ Q (R (C + 15) i.toNatClampNeg)) (hP : ∀ n' t' K' L' J R', cH C c (n' + 1) t' K' L' J R' → cpP C K' L' J R' (agY Y).1 → sbE Y (agY Y).1 → seP C R' Y → fZ C (n + 1) K Q I R (n' + 1) K' J R' → P (some (.int (Int32.ofNat (agY Y).2))) (n' + 1, t', K', L', J, R')) : a_does (d + 8) 144 [a_rf (C + 22)] (n + 1, t, K, L, I, R) P := by
  have hT := hH.1
  have hS := hT.s
  have h17 := hc.2.2.2.2.2.2.2.2.1
  have hnow : 0 ≤ Y 0 0 ∧ Y 0 0 ≤ 1600 := by rw [← hc.1.1]; exact hT.g_now
  have hf := now8s hnow
  have hT1 := sT_Planner_orderSize hT (v := 0) (by decide)
  have hc1 := cp_sc hT hc (k := 22) (j := 6) (v := 0) (by omega) (by omega)
  have hl := fun u w => le_planAgain_7 (d := d) (c := c) (P := P) (Y := Y) (Q := Q) (I0 := I) (n0 := n + 1) (K0 := K) (R0 := R) (fun n' t' K' L' J' R1 u v w hH' hc' hb' hse' h6' hm' ho' hrw' hol' hz' hQ' => by
    have hS' := hH'.1.s
    have hg := le_planAgain_77 (d := d) (n := n') (t := t') (P := P) (Q := Q) (I0 := I) (n0 := n + 1) (K0 := K) (R0 := R) hH' hse' hQ' hf rfl (o := (agP Y).2.1) hm' ho' hrw'.2 (V := agY Y) (fun J2 hT2 hc2 hb2 hz2 => hP n' t' K' L' J2 R1 (cH_J hH' hT2) hc2 hb2 hse' hz2) (agP Y).2.2 0 J' (agP Y).1 0 w (by omega) hH'.1 hc' hb' (Nat.le_refl _) h6' hz' (fun j hj => hol' _ (ho' j hj).2.1 (ho' j hj).2.2) (fun j _ hj => of_decide_eq_true (hrw'.1 j hj).2) rfl
    have e0 : Int32.ofNat 0 = 0 := rfl
    rw [e0] at hg
    clear hP hc hc' hc1 hse hse' ho' hrw' hol'
    simp only [q144_73, q144_74, q144_75, q144_76, as_nil, as_i, as_r, Nat.reduceAdd, Nat.reduceLeDiff, z_eq0, z_eq1, z_or, z_em, Classical.not_not, not_false_eq_true, not_true_eq_false, true_and, and_true, false_and, and_false, and_self, true_implies, false_implies, implies_true, Option.toList_some, Option.toList_none, List.cons_append, List.nil_append, Nat.add_eq_zero_iff, a_nl_i, a_nl_r, a_nl_n, true_or, or_true, eq_self, a_isRA_22, a_isRA_24, a_isRA_32, a_isA_20, ok_4, ok_5, ok_6, ok_7, ok_9, ok_20, ok_21, ok_30, ok_50, ok_180, ok_192, ok_200]
    exact hg) 0 (by decide) n t K L (a_ui I (C + 22) 6 0) R Y u w 0 (fun _ => 0) (by decide) h17.1 (cH_J hH hT1) hc1 (fun _ _ _ => rfl) hse (by rw [ui_ap, if_pos ⟨rfl, rfl⟩]; rfl) (Nat.zero_le _) (fun j hj => absurd hj (Nat.not_lt_zero j)) rw_0 (fun x x0 x1 => absurd (Int32.lt_of_le_of_lt x0 x1) (by decide)) (fun x _ _ => ⟨rfl, rfl⟩) (fz_ui (fz_refl hH) hT (by omega)) hQ (by rw [lp_0]; rfl)
  clear hP hc hc1 hse
  rw [a_enter1 (M := a_m144) rfl (a_cat_rf a_cat_nil) (show 1 ≤ 4 by decide)]
  show a_at _ (a_xm a_m144) 0 [some (a_rf (C + 22)), none, none, none] [] _ _
  simp only [q144_0, q144_1, q144_2, q144_5, q144_6, k_22 hS, z_22, as_nil, as_i, as_r, Nat.reduceAdd, Nat.reduceLeDiff, z_eq0, z_eq1, z_or, z_em, Classical.not_not, not_false_eq_true, not_true_eq_false, true_and, and_true, false_and, and_false, and_self, true_implies, false_implies, implies_true, Option.toList_some, Option.toList_none, List.cons_append, List.nil_append, Nat.add_eq_zero_iff, a_nl_i, a_nl_r, a_nl_n, true_or, or_true, eq_self, a_isRA_22, a_isRA_24, a_isRA_32, a_isA_20, ok_4, ok_5, ok_6, ok_7, ok_9, ok_20, ok_21, ok_30, ok_50, ok_180, ok_192, ok_200]
  exact hl _ _
end YI0

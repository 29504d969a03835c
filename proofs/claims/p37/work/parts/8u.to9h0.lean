section
/-! the start -/
section ZU0
variable {d n t C c : Nat} {K L : Nat → Nat} {I I0 J J0 J1 J2 : Nat → Nat → Int32} {R : Nat → Nat → Nat} {P : Option Value → AH → Prop}
variable {Y Z W : Nat → Nat → Int32}
theorem vc {i e : Int32} (e0 : e = 0) (i0 : 0 ≤ i) (i1 : i < e) : False := by
  rw [e0] at i1
  exact absurd i1 (Int32.not_lt.mpr i0)
theorem vn {i : Nat} {e : Int32} (e0 : e = 0) (i1 : i < e.toNatClampNeg) : False := by
  rw [e0] at i1
  exact absurd i1 (Nat.not_lt_zero i)
theorem lk_none (e2 : Y 0 2 = 0) : lkY Y = fun _ => 0 := by
  funext h
  unfold lkY
  rw [e2]
  rfl
theorem ls_none (s : Int32) : bcf 0 = lsu (fun _ => 0) (8 * s) 8 0 0 := by
  have h : ∀ (k : Nat) (i : Int32), lsu (fun _ => 0) (8 * s) k i 0 = 0 := by
    intro k
    induction k with
    | zero => intro i; rfl
    | succ k ih =>
      intro i
      show lsu (fun _ => 0) (8 * s) k (i + 1) (0 + 0) = 0
      rw [show (0 : Int32) + 0 = 0 from rfl]
      exact ih _
  rw [h]
  decide
theorem am_start (y0 : ∀ k j, k ≤ 52 → ¬ (k = 0 ∧ (j = 9 ∨ j = 10)) → Y k j = 0) (y9 : Y 0 9 = 1) (y10 : Y 0 10 = 100) (a16 : J (C + 1) 6 = 0) (a15 : J (C + 1) 5 = 0) (a73 : J (C + 7) 3 = 0) (a112 : J (C + 11) 2 = 0) (a144 : J (C + 14) 4 = 0) (a145 : J (C + 14) 5 = 0) (a146 : J (C + 14) 6 = 1) (a228 : J (C + 22) 8 = 100) (a175 : J (C + 17) 5 = 0) (a10 : J C 10 = 0) (z3 : ∀ j, J (C + 3) j = 0) (z2 : ∀ j, J (C + 2) j = 0) (z18 : ∀ j, J (C + 18) j = 0) (z12 : ∀ j, J (C + 12) j = 0) (z19 : ∀ j, J (C + 19) j = 0) (z36 : ∀ j, J (C + 36) j = 0) (m20 : ∀ j, j < 180 → J (C + 20) j = -9) (r11 : R C 11 = 0) : aMk C K L J R Y := by
  have e2 : Y 0 2 = 0 := y0 0 2 (by omega) (by omega)
  have e6 : Y 0 6 = 0 := y0 0 6 (by omega) (by omega)
  have e17 : Y 0 17 = 0 := y0 0 17 (by omega) (by omega)
  have e41 : Y 0 41 = 0 := y0 0 41 (by omega) (by omega)
  have e79 : Y 0 79 = 0 := y0 0 79 (by omega) (by omega)
  have lk0 := lk_none e2
  have bz : ∀ g, bq 0 g = true ↔ ¬ (0 : Int32) = 0 := fun g => by rw [bq_0]; decide
  have hin : inP Y := fun a _ _ => by
    rw [y0 21 a (by omega) (by omega), y0 10 a (by omega) (by omega), y0 20 a (by omega) (by omega)]
    decide
  have hyo : yoP Y := by
    refine ⟨by rw [e41]; decide, fun j => by rw [y0 10 j (by omega) (by omega)]; decide, fun i i0 i1 => (vc e17 i0 i1).elim, by rw [y9]; decide, by rw [e17]; decide, by rw [e6]; decide, hin, fun k hk => absurd (y0 38 k (by omega) (by omega)) hk, fun b => by rw [y0 6 b (by omega) (by omega)]; decide, fun i i0 i1 => (vc e17 i0 i1).elim⟩
  have hcp : cpP C K L J R Y := by
    refine ⟨⟨a16.trans (y0 0 0 (by omega) (by omega)).symm, fun j => (z2 j).trans (y0 1 j (by omega) (by omega)).symm, fun s _ _ => ?_⟩, ⟨a145.trans e6.symm, a146.trans y9.symm, fun i i0 i1 => (vc e6 i0 i1).elim, fun i i0 i1 => (vc e17 i0 i1).elim, fun b x b0 b1 => (vc e6 b0 b1).elim⟩, ⟨a144.trans e17.symm, fun i i0 i1 => (vc e17 i0 i1).elim, fun i i0 i1 => (vc e17 i0 i1).elim, fun i i0 i1 => (vc e17 i0 i1).elim⟩, ⟨a73.trans e41.symm, fun i i0 i1 => (vc e41 i0 i1).elim⟩, hyo⟩
    rw [z3]
    unfold liY
    rw [lk0]
    exact ls_none s
  have hse : seP C R Y := ⟨fun i i0 i1 => (vc e6 i0 i1).elim, fun i o i0 i1 => (vc e6 i0 i1).elim, fun i o i0 i1 => (vc e41 i0 i1).elim, fun i o i0 i1 => (vc e6 i0 i1).elim⟩
  have hsM : siM C J Y := by
    refine ⟨⟨a228.trans y10.symm, a175.trans (y0 0 11 (by omega) (by omega)).symm⟩, fun k hk => ?_, fun r g _ _ => ?_, fun r g _ _ => ?_, fun r g _ _ => ?_⟩
    · rw [m20 k hk, y0 38 k (by omega) (by omega), if_pos rfl]
    · rw [z18, y0 35 _ (by omega) (by omega)]
      exact bz g
    · rw [z19, y0 37 _ (by omega) (by omega)]
      exact bz g
    · rw [z36, y0 47 _ (by omega) (by omega)]
      exact bz g
  have hsT : siT C J Y := ⟨⟨a15.trans e2.symm, fun j hj => (vn e2 hj).elim⟩, ⟨a112.trans (y0 0 40 (by omega) (by omega)).symm, fun j => (z12 j).trans (y0 27 j (by omega) (by omega)).symm⟩, a10.trans e79.symm, fun j hj => (vn e79 hj).elim⟩
  have hsD : siD C K J R Y := ⟨⟨fun _ => y0 0 12 (by omega) (by omega), fun _ => r11⟩, fun hd => absurd r11 hd⟩
  have hsY : siY Y := by
    refine ⟨fun k hk => absurd (y0 38 k (by omega) (by omega)) hk, fun r a _ _ _ => y0 37 _ (by omega) (by omega), fun a _ => ?_, fun a o _ _ _ => y0 47 _ (by omega) (by omega), fun x hx => (vn e41 hx).elim, fun j hj => (vn e2 hj).elim, fun k => Or.inl (y0 47 k (by omega) (by omega)), fun j hj => (vn e2 hj).elim⟩
    have e : (fun r : Nat => if Y 37 (30 * r + a) = 0 then 0 else 1) = fun _ => 0 := by
      funext r
      rw [y0 37 _ (by omega) (by omega), if_pos rfl]
    rw [e]
    decide
  have hno : noP Y := fun a _ hn => absurd (by rw [y0 20 a (by omega) (by omega)]; decide) hn
  have hst : stP C J R Y := ⟨fun i i0 i1 => (vc e41 i0 i1).elim, fun i o i0 i1 => (vc e41 i0 i1).elim⟩
  refine ⟨⟨hcp, hse, ⟨hsM, hsT, hsD, hsY⟩, hno, hst⟩, fun s k _ _ => ?_, fun a _ _ => ⟨y0 18 a (by omega) (by omega), y0 19 a (by omega) (by omega)⟩⟩
  rw [z3, bq_0, lk0]
  exact ⟨fun h => absurd h Bool.false_ne_true, fun h => absurd (show (0 : Int32) = 1 from h) (by decide)⟩
end ZU0
section ZU1
variable {d n t C c n0 n' n'' t' : Nat} {K L K0 L0 K' L' K'' L'' : Nat → Nat} {I I0 J J0 J1 J2 : Nat → Nat → Int32} {R R0 R' R'' : Nat → Nat → Nat} {P : Option Value → AH → Prop}
variable {b sL : Nat} {sx : Nat → Int32}
theorem a_sw_all {v : Int32} {F : Nat → Prop} {dflt : Nat} (hd : F dflt) : ∀ {l : List (Int × Nat)}, (∀ q ∈ l, F q.2) → a_sw v F dflt l := by
  intro l
  induction l with
  | nil => intro _; exact hd
  | cons q l ih =>
    intro h
    obtain ⟨k, t⟩ := q
    exact ⟨fun _ => h _ List.mem_cons_self, fun _ => ih (fun q hq => h q (List.mem_cons_of_mem _ hq))⟩
theorem a_nl_ref {k : Nat} : a_nl (some (.ref k)) = True := eq_true (fun w h => by cases h; rfl)
theorem V_one (h : cT C K L J R) (h0 : R 0 5 = 0 ∧ L 0 = 0) (j : Nat) : L (R (R (C + 16) j) 5) ≤ 163840 := by
  rcases h.g_benchesR j with q | q
  · rw [q, h0.1, h0.2]; exact Nat.zero_le _
  · obtain ⟨m, m1, m2, m3⟩ := (h.g_bnc _ q).2.2.2.2.1.2.2
    omega
theorem V_all (h : cT C K L J R) (h0 : R 0 5 = 0 ∧ L 0 = 0) : cV C L R ≤ 983040 := by
  have z0 := V_one h h0 0
  have z1 := V_one h h0 1
  have z2 := V_one h h0 2
  have z3 := V_one h h0 3
  have z4 := V_one h h0 4
  have z5 := V_one h h0 5
  unfold cV
  omega
theorem ll_exit (h : lawI b C c n t K L J R) (hc : c ≤ 512) : a_nx (n + 1, t, K, L, J, R) ≤ C + 600000 ∧ a_tot (n + 1, t, K, L, J, R) ≤ 7302250 := by
  obtain ⟨⟨p1, p2, p3, p4, p5, p6⟩, -⟩ := h
  have hv := V_all p1 p4
  show n + 1 ≤ C + 600000 ∧ t ≤ 7302250
  omega

theorem mR_init {M : Nat} (h0 : ∀ j, ¬ j = 9 → ¬ j = 10 → J M j = 0) (h9 : J M 9 = 1) (h : ∀ k, 1 ≤ k → k ≤ 52 → ∀ j, J (M + k) j = 0) : mR M J := by
  unfold mR
  simp only [h9, h0 0 (by decide) (by decide), h0 2 (by decide) (by decide), h0 6 (by decide) (by decide), h0 17 (by decide) (by decide), h0 13 (by decide) (by decide), h0 15 (by decide) (by decide), h0 40 (by decide) (by decide), h0 41 (by decide) (by decide), h0 61 (by decide) (by decide), h0 79 (by decide) (by decide), h0 35 (by decide) (by decide), h0 47 (by decide) (by decide), h 7 (by decide) (by decide), h 8 (by decide) (by decide), h 10 (by decide) (by decide), h 16 (by decide) (by decide), h 20 (by decide) (by decide), h 21 (by decide) (by decide), h 29 (by decide) (by decide), h 40 (by decide) (by decide), h 41 (by decide) (by decide), h 44 (by decide) (by decide), h 49 (by decide) (by decide), h 50 (by decide) (by decide)]
  exact ⟨by decide, by decide, by decide, by decide, by decide, by decide, by decide, by decide, by decide, by decide, by decide, by decide, by decide, fun _ => by decide, fun _ => by decide, fun _ => by decide, fun _ => by decide, fun _ => by decide, fun _ => by decide, fun _ => by decide, fun _ => by decide, fun _ => by decide, fun _ => by decide, fun _ => by decide⟩
theorem mE_init {M : Nat} (h35 : J M 35 = 0) (h17 : J M 17 = 0) : mE M 0 J := by
  refine ⟨fun _ => 0, fun a h0 h1 _ => ?_, ?_⟩
  · rw [h17] at h1
    exact absurd h1 (Int32.not_lt.mpr h0)
  · rw [h35]
    decide
theorem nM_no {x : Nat} (h : ¬ K x = 1 ∧ ¬ K x = 3 ∧ ¬ K x = 11) : ¬ nkM n K x = 1 ∧ ¬ nkM n K x = 3 ∧ ¬ nkM n K x = 11 := by
  by_cases h1 : x < n + 1
  · rw [(nM_low (K := K) (L := K) (I := fun _ _ => 0) (R := fun _ _ => 0) x h1).1]; exact h
  · by_cases h2 : n + 54 ≤ x
    · by_cases h3 : K x = 0
      · rw [nM_high x h2 h3]; decide
      · have : nkM n K x = K x := by
          unfold nkM
          simp only [up_ap]
          repeat (rw [if_neg (by omega)])
        rw [this]; exact h
    · obtain ⟨k, hk, rfl⟩ : ∃ k, k ≤ 52 ∧ x = n + 1 + k := ⟨x - (n + 1), by omega, by omega⟩
      rcases Nat.eq_zero_or_pos k with e | e
      · subst e
        rw [Nat.add_zero, nM_0]; decide
      · have key : ∀ q : Fin 53, q.val = 0 ∨ ∃ e ∈ m_arr, e.2.1 = q.val ∧ ¬ e.2.2.1 = 1 ∧ ¬ e.2.2.1 = 3 ∧ ¬ e.2.2.1 = 11 := by decide
        rcases key ⟨k, by omega⟩ with q | ⟨e1, e2, e3, e4⟩
        · exact absurd q (by show ¬ k = 0; omega)
        · have := (nM_S (n := n) (K := K) (L := K) (R := fun _ _ => 0)).2.2 e1 e2
          rw [e3] at this
          rw [this.2.1]
          exact e4
theorem law_init (hr : rawQ C K L J R) (hC : C = n + 1) (hlow : ∀ x, x < C → K x = 0) (hhigh : ∀ x, n + 45 ≤ x → K x = 0) (hL0 : L 0 = 0) (hR0 : R 0 5 = 0) (hb : b < C) (ht : t ≤ 290000) : lawI b C 0 (n + 1 + 43 + 53) t (nkM (n + 1 + 43) K) (nlM (n + 1 + 43) L) (niM (n + 1 + 43) J) (nrM (n + 1 + 43) R) := by
  obtain ⟨rS, rNo, r_now, r_trips, r_texts, r_size, r_code, r_at, r_asks, r_benches, r_orderSize, r_passed, r_best, r_circle, r_row, r_rest, r_share, r_scaled, z3, z31, z2, z18, z12, z19, z36, w8, w15, w16, w23, w28, w38, w11, m20⟩ := hr
  have lo : ∀ x, x < C + 44 → nkM (n + 1 + 43) K x = K x ∧ nlM (n + 1 + 43) L x = L x ∧ (∀ j, niM (n + 1 + 43) J x j = J x j) ∧ (∀ j, nrM (n + 1 + 43) R x j = R x j) := fun x hx => nM_low x (by omega)
  have f1 : ∀ q ∈ c_ks, q.1 ≤ 43 := by decide
  have f2 : ∀ q ∈ c_ls, q.1 ≤ 43 := by decide
  have f3 : ∀ q ∈ c_rs, q.1 ≤ 43 := by decide
  have hno : ∀ x, ¬ nkM (n + 1 + 43) K x = 1 ∧ ¬ nkM (n + 1 + 43) K x = 3 ∧ ¬ nkM (n + 1 + 43) K x = 11 := fun x => nM_no (rNo x)
  have lJ : ∀ k, k ≤ 43 → ∀ j, niM (n + 1 + 43) J (C + k) j = J (C + k) j := fun k hk j => (lo _ (by omega)).2.2.1 j
  have lR : ∀ k, k ≤ 43 → ∀ j, nrM (n + 1 + 43) R (C + k) j = R (C + k) j := fun k hk j => (lo _ (by omega)).2.2.2 j
  have lJ0 : ∀ j, niM (n + 1 + 43) J C j = J C j := fun j => (lo _ (by omega)).2.2.1 j
  have lR0 : ∀ j, nrM (n + 1 + 43) R C j = R C j := fun j => (lo _ (by omega)).2.2.2 j
  have eM : C + 44 = n + 1 + 43 + 1 := by omega
  have hT : cT C (nkM (n + 1 + 43) K) (nlM (n + 1 + 43) L) (niM (n + 1 + 43) J) (nrM (n + 1 + 43) R) := cT_mk
    (s := ⟨rS.1, fun q hq => ((lo _ (by have := f1 q hq; omega)).1).trans (rS.2.1 q hq), fun q hq => ((lo _ (by have := f2 q hq; omega)).2.1).trans (rS.2.2.1 q hq), fun q hq => ((lo _ (by have := f3 q hq; omega)).2.2.2 _).trans (rS.2.2.2 q hq)⟩)
    (g_now := by rw [lJ 1 (by decide) _, r_now]; decide)
    (g_trips := by rw [lJ 1 (by decide) _, r_trips]; decide)
    (g_texts := by rw [lJ 7 (by decide) _, r_texts]; decide)
    (g_size := by rw [lJ 11 (by decide) _, r_size]; decide)
    (g_code := by rw [lJ 11 (by decide) _, r_code]; decide)
    (g_at := by rw [lJ 11 (by decide) _, r_at]; decide)
    (g_asks := by rw [lJ 14 (by decide) _, r_asks]; decide)
    (g_benches := by rw [lJ 14 (by decide) _, r_benches]; decide)
    (g_orderSize := by rw [lJ 22 (by decide) _, r_orderSize]; decide)
    (g_passed := by rw [lJ 22 (by decide) _, r_passed]; decide)
    (g_best := by rw [lJ 27 (by decide) _, r_best]; decide)
    (g_circle := by rw [lJ 35 (by decide) _, r_circle]; decide)
    (g_row := by rw [lJ0 _, r_row]; decide)
    (g_rest := by rw [lJ 14 (by decide) _, r_rest]; decide)
    (g_lost := fun j => by rw [lJ 3 (by decide), z3]; decide)
    (g_spots := fun j => by rw [lJ 31 (by decide), z31]; decide)
    (g_ask := fun a ha => absurd ha (hno a).1)
    (g_bnc := fun a ha => absurd ha (hno a).2.1)
    (g_txt := fun a ha => absurd ha (hno a).2.2)
    (g_asksR := fun j => Or.inl (by rw [lR 15 (by decide), w15]))
    (g_asksN := fun i h0 h1 => by
      rw [lJ 14 (by decide), r_asks] at h1
      exact absurd h1 (Int32.not_lt.mpr h0))
    (g_benchesR := fun j => Or.inl (by rw [lR 16 (by decide), w16]))
    (g_textsR := fun j => Or.inl (by rw [lR 8 (by decide), w8]))
    (g_orderR := fun j => Or.inl (by rw [lR 23 (by decide), w23]))
    (g_bestR := fun j => Or.inl (by rw [lR 28 (by decide), w28]))
    (g_ringR := fun j => Or.inl (by rw [lR 38 (by decide), w38]))
    (g_draft := Or.inl (by rw [lR0, w11]))
    (g_benN := fun j _ => by rw [lR 16 (by decide), w16])
    (g_benY := fun j hj => by
      rw [lJ 14 (by decide), r_benches] at hj
      exact absurd hj (Nat.not_lt_zero j))
  have hz : ∀ x, n + 1 + 43 + 53 + 1 ≤ x → nkM (n + 1 + 43) K x = 0 := fun x hx => nM_high x (by omega) (hhigh x (by omega))
  have jM : ∀ x j, C + 44 ≤ x → x ≤ C + 96 → ¬ (x = C + 44 ∧ j = 9) → ¬ (x = C + 44 ∧ j = 10) → niM (n + 1 + 43) J x j = 0 := fun x j q1 q2 q3 q4 => nM_J x j (by omega) (by omega) (fun e => q3 ⟨by omega, e.2⟩) (fun e => q4 ⟨by omega, e.2⟩)
  refine ⟨⟨hT, hz, by omega, ⟨by rw [(lo 0 (by omega)).2.2.2]; exact hR0, by rw [(lo 0 (by omega)).2.1]; exact hL0⟩, by omega, by omega⟩, ?_, ?_, ?_, ?_, ?_⟩
  · rw [eM]
    exact nM_S
  · refine mR_init (fun j e9 e10 => jM _ j (by omega) (by omega) (fun e => e9 e.2) (fun e => e10 e.2)) ?_ (fun k k1 k2 j => jM _ j (by omega) (by omega) (by omega) (by omega))
    rw [eM]
    exact nM_r.1
  · exact mE_init (jM _ _ (by omega) (by omega) (by omega) (by omega)) (jM _ _ (by omega) (by omega) (by omega) (by omega))
  · rw [(lo b (by omega)).1]
    exact hlow b hb
  · refine am_start (fun k j hk he => jM _ j (by omega) (by omega) (by omega) (by omega)) ?_ ?_ (by rw [lJ 1 (by decide), r_now]) (by rw [lJ 1 (by decide), r_trips]) (by rw [lJ 7 (by decide), r_texts]) (by rw [lJ 11 (by decide), r_size]) (by rw [lJ 14 (by decide), r_asks]) (by rw [lJ 14 (by decide), r_benches]) (by rw [lJ 14 (by decide), r_rest]) (by rw [lJ 22 (by decide), r_share]) (by rw [lJ 17 (by decide), r_scaled]) (by rw [lJ0, r_row]) (fun j => by rw [lJ 3 (by decide), z3]) (fun j => by rw [lJ 2 (by decide), z2]) (fun j => by rw [lJ 18 (by decide), z18]) (fun j => by rw [lJ 12 (by decide), z12]) (fun j => by rw [lJ 19 (by decide), z19]) (fun j => by rw [lJ 36 (by decide), z36]) (fun j hj => by rw [lJ 20 (by decide)]; exact m20 j hj) (by rw [lR0, w11])
    · show niM (n + 1 + 43) J (C + 44 + 0) 9 = 1
      rw [eM]
      exact nM_r.1
    · show niM (n + 1 + 43) J (C + 44 + 0) 10 = 100
      rw [eM]
      exact nM_r.2
end ZU1
end
section
/-! hosts: who stands -/
section ZV0
variable {Y Z : Nat → Nat → Int32}
theorem le_199 (x : Int32) : (x ≤ 199) = (x < 200) := propext ⟨fun q => Int32.lt_of_le_of_lt q (by decide), fun q => by grind⟩
end ZV0
section ZV1
variable {d n t C c : Nat} {K L : Nat → Nat} {I I0 J J0 J1 J2 : Nat → Nat → Int32} {R : Nat → Nat → Nat} {P : Option Value → AH → Prop}
variable {Y Z W : Nat → Nat → Int32}
end ZV1
section ZV2
variable {d n t M : Nat} {K L : Nat → Nat} {I I0 J J0 J1 J2 : Nat → Nat → Int32} {R : Nat → Nat → Nat} {P : Option Value → AH → Prop} {f : Nat → Int32} {e : Int32}
variable {Y Z W : Nat → Nat → Int32}
end ZV2
end
section
/-! askOf -/
section ZW0
variable {d n t C c : Nat} {K L : Nat → Nat} {I I0 J J0 J1 J2 : Nat → Nat → Int32} {R : Nat → Nat → Nat} {P : Option Value → AH → Prop}
variable {Y Z W : Nat → Nat → Int32}
theorem w10 {w : Int32} (e0 : ¬ w = 0) (e1 : ¬ w = 1) (e2 : ¬ w = 2) (e3 : ¬ w = 3) (e4 : ¬ w = 4) (e5 : ¬ w = 5) (e6 : ¬ w = 6) (e7 : ¬ w = 7) (e8 : ¬ w = 8) (e9 : ¬ w = 9) : ¬ (0 ≤ w ∧ w ≤ 9) := fun q => by
  have c0 : (0 : Int32).toInt = 0 := rfl
  have c9 : (9 : Int32).toInt = 9 := rfl
  have q0 := Int32.le_iff_toInt_le.mp q.1
  have q1 := Int32.le_iff_toInt_le.mp q.2
  rw [c0] at q0
  rw [c9] at q1
  have h : w.toInt = 0 ∨ w.toInt = 1 ∨ w.toInt = 2 ∨ w.toInt = 3 ∨ w.toInt = 4 ∨ w.toInt = 5 ∨ w.toInt = 6 ∨ w.toInt = 7 ∨ w.toInt = 8 ∨ w.toInt = 9 := by omega
  rcases h with h | h | h | h | h | h | h | h | h | h
  · exact e0 (Int32.toInt_inj.mp h)
  · exact e1 (Int32.toInt_inj.mp h)
  · exact e2 (Int32.toInt_inj.mp h)
  · exact e3 (Int32.toInt_inj.mp h)
  · exact e4 (Int32.toInt_inj.mp h)
  · exact e5 (Int32.toInt_inj.mp h)
  · exact e6 (Int32.toInt_inj.mp h)
  · exact e7 (Int32.toInt_inj.mp h)
  · exact e8 (Int32.toInt_inj.mp h)
  · exact e9 (Int32.toInt_inj.mp h)
end ZW0
section ZW1
variable {d n t M : Nat} {K L : Nat → Nat} {I I0 J J0 J1 J2 : Nat → Nat → Int32} {R : Nat → Nat → Nat} {P : Option Value → AH → Prop} {f : Nat → Int32} {e : Int32}
variable {Y Z W : Nat → Nat → Int32}
end ZW1
end
section
/-! barred -/
section ZY0
variable {Y Z : Nat → Nat → Int32}
end ZY0
section ZY1
variable {d n t C : Nat} {K L : Nat → Nat} {I I0 J J0 J1 J2 : Nat → Nat → Int32} {R : Nat → Nat → Nat} {P : Option Value → AH → Prop}
variable {Y : Nat → Nat → Int32}
end ZY1
section ZY2
variable {d n t C c : Nat} {K L : Nat → Nat} {I I0 J J0 J1 J2 : Nat → Nat → Int32} {R : Nat → Nat → Nat} {P : Option Value → AH → Prop}
variable {Y Z W : Nat → Nat → Int32}
theorem w5 {w : Int32} (e : 0 ≤ w ∧ w ≤ 4) : w = 0 ∨ w = 1 ∨ w = 2 ∨ w = 3 ∨ w = 4 := by
  have c0 : (0 : Int32).toInt = 0 := rfl
  have c4 : (4 : Int32).toInt = 4 := rfl
  have q0 := Int32.le_iff_toInt_le.mp e.1
  have q1 := Int32.le_iff_toInt_le.mp e.2
  rw [c0] at q0
  rw [c4] at q1
  have h : w.toInt = 0 ∨ w.toInt = 1 ∨ w.toInt = 2 ∨ w.toInt = 3 ∨ w.toInt = 4 := by omega
  rcases h with h | h | h | h | h
  · exact Or.inl (Int32.toInt_inj.mp h)
  · exact Or.inr (Or.inl (Int32.toInt_inj.mp h))
  · exact Or.inr (Or.inr (Or.inl (Int32.toInt_inj.mp h)))
  · exact Or.inr (Or.inr (Or.inr (Or.inl (Int32.toInt_inj.mp h))))
  · exact Or.inr (Or.inr (Or.inr (Or.inr (Int32.toInt_inj.mp h))))

end ZY2
section ZY3
variable {d n t M : Nat} {K L : Nat → Nat} {I I0 J J0 J1 J2 : Nat → Nat → Int32} {R : Nat → Nat → Nat} {P : Option Value → AH → Prop} {f : Nat → Int32} {e : Int32}
variable {Y Z W : Nat → Nat → Int32}
end ZY3
end
section
/-! what was had: the reference's events -/
/-- the latest of some told things of a place up to an hour; -9 none -/
def hvF (W H A : Nat → Int32) (w k : Int32) : Nat → Int32
  | 0 => -9
  | i + 1 => if W i = w ∧ H i ≤ k then A i else hvF W H A w k i
/-- the hour of the latest -/
def hlF (W H : Nat → Int32) (w : Int32) : Nat → Int32
  | 0 => -9
  | i + 1 => if W i = w then H i else hlF W H w i
section HA0
variable {W H A W' H' A' : Nat → Int32} {w k : Int32}
theorem hv_s {m : Nat} : hvF W H A w k (m + 1) = if W m = w ∧ H m ≤ k then A m else hvF W H A w k m := rfl
theorem hl_s {m : Nat} : hlF W H w (m + 1) = if W m = w then H m else hlF W H w m := rfl
theorem hv_cg : ∀ (m : Nat), (∀ i, i < m → W' i = W i ∧ H' i = H i ∧ (W i = w → H i ≤ k → A' i = A i)) → hvF W' H' A' w k m = hvF W H A w k m := by
  intro m
  induction m with
  | zero => intro _; rfl
  | succ m ih =>
    intro h
    obtain ⟨h1, h2, h3⟩ := h m (by omega)
    rw [hv_s, hv_s, h1, h2, ih (fun i hi => h i (by omega))]
    by_cases c : W m = w ∧ H m ≤ k
    · rw [if_pos c, if_pos c]
      exact h3 c.1 c.2
    · rw [if_neg c, if_neg c]
theorem hl_cg : ∀ (m : Nat), (∀ i, i < m → W' i = W i ∧ H' i = H i) → hlF W' H' w m = hlF W H w m := by
  intro m
  induction m with
  | zero => intro _; rfl
  | succ m ih =>
    intro h
    obtain ⟨h1, h2⟩ := h m (by omega)
    rw [hl_s, hl_s, h1, h2, ih (fun i hi => h i (by omega))]
theorem hv_sk {e : Nat} : ∀ (m : Nat), e < m → (∀ i, e < i → i < m → ¬ W i = w) → hvF W H A w k m = hvF W H A w k (e + 1) := by
  intro m
  induction m with
  | zero => intro h _; exact absurd h (Nat.not_lt_zero _)
  | succ m ih =>
    intro he h
    by_cases c : m = e
    · rw [c]
    · rw [hv_s, if_neg (fun q => h m (by omega) (by omega) q.1)]
      exact ih (by omega) (fun i h1 h2 => h i h1 (by omega))
theorem hl_sk {e : Nat} : ∀ (m : Nat), e < m → (∀ i, e < i → i < m → ¬ W i = w) → hlF W H w m = hlF W H w (e + 1) := by
  intro m
  induction m with
  | zero => intro h _; exact absurd h (Nat.not_lt_zero _)
  | succ m ih =>
    intro he h
    by_cases c : m = e
    · rw [c]
    · rw [hl_s, if_neg (fun q => h m (by omega) (by omega) q)]
      exact ih (by omega) (fun i h1 h2 => h i h1 (by omega))
end HA0
/-- who had a place (a word of BENCH and SHIFT), as known on an hour; the hour of the last change; no hour is behind now -/
def hdM (M : Nat) (J : Nat → Nat → Int32) (w k : Int32) : Int32 := hvF (J (M + 24)) (J (M + 25)) (J (M + 26)) w k (J M 35).toNatClampNeg
def ldM (M : Nat) (J : Nat → Nat → Int32) (w : Int32) : Int32 := hlF (J (M + 24)) (J (M + 25)) w (J M 35).toNatClampNeg
def eoM (M : Nat) (J : Nat → Nat → Int32) : Prop := ∀ i : Nat, i < (J M 35).toNatClampNeg → J (M + 25) i ≤ J M 0
/-- a thing is told of a place -/
def tlM (M : Nat) (w v : Int32) (J J2 : Nat → Nat → Int32) : Prop := eoM M J → eoM M J2 ∧ (∀ k, J M 0 ≤ k → hdM M J2 w k = v) ∧ (∀ k, ¬ J M 0 ≤ k → hdM M J2 w k = hdM M J w k) ∧ ldM M J2 w = J M 0 ∧ ∀ x, ¬ x = w → (∀ k, hdM M J2 x k = hdM M J x k) ∧ ldM M J2 x = ldM M J x
section HA1
variable {d n t M : Nat} {K L : Nat → Nat} {I I0 J J0 J1 J2 : Nat → Nat → Int32} {R : Nat → Nat → Nat} {P : Option Value → AH → Prop} {f : Nat → Int32} {e : Int32}
theorem hd_eq (h1 : J M 35 = I M 35) (h2 : ∀ j, J (M + 24) j = I (M + 24) j) (h3 : ∀ j, J (M + 25) j = I (M + 25) j) (h4 : ∀ j, J (M + 26) j = I (M + 26) j) (w k : Int32) : hdM M J w k = hdM M I w k := by
  unfold hdM
  rw [h1, show J (M + 24) = I (M + 24) from funext h2, show J (M + 25) = I (M + 25) from funext h3, show J (M + 26) = I (M + 26) from funext h4]
theorem ld_eq (h1 : J M 35 = I M 35) (h2 : ∀ j, J (M + 24) j = I (M + 24) j) (h3 : ∀ j, J (M + 25) j = I (M + 25) j) (w : Int32) : ldM M J w = ldM M I w := by
  unfold ldM
  rw [h1, show J (M + 24) = I (M + 24) from funext h2, show J (M + 25) = I (M + 25) from funext h3]
theorem eo_eq (h : eoM M I) (h1 : J M 35 = I M 35) (h3 : ∀ j, J (M + 25) j = I (M + 25) j) (h0 : J M 0 = I M 0) : eoM M J := fun i hi => by
  rw [h1] at hi
  rw [h3, h0]
  exact h i hi
theorem nat_iv {x : Int32} {i : Nat} (h0 : 0 ≤ x) (hx : x ≤ 84000) (hi : i < x.toNatClampNeg) : (Int32.ofNat i).toNatClampNeg = i ∧ 0 ≤ Int32.ofNat i ∧ Int32.ofNat i < x := by
  have hx2 := cl_le0 h0 hx
  rw [show (84000 : Int32).toNatClampNeg = 84000 from rfl] at hx2
  obtain ⟨e1, e2⟩ := cl_on2 (m := i) (by omega)
  have c0 : (0 : Int32).toInt = 0 := rfl
  have p0 : 0 ≤ Int32.ofNat i := by rw [Int32.le_iff_toInt_le]; omega
  exact ⟨e1, p0, cl_lt2 p0 h0 (by rw [e1]; exact hi)⟩
theorem tl_over (hR : mR M J) {w v e : Int32} (h0 : 0 ≤ e) (he : e < J M 35) (hw : J (M + 24) e.toNatClampNeg = w) (hh : J (M + 25) e.toNatClampNeg = J M 0) (hi : ∀ i : Int32, e < i → i < J M 35 → ¬ J (M + 24) i.toNatClampNeg = w) : tlM M w v J (a_ui J (M + 26) e.toNatClampNeg v) := by
  intro ho
  have hv := rg_events hR
  have f24 : a_ui J (M + 26) e.toNatClampNeg v (M + 24) = J (M + 24) := funext (fun j => by rw [ui_ap, if_neg (by omega)])
  have f25 : a_ui J (M + 26) e.toNatClampNeg v (M + 25) = J (M + 25) := funext (fun j => by rw [ui_ap, if_neg (by omega)])
  have f35 : a_ui J (M + 26) e.toNatClampNeg v M 35 = J M 35 := by rw [ui_ap, if_neg (by omega)]
  have f0 : a_ui J (M + 26) e.toNatClampNeg v M 0 = J M 0 := by rw [ui_ap, if_neg (by omega)]
  have hl := cl_lt h0 he
  have hsk : ∀ i : Nat, e.toNatClampNeg < i → i < (J M 35).toNatClampNeg → ¬ J (M + 24) i = w := fun i h1 h2 => by
    obtain ⟨e1, e2, e3⟩ := nat_iv hv.1 hv.2 h2
    have := hi (Int32.ofNat i) (cl_lt2 h0 e2 (by rw [e1]; exact h1)) e3
    rw [e1] at this
    exact this
  refine ⟨fun i hi2 => ?_, fun k hk => ?_, fun k hk => ?_, ?_, fun x hx => ⟨fun k => ?_, ?_⟩⟩
  · rw [f35] at hi2
    rw [f25, f0]
    exact ho i hi2
  · unfold hdM
    rw [f24, f25, f35, hv_sk _ hl hsk, hv_s, if_pos ⟨hw, by rw [hh]; exact hk⟩, ui_ap, if_pos ⟨rfl, rfl⟩]
  · unfold hdM
    rw [f24, f25, f35]
    refine hv_cg _ (fun i hi2 => ⟨rfl, rfl, fun q1 q2 => ?_⟩)
    rw [ui_ap, if_neg (fun q => hk (by rw [← hh, ← q.2]; exact q2))]
  · unfold ldM
    rw [f24, f25, f35, hl_sk _ hl hsk, hl_s, if_pos hw]
    exact hh
  · unfold hdM
    rw [f24, f25, f35]
    refine hv_cg _ (fun i hi2 => ⟨rfl, rfl, fun q1 q2 => ?_⟩)
    rw [ui_ap, if_neg (fun q => hx (by rw [← q1, q.2]; exact hw))]
  · unfold ldM
    rw [f24, f25, f35]
theorem tl_new (hR : mR M J) {w v : Int32} (he : J M 35 < 84000) : tlM M w v J (a_ui (a_ui (a_ui (a_ui J (M + 24) (J M 35).toNatClampNeg w) (M + 25) (J M 35).toNatClampNeg (J M 0)) (M + 26) (J M 35).toNatClampNeg v) M 35 (J M 35 + 1)) := by
  intro ho
  have hv := rg_events hR
  have hc := (lp_st hv.1 he).2.2.2
  generalize em : (J M 35).toNatClampNeg = m at hc ⊢
  have f35 : (a_ui (a_ui (a_ui (a_ui J (M + 24) m w) (M + 25) m (J M 0)) (M + 26) m v) M 35 (J M 35 + 1)) M 35 = J M 35 + 1 := by rw [ui_ap, if_pos ⟨rfl, rfl⟩]
  have f0 : (a_ui (a_ui (a_ui (a_ui J (M + 24) m w) (M + 25) m (J M 0)) (M + 26) m v) M 35 (J M 35 + 1)) M 0 = J M 0 := by rw [ui_ap, if_neg (by omega), ui_ap, if_neg (by omega), ui_ap, if_neg (by omega), ui_ap, if_neg (by omega)]
  have f24 : ∀ i, (a_ui (a_ui (a_ui (a_ui J (M + 24) m w) (M + 25) m (J M 0)) (M + 26) m v) M 35 (J M 35 + 1)) (M + 24) i = if i = m then w else J (M + 24) i := fun i => by
    rw [ui_ap, if_neg (by omega), ui_ap, if_neg (by omega), ui_ap, if_neg (by omega), ui_ap]
    by_cases c : i = m
    · rw [if_pos ⟨rfl, c⟩, if_pos c]
    · rw [if_neg (fun q => c q.2), if_neg c]
  have f25 : ∀ i, (a_ui (a_ui (a_ui (a_ui J (M + 24) m w) (M + 25) m (J M 0)) (M + 26) m v) M 35 (J M 35 + 1)) (M + 25) i = if i = m then J M 0 else J (M + 25) i := fun i => by
    rw [ui_ap, if_neg (by omega), ui_ap, if_neg (by omega), ui_ap]
    by_cases c : i = m
    · rw [if_pos ⟨rfl, c⟩, if_pos c]
    · rw [if_neg (fun q => c q.2), if_neg c, ui_ap, if_neg (by omega)]
  have f26 : ∀ i, (a_ui (a_ui (a_ui (a_ui J (M + 24) m w) (M + 25) m (J M 0)) (M + 26) m v) M 35 (J M 35 + 1)) (M + 26) i = if i = m then v else J (M + 26) i := fun i => by
    rw [ui_ap, if_neg (by omega), ui_ap]
    by_cases c : i = m
    · rw [if_pos ⟨rfl, c⟩, if_pos c]
    · rw [if_neg (fun q => c q.2), if_neg c, ui_ap, if_neg (by omega), ui_ap, if_neg (by omega)]
  generalize (a_ui (a_ui (a_ui (a_ui J (M + 24) m w) (M + 25) m (J M 0)) (M + 26) m v) M 35 (J M 35 + 1)) = J2 at f35 f0 f24 f25 f26 ⊢
  have hlow : ∀ x k, hvF (J2 (M + 24)) (J2 (M + 25)) (J2 (M + 26)) x k m = hdM M J x k := fun x k => by
    unfold hdM
    rw [em]
    exact hv_cg _ (fun i hi => ⟨by rw [f24, if_neg (by omega)], by rw [f25, if_neg (by omega)], fun _ _ => by rw [f26, if_neg (by omega)]⟩)
  have hlow2 : ∀ x, hlF (J2 (M + 24)) (J2 (M + 25)) x m = ldM M J x := fun x => by
    unfold ldM
    rw [em]
    exact hl_cg _ (fun i hi => ⟨by rw [f24, if_neg (by omega)], by rw [f25, if_neg (by omega)]⟩)
  have hd : ∀ x k, hdM M J2 x k = if w = x ∧ J M 0 ≤ k then v else hdM M J x k := fun x k => by
    conv => lhs; unfold hdM
    rw [f35, hc, hv_s, hlow, f24, f25, f26, if_pos rfl, if_pos rfl, if_pos rfl]
  have hdl : ∀ x, ldM M J2 x = if w = x then J M 0 else ldM M J x := fun x => by
    conv => lhs; unfold ldM
    rw [f35, hc, hl_s, hlow2, f24, f25, if_pos rfl, if_pos rfl]
  refine ⟨fun i hi2 => ?_, fun k hk => ?_, fun k hk => ?_, ?_, fun x hx => ⟨fun k => ?_, ?_⟩⟩
  · rw [f35, hc] at hi2
    rw [f25, f0]
    by_cases c : i = m
    · rw [if_pos c]
      exact Int32.le_refl _
    · rw [if_neg c]
      exact ho i (by rw [em]; omega)
  · rw [hd, if_pos ⟨rfl, hk⟩]
  · rw [hd, if_neg (fun q => hk q.2)]
  · rw [hdl, if_pos rfl]
  · rw [hd, if_neg (fun q => hx q.1.symm)]
  · rw [hdl, if_neg (fun q => hx q.symm)]
theorem lx_happened_17 (hS : m_S M K L R) (hR : mR M J) {b s a w : Int32} (hw : 200 * b + s = w) (hev : J M 35 < 84000) (hP : ∀ J2, hp M w J J2 → tlM M w a J J2 → P none (n, t, K, L, J2, R)) : ∀ e : Int32, -1 ≤ e → e < J M 35 → (∀ i : Int32, e < i → i < J M 35 → J (M + 25) i.toNatClampNeg = J M 0 ∧ ¬ J (M + 24) i.toNatClampNeg = w) → a_at d (a_xm a_m187) 17 [some (a_rf M), some (.int b), some (.int s), some (.int a), some (.int w), some (.int e)] [] (n, t, K, L, J, R) P := by
  have hv := rg_events hR
  refine dn_ind (-1) (fun e he ih => ?_)
  intro h1 hi
  have hn : (e < 0 ∨ ¬ J (M + 25) e.toNatClampNeg = J M 0) → ¬ fc M J w := by
    rintro h2 ⟨e1, q1, q2, q3, q4⟩
    have q5 : ¬ e < e1 := fun q => (hi e1 q q2).2 q3
    cases h2 with
    | inl h2 => grind
    | inr h2 => exact h2 (q4 e (by grind) h1)
  rw [q187_17]
  simp only [q187_19, q187_22, q187_23, q187_26, q187_28, q187_29, q187_30, q187_33, q187_36, q187_37, q187_40, q187_42, q187_43, q187_45, q187_48, q187_49, q187_52, q187_54, q187_55, q187_56, q187_57, q187_60, q187_63, q187_64, q187_67, q187_68, q187_71, q187_73, q187_74, q187_75, q187_78, q187_79, q187_82, q187_83, q187_86, q187_87, q187_88, q187_91, q187_92, q187_95, q187_96, q187_97, q187_98, q187_99, q187_102, q187_103, q187_104, q187_107, m_0 hS, m_K hS, mR_eHour hS, mK_eHour hS, mL_eHour hS, mR_eWhere hS, mK_eWhere hS, mL_eWhere hS, mR_eAsk hS, mK_eAsk hS, mL_eAsk hS, as_nil, as_i, as_r, Nat.reduceAdd, Nat.reduceLeDiff, z_eq0, z_eq1, z_or, z_em, Classical.not_not, not_false_eq_true, not_true_eq_false, true_and, and_true, false_and, and_false, and_self, true_implies, false_implies, implies_true, Option.toList_some, Option.toList_none, List.cons_append, List.nil_append, Nat.add_eq_zero_iff, a_nl_i, a_nl_r, a_nl_n, true_or, or_true, eq_self, ok_4, ok_5, ok_6, ok_7, ok_9, ok_10, ok_20, ok_21, ok_24, ok_30, ok_48, ok_50, ok_60, ok_80, ok_120, ok_180, ok_192, ok_200, ok_900, ok_1000, ok_84000]
  have hnew := fun h => hP _ (hp_new (v := a) hR hev (hn h)) (tl_new (v := a) hR hev)
  have hov := fun h0 hw hh => hP _ (hp_over (e := e) (w := w) (v := a) hR h0 h1 hw hh) (tl_over (e := e) (w := w) (v := a) hR h0 h1 hw (hh e (Int32.le_refl _) h1) (fun i q1 q2 => (hi i q1 q2).2))
  refine ⟨fun h2 => ?_, fun h2 => ⟨by grind, fun h3 => ?_, fun h3 => ⟨by grind, fun h4 => ?_, fun h4 => ?_⟩⟩⟩
  · simp only [ui_ap, ne_MM, ne_M0, ne_0M, Nat.reduceEqDiff, false_and, and_false, if_false]
    exact ⟨by grind, by grind, by grind, hnew (Or.inl h2)⟩
  · simp only [ui_ap, ne_MM, ne_M0, ne_0M, Nat.reduceEqDiff, false_and, and_false, if_false]
    exact ⟨by grind, by grind, by grind, hnew (Or.inr h3)⟩
  · exact ih (by grind) (by grind) (fun i q1 q2 => by
      by_cases hie : i = e
      · subst hie; exact ⟨by simpa using h3, h4⟩
      · exact hi i (by grind) q2)
  · exact ⟨by grind, hov (by grind) (by simpa using h4) (fun i q1 q2 => by
      by_cases hie : i = e
      · subst hie; simpa using h3
      · exact (hi i (by grind) q2).1)⟩
theorem cx_happened (hS : m_S M K L R) (hR : mR M J) {b s a : Int32} (hev : J M 35 < 84000) (hP : ∀ J2, hp M (200 * b + s) J J2 → tlM M (200 * b + s) a J J2 → P none (n, t, K, L, J2, R)) : a_does (d + 1) 187 [a_rf M, .int b, .int s, .int a] (n, t, K, L, J, R) P := by
  have hv := rg_events hR
  rw [a_enter1 (M := a_m187) rfl (a_cat_rf (a_cat_int (a_cat_int (a_cat_int a_cat_nil)))) (show 4 ≤ 6 by decide)]
  show a_at _ (a_xm a_m187) 0 [some (a_rf M), some (.int b), some (.int s), some (.int a), none, none] [] _ _
  simp only [q187_0, q187_3, q187_4, q187_5, q187_6, q187_7, q187_9, q187_10, q187_13, q187_14, q187_15, m_0 hS, m_K hS, as_nil, as_i, as_r, Nat.reduceAdd, Nat.reduceLeDiff, z_eq0, z_eq1, z_or, z_em, Classical.not_not, not_false_eq_true, not_true_eq_false, true_and, and_true, false_and, and_false, and_self, true_implies, false_implies, implies_true, Option.toList_some, Option.toList_none, List.cons_append, List.nil_append, Nat.add_eq_zero_iff, a_nl_i, a_nl_r, a_nl_n, true_or, or_true, eq_self, ok_4, ok_5, ok_6, ok_7, ok_9, ok_10, ok_20, ok_21, ok_24, ok_30, ok_48, ok_50, ok_60, ok_80, ok_120, ok_180, ok_192, ok_200, ok_900, ok_1000, ok_84000]
  exact lx_happened_17 hS hR rfl hev hP _ (by grind) (by grind) (fun i q1 q2 => by grind)
/-- k cells of a place are told -/
def tkM (M : Nat) (b s k v : Int32) (J0 J : Nat → Nat → Int32) : Prop := eoM M J0 → eoM M J ∧ ∀ w : Int32, (∀ x, ¬ J0 M 0 ≤ x → hdM M J w x = hdM M J0 w x) ∧ ((∃ i : Int32, 0 ≤ i ∧ i < k ∧ w = 200 * b + (s + i)) → (∀ x, J0 M 0 ≤ x → hdM M J w x = v) ∧ ldM M J w = J0 M 0) ∧ (¬ (∃ i : Int32, 0 ≤ i ∧ i < k ∧ w = 200 * b + (s + i)) → (∀ x, hdM M J w x = hdM M J0 w x) ∧ ldM M J w = ldM M J0 w)
theorem tk_0 {b s v : Int32} : tkM M b s 0 v J J := fun ho => ⟨ho, fun w => ⟨fun _ _ => rfl, fun ⟨i, i0, i1, _⟩ => absurd (Int32.lt_of_le_of_lt i0 i1) Int32.lt_irrefl, fun _ => ⟨fun _ => rfl, rfl⟩⟩⟩
theorem tk_s {b s k v : Int32} (h : tkM M b s k v J0 J) (hn : J M 0 = J0 M 0) (h2 : tlM M (200 * b + (s + k)) v J J2) (hk : 0 ≤ k ∧ k < 4) : tkM M b s (k + 1) v J0 J2 := fun ho => by
  obtain ⟨q1, q2⟩ := h ho
  obtain ⟨p1, p2, p3, p4, p5⟩ := h2 q1
  rw [hn] at p2 p3 p4
  have hlt : ∀ i : Int32, i < k → i < k + 1 := fun i hi => by ((try clear q1); (try clear q2); (try clear p1); (try clear p2); (try clear p3); (try clear p4); (try clear p5); (try clear h); (try clear h2)); grind
  have hor : ∀ i : Int32, i < k + 1 → ¬ i = k → i < k := fun i hi => by ((try clear q1); (try clear q2); (try clear p1); (try clear p2); (try clear p3); (try clear p4); (try clear p5); (try clear h); (try clear h2)); grind
  refine ⟨p1, fun w => ?_⟩
  obtain ⟨a1, a2, a3⟩ := q2 w
  by_cases c : w = 200 * b + (s + k)
  · subst c
    refine ⟨fun x hx => (p3 x hx).trans (a1 x hx), fun _ => ⟨p2, p4⟩, fun q => absurd ⟨k, hk.1, by ((try clear q1); (try clear q2); (try clear p1); (try clear p2); (try clear p3); (try clear p4); (try clear p5); (try clear h); (try clear h2); (try clear q); (try clear a1); (try clear a2); (try clear a3)); grind, rfl⟩ q⟩
  · obtain ⟨b1, b2⟩ := p5 w c
    refine ⟨fun x hx => (b1 x).trans (a1 x hx), fun ⟨i, i0, i1, i2⟩ => ?_, fun q => ?_⟩
    · obtain ⟨c1, c2⟩ := a2 ⟨i, i0, hor i i1 (fun e => c (by rw [i2, e])), i2⟩
      exact ⟨fun x hx => (b1 x).trans (c1 x hx), b2.trans c2⟩
    · obtain ⟨c1, c2⟩ := a3 (fun ⟨i, i0, i1, i2⟩ => q ⟨i, i0, hlt i i1, i2⟩)
      exact ⟨fun x => (b1 x).trans (c1 x), b2.trans c2⟩
theorem lx_giveTo_10 (hS : m_S M K L R) {a b s : Int32} (ha : 0 ≤ a ∧ a < 30) (hv : J0 M 35 ≤ 83996) (hv0 : 0 ≤ J0 M 35) (hP : ∀ J, hq M b s (J0 (M + 10) a.toNatClampNeg) J0 J → tkM M b s (J0 (M + 10) a.toNatClampNeg) a J0 J → P none (n, t, K, L, J, R)) : ∀ i : Int32, i ≤ 4 → ∀ J, 0 ≤ i → i ≤ J0 (M + 10) a.toNatClampNeg → hq M b s i J0 J → tkM M b s i a J0 J → a_at (d + 1) (a_xm a_m230) 10 [some (a_rf M), some (.int a), some (.int b), some (.int s), some (.int i)] [] (n, t, K, L, J, R) P := by
  refine up_ind 4 (fun i hi ih => ?_)
  intro J h0 hl hq htk
  have hn0 : J M 0 = J0 M 0 := hq.2.1 _ _ (by unfold evC; omega)
  have e1 : J (M + 10) a.toNatClampNeg = J0 (M + 10) a.toNatClampNeg := hq.2.1 _ _ (by unfold evC; omega)
  have g1 := rg_length hq.1
  have g2 := g1 a.toNatClampNeg
  have g3 := hq.2.2.2.2.1
  rw [q230_10]
  simp only [q230_0, q230_1, q230_2, q230_3, q230_4, q230_7, q230_8, q230_12, q230_13, q230_16, q230_17, q230_18, q230_21, q230_22, q230_23, q230_24, q230_26, q230_27, q230_28, q230_31, q230_34, q230_37, m_0 hS, m_K hS, mR_length hS, mK_length hS, mL_length hS, as_nil, as_i, as_r, Nat.reduceAdd, Nat.reduceLeDiff, z_eq0, z_eq1, z_or, z_em, Classical.not_not, not_false_eq_true, not_true_eq_false, true_and, and_true, false_and, and_false, and_self, true_implies, false_implies, implies_true, Option.toList_some, Option.toList_none, List.cons_append, List.nil_append, Nat.add_eq_zero_iff, a_nl_i, a_nl_r, a_nl_n, true_or, or_true, eq_self, ok_4, ok_5, ok_6, ok_7, ok_9, ok_10, ok_20, ok_21, ok_24, ok_30, ok_48, ok_50, ok_60, ok_80, ok_120, ok_180, ok_192, ok_200, ok_900, ok_1000, ok_84000, e1]
  refine ⟨by (try clear htk); (try clear htl); grind, fun h => hP J (by rw [show J0 (M + 10) a.toNatClampNeg = i by ((try clear htk)); grind]; exact hq) (by rw [show J0 (M + 10) a.toNatClampNeg = i by ((try clear htk)); grind]; exact htk), fun h => ?_⟩
  refine cx_happened hS hq.1 (by (try clear htk); (try clear htl); grind) (fun J2 hp htl => ?_)
  simp only [q230_0, q230_1, q230_2, q230_3, q230_4, q230_7, q230_8, q230_12, q230_13, q230_16, q230_17, q230_18, q230_21, q230_22, q230_23, q230_24, q230_26, q230_27, q230_28, q230_31, q230_34, q230_37, m_0 hS, m_K hS, mR_length hS, mK_length hS, mL_length hS, as_nil, as_i, as_r, Nat.reduceAdd, Nat.reduceLeDiff, z_eq0, z_eq1, z_or, z_em, Classical.not_not, not_false_eq_true, not_true_eq_false, true_and, and_true, false_and, and_false, and_self, true_implies, false_implies, implies_true, Option.toList_some, Option.toList_none, List.cons_append, List.nil_append, Nat.add_eq_zero_iff, a_nl_i, a_nl_r, a_nl_n, true_or, or_true, eq_self, ok_4, ok_5, ok_6, ok_7, ok_9, ok_10, ok_20, ok_21, ok_24, ok_30, ok_48, ok_50, ok_60, ok_80, ok_120, ok_180, ok_192, ok_200, ok_900, ok_1000, ok_84000]
  exact ih (by (try clear htk); (try clear htl); grind) J2 (by (try clear htk); (try clear htl); grind) (by (try clear htk); (try clear htl); grind) (hq_step hq hp (by ((try clear htk); (try clear htl)); grind) hv hv0) (tk_s htk hn0 htl ⟨h0, by ((try clear htk); (try clear htl)); grind⟩)
theorem lx_takeFrom_2 (hS : m_S M K L R) {a : Int32} (ha : 0 ≤ a ∧ a < 30) (hv : J0 M 35 ≤ 83996) (hv0 : 0 ≤ J0 M 35) (hP : ∀ J, hq M (J0 (M + 20) a.toNatClampNeg) (J0 (M + 21) a.toNatClampNeg) (J0 (M + 10) a.toNatClampNeg) J0 J → tkM M (J0 (M + 20) a.toNatClampNeg) (J0 (M + 21) a.toNatClampNeg) (J0 (M + 10) a.toNatClampNeg) (-9) J0 J → P none (n, t, K, L, (a_ui (a_ui J (M + 20) a.toNatClampNeg (-9)) (M + 21) a.toNatClampNeg (-9)), R)) : ∀ i : Int32, i ≤ 4 → ∀ J, 0 ≤ i → i ≤ J0 (M + 10) a.toNatClampNeg → hq M (J0 (M + 20) a.toNatClampNeg) (J0 (M + 21) a.toNatClampNeg) i J0 J → tkM M (J0 (M + 20) a.toNatClampNeg) (J0 (M + 21) a.toNatClampNeg) i (-9) J0 J → a_at (d + 1) (a_xm a_m186) 2 [some (a_rf M), some (.int a), some (.int i)] [] (n, t, K, L, J, R) P := by
  refine up_ind 4 (fun i hi ih => ?_)
  intro J h0 hl hq htk
  have hn0 : J M 0 = J0 M 0 := hq.2.1 _ _ (by unfold evC; omega)
  have e1 : J (M + 10) a.toNatClampNeg = J0 (M + 10) a.toNatClampNeg := hq.2.1 _ _ (by unfold evC; omega)
  have e2 : J (M + 20) a.toNatClampNeg = J0 (M + 20) a.toNatClampNeg := hq.2.1 _ _ (by unfold evC; omega)
  have e3 : J (M + 21) a.toNatClampNeg = J0 (M + 21) a.toNatClampNeg := hq.2.1 _ _ (by unfold evC; omega)
  have g1 := rg_length hq.1
  have g2 := g1 a.toNatClampNeg
  have g3 := hq.2.2.2.2.1
  rw [q186_2]
  simp only [q186_0, q186_1, q186_3, q186_4, q186_7, q186_8, q186_9, q186_12, q186_13, q186_14, q186_17, q186_18, q186_19, q186_20, q186_23, q186_24, q186_25, q186_26, q186_27, q186_29, q186_32, q186_35, q186_38, q186_39, q186_42, q186_43, q186_45, q186_46, q186_47, q186_50, q186_51, q186_53, q186_54, m_0 hS, m_K hS, mR_length hS, mK_length hS, mL_length hS, mR_atBench hS, mK_atBench hS, mL_atBench hS, mR_atShift hS, mK_atShift hS, mL_atShift hS, as_nil, as_i, as_r, Nat.reduceAdd, Nat.reduceLeDiff, z_eq0, z_eq1, z_or, z_em, Classical.not_not, not_false_eq_true, not_true_eq_false, true_and, and_true, false_and, and_false, and_self, true_implies, false_implies, implies_true, Option.toList_some, Option.toList_none, List.cons_append, List.nil_append, Nat.add_eq_zero_iff, a_nl_i, a_nl_r, a_nl_n, true_or, or_true, eq_self, ok_4, ok_5, ok_6, ok_7, ok_9, ok_10, ok_20, ok_21, ok_24, ok_30, ok_48, ok_50, ok_60, ok_80, ok_120, ok_180, ok_192, ok_200, ok_900, ok_1000, ok_84000, e1, e2, e3]
  refine ⟨by (try clear htk); (try clear htl); grind, fun h => ⟨by (try clear htk); (try clear htl); grind, by (try clear htk); (try clear htl); grind, hP J (by rw [show J0 (M + 10) a.toNatClampNeg = i by ((try clear htk)); grind]; exact hq) (by rw [show J0 (M + 10) a.toNatClampNeg = i by ((try clear htk)); grind]; exact htk)⟩, fun h => ⟨by (try clear htk); (try clear htl); grind, by (try clear htk); (try clear htl); grind, ?_⟩⟩
  refine cx_happened hS hq.1 (by (try clear htk); (try clear htl); grind) (fun J2 hp htl => ?_)
  simp only [q186_0, q186_1, q186_3, q186_4, q186_7, q186_8, q186_9, q186_12, q186_13, q186_14, q186_17, q186_18, q186_19, q186_20, q186_23, q186_24, q186_25, q186_26, q186_27, q186_29, q186_32, q186_35, q186_38, q186_39, q186_42, q186_43, q186_45, q186_46, q186_47, q186_50, q186_51, q186_53, q186_54, m_0 hS, m_K hS, mR_length hS, mK_length hS, mL_length hS, mR_atBench hS, mK_atBench hS, mL_atBench hS, mR_atShift hS, mK_atShift hS, mL_atShift hS, as_nil, as_i, as_r, Nat.reduceAdd, Nat.reduceLeDiff, z_eq0, z_eq1, z_or, z_em, Classical.not_not, not_false_eq_true, not_true_eq_false, true_and, and_true, false_and, and_false, and_self, true_implies, false_implies, implies_true, Option.toList_some, Option.toList_none, List.cons_append, List.nil_append, Nat.add_eq_zero_iff, a_nl_i, a_nl_r, a_nl_n, true_or, or_true, eq_self, ok_4, ok_5, ok_6, ok_7, ok_9, ok_10, ok_20, ok_21, ok_24, ok_30, ok_48, ok_50, ok_60, ok_80, ok_120, ok_180, ok_192, ok_200, ok_900, ok_1000, ok_84000]
  exact ih (by (try clear htk); (try clear htl); grind) J2 (by (try clear htk); (try clear htl); grind) (by (try clear htk); (try clear htl); grind) (hq_step hq hp (by ((try clear htk); (try clear htl)); grind) hv hv0) (tk_s htk hn0 htl ⟨h0, by ((try clear htk); (try clear htl)); grind⟩)
theorem xh_giveTo0 (hS : m_S M K L R) (hm : moP M I) (hv : I M 35 ≤ 83996) {a b s : Int32} (ha : 0 ≤ a ∧ a < 30) (hb : 0 ≤ b ∧ b ≤ 5) (hs : -9 ≤ s ∧ s ≤ 200) (hP : ∀ J, yR M I J (puY (yv M I) a b s) → tkM M b s (I (M + 10) a.toNatClampNeg) a I J → P none (n, t, K, L, J, R)) : a_does (d + 11) 230 [a_rf M, .int a, .int b, .int s] (n, t, K, L, I, R) P := by
  rw [a_enter1 (M := a_m230) rfl (a_cat_rf (a_cat_int (a_cat_int (a_cat_int a_cat_nil)))) (show 4 ≤ 5 by decide)]
  show a_at _ (a_xm a_m230) 0 [some (a_rf M), some (.int a), some (.int b), some (.int s), none] [] _ _
  simp only [q230_0, q230_1, q230_2, q230_3, q230_4, m_0 hS, m_K hS, as_nil, as_i, as_r, Nat.reduceAdd, Nat.reduceLeDiff, z_eq0, z_eq1, z_or, z_em, Classical.not_not, not_false_eq_true, not_true_eq_false, true_and, and_true, false_and, and_false, and_self, true_implies, false_implies, implies_true, Option.toList_some, Option.toList_none, List.cons_append, List.nil_append, Nat.add_eq_zero_iff, a_nl_i, a_nl_r, a_nl_n, true_or, or_true, eq_self, ok_4, ok_5, ok_6, ok_7, ok_9, ok_10, ok_20, ok_21, ok_24, ok_30, ok_48, ok_50, ok_60, ok_80, ok_120, ok_180, ok_192, ok_200, ok_900, ok_1000, ok_84000]
  refine xt_putAt (d := d) hS hm ha hb hs (fun J hf hy => ?_)
  simp only [q230_7, q230_8, as_nil, as_i, as_r, Nat.reduceAdd, Nat.reduceLeDiff, z_eq0, z_eq1, z_or, z_em, Classical.not_not, not_false_eq_true, not_true_eq_false, true_and, and_true, false_and, and_false, and_self, true_implies, false_implies, implies_true, Option.toList_some, Option.toList_none, List.cons_append, List.nil_append, Nat.add_eq_zero_iff, a_nl_i, a_nl_r, a_nl_n, true_or, or_true, eq_self, ok_4, ok_5, ok_6, ok_7, ok_9, ok_10, ok_20, ok_21, ok_24, ok_30, ok_48, ok_50, ok_60, ok_80, ok_120, ok_180, ok_192, ok_200, ok_900, ok_1000, ok_84000]
  have ev0 : J M 35 = I M 35 := hf _ _ (by unfold sC; omega) (by omega) (by omega) (by omega)
  have hl := rg_length hy.1 a.toNatClampNeg
  have hv0 := rg_events hy.1
  refine lx_giveTo_10 hS ha (by rw [ev0]; exact hv) hv0.1 (fun J2 hq htk => ?_) 0 (by decide) J (by decide) hl.1 (hq_refl hy.1) tk_0
  have htk2 : tkM M b s (I (M + 10) a.toNatClampNeg) a I J2 := fun ho => by
    have f : ∀ x j, ¬ sC M x j → ¬ x = M + 20 → ¬ x = M + 21 → ¬ x = M + 22 → J x j = I x j := hf
    have e0 : J M 0 = I M 0 := f _ _ (by unfold sC; omega) (by omega) (by omega) (by omega)
    have e24 : ∀ j, J (M + 24) j = I (M + 24) j := fun j => f _ _ (by unfold sC; omega) (by omega) (by omega) (by omega)
    have e25 : ∀ j, J (M + 25) j = I (M + 25) j := fun j => f _ _ (by unfold sC; omega) (by omega) (by omega) (by omega)
    have e26 : ∀ j, J (M + 26) j = I (M + 26) j := fun j => f _ _ (by unfold sC; omega) (by omega) (by omega) (by omega)
    have e10 : J (M + 10) a.toNatClampNeg = I (M + 10) a.toNatClampNeg := f _ _ (by unfold sC; omega) (by omega) (by omega) (by omega)
    obtain ⟨g1, g2⟩ := htk (eo_eq ho ev0 e25 e0)
    refine ⟨g1, fun w => ?_⟩
    obtain ⟨a1, a2, a3⟩ := g2 w
    rw [e0] at a1 a2
    rw [e10] at a2 a3
    rw [ld_eq ev0 e24 e25 w] at a3
    refine ⟨fun x hx => (a1 x hx).trans (hd_eq ev0 e24 e25 e26 w x), a2, fun q => ⟨fun x => ((a3 q).1 x).trans (hd_eq ev0 e24 e25 e26 w x), (a3 q).2⟩⟩
  refine hP J2 ⟨hq.1, fun x j p => by rw [hq.2.1 x j (by unfold evC; omega)]; exact hy.2.1 x j p, fun k j hk q => ?_⟩ htk2
  rw [hq.2.1 _ _ (by unfold mk0 at q; unfold evC; omega)]
  exact hy.2.2 k j hk q
theorem xh_takeFrom0 (hS : m_S M K L R) (hR : mR M I) (hv : I M 35 ≤ 83996) {a : Int32} (ha : 0 ≤ a ∧ a < 30) (hP : ∀ J, yR M I J (unY (yv M I) a) → tkM M (I (M + 20) a.toNatClampNeg) (I (M + 21) a.toNatClampNeg) (I (M + 10) a.toNatClampNeg) (-9) I J → P none (n, t, K, L, J, R)) : a_does (d + 2) 186 [a_rf M, .int a] (n, t, K, L, I, R) P := by
  have hl := rg_length hR a.toNatClampNeg
  have hv0 := rg_events hR
  rw [a_enter1 (M := a_m186) rfl (a_cat_rf (a_cat_int a_cat_nil)) (show 2 ≤ 3 by decide)]
  show a_at _ (a_xm a_m186) 0 [some (a_rf M), some (.int a), none] [] _ _
  simp only [q186_0, q186_1, as_nil, as_i, as_r, Nat.reduceAdd, Nat.reduceLeDiff, z_eq0, z_eq1, z_or, z_em, Classical.not_not, not_false_eq_true, not_true_eq_false, true_and, and_true, false_and, and_false, and_self, true_implies, false_implies, implies_true, Option.toList_some, Option.toList_none, List.cons_append, List.nil_append, Nat.add_eq_zero_iff, a_nl_i, a_nl_r, a_nl_n, true_or, or_true, eq_self, ok_4, ok_5, ok_6, ok_7, ok_9, ok_10, ok_20, ok_21, ok_24, ok_30, ok_48, ok_50, ok_60, ok_80, ok_120, ok_180, ok_192, ok_200, ok_900, ok_1000, ok_84000]
  refine lx_takeFrom_2 hS ha hv hv0.1 (fun J hq htk => ?_) 0 (by decide) I (by decide) hl.1 (hq_refl hR) tk_0
  have htk2 : ∀ J2 : Nat → Nat → Int32, (∀ x j, ¬ x = M + 20 → ¬ x = M + 21 → J2 x j = J x j) → tkM M (I (M + 20) a.toNatClampNeg) (I (M + 21) a.toNatClampNeg) (I (M + 10) a.toNatClampNeg) (-9) I J2 := fun J2 f ho => by
    have e0 : J2 M 0 = J M 0 := f _ _ (by omega) (by omega)
    have e35 : J2 M 35 = J M 35 := f _ _ (by omega) (by omega)
    have e24 : ∀ j, J2 (M + 24) j = J (M + 24) j := fun j => f _ _ (by omega) (by omega)
    have e25 : ∀ j, J2 (M + 25) j = J (M + 25) j := fun j => f _ _ (by omega) (by omega)
    have e26 : ∀ j, J2 (M + 26) j = J (M + 26) j := fun j => f _ _ (by omega) (by omega)
    obtain ⟨g1, g2⟩ := htk ho
    refine ⟨eo_eq g1 e35 e25 e0, fun w => ?_⟩
    obtain ⟨a1, a2, a3⟩ := g2 w
    have eh := hd_eq e35 e24 e25 e26 w
    have el := ld_eq e35 e24 e25 w
    exact ⟨fun x hx => (eh x).trans (a1 x hx), fun q => ⟨fun x hx => (eh x).trans ((a2 q).1 x hx), el.trans (a2 q).2⟩, fun q => ⟨fun x => (eh x).trans ((a3 q).1 x), el.trans (a3 q).2⟩⟩
  refine hP _ ⟨sR_atShift (sR_atBench hq.1 (by decide)) (by decide), fun x j p => by rw [ui_ap, if_neg (by omega), ui_ap, if_neg (by omega), hq.2.1 x j (by unfold evC; omega)], fun k j hk q => ?_⟩ (htk2 _ (fun x j q1 q2 => by rw [ui_ap, if_neg (fun e => q2 e.1), ui_ap, if_neg (fun e => q1 e.1)]))
  unfold unY
  unfold mk0 at q
  rw [ui_ap, ui_ap]
  by_cases e1 : (k = 20 ∨ k = 21) ∧ j = a.toNatClampNeg
  · rw [if_pos e1]
    by_cases e2 : k = 20
    · rw [if_neg (by omega), if_pos (by omega)]
    · rw [if_pos (by omega)]
  · rw [if_neg e1, if_neg (by omega), if_neg (by omega), hq.2.1 _ _ (by unfold evC; omega)]
    rfl
end HA1
end
section
/-! small rules -/
/-! what holds of the reference's numbers at all times -/
section RG
variable {M : Nat} {I J : Nat → Nat → Int32}
def eCh (M x j : Nat) : Prop := eC M x j ∨ x = M + 24 ∨ x = M + 25 ∨ x = M + 26 ∨ (x = M ∧ j = 35)
def frh (M : Nat) (I J : Nat → Nat → Int32) : Prop := ∀ x j, eCh M x j → J x j = I x j
def mGh (M : Nat) (I J : Nat → Nat → Int32) : Prop := mR M J ∧ frh M I J
theorem sG_hasDrafth (h : mGh M I J) {v : Int32} : mGh M I (a_ui J M 12 v) := ⟨sR_hasDraft h.1, fun x j hx => by rw [ui_ap, if_neg (by unfold eCh eC at hx; omega)]; exact h.2 x j hx⟩
theorem sG_draftGrouph (h : mGh M I J) {v : Int32} (hv : (0) ≤ v ∧ v ≤ 9) : mGh M I (a_ui J M 13 v) := ⟨sR_draftGroup h.1 hv, fun x j hx => by rw [ui_ap, if_neg (by unfold eCh eC at hx; omega)]; exact h.2 x j hx⟩
theorem sG_draftLandh (h : mGh M I J) {v : Int32} : mGh M I (a_ui J M 14 v) := ⟨sR_draftLand h.1, fun x j hx => by rw [ui_ap, if_neg (by unfold eCh eC at hx; omega)]; exact h.2 x j hx⟩
theorem sG_draftLongh (h : mGh M I J) {v : Int32} (hv : (0) ≤ v ∧ v ≤ 4) : mGh M I (a_ui J M 15 v) := ⟨sR_draftLong h.1 hv, fun x j hx => by rw [ui_ap, if_neg (by unfold eCh eC at hx; omega)]; exact h.2 x j hx⟩
theorem sG_draftWantsh (h : mGh M I J) {v : Int32} : mGh M I (a_ui J M 16 v) := ⟨sR_draftWants h.1, fun x j hx => by rw [ui_ap, if_neg (by unfold eCh eC at hx; omega)]; exact h.2 x j hx⟩
theorem sG_asksh (h : mGh M I J) {v : Int32} (hv : (0) ≤ v ∧ v ≤ 30) : mGh M I (a_ui J M 17 v) := ⟨sR_asks h.1 hv, fun x j hx => by rw [ui_ap, if_neg (by unfold eCh eC at hx; omega)]; exact h.2 x j hx⟩
theorem sG_kindh (h : mGh M I J) {k : Nat} {v : Int32} (hv : v = 1 → 0 ≤ J (M + 16) k ∧ J (M + 16) k ≤ 29) : mGh M I (a_ui J (M + 7) k v) := ⟨sR_kind h.1 hv, fun x j hx => by rw [ui_ap, if_neg (by unfold eCh eC at hx; omega)]; exact h.2 x j hx⟩
theorem sG_grouph (h : mGh M I J) {k : Nat} {v : Int32} (hv : (0) ≤ v ∧ v ≤ 9) : mGh M I (a_ui J (M + 8) k v) := ⟨sR_group h.1 hv, fun x j hx => by rw [ui_ap, if_neg (by unfold eCh eC at hx; omega)]; exact h.2 x j hx⟩
theorem sG_landh (h : mGh M I J) {k : Nat} {v : Int32} : mGh M I (a_ui J (M + 9) k v) := ⟨sR_land h.1, fun x j hx => by rw [ui_ap, if_neg (by unfold eCh eC at hx; omega)]; exact h.2 x j hx⟩
theorem sG_lengthh (h : mGh M I J) {k : Nat} {v : Int32} (hv : (0) ≤ v ∧ v ≤ 4) : mGh M I (a_ui J (M + 10) k v) := ⟨sR_length h.1 hv, fun x j hx => by rw [ui_ap, if_neg (by unfold eCh eC at hx; omega)]; exact h.2 x j hx⟩
theorem sG_wantsh (h : mGh M I J) {k : Nat} {v : Int32} : mGh M I (a_ui J (M + 11) k v) := ⟨sR_wants h.1, fun x j hx => by rw [ui_ap, if_neg (by unfold eCh eC at hx; omega)]; exact h.2 x j hx⟩
theorem sG_benchSeth (h : mGh M I J) {k : Nat} {v : Int32} : mGh M I (a_ui J (M + 12) k v) := ⟨sR_benchSet h.1, fun x j hx => by rw [ui_ap, if_neg (by unfold eCh eC at hx; omega)]; exact h.2 x j hx⟩
theorem sG_modeSeth (h : mGh M I J) {k : Nat} {v : Int32} : mGh M I (a_ui J (M + 13) k v) := ⟨sR_modeSet h.1, fun x j hx => by rw [ui_ap, if_neg (by unfold eCh eC at hx; omega)]; exact h.2 x j hx⟩
theorem sG_gearh (h : mGh M I J) {k : Nat} {v : Int32} : mGh M I (a_ui J (M + 14) k v) := ⟨sR_gear h.1, fun x j hx => by rw [ui_ap, if_neg (by unfold eCh eC at hx; omega)]; exact h.2 x j hx⟩
theorem sG_dangerh (h : mGh M I J) {k : Nat} {v : Int32} : mGh M I (a_ui J (M + 15) k v) := ⟨sR_danger h.1, fun x j hx => by rw [ui_ap, if_neg (by unfold eCh eC at hx; omega)]; exact h.2 x j hx⟩
theorem sG_wasOwedh (h : mGh M I J) {k : Nat} {v : Int32} : mGh M I (a_ui J (M + 19) k v) := ⟨sR_wasOwed h.1, fun x j hx => by rw [ui_ap, if_neg (by unfold eCh eC at hx; omega)]; exact h.2 x j hx⟩
theorem sG_atBenchh (h : mGh M I J) {k : Nat} {v : Int32} (hv : (-9) ≤ v ∧ v ≤ 5) : mGh M I (a_ui J (M + 20) k v) := ⟨sR_atBench h.1 hv, fun x j hx => by rw [ui_ap, if_neg (by unfold eCh eC at hx; omega)]; exact h.2 x j hx⟩
theorem sG_atShifth (h : mGh M I J) {k : Nat} {v : Int32} (hv : (-9) ≤ v ∧ v ≤ 200) : mGh M I (a_ui J (M + 21) k v) := ⟨sR_atShift h.1 hv, fun x j hx => by rw [ui_ap, if_neg (by unfold eCh eC at hx; omega)]; exact h.2 x j hx⟩
theorem sG_refusedh (h : mGh M I J) {k : Nat} {v : Int32} : mGh M I (a_ui J (M + 23) k v) := ⟨sR_refused h.1, fun x j hx => by rw [ui_ap, if_neg (by unfold eCh eC at hx; omega)]; exact h.2 x j hx⟩
theorem sG_marksh (h : mGh M I J) {k : Nat} {v : Int32} : mGh M I (a_ui J (M + 36) k v) := ⟨sR_marks h.1, fun x j hx => by rw [ui_ap, if_neg (by unfold eCh eC at hx; omega)]; exact h.2 x j hx⟩
theorem sG_isMarkedh (h : mGh M I J) {k : Nat} {v : Int32} : mGh M I (a_ui J (M + 37) k v) := ⟨sR_isMarked h.1, fun x j hx => by rw [ui_ap, if_neg (by unfold eCh eC at hx; omega)]; exact h.2 x j hx⟩
theorem sG_doesCounth (h : mGh M I J) {k : Nat} {v : Int32} : mGh M I (a_ui J (M + 38) k v) := ⟨sR_doesCount h.1, fun x j hx => by rw [ui_ap, if_neg (by unfold eCh eC at hx; omega)]; exact h.2 x j hx⟩
theorem sG_fewh (h : mGh M I J) {k : Nat} {v : Int32} (hv : (0) ≤ v ∧ v ≤ 29) : mGh M I (a_ui J (M + 41) k v) := ⟨sR_few h.1 hv, fun x j hx => by rw [ui_ap, if_neg (by unfold eCh eC at hx; omega)]; exact h.2 x j hx⟩
theorem sG_fewManyh (h : mGh M I J) {v : Int32} : mGh M I (a_ui J M 66 v) := ⟨sR_fewMany h.1, fun x j hx => by rw [ui_ap, if_neg (by unfold eCh eC at hx; omega)]; exact h.2 x j hx⟩
theorem sG_isWishh (h : mGh M I J) {k : Nat} {v : Int32} : mGh M I (a_ui J (M + 47) k v) := ⟨sR_isWish h.1, fun x j hx => by rw [ui_ap, if_neg (by unfold eCh eC at hx; omega)]; exact h.2 x j hx⟩
theorem sG_ringAskh (h : mGh M I J) {k : Nat} {v : Int32} : mGh M I (a_ui J (M + 48) k v) := ⟨sR_ringAsk h.1, fun x j hx => by rw [ui_ap, if_neg (by unfold eCh eC at hx; omega)]; exact h.2 x j hx⟩
theorem sG_ringManyh (h : mGh M I J) {v : Int32} : mGh M I (a_ui J M 74 v) := ⟨sR_ringMany h.1, fun x j hx => by rw [ui_ap, if_neg (by unfold eCh eC at hx; omega)]; exact h.2 x j hx⟩
theorem mG_Ch {I0 : Nat → Nat → Int32} (h : mGh M I0 I) (h2 : mC M I J) : mGh M I0 J := ⟨h2.1, fun x j hx => (h2.2 x j (by unfold eCh eC at hx; unfold sC; omega)).trans (h.2 x j hx)⟩
end RG

/-! contracts of giving and taking back -/
section RZ
variable {d n t M : Nat} {K L : Nat → Nat} {I I0 J J0 J1 J2 : Nat → Nat → Int32} {R : Nat → Nat → Nat} {P : Option Value → AH → Prop}
def mFh (M c : Nat) (I J : Nat → Nat → Int32) : Prop := mGh M I J ∧ mE M c J
theorem mF_Rh {c : Nat} (h : mFh M c I J) : mR M J := h.1.1
theorem mF_leh {c c' : Nat} (h : mFh M c I J) (hc : c ≤ c') : mFh M c' I J := ⟨h.1, mE_le h.2 hc⟩
theorem mF_Ch {c : Nat} (h : mFh M c I0 I) (hC : mC M I J) : mFh M c I0 J := ⟨mG_Ch h.1 hC, mE_C h.2 hC⟩
theorem sF_hasDrafth {c : Nat} (h : mFh M c I J) {v : Int32} : mFh M c I (a_ui J M 12 v) := ⟨sG_hasDrafth h.1, sE_hasDraft h.2⟩
theorem sF_draftGrouph {c : Nat} (h : mFh M c I J) {v : Int32} (hv : (0) ≤ v ∧ v ≤ 9) : mFh M c I (a_ui J M 13 v) := ⟨sG_draftGrouph h.1 hv, sE_draftGroup h.2⟩
theorem sF_draftLandh {c : Nat} (h : mFh M c I J) {v : Int32} : mFh M c I (a_ui J M 14 v) := ⟨sG_draftLandh h.1, sE_draftLand h.2⟩
theorem sF_draftLongh {c : Nat} (h : mFh M c I J) {v : Int32} (hv : (0) ≤ v ∧ v ≤ 4) : mFh M c I (a_ui J M 15 v) := ⟨sG_draftLongh h.1 hv, sE_draftLong h.2⟩
theorem sF_draftWantsh {c : Nat} (h : mFh M c I J) {v : Int32} : mFh M c I (a_ui J M 16 v) := ⟨sG_draftWantsh h.1, sE_draftWants h.2⟩
theorem sF_grouph {c : Nat} (h : mFh M c I J) {k : Nat} {v : Int32} (hv : (0) ≤ v ∧ v ≤ 9) : mFh M c I (a_ui J (M + 8) k v) := ⟨sG_grouph h.1 hv, sE_group h.2⟩
theorem sF_benchSeth {c : Nat} (h : mFh M c I J) {k : Nat} {v : Int32} : mFh M c I (a_ui J (M + 12) k v) := ⟨sG_benchSeth h.1, sE_benchSet h.2⟩
theorem sF_modeSeth {c : Nat} (h : mFh M c I J) {k : Nat} {v : Int32} : mFh M c I (a_ui J (M + 13) k v) := ⟨sG_modeSeth h.1, sE_modeSet h.2⟩
theorem sF_gearh {c : Nat} (h : mFh M c I J) {k : Nat} {v : Int32} : mFh M c I (a_ui J (M + 14) k v) := ⟨sG_gearh h.1, sE_gear h.2⟩
theorem sF_dangerh {c : Nat} (h : mFh M c I J) {k : Nat} {v : Int32} : mFh M c I (a_ui J (M + 15) k v) := ⟨sG_dangerh h.1, sE_danger h.2⟩
theorem sF_wasOwedh {c : Nat} (h : mFh M c I J) {k : Nat} {v : Int32} : mFh M c I (a_ui J (M + 19) k v) := ⟨sG_wasOwedh h.1, sE_wasOwed h.2⟩
theorem sF_refusedh {c : Nat} (h : mFh M c I J) {k : Nat} {v : Int32} : mFh M c I (a_ui J (M + 23) k v) := ⟨sG_refusedh h.1, sE_refused h.2⟩
theorem sF_marksh {c : Nat} (h : mFh M c I J) {k : Nat} {v : Int32} : mFh M c I (a_ui J (M + 36) k v) := ⟨sG_marksh h.1, sE_marks h.2⟩
theorem sF_isMarkedh {c : Nat} (h : mFh M c I J) {k : Nat} {v : Int32} : mFh M c I (a_ui J (M + 37) k v) := ⟨sG_isMarkedh h.1, sE_isMarked h.2⟩
theorem sF_doesCounth {c : Nat} (h : mFh M c I J) {k : Nat} {v : Int32} : mFh M c I (a_ui J (M + 38) k v) := ⟨sG_doesCounth h.1, sE_doesCount h.2⟩
theorem sF_fewh {c : Nat} (h : mFh M c I J) {k : Nat} {v : Int32} (hv : (0) ≤ v ∧ v ≤ 29) : mFh M c I (a_ui J (M + 41) k v) := ⟨sG_fewh h.1 hv, sE_few h.2⟩
theorem sF_fewManyh {c : Nat} (h : mFh M c I J) {v : Int32} : mFh M c I (a_ui J M 66 v) := ⟨sG_fewManyh h.1, sE_fewMany h.2⟩
theorem sF_isWishh {c : Nat} (h : mFh M c I J) {k : Nat} {v : Int32} : mFh M c I (a_ui J (M + 47) k v) := ⟨sG_isWishh h.1, sE_isWish h.2⟩
theorem sF_ringAskh {c : Nat} (h : mFh M c I J) {k : Nat} {v : Int32} : mFh M c I (a_ui J (M + 48) k v) := ⟨sG_ringAskh h.1, sE_ringAsk h.2⟩
theorem sF_ringManyh {c : Nat} (h : mFh M c I J) {v : Int32} : mFh M c I (a_ui J M 74 v) := ⟨sG_ringManyh h.1, sE_ringMany h.2⟩
end RZ

/-! public methods -/
section SB
variable {d n t M c : Nat} {K L : Nat → Nat} {I I0 J J0 J1 J2 : Nat → Nat → Int32} {R : Nat → Nat → Nat} {P : Option Value → AH → Prop}

theorem pu_drafth (hS : m_S M K L R) (hF : mFh M c I0 I) (hc : c + 130 ≤ 84000) {a b e w : Int32} (hP : ∀ v J, mFh M (c + 120) I0 J → P (some (.int v)) (n, t, K, L, J, R)) : a_does (d + 16) 180 [a_rf M, .int a, .int b, .int e, .int w] (n, t, K, L, I, R) P := by
  have hR := hF.1.1
  have g3 := mC_refl hR
  have hL4 : ∀ J, mFh M (c + 4) I0 J → mFh M (c + 120) I0 J := fun J h => mF_leh h (by omega)
  have hL : ∀ J, mFh M c I0 J → mFh M (c + 120) I0 J := fun J h => mF_leh h (by omega)
  rw [a_enter1 (M := a_m180) rfl (a_cat_rf (a_cat_int (a_cat_int (a_cat_int (a_cat_int a_cat_nil))))) (show 5 ≤ 5 by decide)]
  show a_at _ (a_xm a_m180) 0 [some (a_rf M), some (.int a), some (.int b), some (.int e), some (.int w)] [] _ _
  repeat' first
    | with_reducible apply And.intro
    | with_reducible assumption
    | with_reducible intro _
    | with_reducible apply hP
    | with_reducible apply hL4 _ (by with_reducible assumption)
    | with_reducible apply hL
    | with_reducible apply sF_hasDrafth
    | with_reducible apply sF_draftGrouph
    | with_reducible apply sF_draftLandh
    | with_reducible apply sF_draftLongh
    | with_reducible apply sF_draftWantsh
    | with_reducible apply sF_refusedh
    | simp only [q180_0, q180_1, q180_2, q180_4, q180_7, q180_10, q180_11, q180_12, q180_13, q180_16, q180_19, q180_20, q180_21, q180_24, q180_25, q180_26, q180_27, q180_30, q180_32, q180_35, q180_36, q180_38, q180_41, q180_42, q180_43, q180_44, q180_47, q180_49, q180_51, q180_54, q180_55, q180_57, q180_60, q180_61, q180_62, q180_63, q180_66, q180_67, q180_68, q180_71, q180_72, q180_73, q180_76, q180_77, q180_78, q180_81, q180_82, q180_84, q180_87, q180_88, m_0 hS, m_K hS, sp_in, sp_refuse_1 hS, sp_refuse_2 hS, sp_refuse_3 hS, sp_refuse_4 hS, sp_refuse_5 hS, sp_refuse_6 hS, as_nil, as_i, as_r, Nat.reduceAdd, Nat.reduceLeDiff, z_eq0, z_eq1, z_or, z_em, Classical.not_not, not_false_eq_true, not_true_eq_false, true_and, and_true, false_and, and_false, and_self, true_implies, false_implies, implies_true, Option.toList_some, Option.toList_none, List.cons_append, List.nil_append, Nat.add_eq_zero_iff, a_nl_i, a_nl_r, a_nl_n, true_or, or_true, eq_self, ok_4, ok_5, ok_6, ok_7, ok_9, ok_10, ok_20, ok_21, ok_24, ok_30, ok_48, ok_50, ok_60, ok_80, ok_120, ok_180, ok_192, ok_200, ok_900, ok_1000, ok_84000, a_sw, ti_0, ti_1, ti_2, ti_3, ti_4, ti_5, ti_6, ti_7, ti_8, ti_9, ti_10, ti_11, ti_12, ti_13, ti_14, ti_15, ti_16, ti_17, ti_18, ti_19, ti_98, ti_99, ti_100, ti_101, ti_102, ti_103, ti_104, ti_105, ti_106, ti_107, ti_108, ti_109, ti_110, ti_111, ti_112, ti_113, ti_114, ti_115, ti_116]
  all_goals grind [ui_ap]

theorem pu_markOfh (hS : m_S M K L R) (hF : mFh M c I0 I) (hc : c + 130 ≤ 84000) {a : Int32} (hP : ∀ v J, mFh M (c + 120) I0 J → P (some (.int v)) (n, t, K, L, J, R)) : a_does (d + 16) 216 [a_rf M, .int a] (n, t, K, L, I, R) P := by
  have hR := hF.1.1
  have g3 := mC_refl hR
  have hL4 : ∀ J, mFh M (c + 4) I0 J → mFh M (c + 120) I0 J := fun J h => mF_leh h (by omega)
  have hL : ∀ J, mFh M c I0 J → mFh M (c + 120) I0 J := fun J h => mF_leh h (by omega)
  have g1 := rg_asks hR
  rw [a_enter1 (M := a_m216) rfl (a_cat_rf (a_cat_int a_cat_nil)) (show 2 ≤ 2 by decide)]
  show a_at _ (a_xm a_m216) 0 [some (a_rf M), some (.int a)] [] _ _
  repeat' first
    | with_reducible apply And.intro
    | with_reducible assumption
    | with_reducible intro _
    | with_reducible apply hP
    | with_reducible apply hL4 _ (by with_reducible assumption)
    | with_reducible apply hL
    | with_reducible apply sF_refusedh
    | with_reducible apply ct_markFor hS hR
    | simp only [q216_0, q216_1, q216_2, q216_5, q216_8, q216_9, q216_10, q216_13, q216_16, q216_17, q216_18, q216_21, m_0 hS, m_K hS, sp_isAsk hS, sp_refuse_1 hS, sp_refuse_2 hS, sp_refuse_3 hS, sp_refuse_4 hS, sp_refuse_5 hS, sp_refuse_6 hS, as_nil, as_i, as_r, Nat.reduceAdd, Nat.reduceLeDiff, z_eq0, z_eq1, z_or, z_em, Classical.not_not, not_false_eq_true, not_true_eq_false, true_and, and_true, false_and, and_false, and_self, true_implies, false_implies, implies_true, Option.toList_some, Option.toList_none, List.cons_append, List.nil_append, Nat.add_eq_zero_iff, a_nl_i, a_nl_r, a_nl_n, true_or, or_true, eq_self, ok_4, ok_5, ok_6, ok_7, ok_9, ok_10, ok_20, ok_21, ok_24, ok_30, ok_48, ok_50, ok_60, ok_80, ok_120, ok_180, ok_192, ok_200, ok_900, ok_1000, ok_84000, a_sw, ti_0, ti_1, ti_2, ti_3, ti_4, ti_5, ti_6, ti_7, ti_8, ti_9, ti_10, ti_11, ti_12, ti_13, ti_14, ti_15, ti_16, ti_17, ti_18, ti_19, ti_98, ti_99, ti_100, ti_101, ti_102, ti_103, ti_104, ti_105, ti_106, ti_107, ti_108, ti_109, ti_110, ti_111, ti_112, ti_113, ti_114, ti_115, ti_116]
  all_goals grind [ui_ap]

theorem pu_fith (hS : m_S M K L R) (hF : mFh M c I0 I) (hc : c + 130 ≤ 84000) {a b s : Int32} (hP : ∀ v J, mFh M (c + 120) I0 J → P (some (.int v)) (n, t, K, L, J, R)) : a_does (d + 16) 220 [a_rf M, .int a, .int b, .int s] (n, t, K, L, I, R) P := by
  have hR := hF.1.1
  have g3 := mC_refl hR
  have hL4 : ∀ J, mFh M (c + 4) I0 J → mFh M (c + 120) I0 J := fun J h => mF_leh h (by omega)
  have hL : ∀ J, mFh M c I0 J → mFh M (c + 120) I0 J := fun J h => mF_leh h (by omega)
  have g1 := rg_asks hR
  have g2 := rg_benches hR
  rw [a_enter1 (M := a_m220) rfl (a_cat_rf (a_cat_int (a_cat_int (a_cat_int a_cat_nil)))) (show 4 ≤ 4 by decide)]
  show a_at _ (a_xm a_m220) 0 [some (a_rf M), some (.int a), some (.int b), some (.int s)] [] _ _
  repeat' first
    | with_reducible apply And.intro
    | with_reducible assumption
    | with_reducible intro _
    | with_reducible apply hP
    | with_reducible apply hL4 _ (by with_reducible assumption)
    | with_reducible apply hL
    | with_reducible apply sF_refusedh
    | with_reducible apply ct_fitOf hS g3
    | with_reducible apply mF_Ch hF
    | simp only [q220_0, q220_1, q220_2, q220_5, q220_8, q220_9, q220_10, q220_13, q220_16, q220_17, q220_20, q220_23, q220_24, q220_25, q220_26, q220_27, q220_30, q220_33, q220_34, q220_35, q220_38, m_0 hS, m_K hS, sp_isAsk hS, sp_isBench hS, sp_isShift, sp_refuse_1 hS, sp_refuse_2 hS, sp_refuse_3 hS, sp_refuse_4 hS, sp_refuse_5 hS, sp_refuse_6 hS, as_nil, as_i, as_r, Nat.reduceAdd, Nat.reduceLeDiff, z_eq0, z_eq1, z_or, z_em, Classical.not_not, not_false_eq_true, not_true_eq_false, true_and, and_true, false_and, and_false, and_self, true_implies, false_implies, implies_true, Option.toList_some, Option.toList_none, List.cons_append, List.nil_append, Nat.add_eq_zero_iff, a_nl_i, a_nl_r, a_nl_n, true_or, or_true, eq_self, ok_4, ok_5, ok_6, ok_7, ok_9, ok_10, ok_20, ok_21, ok_24, ok_30, ok_48, ok_50, ok_60, ok_80, ok_120, ok_180, ok_192, ok_200, ok_900, ok_1000, ok_84000, a_sw, ti_0, ti_1, ti_2, ti_3, ti_4, ti_5, ti_6, ti_7, ti_8, ti_9, ti_10, ti_11, ti_12, ti_13, ti_14, ti_15, ti_16, ti_17, ti_18, ti_19, ti_98, ti_99, ti_100, ti_101, ti_102, ti_103, ti_104, ti_105, ti_106, ti_107, ti_108, ti_109, ti_110, ti_111, ti_112, ti_113, ti_114, ti_115, ti_116]
  all_goals grind [ui_ap]

theorem pu_whyh (hS : m_S M K L R) (hF : mFh M c I0 I) (hc : c + 130 ≤ 84000) {a b s f e : Int32} (hP : ∀ v J, mFh M (c + 120) I0 J → P (some (.int v)) (n, t, K, L, J, R)) : a_does (d + 16) 241 [a_rf M, .int a, .int b, .int s, .int f, .int e] (n, t, K, L, I, R) P := by
  have hR := hF.1.1
  have g3 := mC_refl hR
  have hL4 : ∀ J, mFh M (c + 4) I0 J → mFh M (c + 120) I0 J := fun J h => mF_leh h (by omega)
  have hL : ∀ J, mFh M c I0 J → mFh M (c + 120) I0 J := fun J h => mF_leh h (by omega)
  have g1 := rg_asks hR
  have g2 := rg_benches hR
  rw [a_enter1 (M := a_m241) rfl (a_cat_rf (a_cat_int (a_cat_int (a_cat_int (a_cat_int (a_cat_int a_cat_nil)))))) (show 6 ≤ 7 by decide)]
  show a_at _ (a_xm a_m241) 0 [some (a_rf M), some (.int a), some (.int b), some (.int s), some (.int f), some (.int e), none] [] _ _
  repeat' first
    | with_reducible apply And.intro
    | with_reducible assumption
    | with_reducible intro _
    | with_reducible apply hP
    | with_reducible apply hL4 _ (by with_reducible assumption)
    | with_reducible apply hL
    | with_reducible apply sF_refusedh
    | with_reducible apply ct_fitOf hS g3
    | with_reducible apply ct_isWithinShare hS
    | with_reducible apply mC_R
    | with_reducible apply mF_Ch hF
    | simp only [q241_0, q241_1, q241_2, q241_5, q241_8, q241_9, q241_10, q241_13, q241_16, q241_18, q241_20, q241_23, q241_26, q241_27, q241_29, q241_31, q241_34, q241_37, q241_38, q241_39, q241_42, q241_43, q241_44, q241_45, q241_46, q241_47, q241_50, q241_52, q241_54, q241_57, q241_59, q241_62, q241_63, q241_64, q241_66, q241_68, q241_71, q241_74, q241_75, q241_78, q241_80, m_0 hS, m_K hS, sp_isAsk hS, sp_isBench hS, sp_isSpan, sp_in, sp_refuse_1 hS, sp_refuse_2 hS, sp_refuse_3 hS, sp_refuse_4 hS, sp_refuse_5 hS, sp_refuse_6 hS, as_nil, as_i, as_r, Nat.reduceAdd, Nat.reduceLeDiff, z_eq0, z_eq1, z_or, z_em, Classical.not_not, not_false_eq_true, not_true_eq_false, true_and, and_true, false_and, and_false, and_self, true_implies, false_implies, implies_true, Option.toList_some, Option.toList_none, List.cons_append, List.nil_append, Nat.add_eq_zero_iff, a_nl_i, a_nl_r, a_nl_n, true_or, or_true, eq_self, ok_4, ok_5, ok_6, ok_7, ok_9, ok_10, ok_20, ok_21, ok_24, ok_30, ok_48, ok_50, ok_60, ok_80, ok_120, ok_180, ok_192, ok_200, ok_900, ok_1000, ok_84000, a_sw, ti_0, ti_1, ti_2, ti_3, ti_4, ti_5, ti_6, ti_7, ti_8, ti_9, ti_10, ti_11, ti_12, ti_13, ti_14, ti_15, ti_16, ti_17, ti_18, ti_19, ti_98, ti_99, ti_100, ti_101, ti_102, ti_103, ti_104, ti_105, ti_106, ti_107, ti_108, ti_109, ti_110, ti_111, ti_112, ti_113, ti_114, ti_115, ti_116]
  all_goals grind [ui_ap]

theorem pu_wishh (hS : m_S M K L R) (hF : mFh M c I0 I) (hc : c + 130 ≤ 84000) {a b o : Int32} (hP : ∀ v J, mFh M (c + 120) I0 J → P (some (.int v)) (n, t, K, L, J, R)) : a_does (d + 16) 250 [a_rf M, .int a, .int b, .int o] (n, t, K, L, I, R) P := by
  have hR := hF.1.1
  have g3 := mC_refl hR
  have hL4 : ∀ J, mFh M (c + 4) I0 J → mFh M (c + 120) I0 J := fun J h => mF_leh h (by omega)
  have hL : ∀ J, mFh M c I0 J → mFh M (c + 120) I0 J := fun J h => mF_leh h (by omega)
  have g1 := rg_asks hR
  rw [a_enter1 (M := a_m250) rfl (a_cat_rf (a_cat_int (a_cat_int (a_cat_int a_cat_nil)))) (show 4 ≤ 5 by decide)]
  show a_at _ (a_xm a_m250) 0 [some (a_rf M), some (.int a), some (.int b), some (.int o), none] [] _ _
  repeat' first
    | with_reducible apply And.intro
    | with_reducible assumption
    | with_reducible intro _
    | with_reducible apply hP
    | with_reducible apply hL4 _ (by with_reducible assumption)
    | with_reducible apply hL
    | with_reducible apply sF_isWishh
    | with_reducible apply sF_refusedh
    | simp only [q250_0, q250_1, q250_2, q250_5, q250_8, q250_9, q250_10, q250_13, q250_16, q250_17, q250_18, q250_21, q250_22, q250_23, q250_26, q250_27, q250_28, q250_31, q250_33, q250_34, q250_35, q250_36, q250_37, q250_38, q250_40, q250_41, q250_44, q250_46, q250_47, q250_48, q250_49, q250_50, q250_51, q250_52, q250_54, q250_55, q250_58, q250_59, q250_62, q250_63, m_0 hS, m_K hS, mR_isWish hS, mK_isWish hS, mL_isWish hS, sp_isAsk hS, sp_refuse_1 hS, sp_refuse_2 hS, sp_refuse_3 hS, sp_refuse_4 hS, sp_refuse_5 hS, sp_refuse_6 hS, as_nil, as_i, as_r, Nat.reduceAdd, Nat.reduceLeDiff, z_eq0, z_eq1, z_or, z_em, Classical.not_not, not_false_eq_true, not_true_eq_false, true_and, and_true, false_and, and_false, and_self, true_implies, false_implies, implies_true, Option.toList_some, Option.toList_none, List.cons_append, List.nil_append, Nat.add_eq_zero_iff, a_nl_i, a_nl_r, a_nl_n, true_or, or_true, eq_self, ok_4, ok_5, ok_6, ok_7, ok_9, ok_10, ok_20, ok_21, ok_24, ok_30, ok_48, ok_50, ok_60, ok_80, ok_120, ok_180, ok_192, ok_200, ok_900, ok_1000, ok_84000, a_sw, ti_0, ti_1, ti_2, ti_3, ti_4, ti_5, ti_6, ti_7, ti_8, ti_9, ti_10, ti_11, ti_12, ti_13, ti_14, ti_15, ti_16, ti_17, ti_18, ti_19, ti_98, ti_99, ti_100, ti_101, ti_102, ti_103, ti_104, ti_105, ti_106, ti_107, ti_108, ti_109, ti_110, ti_111, ti_112, ti_113, ti_114, ti_115, ti_116]
  all_goals grind [ui_ap]

end SB

/-! public methods 2 -/
section SC
variable {d n t M c : Nat} {K L : Nat → Nat} {I I0 J J0 J1 J2 : Nat → Nat → Int32} {R : Nat → Nat → Nat} {P : Option Value → AH → Prop}
theorem pu_markh (hS : m_S M K L R) (hF : mFh M c I0 I) (hc : c + 130 ≤ 84000) {r a v : Int32} (hP : ∀ v J, mFh M (c + 120) I0 J → P (some (.int v)) (n, t, K, L, J, R)) : a_does (d + 16) 215 [a_rf M, .int r, .int a, .int v] (n, t, K, L, I, R) P := by
  have hR := hF.1.1
  have g3 := mC_refl hR
  have hL4 : ∀ J, mFh M (c + 4) I0 J → mFh M (c + 120) I0 J := fun J h => mF_leh h (by omega)
  have hL : ∀ J, mFh M c I0 J → mFh M (c + 120) I0 J := fun J h => mF_leh h (by omega)
  have g1 := rg_asks hR
  have g2 := rg_group hR a.toNatClampNeg
  rw [a_enter1 (M := a_m215) rfl (a_cat_rf (a_cat_int (a_cat_int (a_cat_int a_cat_nil)))) (show 4 ≤ 6 by decide)]
  show a_at _ (a_xm a_m215) 0 [some (a_rf M), some (.int r), some (.int a), some (.int v), none, none] [] _ _
  repeat' first
    | with_reducible apply And.intro
    | with_reducible assumption
    | with_reducible intro _
    | with_reducible apply hP
    | with_reducible apply hL4 _ (by with_reducible assumption)
    | with_reducible apply hL
    | with_reducible apply sF_isMarkedh
    | with_reducible apply sF_marksh
    | with_reducible apply sF_doesCounth
    | with_reducible apply sF_grouph
    | with_reducible apply sF_refusedh
    | with_reducible apply lp_mark_27 hS
    | simp only [q215_0, q215_1, q215_4, q215_7, q215_8, q215_9, q215_12, q215_15, q215_16, q215_17, q215_20, q215_21, q215_22, q215_24, q215_25, q215_29, q215_31, q215_34, q215_36, q215_37, q215_40, q215_42, q215_44, q215_45, q215_46, q215_47, q215_48, q215_51, q215_52, q215_55, q215_56, q215_57, q215_59, q215_62, q215_65, q215_66, q215_69, q215_71, q215_72, q215_73, q215_74, q215_75, q215_76, q215_79, q215_81, q215_82, q215_85, q215_86, q215_88, q215_91, q215_92, q215_93, q215_96, q215_97, q215_99, q215_102, q215_103, q215_104, q215_106, q215_109, q215_110, q215_112, q215_115, q215_116, q215_117, q215_120, q215_122, q215_123, q215_124, q215_125, q215_126, q215_127, q215_128, q215_129, q215_132, q215_134, q215_135, q215_136, q215_137, q215_138, q215_139, q215_140, q215_141, q215_144, q215_146, q215_147, q215_148, q215_149, q215_150, q215_151, q215_154, q215_156, q215_157, q215_158, q215_159, q215_162, q215_163, q215_164, q215_165, q215_166, q215_169, q215_170, q215_173, q215_174, q215_175, q215_176, q215_179, q215_181, q215_182, q215_183, q215_184, q215_185, q215_186, q215_189, q215_190, q215_193, q215_194, m_0 hS, m_K hS, mR_isMarked hS, mK_isMarked hS, mL_isMarked hS, mR_marks hS, mK_marks hS, mL_marks hS, mR_doesCount hS, mK_doesCount hS, mL_doesCount hS, mR_isKin hS, mK_isKin hS, mL_isKin hS, mR_group hS, mK_group hS, mL_group hS, sp_isReader, sp_isAsk hS, sp_refuse_1 hS, sp_refuse_2 hS, sp_refuse_3 hS, sp_refuse_4 hS, sp_refuse_5 hS, sp_refuse_6 hS, as_nil, as_i, as_r, Nat.reduceAdd, Nat.reduceLeDiff, z_eq0, z_eq1, z_or, z_em, Classical.not_not, not_false_eq_true, not_true_eq_false, true_and, and_true, false_and, and_false, and_self, true_implies, false_implies, implies_true, Option.toList_some, Option.toList_none, List.cons_append, List.nil_append, Nat.add_eq_zero_iff, a_nl_i, a_nl_r, a_nl_n, true_or, or_true, eq_self, ok_4, ok_5, ok_6, ok_7, ok_9, ok_10, ok_20, ok_21, ok_24, ok_30, ok_48, ok_50, ok_60, ok_80, ok_120, ok_180, ok_192, ok_200, ok_900, ok_1000, ok_84000, a_sw, ti_0, ti_1, ti_2, ti_3, ti_4, ti_5, ti_6, ti_7, ti_8, ti_9, ti_10, ti_11, ti_12, ti_13, ti_14, ti_15, ti_16, ti_17, ti_18, ti_19, ti_98, ti_99, ti_100, ti_101, ti_102, ti_103, ti_104, ti_105, ti_106, ti_107, ti_108, ti_109, ti_110, ti_111, ti_112, ti_113, ti_114, ti_115, ti_116]
  all_goals grind [ui_ap]

end SC

/-! public methods 3 -/
section SD
variable {d n t M c : Nat} {K L : Nat → Nat} {I I0 J J0 J1 J2 : Nat → Nat → Int32} {R : Nat → Nat → Nat} {P : Option Value → AH → Prop}
theorem fr_uih (h : frh M I J) {x k : Nat} {v : Int32} (hx : ¬ eCh M x k) : frh M I (a_ui J x k v) := fun y j hy => by
  rw [ui_ap, if_neg (fun q => hx (by rw [← q.1, ← q.2]; exact hy))]
  exact h y j hy
theorem ask_Fh (h : mFh M c I0 J) {k g l m w p q r s x y : Int32} (ha : J M 17 < 30) (hg : 0 ≤ g ∧ g ≤ 9) (hm : 0 ≤ m ∧ m ≤ 4) (hx : k = 1 → 0 ≤ x ∧ x ≤ 29) : mFh M c I0 (a_ui (a_ui (a_ui (a_ui (a_ui (a_ui (a_ui (a_ui (a_ui (a_ui (a_ui (a_ui (a_ui (a_ui (a_ui J (M + 7) (J M 17).toNatClampNeg k) (M + 8) (J M 17).toNatClampNeg g) (M + 9) (J M 17).toNatClampNeg l) (M + 10) (J M 17).toNatClampNeg m) (M + 11) (J M 17).toNatClampNeg w) (M + 20) (J M 17).toNatClampNeg (-9)) (M + 21) (J M 17).toNatClampNeg (-9)) M 17 (J M 17 + 1)) (M + 12) (J M 17).toNatClampNeg p) (M + 13) (J M 17).toNatClampNeg q) (M + 14) (J M 17).toNatClampNeg r) (M + 15) (J M 17).toNatClampNeg s) (M + 16) (J M 17).toNatClampNeg x) (M + 17) (J M 17).toNatClampNeg y) M 12 0) := by
  have hk := rg_asks h.1.1
  refine ⟨⟨ask_R h.1.1 ha hg hm hx, ?_⟩, ?_⟩
  · repeat refine fr_uih ?_ (by unfold eCh eC; omega)
    exact h.1.2
  · refine mE_add h.2 ?_ ?_ ?_ ?_ ?_ ⟨hk.1, ha⟩ ?_ ?_ ?_ ?_ <;> intros <;> simp only [ui_ap, ne_MM, ne_M0, ne_0M, reduceCtorEq, Nat.reduceEqDiff, false_and, and_false, if_false, true_and, and_self, if_true] <;> (try simp_all)
theorem add_Fh (h : mFh M c I0 J) {g l m w : Int32} (ha : J M 17 < 30) (hg : 0 ≤ g ∧ g ≤ 9) (hm : 0 ≤ m ∧ m ≤ 4) : mFh M c I0 (a_ui (a_ui (a_ui (a_ui (a_ui (a_ui (a_ui (a_ui J (M + 7) (J M 17).toNatClampNeg 5) (M + 8) (J M 17).toNatClampNeg g) (M + 9) (J M 17).toNatClampNeg l) (M + 10) (J M 17).toNatClampNeg m) (M + 11) (J M 17).toNatClampNeg w) (M + 20) (J M 17).toNatClampNeg (-9)) (M + 21) (J M 17).toNatClampNeg (-9)) M 17 (J M 17 + 1)) := by
  have hk := rg_asks h.1.1
  refine ⟨sG_asksh (sG_atShifth (sG_atBenchh (sG_wantsh (sG_lengthh (sG_landh (sG_grouph (sG_kindh h.1 (by grind)) hg)) hm)) (by decide)) (by decide)) (by grind), ?_⟩
  refine mE_add h.2 ?_ ?_ ?_ ?_ ?_ ⟨hk.1, ha⟩ ?_ ?_ ?_ ?_ <;> intros <;> simp only [ui_ap, ne_MM, ne_M0, ne_0M, reduceCtorEq, Nat.reduceEqDiff, false_and, and_false, if_false, true_and, and_self, if_true] <;> (try simp_all)
theorem pu_askh (hS : m_S M K L R) (hF : mFh M c I0 I) (hc : c + 130 ≤ 84000) {k p q r s x y : Int32} (hP : ∀ v J, mFh M (c + 120) I0 J → P (some (.int v)) (n, t, K, L, J, R)) : a_does (d + 16) 181 [a_rf M, .int k, .int p, .int q, .int r, .int s, .int x, .int y] (n, t, K, L, I, R) P := by
  have hR := hF.1.1
  have g3 := mC_refl hR
  have hL4 : ∀ J, mFh M (c + 4) I0 J → mFh M (c + 120) I0 J := fun J h => mF_leh h (by omega)
  have hL : ∀ J, mFh M c I0 J → mFh M (c + 120) I0 J := fun J h => mF_leh h (by omega)
  have g1 := rg_asks hR
  have g4 := rg_draftGroup hR
  have g5 := rg_draftLong hR
  rw [a_enter1 (M := a_m181) rfl (a_cat_rf (a_cat_int (a_cat_int (a_cat_int (a_cat_int (a_cat_int (a_cat_int (a_cat_int a_cat_nil)))))))) (show 8 ≤ 9 by decide)]
  show a_at _ (a_xm a_m181) 0 [some (a_rf M), some (.int k), some (.int p), some (.int q), some (.int r), some (.int s), some (.int x), some (.int y), none] [] _ _
  have h167 : I M 17 < 30 → (k = 1 → 0 ≤ x ∧ x ≤ I M 17 - 1) → a_at (d + 15) (a_xm a_m181) 167 [some (a_rf M), some (.int k), some (.int p), some (.int q), some (.int r), some (.int s), some (.int x), some (.int y), none] [] (n, t, K, L, I, R) P := by
    intro q1 q2
    simp only [q181_167, q181_168, q181_169, q181_170, q181_173, q181_174, q181_177, q181_178, q181_181, q181_182, q181_185, m_0 hS, m_K hS, as_nil, as_i, as_r, Nat.reduceAdd, Nat.reduceLeDiff, z_eq0, z_eq1, z_or, z_em, Classical.not_not, not_false_eq_true, not_true_eq_false, true_and, and_true, false_and, and_false, and_self, true_implies, false_implies, implies_true, Option.toList_some, Option.toList_none, List.cons_append, List.nil_append, Nat.add_eq_zero_iff, a_nl_i, a_nl_r, a_nl_n, true_or, or_true, eq_self, ok_4, ok_5, ok_6, ok_7, ok_9, ok_10, ok_20, ok_21, ok_24, ok_30, ok_48, ok_50, ok_60, ok_80, ok_120, ok_180, ok_192, ok_200, ok_900, ok_1000, ok_84000]
    refine sp_add hS ⟨g1.1, q1⟩ ?_
    simp only [q181_188, q181_190, q181_191, q181_194, q181_196, q181_197, q181_198, q181_199, q181_202, q181_204, q181_205, q181_206, q181_207, q181_210, q181_212, q181_214, q181_215, q181_216, q181_219, q181_221, q181_223, q181_224, q181_225, q181_228, q181_230, q181_232, q181_233, q181_234, q181_237, q181_239, q181_241, q181_242, q181_243, q181_244, q181_247, q181_249, m_0 hS, m_K hS, mR_benchSet hS, mK_benchSet hS, mL_benchSet hS, mR_modeSet hS, mK_modeSet hS, mL_modeSet hS, mR_gear hS, mK_gear hS, mL_gear hS, mR_danger hS, mK_danger hS, mL_danger hS, mR_xOf hS, mK_xOf hS, mL_xOf hS, mR_yOf hS, mK_yOf hS, mL_yOf hS, as_nil, as_i, as_r, Nat.reduceAdd, Nat.reduceLeDiff, z_eq0, z_eq1, z_or, z_em, Classical.not_not, not_false_eq_true, not_true_eq_false, true_and, and_true, false_and, and_false, and_self, true_implies, false_implies, implies_true, Option.toList_some, Option.toList_none, List.cons_append, List.nil_append, Nat.add_eq_zero_iff, a_nl_i, a_nl_r, a_nl_n, true_or, or_true, eq_self, ok_4, ok_5, ok_6, ok_7, ok_9, ok_10, ok_20, ok_21, ok_24, ok_30, ok_48, ok_50, ok_60, ok_80, ok_120, ok_180, ok_192, ok_200, ok_900, ok_1000, ok_84000]
    repeat refine And.intro (by grind) ?_
    exact hP _ _ (hL _ (ask_Fh hF q1 g4 g5 (by grind)))
  repeat' first
    | with_reducible apply And.intro
    | with_reducible assumption
    | with_reducible intro _
    | with_reducible apply hP
    | with_reducible apply hL
    | with_reducible apply sF_refusedh
    | with_reducible apply h167
    | simp only [q181_0, q181_1, q181_4, q181_7, q181_8, q181_10, q181_13, q181_14, q181_15, q181_16, q181_17, q181_20, q181_23, q181_24, q181_26, q181_29, q181_30, q181_31, q181_34, q181_35, q181_38, q181_40, q181_43, q181_44, q181_45, q181_48, q181_50, q181_53, q181_54, q181_55, q181_58, q181_60, q181_63, q181_65, q181_67, q181_70, q181_71, q181_73, q181_76, q181_77, q181_78, q181_80, q181_83, q181_84, q181_86, q181_89, q181_91, q181_93, q181_96, q181_97, q181_98, q181_101, q181_103, q181_105, q181_108, q181_109, q181_110, q181_113, q181_115, q181_118, q181_121, q181_122, q181_125, q181_127, q181_130, q181_131, q181_133, q181_136, q181_137, q181_139, q181_140, q181_141, q181_144, q181_147, q181_148, q181_149, q181_152, q181_153, q181_155, q181_158, q181_161, q181_162, q181_163, q181_166, m_0 hS, m_K hS, sp_refuse_1 hS, sp_refuse_2 hS, sp_refuse_3 hS, sp_refuse_4 hS, sp_refuse_5 hS, sp_refuse_6 hS, sp_in, sp_isAsk hS, as_nil, as_i, as_r, Nat.reduceAdd, Nat.reduceLeDiff, z_eq0, z_eq1, z_or, z_em, Classical.not_not, not_false_eq_true, not_true_eq_false, true_and, and_true, false_and, and_false, and_self, true_implies, false_implies, implies_true, Option.toList_some, Option.toList_none, List.cons_append, List.nil_append, Nat.add_eq_zero_iff, a_nl_i, a_nl_r, a_nl_n, true_or, or_true, eq_self, ok_4, ok_5, ok_6, ok_7, ok_9, ok_10, ok_20, ok_21, ok_24, ok_30, ok_48, ok_50, ok_60, ok_80, ok_120, ok_180, ok_192, ok_200, ok_900, ok_1000, ok_84000]
  all_goals grind [ui_ap]
theorem pu_oweh (hS : m_S M K L R) (hF : mFh M c I0 I) (hc : c + 130 ≤ 84000) {a : Int32} (hP : ∀ v J, mFh M (c + 120) I0 J → P (some (.int v)) (n, t, K, L, J, R)) : a_does (d + 16) 246 [a_rf M, .int a] (n, t, K, L, I, R) P := by
  have hR := hF.1.1
  have g3 := mC_refl hR
  have hL4 : ∀ J, mFh M (c + 4) I0 J → mFh M (c + 120) I0 J := fun J h => mF_leh h (by omega)
  have hL : ∀ J, mFh M c I0 J → mFh M (c + 120) I0 J := fun J h => mF_leh h (by omega)
  have g1 := rg_asks hR
  rw [a_enter1 (M := a_m246) rfl (a_cat_rf (a_cat_int a_cat_nil)) (show 2 ≤ 3 by decide)]
  show a_at _ (a_xm a_m246) 0 [some (a_rf M), some (.int a), none] [] _ _
  have h62 : ∀ J, mFh M c I0 J → 0 ≤ a → a < 30 → ¬ J M 17 = 30 → a_at (d + 15) (a_xm a_m246) 62 [some (a_rf M), some (.int a), none] [] (n, t, K, L, J, R) P := by
    intro J hF q1 q2 q3
    have hR := hF.1.1
    have g1 := rg_asks hR
    simp only [q246_62, q246_63, q246_64, q246_65, q246_68, q246_69, q246_70, q246_71, q246_74, q246_75, q246_76, q246_77, q246_78, m_0 hS, m_K hS, mR_group hS, mK_group hS, mL_group hS, mR_land hS, mK_land hS, mL_land hS, as_nil, as_i, as_r, Nat.reduceAdd, Nat.reduceLeDiff, z_eq0, z_eq1, z_or, z_em, Classical.not_not, not_false_eq_true, not_true_eq_false, true_and, and_true, false_and, and_false, and_self, true_implies, false_implies, implies_true, Option.toList_some, Option.toList_none, List.cons_append, List.nil_append, Nat.add_eq_zero_iff, a_nl_i, a_nl_r, a_nl_n, true_or, or_true, eq_self, ok_4, ok_5, ok_6, ok_7, ok_9, ok_10, ok_20, ok_21, ok_24, ok_30, ok_48, ok_50, ok_60, ok_80, ok_120, ok_180, ok_192, ok_200, ok_900, ok_1000, ok_84000]
    repeat refine And.intro (by grind) ?_
    refine ct_owedOf hS (mC_refl hR) ⟨q1, q2⟩ (fun v J1 c1 z1 => ?_)
    have f1 := mF_Ch hF c1
    have e1 := eS_asks c1
    have e2 := rg_group hR a.toNatClampNeg
    have g6 := rg_asks f1.1.1
    simp only [q246_81, q246_82, q246_85, q246_86, q246_87, m_0 hS, m_K hS, mR_wants hS, mK_wants hS, mL_wants hS, as_nil, as_i, as_r, Nat.reduceAdd, Nat.reduceLeDiff, z_eq0, z_eq1, z_or, z_em, Classical.not_not, not_false_eq_true, not_true_eq_false, true_and, and_true, false_and, and_false, and_self, true_implies, false_implies, implies_true, Option.toList_some, Option.toList_none, List.cons_append, List.nil_append, Nat.add_eq_zero_iff, a_nl_i, a_nl_r, a_nl_n, true_or, or_true, eq_self, ok_4, ok_5, ok_6, ok_7, ok_9, ok_10, ok_20, ok_21, ok_24, ok_30, ok_48, ok_50, ok_60, ok_80, ok_120, ok_180, ok_192, ok_200, ok_900, ok_1000, ok_84000]
    repeat refine And.intro (by grind) ?_
    refine sp_add hS (by grind) ?_
    have f2 := add_Fh (l := J (M + 9) a.toNatClampNeg) (w := J1 (M + 11) a.toNatClampNeg) f1 (by grind) e2 z1
    revert f2
    generalize (a_ui (a_ui (a_ui (a_ui (a_ui (a_ui (a_ui (a_ui J1 (M + 7) (J1 M 17).toNatClampNeg 5) (M + 8) (J1 M 17).toNatClampNeg (J (M + 8) a.toNatClampNeg)) (M + 9) (J1 M 17).toNatClampNeg (J (M + 9) a.toNatClampNeg)) (M + 10) (J1 M 17).toNatClampNeg v) (M + 11) (J1 M 17).toNatClampNeg (J1 (M + 11) a.toNatClampNeg)) (M + 20) (J1 M 17).toNatClampNeg (-9)) (M + 21) (J1 M 17).toNatClampNeg (-9)) M 17 (J1 M 17 + 1)) = J2
    intro f2
    have g7 := rg_asks f2.1.1
    repeat' first
      | with_reducible apply And.intro
      | with_reducible assumption
      | with_reducible intro _
      | with_reducible apply hP
      | with_reducible apply hL
      | with_reducible apply sF_benchSeth
      | with_reducible apply sF_modeSeth
      | with_reducible apply sF_gearh
      | with_reducible apply sF_dangerh
      | with_reducible apply sF_wasOwedh
      | with_reducible apply sF_refusedh
      | simp only [q246_90, q246_91, q246_92, q246_95, q246_96, q246_97, q246_100, q246_101, q246_102, q246_103, q246_104, q246_107, q246_108, q246_109, q246_112, q246_113, q246_114, q246_115, q246_116, q246_119, q246_120, q246_121, q246_124, q246_125, q246_126, q246_127, q246_128, q246_131, q246_132, q246_133, q246_136, q246_137, q246_138, q246_139, q246_140, q246_143, q246_144, q246_145, q246_146, q246_147, m_0 hS, m_K hS, mR_benchSet hS, mK_benchSet hS, mL_benchSet hS, mR_modeSet hS, mK_modeSet hS, mL_modeSet hS, mR_gear hS, mK_gear hS, mL_gear hS, mR_danger hS, mK_danger hS, mL_danger hS, mR_wasOwed hS, mK_wasOwed hS, mL_wasOwed hS, as_nil, as_i, as_r, Nat.reduceAdd, Nat.reduceLeDiff, z_eq0, z_eq1, z_or, z_em, Classical.not_not, not_false_eq_true, not_true_eq_false, true_and, and_true, false_and, and_false, and_self, true_implies, false_implies, implies_true, Option.toList_some, Option.toList_none, List.cons_append, List.nil_append, Nat.add_eq_zero_iff, a_nl_i, a_nl_r, a_nl_n, true_or, or_true, eq_self, ok_4, ok_5, ok_6, ok_7, ok_9, ok_10, ok_20, ok_21, ok_24, ok_30, ok_48, ok_50, ok_60, ok_80, ok_120, ok_180, ok_192, ok_200, ok_900, ok_1000, ok_84000]
    all_goals grind [ui_ap]
  repeat' first
    | with_reducible apply And.intro
    | with_reducible assumption
    | with_reducible intro _
    | with_reducible apply hP
    | with_reducible apply hL
    | with_reducible apply sF_refusedh
    | with_reducible apply h62
    | with_reducible apply ct_lossOf hS
    | with_reducible apply mF_Rh
    | with_reducible apply ct_owedOf hS (mC_refl ?_)
    | with_reducible apply mF_Ch ?_ (by with_reducible assumption)
    | simp only [q246_0, q246_1, q246_2, q246_5, q246_8, q246_9, q246_10, q246_13, q246_14, q246_15, q246_18, q246_19, q246_20, q246_23, q246_24, q246_25, q246_28, q246_31, q246_32, q246_33, q246_36, q246_39, q246_40, q246_42, q246_45, q246_46, q246_47, q246_50, q246_52, q246_55, q246_56, q246_58, q246_61, m_0 hS, m_K hS, mR_wasOwed hS, mK_wasOwed hS, mL_wasOwed hS, sp_isAsk hS, sp_refuse_1 hS, sp_refuse_2 hS, sp_refuse_3 hS, sp_refuse_4 hS, sp_refuse_5 hS, sp_refuse_6 hS, as_nil, as_i, as_r, Nat.reduceAdd, Nat.reduceLeDiff, z_eq0, z_eq1, z_or, z_em, Classical.not_not, not_false_eq_true, not_true_eq_false, true_and, and_true, false_and, and_false, and_self, true_implies, false_implies, implies_true, Option.toList_some, Option.toList_none, List.cons_append, List.nil_append, Nat.add_eq_zero_iff, a_nl_i, a_nl_r, a_nl_n, true_or, or_true, eq_self, ok_4, ok_5, ok_6, ok_7, ok_9, ok_10, ok_20, ok_21, ok_24, ok_30, ok_48, ok_50, ok_60, ok_80, ok_120, ok_180, ok_192, ok_200, ok_900, ok_1000, ok_84000]
  all_goals grind [ui_ap]
end SD

/-! the best, the public method -/
section SH
variable {d n t M c : Nat} {K L : Nat → Nat} {I I0 J J0 J1 J2 : Nat → Nat → Int32} {R : Nat → Nat → Nat} {P : Option Value → AH → Prop}
theorem ct_findBesth (hS : m_S M K L R) (hF : mFh M c I0 I) {f e : Int32} (hf : 0 ≤ f ∧ f ≤ 199) (he : e ≤ 199) (hfe : f ≤ e) (he7 : e - f ≤ 7) (hfm : 0 ≤ I M 66 ∧ I M 66 ≤ 4) (hd : ∀ k l : Int32, 0 ≤ k → k < I M 66 → 0 ≤ l → l < I M 66 → (I (M + 41) k.toNatClampNeg).toNatClampNeg = (I (M + 41) l.toNatClampNeg).toNatClampNeg → k = l) (hu : ∀ k : Int32, 0 ≤ k → k < I M 66 → ¬ 0 ≤ I (M + 20) (I (M + 41) k.toNatClampNeg).toNatClampNeg) (hP : ∀ v J, mFh M c I0 J → J M 66 = I M 66 → P (some (.int v)) (n, t, K, L, J, R)) : a_does (d + 11) 243 [a_rf M, .int f, .int e] (n, t, K, L, I, R) P := by
  have hR := hF.1.1
  have g1 := rg_benches hR
  have hpl : 0 ≤ (e - f + 1) * I M 6 ∧ (e - f + 1) * I M 6 ≤ 48 ∧ (I M 6 = 0 → (e - f + 1) * I M 6 = 0) := by
    generalize I M 6 = b at g1
    have : b = 0 ∨ b = 1 ∨ b = 2 ∨ b = 3 ∨ b = 4 ∨ b = 5 ∨ b = 6 := by grind
    rcases this with h | h | h | h | h | h | h <;> subst h <;> grind
  rw [a_enter1 (M := a_m243) rfl (a_cat_rf (a_cat_int (a_cat_int a_cat_nil))) (show 3 ≤ 10 by decide)]
  show a_at _ (a_xm a_m243) 0 [some (a_rf M), some (.int f), some (.int e), none, none, none, none, none, none, none] [] _ _
  simp only [q243_0, q243_1, q243_2, q243_3, q243_4, q243_5, q243_6, q243_9, q243_10, q243_11, q243_12, q243_14, q243_15, q243_17, q243_18, q243_21, q243_22, q243_23, q243_24, q243_25, q243_28, q243_29, q243_30, m_0 hS, m_K hS, mR_sumTo hS, mK_sumTo hS, mL_sumTo hS, mR_way hS, mK_way hS, mL_way hS, as_nil, as_i, as_r, Nat.reduceAdd, Nat.reduceLeDiff, z_eq0, z_eq1, z_or, z_em, Classical.not_not, not_false_eq_true, not_true_eq_false, true_and, and_true, false_and, and_false, and_self, true_implies, false_implies, implies_true, Option.toList_some, Option.toList_none, List.cons_append, List.nil_append, Nat.add_eq_zero_iff, a_nl_i, a_nl_r, a_nl_n, true_or, or_true, eq_self, ok_4, ok_5, ok_6, ok_7, ok_9, ok_10, ok_20, ok_21, ok_24, ok_30, ok_48, ok_50, ok_60, ok_80, ok_120, ok_180, ok_192, ok_200, ok_900, ok_1000, ok_84000]
  repeat refine And.intro (by grind) ?_
  generalize (e - f + 1) * I M 6 = pl at hpl
  have hb0 : bF M I (a_ui (a_ui I (M + 43) (Int32.toNatClampNeg 0) 0) (M + 42) (Int32.toNatClampNeg 0) (-1)) := bF_ui (bF_ui bF_refl (by omega)) (by omega)
  have hr0 : mR M (a_ui (a_ui I (M + 43) (Int32.toNatClampNeg 0) 0) (M + 42) (Int32.toNatClampNeg 0) (-1)) := sR_way (sR_sumTo hR)
  have hw0 : (a_ui (a_ui I (M + 43) (Int32.toNatClampNeg 0) 0) (M + 42) (Int32.toNatClampNeg 0) (-1)) (M + 42) (Int32.toNatClampNeg 0) = -1 := by simp [ui_ap]
  have hab : ∀ j, (a_ui (a_ui I (M + 43) (Int32.toNatClampNeg 0) 0) (M + 42) (Int32.toNatClampNeg 0) (-1)) (M + 20) j = I (M + 20) j := fun j => by simp [ui_ap]
  refine lp_findBest_31 hS (I := I) hf he ⟨hpl.1, hpl.2.1⟩ hpl.2.2 hfm hd (fun v J hb => ?_) _ _ _ _ _ _ _ _ (Nat.lt_succ_self _) ⟨by decide, hfm.1⟩ ⟨hr0, hb0, fun k p1 p2 p3 => ?_, fun k p1 p2 => ?_, fun k p1 p2 => ?_⟩
  · obtain ⟨b1, b2, b3, b4, b5⟩ := hb
    refine hP v J ⟨⟨b1, fun x j hx => ?_⟩, mE_fw hF.2 b2 (fun j ⟨k, p1, p2, p3⟩ p4 => ?_)⟩ (bF_fewMany b2)
    · rw [b2 x j (by unfold eCh eC at hx; unfold sC; omega) (by unfold eCh eC at hx; omega) (by unfold eCh eC at hx; omega) (by unfold eCh eC at hx; omega) (by unfold eCh eC at hx; omega) (by unfold eCh eC at hx; omega)]
      exact hF.1.2 x j hx
    · subst p3
      have := (b3 k p1 p2 p4).1
      grind
  · rw [hab] at p3; exact absurd p3 (hu k p1 p2)
  · have : k = 0 := by grind
    subst this
    rw [hw0]
    exact ⟨by decide, by grind⟩
  · grind
def bWh (M c : Nat) (I0 I J : Nat → Nat → Int32) (s k : Int32) : Prop := mFh M c I0 J ∧ k ≤ J M 17 ∧ (J M 66).toInt = (pn k.toNatClampNeg s.toInt.toNat : Nat) ∧ (∀ x : Int32, 0 ≤ x → x < J M 66 → J (M + 41) x.toNatClampNeg < k ∧ ¬ 0 ≤ J (M + 20) (J (M + 41) x.toNatClampNeg).toNatClampNeg) ∧ (∀ x y : Int32, 0 ≤ x → x < y → y < J M 66 → J (M + 41) x.toNatClampNeg < J (M + 41) y.toNatClampNeg)
theorem lp_best_99h (hS : m_S M K L R) {s f e a : Int32} (hs : 0 ≤ s) (h4 : pn 31 s.toInt.toNat ≤ 4) (hX : ∀ v J, mFh M c I0 J → P (some (.int v)) (n, t, K, L, J, R)) (hN : ∀ J k, bWh M c I0 I J s k → J M 66 ≤ 4 → a_at (d + 11) (a_xm a_m242) 171 [some (a_rf M), some (.int f), some (.int e), some (.int s), some (.int a), some (.int k), none, none, none] [] (n, t, K, L, J, R) P) : ∀ k : Int32, k ≤ 30 → ∀ J, 0 ≤ k → bWh M c I0 I J s k → a_at (d + 11) (a_xm a_m242) 99 [some (a_rf M), some (.int f), some (.int e), some (.int s), some (.int a), some (.int k), none, none, none] [] (n, t, K, L, J, R) P := by
  refine up_ind 30 (fun k hk ih => ?_)
  intro J h0 hw
  obtain ⟨w1, w2, w3, w4, w5⟩ := id hw
  have hR := w1.1.1
  have g1 := rg_asks hR
  have k30 : k.toInt.toNat ≤ 30 := by
    have h1 := Int32.le_iff_toInt_le.mp h0
    have h2 := Int32.le_iff_toInt_le.mp hk
    simp at h1 h2
    omega
  have hp1 := pn_le k.toNatClampNeg 31 s.toInt.toNat (by show k.toInt.toNat ≤ 31; omega)
  have hf4 : 0 ≤ J M 66 ∧ J M 66 ≤ 4 := by
    rw [Int32.le_iff_toInt_le, Int32.le_iff_toInt_le, w3]
    have : (4 : Int32).toInt = 4 := rfl
    have : (0 : Int32).toInt = 0 := rfl
    omega
  rw [q242_99]
  simp only [q242_101, q242_102, q242_105, q242_108, q242_109, q242_111, q242_112, q242_113, q242_114, q242_115, m_0 hS, m_K hS, as_nil, as_i, as_r, Nat.reduceAdd, Nat.reduceLeDiff, z_eq0, z_eq1, z_or, z_em, Classical.not_not, not_false_eq_true, not_true_eq_false, true_and, and_true, false_and, and_false, and_self, true_implies, false_implies, implies_true, Option.toList_some, Option.toList_none, List.cons_append, List.nil_append, Nat.add_eq_zero_iff, a_nl_i, a_nl_r, a_nl_n, true_or, or_true, eq_self, ok_4, ok_5, ok_6, ok_7, ok_9, ok_10, ok_20, ok_21, ok_24, ok_30, ok_48, ok_50, ok_60, ok_80, ok_120, ok_180, ok_192, ok_200, ok_900, ok_1000, ok_84000]
  refine ⟨fun h => hN J k hw hf4.2, fun h => ?_⟩
  have hk30 : k < 30 := by grind
  have kn : k.toInt = (k.toNatClampNeg : Nat) := by
    have h1 := Int32.le_iff_toInt_le.mp h0
    simp at h1
    show k.toInt = (k.toInt.toNat : Nat)
    omega
  have kl : k.toNatClampNeg < 30 := (show k.toNatClampNeg < (30 : Int32).toNatClampNeg from cl_lt h0 hk30)
  have hbit := bit_at s hs k.toNatClampNeg kl k kn
  have hst := pn_step k.toNatClampNeg s.toInt.toNat
  have hcu := cl_up h0 (by grind)
  have hp2 := pn_le (k + 1).toNatClampNeg 31 s.toInt.toNat (by rw [hcu]; omega)
  rw [hcu] at hp2
  refine ⟨fun hb => ?_, fun hb => ?_⟩
  · have hbit2 : s.toInt.toNat / 2 ^ k.toNatClampNeg % 2 = 0 := by
      have : s.toInt.toNat / 2 ^ k.toNatClampNeg % 2 = 0 ∨ s.toInt.toNat / 2 ^ k.toNatClampNeg % 2 = 1 := by omega
      rcases this with h | h
      · exact h
      · refine absurd (Int32.toInt_inj.mp ?_) hb
        rw [hbit, h]
        rfl
    simp only [q242_165, q242_168, as_nil, as_i, as_r, Nat.reduceAdd, Nat.reduceLeDiff, z_eq0, z_eq1, z_or, z_em, Classical.not_not, not_false_eq_true, not_true_eq_false, true_and, and_true, false_and, and_false, and_self, true_implies, false_implies, implies_true, Option.toList_some, Option.toList_none, List.cons_append, List.nil_append, Nat.add_eq_zero_iff, a_nl_i, a_nl_r, a_nl_n, true_or, or_true, eq_self, ok_4, ok_5, ok_6, ok_7, ok_9, ok_10, ok_20, ok_21, ok_24, ok_30, ok_48, ok_50, ok_60, ok_80, ok_120, ok_180, ok_192, ok_200, ok_900, ok_1000, ok_84000]
    refine ih (by grind) J (by grind) ⟨w1, by grind, ?_, fun x p1 p2 => ?_, w5⟩
    · rw [hcu, hst, hbit2, w3]
      simp
    · have := w4 x p1 p2
      exact ⟨by grind, this.2⟩
  · simp only [q242_118, q242_119, q242_121, q242_124, q242_127, q242_128, q242_131, q242_133, q242_134, q242_137, q242_138, q242_140, q242_143, q242_144, q242_145, q242_148, q242_149, q242_152, q242_154, q242_155, q242_156, q242_157, q242_160, q242_161, q242_162, q242_165, q242_168, m_0 hS, m_K hS, mR_isGone hS, mK_isGone hS, mL_isGone hS, mR_few hS, mK_few hS, mL_few hS, sp_hasPlace hS, sp_refuse_1 hS, sp_refuse_2 hS, sp_refuse_3 hS, sp_refuse_4 hS, sp_refuse_5 hS, sp_refuse_6 hS, as_nil, as_i, as_r, Nat.reduceAdd, Nat.reduceLeDiff, z_eq0, z_eq1, z_or, z_em, Classical.not_not, not_false_eq_true, not_true_eq_false, true_and, and_true, false_and, and_false, and_self, true_implies, false_implies, implies_true, Option.toList_some, Option.toList_none, List.cons_append, List.nil_append, Nat.add_eq_zero_iff, a_nl_i, a_nl_r, a_nl_n, true_or, or_true, eq_self, ok_4, ok_5, ok_6, ok_7, ok_9, ok_10, ok_20, ok_21, ok_24, ok_30, ok_48, ok_50, ok_60, ok_80, ok_120, ok_180, ok_192, ok_200, ok_900, ok_1000, ok_84000, ui_ap, ne_MM, ne_M0, ne_0M, Nat.reduceEqDiff, reduceIte, if_true, if_false]
    rw [hb] at hbit
    have hbit2 : s.toInt.toNat / 2 ^ k.toNatClampNeg % 2 = 1 := by
      have : (1 : Int32).toInt = 1 := rfl
      omega
    have hf3 : J M 66 < 4 := by
      rw [Int32.lt_iff_toInt_lt, w3]
      have : (4 : Int32).toInt = 4 := rfl
      omega
    have hnx : ¬ 0 ≤ J (M + 20) k.toNatClampNeg → bWh M c I0 I (a_ui (a_ui J (M + 41) (J M 66).toNatClampNeg k) M 66 (J M 66 + 1)) s (k + 1) := by
      intro hno
      have e1 : ∀ x : Int32, 0 ≤ x → x < J M 66 → ¬ x.toNatClampNeg = (J M 66).toNatClampNeg := fun x p1 p2 p3 => by
        have := cl_inj p1 hf4.1 p3
        grind
      refine ⟨sF_fewManyh (sF_fewh w1 (by grind)), ?_, ?_, fun x p1 p2 => ?_, fun x y p1 p2 p3 => ?_⟩
      · simp only [ui_ap, ne_MM, ne_M0, ne_0M, Nat.reduceEqDiff, reduceIte, if_true, if_false, and_self, false_and, and_false]
        grind
      · simp only [ui_ap, ne_MM, ne_M0, ne_0M, Nat.reduceEqDiff, reduceIte, if_true, if_false, and_self, false_and, and_false]
        rw [hcu, hst, hbit2]
        exact ti_up w3 (by omega)
      · simp only [ui_ap, ne_MM, ne_M0, ne_0M, Nat.reduceEqDiff, reduceIte, if_true, if_false, and_self, false_and, and_false, true_and] at p2 ⊢
        by_cases hx : x = J M 66
        · subst hx
          rw [if_pos rfl]
          exact ⟨by grind, hno⟩
        · rw [if_neg (e1 x p1 (by grind))]
          have := w4 x p1 (by grind)
          exact ⟨by grind, this.2⟩
      · simp only [ui_ap, ne_MM, ne_M0, ne_0M, Nat.reduceEqDiff, reduceIte, if_true, if_false, and_self, false_and, and_false, true_and] at p3 ⊢
        rw [if_neg (e1 x p1 (by grind))]
        by_cases hy : y = J M 66
        · subst hy
          rw [if_pos rfl]
          exact (w4 x p1 p2).1
        · rw [if_neg (e1 y (by grind) (by grind))]
          exact w5 x y p1 p2 (by grind)
    repeat' first
      | with_reducible apply And.intro
      | with_reducible assumption
      | with_reducible intro _
      | with_reducible apply hX
      | with_reducible apply sF_refusedh
      | with_reducible apply ih
      | with_reducible apply hnx
    all_goals grind [ui_ap]
theorem lp_best_195h (hS : m_S M K L R) {s f e a z : Int32} (hF : mFh M c I0 J) (hfm : J M 66 ≤ 4) (hP : ∀ v, P (some (.int v)) (n, t, K, L, J, R)) : ∀ i : Int32, i ≤ 4 → ∀ y u, 0 ≤ i → a_at (d + 11) (a_xm a_m242) 195 [some (a_rf M), some (.int f), some (.int e), some (.int s), some (.int a), some (.int z), some (.int y), some (.int i), u] [] (n, t, K, L, J, R) P := by
  refine up_ind 4 (fun i hi ih => ?_)
  intro y u h0
  have g1 := rg_benches hF.1.1
  have g2 := rg_bestWay hF.1.1 i.toNatClampNeg
  have g3 : J M 6 = 0 → (e - f + 1) * J M 6 = 0 := fun h => by rw [h]; exact Int32.mul_zero
  rw [q242_195]
  repeat' first
    | with_reducible apply And.intro
    | with_reducible assumption
    | with_reducible intro _
    | with_reducible apply ih
    | with_reducible apply hP
    | simp only [q242_197, q242_198, q242_201, q242_204, q242_205, q242_208, q242_210, q242_211, q242_213, q242_216, q242_217, q242_220, q242_222, q242_223, q242_224, q242_225, q242_226, q242_227, q242_228, q242_229, q242_232, q242_233, q242_236, q242_237, q242_240, q242_241, q242_243, q242_245, q242_248, q242_250, q242_251, q242_252, q242_255, q242_257, q242_258, q242_259, q242_262, q242_263, q242_264, q242_265, q242_266, q242_269, q242_271, q242_272, q242_273, q242_276, q242_277, q242_278, q242_281, q242_283, q242_285, q242_288, q242_291, q242_293, m_0 hS, m_K hS, mR_few hS, mK_few hS, mL_few hS, mR_bestWay hS, mK_bestWay hS, mL_bestWay hS, as_nil, as_i, as_r, Nat.reduceAdd, Nat.reduceLeDiff, z_eq0, z_eq1, z_or, z_em, Classical.not_not, not_false_eq_true, not_true_eq_false, true_and, and_true, false_and, and_false, and_self, true_implies, false_implies, implies_true, Option.toList_some, Option.toList_none, List.cons_append, List.nil_append, Nat.add_eq_zero_iff, a_nl_i, a_nl_r, a_nl_n, true_or, or_true, eq_self, ok_4, ok_5, ok_6, ok_7, ok_9, ok_10, ok_20, ok_21, ok_24, ok_30, ok_48, ok_50, ok_60, ok_80, ok_120, ok_180, ok_192, ok_200, ok_900, ok_1000, ok_84000]
  all_goals grind [ui_ap]
theorem pu_besth (hS : m_S M K L R) (hF : mFh M c I0 I) (hc : c + 130 ≤ 84000) {a b s w : Int32} (hP : ∀ v J, mFh M (c + 120) I0 J → P (some (.int v)) (n, t, K, L, J, R)) : a_does (d + 16) 242 [a_rf M, .int a, .int b, .int s, .int w] (n, t, K, L, I, R) P := by
  have hR := hF.1.1
  have g3 := mC_refl hR
  have hL4 : ∀ J, mFh M (c + 4) I0 J → mFh M (c + 120) I0 J := fun J h => mF_leh h (by omega)
  have hL : ∀ J, mFh M c I0 J → mFh M (c + 120) I0 J := fun J h => mF_leh h (by omega)
  have g1 := rg_asks hR
  rw [a_enter1 (M := a_m242) rfl (a_cat_rf (a_cat_int (a_cat_int (a_cat_int (a_cat_int a_cat_nil))))) (show 5 ≤ 9 by decide)]
  show a_at _ (a_xm a_m242) 0 [some (a_rf M), some (.int a), some (.int b), some (.int s), some (.int w), none, none, none, none] [] _ _
  have h91 : (0 ≤ a ∧ a ≤ 199) → (0 ≤ b ∧ b ≤ 199) → a ≤ b → b - a ≤ 7 → 0 ≤ s → pn 31 s.toInt.toNat ≤ 4 → a_at (d + 15) (a_xm a_m242) 91 [some (a_rf M), some (.int a), some (.int b), some (.int s), some (.int w), none, none, none, none] [] (n, t, K, L, I, R) P := by
    intro q1 q2 q3 q4 q5 q6
    simp only [q242_91, q242_92, q242_93, q242_96, q242_97, m_0 hS, m_K hS, as_nil, as_i, as_r, Nat.reduceAdd, Nat.reduceLeDiff, z_eq0, z_eq1, z_or, z_em, Classical.not_not, not_false_eq_true, not_true_eq_false, true_and, and_true, false_and, and_false, and_self, true_implies, false_implies, implies_true, Option.toList_some, Option.toList_none, List.cons_append, List.nil_append, Nat.add_eq_zero_iff, a_nl_i, a_nl_r, a_nl_n, true_or, or_true, eq_self, ok_4, ok_5, ok_6, ok_7, ok_9, ok_10, ok_20, ok_21, ok_24, ok_30, ok_48, ok_50, ok_60, ok_80, ok_120, ok_180, ok_192, ok_200, ok_900, ok_1000, ok_84000]
    refine lp_best_99h (d := d + 4) hS (I := I) (c := c) (I0 := I0) q5 q6 (fun v J h => hP v J (hL J h)) (fun J k hw h4 => ?_) 0 (by decide) _ (by decide) ⟨sF_fewManyh hF, ?_, ?_, fun x p1 p2 => ?_, fun x y p1 p2 p3 => ?_⟩
    · obtain ⟨w1, w2, w3, w4, w5⟩ := hw
      have hf0 : 0 ≤ J M 66 := by
        rw [Int32.le_iff_toInt_le, w3]
        have : (0 : Int32).toInt = 0 := rfl
        omega
      simp only [q242_171, q242_172, q242_173, q242_174, m_0 hS, m_K hS, as_nil, as_i, as_r, Nat.reduceAdd, Nat.reduceLeDiff, z_eq0, z_eq1, z_or, z_em, Classical.not_not, not_false_eq_true, not_true_eq_false, true_and, and_true, false_and, and_false, and_self, true_implies, false_implies, implies_true, Option.toList_some, Option.toList_none, List.cons_append, List.nil_append, Nat.add_eq_zero_iff, a_nl_i, a_nl_r, a_nl_n, true_or, or_true, eq_self, ok_4, ok_5, ok_6, ok_7, ok_9, ok_10, ok_20, ok_21, ok_24, ok_30, ok_48, ok_50, ok_60, ok_80, ok_120, ok_180, ok_192, ok_200, ok_900, ok_1000, ok_84000]
      refine ct_findBesth (d := d + 4) hS (I0 := I0) (c := c) w1 q1 q2.2 q3 q4 ⟨hf0, h4⟩ (fun k l p1 p2 p3 p4 p5 => ?_) (fun k p1 p2 => (w4 k p1 p2).2) (fun v J2 f2 e2 => ?_)
      · have r1 := rg_few w1.1.1 k.toNatClampNeg
        have r2 := rg_few w1.1.1 l.toNatClampNeg
        have r3 := cl_inj r1.1 r2.1 p5
        by_cases hkl : k < l
        · have := w5 k l p1 hkl p4; grind
        · by_cases hlk : l < k
          · have := w5 l k p3 hlk p2; grind
          · grind
      · simp only [q242_177, q242_179, q242_181, q242_182, q242_185, q242_187, q242_188, q242_190, q242_192, q242_193, as_nil, as_i, as_r, Nat.reduceAdd, Nat.reduceLeDiff, z_eq0, z_eq1, z_or, z_em, Classical.not_not, not_false_eq_true, not_true_eq_false, true_and, and_true, false_and, and_false, and_self, true_implies, false_implies, implies_true, Option.toList_some, Option.toList_none, List.cons_append, List.nil_append, Nat.add_eq_zero_iff, a_nl_i, a_nl_r, a_nl_n, true_or, or_true, eq_self, ok_4, ok_5, ok_6, ok_7, ok_9, ok_10, ok_20, ok_21, ok_24, ok_30, ok_48, ok_50, ok_60, ok_80, ok_120, ok_180, ok_192, ok_200, ok_900, ok_1000, ok_84000]
        refine ⟨fun _ => ?_, fun _ => hP v J2 (hL J2 f2)⟩
        exact lp_best_195h (d := d + 4) hS f2 (by rw [e2]; exact h4) (fun v => hP v J2 (hL J2 f2)) 0 (by decide) _ _ (by decide)
    · simp only [ui_ap, ne_MM, ne_M0, ne_0M, Nat.reduceEqDiff, reduceIte, if_true, if_false, and_self, false_and, and_false]
      exact g1.1
    · simp only [ui_ap, ne_MM, ne_M0, ne_0M, Nat.reduceEqDiff, reduceIte, if_true, if_false, and_self, false_and, and_false]
      rfl
    · simp only [ui_ap, ne_MM, ne_M0, ne_0M, Nat.reduceEqDiff, reduceIte, if_true, if_false, and_self, false_and, and_false] at p2
      grind
    · simp only [ui_ap, ne_MM, ne_M0, ne_0M, Nat.reduceEqDiff, reduceIte, if_true, if_false, and_self, false_and, and_false] at p3
      grind
  have h76 : (0 ≤ a ∧ a ≤ 199) → (0 ≤ b ∧ b ≤ 199) → a ≤ b → b - a ≤ 7 → 0 ≤ s → a_at (d + 15) (a_xm a_m242) 76 [some (a_rf M), some (.int a), some (.int b), some (.int s), some (.int w), none, none, none, none] [] (n, t, K, L, I, R) P := by
    intro q1 q2 q3 q4 q5
    simp only [q242_76, q242_77, as_nil, as_i, as_r, Nat.reduceAdd, Nat.reduceLeDiff, z_eq0, z_eq1, z_or, z_em, Classical.not_not, not_false_eq_true, not_true_eq_false, true_and, and_true, false_and, and_false, and_self, true_implies, false_implies, implies_true, Option.toList_some, Option.toList_none, List.cons_append, List.nil_append, Nat.add_eq_zero_iff, a_nl_i, a_nl_r, a_nl_n, true_or, or_true, eq_self, ok_4, ok_5, ok_6, ok_7, ok_9, ok_10, ok_20, ok_21, ok_24, ok_30, ok_48, ok_50, ok_60, ok_80, ok_120, ok_180, ok_192, ok_200, ok_900, ok_1000, ok_84000]
    refine ct_onesB q5 (fun v hv => ?_)
    simp only [q242_80, q242_81, q242_84, q242_85, q242_87, q242_90, m_0 hS, m_K hS, sp_refuse_1 hS, sp_refuse_2 hS, sp_refuse_3 hS, sp_refuse_4 hS, sp_refuse_5 hS, sp_refuse_6 hS, as_nil, as_i, as_r, Nat.reduceAdd, Nat.reduceLeDiff, z_eq0, z_eq1, z_or, z_em, Classical.not_not, not_false_eq_true, not_true_eq_false, true_and, and_true, false_and, and_false, and_self, true_implies, false_implies, implies_true, Option.toList_some, Option.toList_none, List.cons_append, List.nil_append, Nat.add_eq_zero_iff, a_nl_i, a_nl_r, a_nl_n, true_or, or_true, eq_self, ok_4, ok_5, ok_6, ok_7, ok_9, ok_10, ok_20, ok_21, ok_24, ok_30, ok_48, ok_50, ok_60, ok_80, ok_120, ok_180, ok_192, ok_200, ok_900, ok_1000, ok_84000]
    refine ⟨fun h => h91 q1 q2 q3 q4 q5 ?_, fun h => hP _ _ (hL _ (sF_refusedh hF))⟩
    have := Int32.le_iff_toInt_le.mp h
    have h4 : (4 : Int32).toInt = 4 := rfl
    omega
  repeat' first
    | with_reducible apply And.intro
    | with_reducible assumption
    | with_reducible intro _
    | with_reducible apply hP
    | with_reducible apply hL
    | with_reducible apply sF_refusedh
    | with_reducible apply h76
    | simp only [q242_0, q242_1, q242_2, q242_5, q242_8, q242_9, q242_12, q242_13, q242_14, q242_15, q242_18, q242_19, q242_22, q242_23, q242_24, q242_27, q242_28, q242_30, q242_31, q242_34, q242_35, q242_37, q242_40, q242_41, q242_43, q242_46, q242_48, q242_50, q242_53, q242_54, q242_56, q242_57, q242_58, q242_59, q242_62, q242_63, q242_64, q242_67, q242_68, q242_69, q242_70, q242_71, q242_73, q242_84, q242_85, q242_87, q242_90, m_0 hS, m_K hS, sp_isSpan, sp_refuse_1 hS, sp_refuse_2 hS, sp_refuse_3 hS, sp_refuse_4 hS, sp_refuse_5 hS, sp_refuse_6 hS, as_nil, as_i, as_r, Nat.reduceAdd, Nat.reduceLeDiff, z_eq0, z_eq1, z_or, z_em, Classical.not_not, not_false_eq_true, not_true_eq_false, true_and, and_true, false_and, and_false, and_self, true_implies, false_implies, implies_true, Option.toList_some, Option.toList_none, List.cons_append, List.nil_append, Nat.add_eq_zero_iff, a_nl_i, a_nl_r, a_nl_n, true_or, or_true, eq_self, ok_4, ok_5, ok_6, ok_7, ok_9, ok_10, ok_20, ok_21, ok_24, ok_30, ok_48, ok_50, ok_60, ok_80, ok_120, ok_180, ok_192, ok_200, ok_900, ok_1000, ok_84000]
  all_goals grind [ui_ap]
end SH

/-! rings -/
section SI
variable {d n t M c : Nat} {K L : Nat → Nat} {I I0 J J0 J1 J2 : Nat → Nat → Int32} {R : Nat → Nat → Nat} {P : Option Value → AH → Prop}
theorem mF_Qh (hF : mFh M c I0 I) (h : rQ M I J) : mFh M c I0 J := by
  have e : ∀ x j, ¬ sC M x j → ¬ x = (M + 22) → ¬ x = (M + 49) → ¬ x = (M + 50) → ¬ x = (M + 51) → J x j = I x j := h.2
  refine ⟨⟨h.1, fun x j hx => ?_⟩, mE_eq hF.2 ?_ ?_ ?_ ?_ ?_ ?_ ?_ ?_⟩
  · rw [e x j (by unfold eCh eC at hx; unfold sC; omega) (by unfold eCh eC at hx; omega) (by unfold eCh eC at hx; omega) (by unfold eCh eC at hx; omega) (by unfold eCh eC at hx; omega)]
    exact hF.1.2 x j hx
  all_goals intros; exact e _ _ (by unfold sC; omega) (by omega) (by omega) (by omega) (by omega)
def fIh (M c : Nat) (I0 : Nat → Nat → Int32) (A : Int32) (J : Nat → Nat → Int32) (i : Int32) : Prop := mFh M c I0 J ∧ J M 17 = A ∧ (∀ k : Int32, 0 ≤ k → k < i → (0 ≤ J (M + 48) k.toNatClampNeg ∧ J (M + 48) k.toNatClampNeg < A) ∧ 0 ≤ J (M + 20) (J (M + 48) k.toNatClampNeg).toNatClampNeg) ∧ (∀ k l : Int32, 0 ≤ k → k < l → l < i → ¬ J (M + 48) k.toNatClampNeg = J (M + 48) l.toNatClampNeg)
theorem lp_findRing_29h (hS : m_S M K L R) {A m i : Int32} (h : fIh M c I0 A J i) (hA : A ≤ 30) (hi : 0 ≤ i ∧ i ≤ 4) (hN : ∀ a, 0 ≤ a → a ≤ A → J (M + 48) i.toNatClampNeg < a → (a < A → 0 ≤ J (M + 20) a.toNatClampNeg ∧ ∀ k : Int32, 0 ≤ k → k < i → ¬ J (M + 48) k.toNatClampNeg = a) → a_at (d + 11) (a_xm a_m252) 52 [some (a_rf M), some (.int m), some (.int i), some (.int a)] [] (n, t, K, L, J, R) P) : ∀ a : Int32, a ≤ 30 → 0 ≤ a → a ≤ A → J (M + 48) i.toNatClampNeg < a → a_at (d + 11) (a_xm a_m252) 29 [some (a_rf M), some (.int m), some (.int i), some (.int a)] [] (n, t, K, L, J, R) P := by
  refine up_ind 30 (fun a ha ih => ?_)
  intro h0 haA hlt
  obtain ⟨f1, f2, f3, f4⟩ := id h
  rw [q252_29]
  simp only [q252_30, q252_31, q252_34, q252_37, q252_38, q252_39, q252_40, m_0 hS, m_K hS, as_nil, as_i, as_r, Nat.reduceAdd, Nat.reduceLeDiff, z_eq0, z_eq1, z_or, z_em, Classical.not_not, not_false_eq_true, not_true_eq_false, true_and, and_true, false_and, and_false, and_self, true_implies, false_implies, implies_true, Option.toList_some, Option.toList_none, List.cons_append, List.nil_append, Nat.add_eq_zero_iff, a_nl_i, a_nl_r, a_nl_n, true_or, or_true, eq_self, ok_4, ok_5, ok_6, ok_7, ok_9, ok_10, ok_20, ok_21, ok_24, ok_30, ok_48, ok_50, ok_60, ok_80, ok_120, ok_180, ok_192, ok_200, ok_900, ok_1000, ok_84000, f2]
  refine ⟨fun h1 => hN a h0 haA hlt (fun h2 => by grind), fun h1 => ?_⟩
  refine ct_mayBeNext (d := d + 9) hS f1.1.1 (by grind) (by grind) (fun k p1 p2 => by have := f3 k p1 p2; grind) (fun v hv => ?_)
  simp only [q252_43, q252_46, q252_49, as_nil, as_i, as_r, Nat.reduceAdd, Nat.reduceLeDiff, z_eq0, z_eq1, z_or, z_em, Classical.not_not, not_false_eq_true, not_true_eq_false, true_and, and_true, false_and, and_false, and_self, true_implies, false_implies, implies_true, Option.toList_some, Option.toList_none, List.cons_append, List.nil_append, Nat.add_eq_zero_iff, a_nl_i, a_nl_r, a_nl_n, true_or, or_true, eq_self, ok_4, ok_5, ok_6, ok_7, ok_9, ok_10, ok_20, ok_21, ok_24, ok_30, ok_48, ok_50, ok_60, ok_80, ok_120, ok_180, ok_192, ok_200, ok_900, ok_1000, ok_84000]
  refine ⟨fun h2 => hN a h0 haA hlt (fun _ => hv h2), fun h2 => ih (by grind) (by grind) (by grind) (by grind)⟩
theorem lp_findRing_16h (hS : m_S M K L R) {A m : Int32} (hA : 0 ≤ A ∧ A ≤ 30) (hm : 2 ≤ m ∧ m ≤ 5) (hN : ∀ J i a, mFh M c I0 J → J M 17 = A → a_at (d + 11) (a_xm a_m252) 129 [some (a_rf M), some (.int m), some (.int i), a] [] (n, t, K, L, J, R) P) (hP : ∀ J, mFh M c I0 J → J M 74 = m → (∀ k : Int32, 0 ≤ k → k < m → (0 ≤ J (M + 48) k.toNatClampNeg ∧ J (M + 48) k.toNatClampNeg ≤ 29) ∧ 0 ≤ J (M + 20) (J (M + 48) k.toNatClampNeg).toNatClampNeg) → P none (n, t, K, L, J, R)) : ∀ (z : Nat) J i a, mu A (J (M + 48)) i < z → -1 ≤ i ∧ i < m → fIh M c I0 A J i → (0 ≤ i → -1 ≤ J (M + 48) i.toNatClampNeg ∧ J (M + 48) i.toNatClampNeg < A) → a_at (d + 11) (a_xm a_m252) 16 [some (a_rf M), some (.int m), some (.int i), a] [] (n, t, K, L, J, R) P := by
  intro z
  induction z with
  | zero => intro J i a hz; omega
  | succ z ih =>
  intro J i a hz hi h hri
  obtain ⟨f1, f2, f3, f4⟩ := id h
  rw [q252_16]
  simp only [q252_17, q252_20, q252_21, q252_24, q252_25, q252_26, q252_27, q252_28, m_0 hS, m_K hS, mR_ringAsk hS, mK_ringAsk hS, mL_ringAsk hS, as_nil, as_i, as_r, Nat.reduceAdd, Nat.reduceLeDiff, z_eq0, z_eq1, z_or, z_em, Classical.not_not, not_false_eq_true, not_true_eq_false, true_and, and_true, false_and, and_false, and_self, true_implies, false_implies, implies_true, Option.toList_some, Option.toList_none, List.cons_append, List.nil_append, Nat.add_eq_zero_iff, a_nl_i, a_nl_r, a_nl_n, true_or, or_true, eq_self, ok_4, ok_5, ok_6, ok_7, ok_9, ok_10, ok_20, ok_21, ok_24, ok_30, ok_48, ok_50, ok_60, ok_80, ok_120, ok_180, ok_192, ok_200, ok_900, ok_1000, ok_84000]
  refine ⟨fun h1 => hN J i a f1 f2, fun h1 => ?_⟩
  have h0 : 0 ≤ i := by grind
  have hi4 : i ≤ 4 := by grind
  have hr := hri h0
  have hpA : 0 ≤ A ∧ A ≤ 48 := by grind
  refine ⟨by grind, ?_⟩
  refine lp_findRing_29h hS h hA.2 ⟨h0, hi4⟩ (fun a2 p0 p1 p2 p3 => ?_) _ (by grind) (by grind) (by grind) (by grind)
  simp only [q252_52, q252_53, q252_56, q252_57, q252_58, q252_59, q252_60, q252_61, q252_64, m_0 hS, m_K hS, mR_ringAsk hS, mK_ringAsk hS, mL_ringAsk hS, as_nil, as_i, as_r, Nat.reduceAdd, Nat.reduceLeDiff, z_eq0, z_eq1, z_or, z_em, Classical.not_not, not_false_eq_true, not_true_eq_false, true_and, and_true, false_and, and_false, and_self, true_implies, false_implies, implies_true, Option.toList_some, Option.toList_none, List.cons_append, List.nil_append, Nat.add_eq_zero_iff, a_nl_i, a_nl_r, a_nl_n, true_or, or_true, eq_self, ok_4, ok_5, ok_6, ok_7, ok_9, ok_10, ok_20, ok_21, ok_24, ok_30, ok_48, ok_50, ok_60, ok_80, ok_120, ok_180, ok_192, ok_200, ok_900, ok_1000, ok_84000, ui_ap, ne_MM, ne_M0, ne_0M, Nat.reduceEqDiff, reduceIte, if_true, if_false, f2]
  refine ⟨by grind, ?_⟩
  have w1 : ∀ k : Int32, 0 ≤ k → ¬ k = i → (a_ui J (M + 48) i.toNatClampNeg a2) (M + 48) k.toNatClampNeg = J (M + 48) k.toNatClampNeg := fun k q1 q2 => by
    rw [ui_ap, if_neg (fun e => q2 (cl_inj q1 h0 e.2))]
  have w2 : (a_ui J (M + 48) i.toNatClampNeg a2) (M + 48) i.toNatClampNeg = a2 := by simp [ui_ap]
  have w3 : ∀ j, (a_ui J (M + 48) i.toNatClampNeg a2) (M + 20) j = J (M + 20) j := fun j => by simp [ui_ap]
  have w4 : (a_ui J (M + 48) i.toNatClampNeg a2) M 17 = A := by simpa [ui_ap] using f2
  have w5 : mFh M c I0 (a_ui J (M + 48) i.toNatClampNeg a2) := sF_ringAskh f1
  have w6 : ∀ k : Nat, k < i.toNatClampNeg → (a_ui J (M + 48) i.toNatClampNeg a2) (M + 48) k = J (M + 48) k := fun k hk => by
    rw [ui_ap, if_neg (by omega)]
  revert w1 w2 w3 w4 w5 w6
  generalize a_ui J (M + 48) i.toNatClampNeg a2 = J1
  intro w1 w2 w3 w4 w5 w6
  refine ⟨fun hne => ?_, fun heq => ?_⟩
  · -- one more
    have q1 : a2 < A := by grind
    have q2 := p3 q1
    have f5 : fIh M c I0 A J1 (i + 1) := by
      refine ⟨w5, w4, fun k k0 k1 => ?_, fun k l k0 k1 k2 => ?_⟩
      · by_cases hk : k = i
        · subst hk
          rw [w2, w3]
          exact ⟨⟨p0, q1⟩, q2.1⟩
        · rw [w1 k k0 hk, w3]
          exact f3 k k0 (by grind)
      · by_cases hl : l = i
        · subst hl
          rw [w2, w1 k k0 (by grind)]
          exact q2.2 k k0 k1
        · rw [w1 k k0 (by grind), w1 l (by grind) hl]
          exact f4 k l k0 k1 (by grind)
    have f6 : fIh M c I0 A J1 i := ⟨w5, w4, fun k k0 k1 => f5.2.2.1 k k0 (by grind), fun k l k0 k1 k2 => f5.2.2.2 k l k0 k1 (by grind)⟩
    have hstay : mu A (J1 (M + 48)) i < z := Nat.lt_of_lt_of_le (mu_stay (w := J (M + 48)) h0 hi4 hpA ⟨hr.1, by rw [w2]; exact p2, by rw [w2]; exact p1⟩ w6) (by omega)
    simp only [q252_73, q252_74, q252_75, q252_76, q252_77, q252_80, q252_83, q252_84, q252_87, q252_88, q252_89, q252_90, q252_126, m_0 hS, m_K hS, mR_ringAsk hS, mK_ringAsk hS, mL_ringAsk hS, as_nil, as_i, as_r, Nat.reduceAdd, Nat.reduceLeDiff, z_eq0, z_eq1, z_or, z_em, Classical.not_not, not_false_eq_true, not_true_eq_false, true_and, and_true, false_and, and_false, and_self, true_implies, false_implies, implies_true, Option.toList_some, Option.toList_none, List.cons_append, List.nil_append, Nat.add_eq_zero_iff, a_nl_i, a_nl_r, a_nl_n, true_or, or_true, eq_self, ok_4, ok_5, ok_6, ok_7, ok_9, ok_10, ok_20, ok_21, ok_24, ok_30, ok_48, ok_50, ok_60, ok_80, ok_120, ok_180, ok_192, ok_200, ok_900, ok_1000, ok_84000]
    refine ⟨fun hfull => ?_, fun hmore => ?_⟩
    · have him : i + 1 = m := by grind
      have hz0 := f5.2.2.1 0 (by decide) (by grind)
      have z0 : (0 : Int32).toNatClampNeg = 0 := rfl
      rw [z0] at hz0
      simp only [q252_93, q252_94, q252_97, q252_99, q252_100, q252_101, q252_102, q252_105, q252_106, q252_107, q252_108, q252_109, q252_112, q252_113, q252_114, q252_126, m_0 hS, m_K hS, mR_isWish hS, mK_isWish hS, mL_isWish hS, mR_ringAsk hS, mK_ringAsk hS, mL_ringAsk hS, as_nil, as_i, as_r, Nat.reduceAdd, Nat.reduceLeDiff, z_eq0, z_eq1, z_or, z_em, Classical.not_not, not_false_eq_true, not_true_eq_false, true_and, and_true, false_and, and_false, and_self, true_implies, false_implies, implies_true, Option.toList_some, Option.toList_none, List.cons_append, List.nil_append, Nat.add_eq_zero_iff, a_nl_i, a_nl_r, a_nl_n, true_or, or_true, eq_self, ok_4, ok_5, ok_6, ok_7, ok_9, ok_10, ok_20, ok_21, ok_24, ok_30, ok_48, ok_50, ok_60, ok_80, ok_120, ok_180, ok_192, ok_200, ok_900, ok_1000, ok_84000]
      refine ⟨by grind, by grind, fun hw => ih J1 i _ hstay hi f6 (fun _ => by rw [w2]; exact ⟨by grind, q1⟩), fun hw => ?_⟩
      rw [him] at f5
      obtain ⟨f7, f8, f9, f10⟩ := id f5
      refine ct_ringFits hS w5.1.1 ⟨by grind, hm.2⟩ (fun k k0 k1 => ⟨⟨(f9 k k0 k1).1.1, by have := (f9 k k0 k1).1.2; grind⟩, (f9 k k0 k1).2⟩) (fun k l k0 k1 l0 l1 e => ?_) (fun v J3 hQ => ?_)
      · have e2 := cl_inj (f9 k k0 k1).1.1 (f9 l l0 l1).1.1 e
        by_cases hkl : k < l
        · exact absurd e2 (f10 k l k0 hkl l1)
        · by_cases hlk : l < k
          · exact absurd e2.symm (f10 l k l0 hlk k1)
          · grind
      · have f11 := mF_Qh w5 hQ
        have e1 : J3 (M + 48) = J1 (M + 48) := by funext j; exact hQ.2 _ _ (by unfold sC; omega) (by omega) (by omega) (by omega) (by omega)
        have e2 : ∀ j, J3 (M + 20) j = J1 (M + 20) j := fun j => hQ.2 _ _ (by unfold sC; omega) (by omega) (by omega) (by omega) (by omega)
        have e3 : J3 M 17 = A := (hQ.2 _ _ (by unfold sC; omega) (by omega) (by omega) (by omega) (by omega)).trans w4
        simp only [q252_117, q252_120, q252_121, q252_122, q252_125, q252_126, m_0 hS, m_K hS, as_nil, as_i, as_r, Nat.reduceAdd, Nat.reduceLeDiff, z_eq0, z_eq1, z_or, z_em, Classical.not_not, not_false_eq_true, not_true_eq_false, true_and, and_true, false_and, and_false, and_self, true_implies, false_implies, implies_true, Option.toList_some, Option.toList_none, List.cons_append, List.nil_append, Nat.add_eq_zero_iff, a_nl_i, a_nl_r, a_nl_n, true_or, or_true, eq_self, ok_4, ok_5, ok_6, ok_7, ok_9, ok_10, ok_20, ok_21, ok_24, ok_30, ok_48, ok_50, ok_60, ok_80, ok_120, ok_180, ok_192, ok_200, ok_900, ok_1000, ok_84000]
        refine ⟨fun hv => ?_, fun hv => ?_⟩
        · refine ih J3 i _ (by rw [e1]; exact hstay) hi ⟨f11, e3, ?_, ?_⟩ (fun _ => by rw [e1, w2]; exact ⟨by grind, q1⟩)
          · rw [e1]; intro k k0 k1; rw [e2]; exact f6.2.2.1 k k0 k1
          · rw [e1]; exact f6.2.2.2
        · refine hP _ (sF_ringManyh f11) (by simp [ui_ap]) (fun k k0 k1 => ?_)
          have := f9 k k0 k1
          simp only [ui_ap, ne_MM, ne_M0, ne_0M, Nat.reduceEqDiff, reduceIte, if_true, if_false, false_and, and_false, e1, e2]
          exact ⟨⟨this.1.1, by grind⟩, this.2⟩
    · have k1 : (i + 1).toNatClampNeg = i.toNatClampNeg + 1 := cl_up h0 (by grind)
      have x1 : ∀ k : Int32, 0 ≤ k → k < i + 1 → (a_ui J1 (M + 48) (i + 1).toNatClampNeg (-1)) (M + 48) k.toNatClampNeg = J1 (M + 48) k.toNatClampNeg := fun k q1 q2 => by
        rw [ui_ap, if_neg (fun e => by have := cl_inj q1 (by grind) e.2; grind)]
      have x2 : (a_ui J1 (M + 48) (i + 1).toNatClampNeg (-1)) (M + 48) (i + 1).toNatClampNeg = -1 := by simp [ui_ap]
      have x3 : ∀ j, (a_ui J1 (M + 48) (i + 1).toNatClampNeg (-1)) (M + 20) j = J1 (M + 20) j := fun j => by simp [ui_ap]
      have x4 : (a_ui J1 (M + 48) (i + 1).toNatClampNeg (-1)) M 17 = A := by simpa [ui_ap] using w4
      have x6 : ∀ k : Nat, k < i.toNatClampNeg → (a_ui J1 (M + 48) (i + 1).toNatClampNeg (-1)) (M + 48) k = J (M + 48) k := fun k hk => by
        rw [ui_ap, if_neg (by omega), w6 k hk]
      refine ⟨by grind, ?_⟩
      refine ih _ (i + 1) _ ?_ (by grind) ⟨sF_ringAskh w5, x4, fun k k0 k1 => ?_, fun k l k0 k1 k2 => ?_⟩ (fun _ => by rw [x2]; exact ⟨by decide, by grind⟩)
      · refine Nat.lt_of_lt_of_le (mu_on (w := J (M + 48)) h0 (by grind) hpA ⟨hr.1, ?_, ?_⟩ x6 x2) (by omega)
        · rw [x1 i h0 (by grind), w2]; exact p2
        · rw [x1 i h0 (by grind), w2]; exact p1
      · rw [x1 k k0 k1, x3]
        exact f5.2.2.1 k k0 k1
      · rw [x1 k k0 (by grind), x1 l (by grind) k2]
        exact f5.2.2.2 k l k0 k1 k2
  · -- none is left here
    simp only [q252_67, q252_70, q252_126, as_nil, as_i, as_r, Nat.reduceAdd, Nat.reduceLeDiff, z_eq0, z_eq1, z_or, z_em, Classical.not_not, not_false_eq_true, not_true_eq_false, true_and, and_true, false_and, and_false, and_self, true_implies, false_implies, implies_true, Option.toList_some, Option.toList_none, List.cons_append, List.nil_append, Nat.add_eq_zero_iff, a_nl_i, a_nl_r, a_nl_n, true_or, or_true, eq_self, ok_4, ok_5, ok_6, ok_7, ok_9, ok_10, ok_20, ok_21, ok_24, ok_30, ok_48, ok_50, ok_60, ok_80, ok_120, ok_180, ok_192, ok_200, ok_900, ok_1000, ok_84000]
    refine ih J1 _ _ (Nat.lt_of_lt_of_le (mu_back (w := J (M + 48)) h0 hi4 hpA ⟨hr.1, by grind⟩ w6) (by omega)) (by grind) ⟨w5, w4, fun k k0 k1 => ?_, fun k l k0 k1 k2 => ?_⟩ (fun q => ?_)
    · rw [w1 k k0 (by grind), w3]; exact f3 k k0 (by grind)
    · rw [w1 k k0 (by grind), w1 l (by grind) (by grind)]; exact f4 k l k0 k1 (by grind)
    · rw [w1 _ q (by grind)]
      have := f3 (i + (-1)) q (by grind)
      grind
theorem lp_findRing_2h (hS : m_S M K L R) (hP : ∀ J, mFh M c I0 J → 0 ≤ J M 74 ∧ J M 74 ≤ 5 → (∀ k : Int32, 0 ≤ k → k < J M 74 → (0 ≤ J (M + 48) k.toNatClampNeg ∧ J (M + 48) k.toNatClampNeg ≤ 29) ∧ 0 ≤ J (M + 20) (J (M + 48) k.toNatClampNeg).toNatClampNeg) → P none (n, t, K, L, J, R)) : ∀ m : Int32, m ≤ 6 → ∀ J i a, 2 ≤ m → mFh M c I0 J → a_at (d + 11) (a_xm a_m252) 2 [some (a_rf M), some (.int m), i, a] [] (n, t, K, L, J, R) P := by
  refine up_ind 6 (fun m hm6 ih => ?_)
  intro J i a hm hF
  have r0 := rg_asks hF.1.1
  rw [q252_2]
  simp only [q252_3, q252_4, q252_7, q252_8, q252_9, q252_10, q252_13, q252_14, q252_15, q252_135, q252_136, q252_137, q252_140, m_0 hS, m_K hS, mR_ringAsk hS, mK_ringAsk hS, mL_ringAsk hS, as_nil, as_i, as_r, Nat.reduceAdd, Nat.reduceLeDiff, z_eq0, z_eq1, z_or, z_em, Classical.not_not, not_false_eq_true, not_true_eq_false, true_and, and_true, false_and, and_false, and_self, true_implies, false_implies, implies_true, Option.toList_some, Option.toList_none, List.cons_append, List.nil_append, Nat.add_eq_zero_iff, a_nl_i, a_nl_r, a_nl_n, true_or, or_true, eq_self, ok_4, ok_5, ok_6, ok_7, ok_9, ok_10, ok_20, ok_21, ok_24, ok_30, ok_48, ok_50, ok_60, ok_80, ok_120, ok_180, ok_192, ok_200, ok_900, ok_1000, ok_84000]
  refine ⟨fun h => ?_, fun h => ⟨by grind, ?_⟩⟩
  · refine hP _ (sF_ringManyh hF) ?_ (fun k k0 k1 => ?_)
    · simp only [ui_ap, ne_MM, ne_M0, ne_0M, Nat.reduceEqDiff, reduceIte, if_true, if_false, and_self]; decide
    · simp only [ui_ap, ne_MM, ne_M0, ne_0M, Nat.reduceEqDiff, reduceIte, if_true, if_false, and_self] at k1
      grind
  · refine lp_findRing_16h hS r0 ⟨hm, by grind⟩ (fun J2 i2 a2 hF2 e2 => ?_) (fun J2 hF2 e2 h2 => hP J2 hF2 (by rw [e2]; grind) (by rw [e2]; exact h2)) _ _ _ _ (Nat.lt_succ_self _) (by grind) ⟨sF_ringAskh hF, by simp [ui_ap], fun k k0 k1 => by grind, fun k l k0 k1 k2 => by grind⟩ (fun _ => ?_)
    · simp only [q252_129, q252_132, as_nil, as_i, as_r, Nat.reduceAdd, Nat.reduceLeDiff, z_eq0, z_eq1, z_or, z_em, Classical.not_not, not_false_eq_true, not_true_eq_false, true_and, and_true, false_and, and_false, and_self, true_implies, false_implies, implies_true, Option.toList_some, Option.toList_none, List.cons_append, List.nil_append, Nat.add_eq_zero_iff, a_nl_i, a_nl_r, a_nl_n, true_or, or_true, eq_self, ok_4, ok_5, ok_6, ok_7, ok_9, ok_10, ok_20, ok_21, ok_24, ok_30, ok_48, ok_50, ok_60, ok_80, ok_120, ok_180, ok_192, ok_200, ok_900, ok_1000, ok_84000]
      exact ih (by grind) J2 _ _ (by grind) hF2
    · have : (a_ui J (M + 48) (0 : Int32).toNatClampNeg (-1)) (M + 48) (0 : Int32).toNatClampNeg = -1 := by simp [ui_ap]
      rw [this]
      exact ⟨by decide, by grind⟩
theorem ct_findRingh (hS : m_S M K L R) (hF : mFh M c I0 I) (hP : ∀ J, mFh M c I0 J → 0 ≤ J M 74 ∧ J M 74 ≤ 5 → (∀ k : Int32, 0 ≤ k → k < J M 74 → (0 ≤ J (M + 48) k.toNatClampNeg ∧ J (M + 48) k.toNatClampNeg ≤ 29) ∧ 0 ≤ J (M + 20) (J (M + 48) k.toNatClampNeg).toNatClampNeg) → P none (n, t, K, L, J, R)) : a_does (d + 12) 252 [a_rf M] (n, t, K, L, I, R) P := by
  rw [a_enter1 (M := a_m252) rfl (a_cat_rf a_cat_nil) (show 1 ≤ 4 by decide)]
  show a_at _ (a_xm a_m252) 0 [some (a_rf M), none, none, none] [] _ _
  simp only [q252_0, q252_1, as_nil, as_i, as_r, Nat.reduceAdd, Nat.reduceLeDiff, z_eq0, z_eq1, z_or, z_em, Classical.not_not, not_false_eq_true, not_true_eq_false, true_and, and_true, false_and, and_false, and_self, true_implies, false_implies, implies_true, Option.toList_some, Option.toList_none, List.cons_append, List.nil_append, Nat.add_eq_zero_iff, a_nl_i, a_nl_r, a_nl_n, true_or, or_true, eq_self, ok_4, ok_5, ok_6, ok_7, ok_9, ok_10, ok_20, ok_21, ok_24, ok_30, ok_48, ok_50, ok_60, ok_80, ok_120, ok_180, ok_192, ok_200, ok_900, ok_1000, ok_84000]
  exact lp_findRing_2h hS hP 2 (by decide) I _ _ (by decide) hF
theorem pu_ringh (hS : m_S M K L R) (hF : mFh M c I0 I) (hc : c + 130 ≤ 84000) {a : Int32} (hP : ∀ v J, mFh M (c + 120) I0 J → P (some (.int v)) (n, t, K, L, J, R)) : a_does (d + 16) 251 [a_rf M, .int a] (n, t, K, L, I, R) P := by
  have hR := hF.1.1
  have g3 := mC_refl hR
  have hL4 : ∀ J, mFh M (c + 4) I0 J → mFh M (c + 120) I0 J := fun J h => mF_leh h (by omega)
  have hL : ∀ J, mFh M c I0 J → mFh M (c + 120) I0 J := fun J h => mF_leh h (by omega)
  rw [a_enter1 (M := a_m251) rfl (a_cat_rf (a_cat_int a_cat_nil)) (show 2 ≤ 2 by decide)]
  show a_at _ (a_xm a_m251) 0 [some (a_rf M), some (.int a)] [] _ _
  have h12 : -1 ≤ a → a_at (d + 15) (a_xm a_m251) 12 [some (a_rf M), some (.int a)] [] (n, t, K, L, I, R) P := by
    intro q
    simp only [q251_12, q251_13, m_0 hS, m_K hS, as_nil, as_i, as_r, Nat.reduceAdd, Nat.reduceLeDiff, z_eq0, z_eq1, z_or, z_em, Classical.not_not, not_false_eq_true, not_true_eq_false, true_and, and_true, false_and, and_false, and_self, true_implies, false_implies, implies_true, Option.toList_some, Option.toList_none, List.cons_append, List.nil_append, Nat.add_eq_zero_iff, a_nl_i, a_nl_r, a_nl_n, true_or, or_true, eq_self, ok_4, ok_5, ok_6, ok_7, ok_9, ok_10, ok_20, ok_21, ok_24, ok_30, ok_48, ok_50, ok_60, ok_80, ok_120, ok_180, ok_192, ok_200, ok_900, ok_1000, ok_84000]
    refine ct_findRingh (d := d + 3) hS hF (fun J f1 f2 f3 => ?_)
    repeat' first
      | with_reducible apply And.intro
      | with_reducible assumption
      | with_reducible intro _
      | with_reducible apply hP
      | with_reducible apply hL
      | simp only [q251_16, q251_17, q251_18, q251_21, q251_22, q251_25, q251_28, q251_29, q251_30, q251_33, q251_36, q251_37, q251_40, q251_41, q251_42, q251_45, q251_47, m_0 hS, m_K hS, mR_ringAsk hS, mK_ringAsk hS, mL_ringAsk hS, as_nil, as_i, as_r, Nat.reduceAdd, Nat.reduceLeDiff, z_eq0, z_eq1, z_or, z_em, Classical.not_not, not_false_eq_true, not_true_eq_false, true_and, and_true, false_and, and_false, and_self, true_implies, false_implies, implies_true, Option.toList_some, Option.toList_none, List.cons_append, List.nil_append, Nat.add_eq_zero_iff, a_nl_i, a_nl_r, a_nl_n, true_or, or_true, eq_self, ok_4, ok_5, ok_6, ok_7, ok_9, ok_10, ok_20, ok_21, ok_24, ok_30, ok_48, ok_50, ok_60, ok_80, ok_120, ok_180, ok_192, ok_200, ok_900, ok_1000, ok_84000]
    all_goals grind [ui_ap]
  repeat' first
    | with_reducible apply And.intro
    | with_reducible assumption
    | with_reducible intro _
    | with_reducible apply hP
    | with_reducible apply hL
    | with_reducible apply sF_refusedh
    | with_reducible apply h12
    | simp only [q251_0, q251_1, q251_2, q251_5, q251_6, q251_8, q251_11, m_0 hS, m_K hS, sp_refuse_1 hS, sp_refuse_2 hS, sp_refuse_3 hS, sp_refuse_4 hS, sp_refuse_5 hS, sp_refuse_6 hS, as_nil, as_i, as_r, Nat.reduceAdd, Nat.reduceLeDiff, z_eq0, z_eq1, z_or, z_em, Classical.not_not, not_false_eq_true, not_true_eq_false, true_and, and_true, false_and, and_false, and_self, true_implies, false_implies, implies_true, Option.toList_some, Option.toList_none, List.cons_append, List.nil_append, Nat.add_eq_zero_iff, a_nl_i, a_nl_r, a_nl_n, true_or, or_true, eq_self, ok_4, ok_5, ok_6, ok_7, ok_9, ok_10, ok_20, ok_21, ok_24, ok_30, ok_48, ok_50, ok_60, ok_80, ok_120, ok_180, ok_192, ok_200, ok_900, ok_1000, ok_84000]
  all_goals grind [ui_ap]
end SI
end

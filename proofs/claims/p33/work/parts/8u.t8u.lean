/-! the start -/
section ZU0
variable {d n t C c : Nat} {K L : Nat → Nat} {I I0 J J0 J1 J2 : Nat → Nat → Int32} {R : Nat → Nat → Nat} {P : Option Value → AH → Prop}
variable {Y Z W : Nat → Nat → Int32}
theorem vc {i e : Int32} (e0 : e = 0) (i0 : 0 ≤ i) (i1 : i < e) : False := by
  rw [e0] at i1
  exact absurd i1 (Int32.not_lt.mpr i0)
theorem vn {i : Nat} {e : Int32} (e0 : e = 0) (i1 : i < e.toNatClampNeg) : False := by
  rw [e0] at i1
  exact absurd i1 (Nat.not_lt_zero i)
theorem lk_none (e2 : Y 0 2 = 0) : lkY Y = fun _ => 0 := by
  funext h
  unfold lkY
  rw [e2]
  rfl
theorem ls_none (s : Int32) : bcf 0 = lsu (fun _ => 0) (8 * s) 8 0 0 := by
  have h : ∀ (k : Nat) (i : Int32), lsu (fun _ => 0) (8 * s) k i 0 = 0 := by
    intro k
    induction k with
    | zero => intro i; rfl
    | succ k ih =>
      intro i
      show lsu (fun _ => 0) (8 * s) k (i + 1) (0 + 0) = 0
      rw [show (0 : Int32) + 0 = 0 from rfl]
      exact ih _
  rw [h]
  decide
theorem am_start (y0 : ∀ k j, k ≤ 52 → ¬ (k = 0 ∧ (j = 9 ∨ j = 10)) → Y k j = 0) (y9 : Y 0 9 = 1) (y10 : Y 0 10 = 100) (a16 : J (C + 1) 6 = 0) (a15 : J (C + 1) 5 = 0) (a73 : J (C + 7) 3 = 0) (a112 : J (C + 11) 2 = 0) (a144 : J (C + 14) 4 = 0) (a145 : J (C + 14) 5 = 0) (a146 : J (C + 14) 6 = 1) (a228 : J (C + 22) 8 = 100) (a175 : J (C + 17) 5 = 0) (a10 : J C 10 = 0) (z3 : ∀ j, J (C + 3) j = 0) (z2 : ∀ j, J (C + 2) j = 0) (z18 : ∀ j, J (C + 18) j = 0) (z12 : ∀ j, J (C + 12) j = 0) (z19 : ∀ j, J (C + 19) j = 0) (z36 : ∀ j, J (C + 36) j = 0) (m20 : ∀ j, j < 180 → J (C + 20) j = -9) (r11 : R C 11 = 0) : aMk C K L J R Y := by
  have e2 : Y 0 2 = 0 := y0 0 2 (by omega) (by omega)
  have e6 : Y 0 6 = 0 := y0 0 6 (by omega) (by omega)
  have e17 : Y 0 17 = 0 := y0 0 17 (by omega) (by omega)
  have e41 : Y 0 41 = 0 := y0 0 41 (by omega) (by omega)
  have e79 : Y 0 79 = 0 := y0 0 79 (by omega) (by omega)
  have lk0 := lk_none e2
  have bz : ∀ g, bq 0 g = true ↔ ¬ (0 : Int32) = 0 := fun g => by rw [bq_0]; decide
  have hin : inP Y := fun a _ _ => by
    rw [y0 21 a (by omega) (by omega), y0 10 a (by omega) (by omega), y0 20 a (by omega) (by omega)]
    decide
  have hyo : yoP Y := by
    refine ⟨by rw [e41]; decide, fun j => by rw [y0 10 j (by omega) (by omega)]; decide, fun i i0 i1 => (vc e17 i0 i1).elim, by rw [y9]; decide, by rw [e17]; decide, by rw [e6]; decide, hin, fun k hk => absurd (y0 38 k (by omega) (by omega)) hk, fun b => by rw [y0 6 b (by omega) (by omega)]; decide, fun i i0 i1 => (vc e17 i0 i1).elim⟩
  have hcp : cpP C K L J R Y := by
    refine ⟨⟨a16.trans (y0 0 0 (by omega) (by omega)).symm, fun j => (z2 j).trans (y0 1 j (by omega) (by omega)).symm, fun s _ _ => ?_⟩, ⟨a145.trans e6.symm, a146.trans y9.symm, fun i i0 i1 => (vc e6 i0 i1).elim, fun i i0 i1 => (vc e17 i0 i1).elim, fun b x b0 b1 => (vc e6 b0 b1).elim⟩, ⟨a144.trans e17.symm, fun i i0 i1 => (vc e17 i0 i1).elim, fun i i0 i1 => (vc e17 i0 i1).elim, fun i i0 i1 => (vc e17 i0 i1).elim⟩, ⟨a73.trans e41.symm, fun i i0 i1 => (vc e41 i0 i1).elim⟩, hyo⟩
    rw [z3]
    unfold liY
    rw [lk0]
    exact ls_none s
  have hse : seP C R Y := ⟨fun i i0 i1 => (vc e6 i0 i1).elim, fun i o i0 i1 => (vc e6 i0 i1).elim, fun i o i0 i1 => (vc e41 i0 i1).elim, fun i o i0 i1 => (vc e6 i0 i1).elim⟩
  have hsM : siM C J Y := by
    refine ⟨⟨a228.trans y10.symm, a175.trans (y0 0 11 (by omega) (by omega)).symm⟩, fun k hk => ?_, fun r g _ _ => ?_, fun r g _ _ => ?_, fun r g _ _ => ?_⟩
    · rw [m20 k hk, y0 38 k (by omega) (by omega), if_pos rfl]
    · rw [z18, y0 35 _ (by omega) (by omega)]
      exact bz g
    · rw [z19, y0 37 _ (by omega) (by omega)]
      exact bz g
    · rw [z36, y0 47 _ (by omega) (by omega)]
      exact bz g
  have hsT : siT C J Y := ⟨⟨a15.trans e2.symm, fun j hj => (vn e2 hj).elim⟩, ⟨a112.trans (y0 0 40 (by omega) (by omega)).symm, fun j => (z12 j).trans (y0 27 j (by omega) (by omega)).symm⟩, a10.trans e79.symm, fun j hj => (vn e79 hj).elim⟩
  have hsD : siD C K J R Y := ⟨⟨fun _ => y0 0 12 (by omega) (by omega), fun _ => r11⟩, fun hd => absurd r11 hd⟩
  have hsY : siY Y := by
    refine ⟨fun k hk => absurd (y0 38 k (by omega) (by omega)) hk, fun r a _ _ _ => y0 37 _ (by omega) (by omega), fun a _ => ?_, fun a o _ _ _ => y0 47 _ (by omega) (by omega), fun x hx => (vn e41 hx).elim, fun j hj => (vn e2 hj).elim, fun k => Or.inl (y0 47 k (by omega) (by omega)), fun j hj => (vn e2 hj).elim⟩
    have e : (fun r : Nat => if Y 37 (30 * r + a) = 0 then 0 else 1) = fun _ => 0 := by
      funext r
      rw [y0 37 _ (by omega) (by omega), if_pos rfl]
    rw [e]
    decide
  have hno : noP Y := fun a _ hn => absurd (by rw [y0 20 a (by omega) (by omega)]; decide) hn
  have hst : stP C J R Y := ⟨fun i i0 i1 => (vc e41 i0 i1).elim, fun i o i0 i1 => (vc e41 i0 i1).elim⟩
  refine ⟨⟨hcp, hse, ⟨hsM, hsT, hsD, hsY⟩, hno, hst⟩, fun s k _ _ => ?_, fun a _ _ => ⟨y0 18 a (by omega) (by omega), y0 19 a (by omega) (by omega)⟩⟩
  rw [z3, bq_0, lk0]
  exact ⟨fun h => absurd h Bool.false_ne_true, fun h => absurd (show (0 : Int32) = 1 from h) (by decide)⟩
end ZU0
section ZU1
variable {d n t C c n0 n' n'' t' : Nat} {K L K0 L0 K' L' K'' L'' : Nat → Nat} {I I0 J J0 J1 J2 : Nat → Nat → Int32} {R R0 R' R'' : Nat → Nat → Nat} {P : Option Value → AH → Prop}
variable {b sL : Nat} {sx : Nat → Int32}
theorem a_sw_all {v : Int32} {F : Nat → Prop} {dflt : Nat} (hd : F dflt) : ∀ {l : List (Int × Nat)}, (∀ q ∈ l, F q.2) → a_sw v F dflt l := by
  intro l
  induction l with
  | nil => intro _; exact hd
  | cons q l ih =>
    intro h
    obtain ⟨k, t⟩ := q
    exact ⟨fun _ => h _ List.mem_cons_self, fun _ => ih (fun q hq => h q (List.mem_cons_of_mem _ hq))⟩
theorem a_nl_ref {k : Nat} : a_nl (some (.ref k)) = True := eq_true (fun w h => by cases h; rfl)
theorem V_one (h : cT C K L J R) (h0 : R 0 5 = 0 ∧ L 0 = 0) (j : Nat) : L (R (R (C + 16) j) 5) ≤ 163840 := by
  rcases h.g_benchesR j with q | q
  · rw [q, h0.1, h0.2]; exact Nat.zero_le _
  · obtain ⟨m, m1, m2, m3⟩ := (h.g_bnc _ q).2.2.2.2.1.2.2
    omega
theorem V_all (h : cT C K L J R) (h0 : R 0 5 = 0 ∧ L 0 = 0) : cV C L R ≤ 983040 := by
  have z0 := V_one h h0 0
  have z1 := V_one h h0 1
  have z2 := V_one h h0 2
  have z3 := V_one h h0 3
  have z4 := V_one h h0 4
  have z5 := V_one h h0 5
  unfold cV
  omega
theorem ll_exit (h : lawI b C c n t K L J R) (hc : c ≤ 512) : a_nx (n + 1, t, K, L, J, R) ≤ C + 600000 ∧ a_tot (n + 1, t, K, L, J, R) ≤ 7302250 := by
  obtain ⟨⟨p1, p2, p3, p4, p5, p6⟩, -⟩ := h
  have hv := V_all p1 p4
  show n + 1 ≤ C + 600000 ∧ t ≤ 7302250
  omega

theorem mR_init {M : Nat} (h0 : ∀ j, ¬ j = 9 → ¬ j = 10 → J M j = 0) (h9 : J M 9 = 1) (h : ∀ k, 1 ≤ k → k ≤ 52 → ∀ j, J (M + k) j = 0) : mR M J := by
  unfold mR
  simp only [h9, h0 0 (by decide) (by decide), h0 2 (by decide) (by decide), h0 6 (by decide) (by decide), h0 17 (by decide) (by decide), h0 13 (by decide) (by decide), h0 15 (by decide) (by decide), h0 40 (by decide) (by decide), h0 41 (by decide) (by decide), h0 61 (by decide) (by decide), h0 79 (by decide) (by decide), h0 35 (by decide) (by decide), h0 47 (by decide) (by decide), h 7 (by decide) (by decide), h 8 (by decide) (by decide), h 10 (by decide) (by decide), h 16 (by decide) (by decide), h 20 (by decide) (by decide), h 21 (by decide) (by decide), h 29 (by decide) (by decide), h 40 (by decide) (by decide), h 41 (by decide) (by decide), h 44 (by decide) (by decide), h 49 (by decide) (by decide), h 50 (by decide) (by decide)]
  exact ⟨by decide, by decide, by decide, by decide, by decide, by decide, by decide, by decide, by decide, by decide, by decide, by decide, by decide, fun _ => by decide, fun _ => by decide, fun _ => by decide, fun _ => by decide, fun _ => by decide, fun _ => by decide, fun _ => by decide, fun _ => by decide, fun _ => by decide, fun _ => by decide, fun _ => by decide⟩
theorem mE_init {M : Nat} (h35 : J M 35 = 0) (h17 : J M 17 = 0) : mE M 0 J := by
  refine ⟨fun _ => 0, fun a h0 h1 _ => ?_, ?_⟩
  · rw [h17] at h1
    exact absurd h1 (Int32.not_lt.mpr h0)
  · rw [h35]
    decide
theorem nM_no {x : Nat} (h : ¬ K x = 1 ∧ ¬ K x = 3 ∧ ¬ K x = 11) : ¬ nkM n K x = 1 ∧ ¬ nkM n K x = 3 ∧ ¬ nkM n K x = 11 := by
  by_cases h1 : x < n + 1
  · rw [(nM_low (K := K) (L := K) (I := fun _ _ => 0) (R := fun _ _ => 0) x h1).1]; exact h
  · by_cases h2 : n + 54 ≤ x
    · by_cases h3 : K x = 0
      · rw [nM_high x h2 h3]; decide
      · have : nkM n K x = K x := by
          unfold nkM
          simp only [up_ap]
          repeat (rw [if_neg (by omega)])
        rw [this]; exact h
    · obtain ⟨k, hk, rfl⟩ : ∃ k, k ≤ 52 ∧ x = n + 1 + k := ⟨x - (n + 1), by omega, by omega⟩
      rcases Nat.eq_zero_or_pos k with e | e
      · subst e
        rw [Nat.add_zero, nM_0]; decide
      · have key : ∀ q : Fin 53, q.val = 0 ∨ ∃ e ∈ m_arr, e.2.1 = q.val ∧ ¬ e.2.2.1 = 1 ∧ ¬ e.2.2.1 = 3 ∧ ¬ e.2.2.1 = 11 := by decide
        rcases key ⟨k, by omega⟩ with q | ⟨e1, e2, e3, e4⟩
        · exact absurd q (by show ¬ k = 0; omega)
        · have := (nM_S (n := n) (K := K) (L := K) (R := fun _ _ => 0)).2.2 e1 e2
          rw [e3] at this
          rw [this.2.1]
          exact e4
theorem law_init (hr : rawQ C K L J R) (hC : C = n + 1) (hlow : ∀ x, x < C → K x = 0) (hhigh : ∀ x, n + 45 ≤ x → K x = 0) (hL0 : L 0 = 0) (hR0 : R 0 5 = 0) (hb : b < C) (ht : t ≤ 290000) : lawI b C 0 (n + 1 + 43 + 53) t (nkM (n + 1 + 43) K) (nlM (n + 1 + 43) L) (niM (n + 1 + 43) J) (nrM (n + 1 + 43) R) := by
  obtain ⟨rS, rNo, r_now, r_trips, r_texts, r_size, r_code, r_at, r_asks, r_benches, r_orderSize, r_passed, r_best, r_circle, r_row, r_rest, r_share, r_scaled, z3, z31, z2, z18, z12, z19, z36, w8, w15, w16, w23, w28, w38, w11, m20⟩ := hr
  have lo : ∀ x, x < C + 44 → nkM (n + 1 + 43) K x = K x ∧ nlM (n + 1 + 43) L x = L x ∧ (∀ j, niM (n + 1 + 43) J x j = J x j) ∧ (∀ j, nrM (n + 1 + 43) R x j = R x j) := fun x hx => nM_low x (by omega)
  have f1 : ∀ q ∈ c_ks, q.1 ≤ 43 := by decide
  have f2 : ∀ q ∈ c_ls, q.1 ≤ 43 := by decide
  have f3 : ∀ q ∈ c_rs, q.1 ≤ 43 := by decide
  have hno : ∀ x, ¬ nkM (n + 1 + 43) K x = 1 ∧ ¬ nkM (n + 1 + 43) K x = 3 ∧ ¬ nkM (n + 1 + 43) K x = 11 := fun x => nM_no (rNo x)
  have lJ : ∀ k, k ≤ 43 → ∀ j, niM (n + 1 + 43) J (C + k) j = J (C + k) j := fun k hk j => (lo _ (by omega)).2.2.1 j
  have lR : ∀ k, k ≤ 43 → ∀ j, nrM (n + 1 + 43) R (C + k) j = R (C + k) j := fun k hk j => (lo _ (by omega)).2.2.2 j
  have lJ0 : ∀ j, niM (n + 1 + 43) J C j = J C j := fun j => (lo _ (by omega)).2.2.1 j
  have lR0 : ∀ j, nrM (n + 1 + 43) R C j = R C j := fun j => (lo _ (by omega)).2.2.2 j
  have eM : C + 44 = n + 1 + 43 + 1 := by omega
  have hT : cT C (nkM (n + 1 + 43) K) (nlM (n + 1 + 43) L) (niM (n + 1 + 43) J) (nrM (n + 1 + 43) R) := cT_mk
    (s := ⟨rS.1, fun q hq => ((lo _ (by have := f1 q hq; omega)).1).trans (rS.2.1 q hq), fun q hq => ((lo _ (by have := f2 q hq; omega)).2.1).trans (rS.2.2.1 q hq), fun q hq => ((lo _ (by have := f3 q hq; omega)).2.2.2 _).trans (rS.2.2.2 q hq)⟩)
    (g_now := by rw [lJ 1 (by decide) _, r_now]; decide)
    (g_trips := by rw [lJ 1 (by decide) _, r_trips]; decide)
    (g_texts := by rw [lJ 7 (by decide) _, r_texts]; decide)
    (g_size := by rw [lJ 11 (by decide) _, r_size]; decide)
    (g_code := by rw [lJ 11 (by decide) _, r_code]; decide)
    (g_at := by rw [lJ 11 (by decide) _, r_at]; decide)
    (g_asks := by rw [lJ 14 (by decide) _, r_asks]; decide)
    (g_benches := by rw [lJ 14 (by decide) _, r_benches]; decide)
    (g_orderSize := by rw [lJ 22 (by decide) _, r_orderSize]; decide)
    (g_passed := by rw [lJ 22 (by decide) _, r_passed]; decide)
    (g_best := by rw [lJ 27 (by decide) _, r_best]; decide)
    (g_circle := by rw [lJ 35 (by decide) _, r_circle]; decide)
    (g_row := by rw [lJ0 _, r_row]; decide)
    (g_rest := by rw [lJ 14 (by decide) _, r_rest]; decide)
    (g_lost := fun j => by rw [lJ 3 (by decide), z3]; decide)
    (g_spots := fun j => by rw [lJ 31 (by decide), z31]; decide)
    (g_ask := fun a ha => absurd ha (hno a).1)
    (g_bnc := fun a ha => absurd ha (hno a).2.1)
    (g_txt := fun a ha => absurd ha (hno a).2.2)
    (g_asksR := fun j => Or.inl (by rw [lR 15 (by decide), w15]))
    (g_asksN := fun i h0 h1 => by
      rw [lJ 14 (by decide), r_asks] at h1
      exact absurd h1 (Int32.not_lt.mpr h0))
    (g_benchesR := fun j => Or.inl (by rw [lR 16 (by decide), w16]))
    (g_textsR := fun j => Or.inl (by rw [lR 8 (by decide), w8]))
    (g_orderR := fun j => Or.inl (by rw [lR 23 (by decide), w23]))
    (g_bestR := fun j => Or.inl (by rw [lR 28 (by decide), w28]))
    (g_ringR := fun j => Or.inl (by rw [lR 38 (by decide), w38]))
    (g_draft := Or.inl (by rw [lR0, w11]))
    (g_benN := fun j _ => by rw [lR 16 (by decide), w16])
    (g_benY := fun j hj => by
      rw [lJ 14 (by decide), r_benches] at hj
      exact absurd hj (Nat.not_lt_zero j))
  have hz : ∀ x, n + 1 + 43 + 53 + 1 ≤ x → nkM (n + 1 + 43) K x = 0 := fun x hx => nM_high x (by omega) (hhigh x (by omega))
  have jM : ∀ x j, C + 44 ≤ x → x ≤ C + 96 → ¬ (x = C + 44 ∧ j = 9) → ¬ (x = C + 44 ∧ j = 10) → niM (n + 1 + 43) J x j = 0 := fun x j q1 q2 q3 q4 => nM_J x j (by omega) (by omega) (fun e => q3 ⟨by omega, e.2⟩) (fun e => q4 ⟨by omega, e.2⟩)
  refine ⟨⟨hT, hz, by omega, ⟨by rw [(lo 0 (by omega)).2.2.2]; exact hR0, by rw [(lo 0 (by omega)).2.1]; exact hL0⟩, by omega, by omega⟩, ?_, ?_, ?_, ?_, ?_⟩
  · rw [eM]
    exact nM_S
  · refine mR_init (fun j e9 e10 => jM _ j (by omega) (by omega) (fun e => e9 e.2) (fun e => e10 e.2)) ?_ (fun k k1 k2 j => jM _ j (by omega) (by omega) (by omega) (by omega))
    rw [eM]
    exact nM_r.1
  · exact mE_init (jM _ _ (by omega) (by omega) (by omega) (by omega)) (jM _ _ (by omega) (by omega) (by omega) (by omega))
  · rw [(lo b (by omega)).1]
    exact hlow b hb
  · refine am_start (fun k j hk he => jM _ j (by omega) (by omega) (by omega) (by omega)) ?_ ?_ (by rw [lJ 1 (by decide), r_now]) (by rw [lJ 1 (by decide), r_trips]) (by rw [lJ 7 (by decide), r_texts]) (by rw [lJ 11 (by decide), r_size]) (by rw [lJ 14 (by decide), r_asks]) (by rw [lJ 14 (by decide), r_benches]) (by rw [lJ 14 (by decide), r_rest]) (by rw [lJ 22 (by decide), r_share]) (by rw [lJ 17 (by decide), r_scaled]) (by rw [lJ0, r_row]) (fun j => by rw [lJ 3 (by decide), z3]) (fun j => by rw [lJ 2 (by decide), z2]) (fun j => by rw [lJ 18 (by decide), z18]) (fun j => by rw [lJ 12 (by decide), z12]) (fun j => by rw [lJ 19 (by decide), z19]) (fun j => by rw [lJ 36 (by decide), z36]) (fun j hj => by rw [lJ 20 (by decide)]; exact m20 j hj) (by rw [lR0, w11])
    · show niM (n + 1 + 43) J (C + 44 + 0) 9 = 1
      rw [eM]
      exact nM_r.1
    · show niM (n + 1 + 43) J (C + 44 + 0) 10 = 100
      rw [eM]
      exact nM_r.2
end ZU1
/-! the law's loop -/
section KP
variable {b sL : Nat} {sx : Nat → Int32}
variable {d n t C c n0 n' n'' t' : Nat} {K L K0 L0 K' L' K'' L'' : Nat → Nat} {I I0 J J0 J1 J2 : Nat → Nat → Int32} {R R0 R' R'' : Nat → Nat → Nat} {P : Option Value → AH → Prop}
theorem a_sw_all {v : Int32} {F : Nat → Prop} {dflt : Nat} (hd : F dflt) : ∀ {l : List (Int × Nat)}, (∀ q ∈ l, F q.2) → a_sw v F dflt l := by
  intro l
  induction l with
  | nil => intro _; exact hd
  | cons q l ih =>
    intro h
    obtain ⟨k, t⟩ := q
    exact ⟨fun _ => h _ List.mem_cons_self, fun _ => ih (fun q hq => h q (List.mem_cons_of_mem _ hq))⟩
theorem a_nl_ref {k : Nat} : a_nl (some (.ref k)) = True := eq_true (fun w h => by cases h; rfl)
theorem V_one (h : cT C K L J R) (h0 : R 0 5 = 0 ∧ L 0 = 0) (j : Nat) : L (R (R (C + 16) j) 5) ≤ 163840 := by
  rcases h.g_benchesR j with q | q
  · rw [q, h0.1, h0.2]; exact Nat.zero_le _
  · obtain ⟨m, m1, m2, m3⟩ := (h.g_bnc _ q).2.2.2.2.1.2.2
    omega
theorem V_all (h : cT C K L J R) (h0 : R 0 5 = 0 ∧ L 0 = 0) : cV C L R ≤ 983040 := by
  have z0 := V_one h h0 0
  have z1 := V_one h h0 1
  have z2 := V_one h h0 2
  have z3 := V_one h h0 3
  have z4 := V_one h h0 4
  have z5 := V_one h h0 5
  unfold cV
  omega
theorem ll_exit (h : lawI b C c n t K L J R) (hc : c ≤ 512) : a_nx (n + 1, t, K, L, J, R) ≤ C + 600000 ∧ a_tot (n + 1, t, K, L, J, R) ≤ 7302250 := by
  obtain ⟨⟨p1, p2, p3, p4, p5, p6⟩, -⟩ := h
  have hv := V_all p1 p4
  show n + 1 ≤ C + 600000 ∧ t ≤ 7302250
  omega
theorem ll_end {i : Int32} {h : AH} {P : Option Value → AH → Prop} (hn : a_at 700 (lx b sL sx) 18 [some (.ref b), some (a_rf C), some (a_rf (C + 44)), some (.int (i + 8))] [] h P) : a_at 700 (lx b sL sx) 1547 [some (.ref b), some (a_rf C), some (a_rf (C + 44)), some (.int i)] [] h P := by
  simp only [qL_1547, qL_1550, as_nil, as_i, as_r, Nat.reduceAdd, Nat.reduceLeDiff, z_eq0, z_eq1, z_or, z_em, Classical.not_not, not_false_eq_true, not_true_eq_false, true_and, and_true, false_and, and_false, and_self, true_implies, false_implies, implies_true, Option.toList_some, Option.toList_none, List.cons_append, List.nil_append, Nat.add_eq_zero_iff, a_nl_i, a_nl_r, a_nl_n, true_or, or_true, eq_self, a_isRA_22, a_isRA_24, a_isRA_32, a_isA_20]
  exact hn
theorem ll_18 (hb : b < C) (h2 : sL ≤ 4096) : ∀ (m c : Nat) (i : Int32) (n t : Nat) (K L : Nat → Nat) (J : Nat → Nat → Int32) (R : Nat → Nat → Nat), i.toInt = 8 * c → c ≤ 512 → sL ≤ 8 * (c + m) → lawI b C c n t K L J R → a_at 700 (lx b sL sx) 18 [some (.ref b), some (a_rf C), some (a_rf (C + 44)), some (.int i)] [] (n + 1, t, K, L, J, R) (fun r h1 => r = some (.int 1) ∧ a_nx h1 ≤ C + 600000 ∧ a_tot h1 ≤ 7302250) := by
  intro m
  induction m with
  | zero =>
    intro c i n t K L J R hi hc hm h
    have kb := h.2.2.2.2.1
    have c8 : (8 : Int32).toInt = 8 := rfl
    have eL : (Int32.ofNat sL).toInt = sL := by
      rw [Int32.toInt_ofNat', show Int32.size = 4294967296 from rfl]
      simp only [Int.bmod_def]
      omega
    have es : (Int32.ofNat sL - 8).toInt = sL - 8 := by
      rw [Int32.toInt_sub, eL, c8]
      simp only [Int.bmod_def]
      omega
    have hgt : Int32.ofNat sL - 8 < i := by rw [Int32.lt_iff_toInt_lt]; omega
    have he := ll_exit h hc
    simp only [qL_18, qL_19, qL_20, qL_21, qL_23, qL_24, qL_1553, qL_1554, as_nil, as_i, as_r, Nat.reduceAdd, Nat.reduceLeDiff, z_eq0, z_eq1, z_or, z_em, Classical.not_not, not_false_eq_true, not_true_eq_false, true_and, and_true, false_and, and_false, and_self, true_implies, false_implies, implies_true, Option.toList_some, Option.toList_none, List.cons_append, List.nil_append, Nat.add_eq_zero_iff, a_nl_i, a_nl_r, a_nl_n, true_or, or_true, eq_self, a_isRA_22, a_isRA_24, a_isRA_32, a_isA_20, kb, hgt]
    first
      | exact ⟨rfl, he⟩
      | exact ⟨by decide, rfl, he⟩
      | exact he
  | succ m ih =>
    intro c i n t K L J R hi hc hm h
    have kb := h.2.2.2.2.1
    have c8 : (8 : Int32).toInt = 8 := rfl
    have c0 : (0 : Int32).toInt = 0 := rfl
    have eL : (Int32.ofNat sL).toInt = sL := by
      rw [Int32.toInt_ofNat', show Int32.size = 4294967296 from rfl]
      simp only [Int.bmod_def]
      omega
    have es : (Int32.ofNat sL - 8).toInt = sL - 8 := by
      rw [Int32.toInt_sub, eL, c8]
      simp only [Int.bmod_def]
      omega
    have he := ll_exit h hc
    simp only [qL_18, qL_19, qL_20, qL_21, qL_23, qL_24, as_nil, as_i, as_r, Nat.reduceAdd, Nat.reduceLeDiff, z_eq0, z_eq1, z_or, z_em, Classical.not_not, not_false_eq_true, not_true_eq_false, true_and, and_true, false_and, and_false, and_self, true_implies, false_implies, implies_true, Option.toList_some, Option.toList_none, List.cons_append, List.nil_append, Nat.add_eq_zero_iff, a_nl_i, a_nl_r, a_nl_n, true_or, or_true, eq_self, a_isRA_22, a_isRA_24, a_isRA_32, a_isA_20, kb]
    refine ⟨fun hgt => ?_, fun hgt => ?_⟩
    · simp only [qL_1553, qL_1554, as_nil, as_i, as_r, Nat.reduceAdd, Nat.reduceLeDiff, z_eq0, z_eq1, z_or, z_em, Classical.not_not, not_false_eq_true, not_true_eq_false, true_and, and_true, false_and, and_false, and_self, true_implies, false_implies, implies_true, Option.toList_some, Option.toList_none, List.cons_append, List.nil_append, Nat.add_eq_zero_iff, a_nl_i, a_nl_r, a_nl_n, true_or, or_true, eq_self, a_isRA_22, a_isRA_24, a_isRA_32, a_isA_20]
      first
        | exact ⟨rfl, he⟩
        | exact ⟨by decide, rfl, he⟩
        | exact he
    · have hle := Int32.le_iff_toInt_le.mp (Int32.not_lt.mp hgt)
      rw [es] at hle
      have h0 : 0 ≤ i := by rw [Int32.le_iff_toInt_le]; omega
      have h1 : i.toInt + 8 ≤ sL := by omega
      have hc2 : c + 1 ≤ 512 := by omega
      have hcc : 120 * c + 130 ≤ 84000 := by omega
      have o0 : a_ok i sL := okI h0 (by omega)
      have e8 : (i + 8).toInt = 8 * (c + 1 : Nat) := by rw [ti_add (by omega)]; omega
      have hn : ∀ n t K L J R, lawI b C (c + 1) n t K L J R → a_at 700 (lx b sL sx) 1547 [some (.ref b), some (a_rf C), some (a_rf (C + 44)), some (.int i)] [] (n + 1, t, K, L, J, R) (fun r h1 => r = some (.int 1) ∧ a_nx h1 ≤ C + 600000 ∧ a_tot h1 ≤ 7302250) := fun n t K L J R h => ll_end (ih (c + 1) (i + 8) n t K L J R e8 hc2 (by omega) h)
      have hn0 : ∀ n t K L J R, lawI b C c n t K L J R → a_at 700 (lx b sL sx) 1547 [some (.ref b), some (a_rf C), some (a_rf (C + 44)), some (.int i)] [] (n + 1, t, K, L, J, R) (fun r h1 => r = some (.int 1) ∧ a_nx h1 ≤ C + 600000 ∧ a_tot h1 ≤ 7302250) := fun n t K L J R h => by
        refine ll_end (ih (c + 1) (i + 8) n t K L J R e8 hc2 (by omega) ?_)
        obtain ⟨p1, p2, p3, p4, p5, p6⟩ := h
        exact ⟨cH_le p1 (by omega), p2, p3, mE_le p4 (by omega), p5, p6⟩
      simp only [qL_27, qL_28, qL_29, qL_30, qL_32, as_nil, as_i, as_r, Nat.reduceAdd, Nat.reduceLeDiff, z_eq0, z_eq1, z_or, z_em, Classical.not_not, not_false_eq_true, not_true_eq_false, true_and, and_true, false_and, and_false, and_self, true_implies, false_implies, implies_true, Option.toList_some, Option.toList_none, List.cons_append, List.nil_append, Nat.add_eq_zero_iff, a_nl_i, a_nl_r, a_nl_n, true_or, or_true, eq_self, a_isRA_22, a_isRA_24, a_isRA_32, a_isA_20, kb, o0]
      rw [qL_33]
      refine a_sw_all (hn0 n t K L J R h) ?_
      have hcases : ∀ q ∈ ([(0, 196), (1, 219), (2, 262), (3, 295), (4, 338), (5, 371), (6, 404), (7, 457), (8, 544), (9, 567), (10, 600), (11, 663), (12, 686), (13, 719), (14, 772), (15, 805), (16, 848), (17, 871), (18, 904), (19, 947), (20, 990), (21, 1013), (22, 1046), (23, 1069), (24, 1132), (25, 1185), (26, 1218), (27, 1241), (28, 1254), (29, 1287), (30, 1346), (31, 1369), (32, 1382), (33, 1425), (34, 1458), (35, 1481), (36, 1524)] : List (Int × Nat)), a_at 700 (lx b sL sx) q.2 [some (.ref b), some (a_rf C), some (a_rf (C + 44)), some (.int i)] [] (n + 1, t, K, L, J, R) (fun r h1 => r = some (.int 1) ∧ a_nx h1 ≤ C + 600000 ∧ a_tot h1 ≤ 7302250) := (List.forall_mem_cons.mpr ⟨lc_hours hb h hcc h0 h1 h2 hn, (List.forall_mem_cons.mpr ⟨lc_mode hb h hcc h0 h1 h2 hn, (List.forall_mem_cons.mpr ⟨lc_trip hb h hcc h0 h1 h2 hn, (List.forall_mem_cons.mpr ⟨lc_shiftOf hb h hcc h0 h1 h2 hn, (List.forall_mem_cons.mpr ⟨lc_bench hb h hcc h0 h1 h2 hn, (List.forall_mem_cons.mpr ⟨lc_set hb h hcc h0 h1 h2 hn, (List.forall_mem_cons.mpr ⟨lc_draft hb h hcc h0 h1 h2 hn, (List.forall_mem_cons.mpr ⟨lc_ask hb h hcc h0 h1 h2 hn, (List.forall_mem_cons.mpr ⟨lc_withdraw hb h hcc h0 h1 h2 hn, (List.forall_mem_cons.mpr ⟨lc_askOf hb h hcc h0 h1 h2 hn, (List.forall_mem_cons.mpr ⟨lc_feed hb h hcc h0 h1 h2 hn, (List.forall_mem_cons.mpr ⟨lc_text hb h hcc h0 h1 h2 hn, (List.forall_mem_cons.mpr ⟨lc_strike hb h hcc h0 h1 h2 hn, (List.forall_mem_cons.mpr ⟨lc_barred hb h hcc h0 h1 h2 hn, (List.forall_mem_cons.mpr ⟨lc_kin hb h hcc h0 h1 h2 hn, (List.forall_mem_cons.mpr ⟨lc_mark hb h hcc h0 h1 h2 hn, (List.forall_mem_cons.mpr ⟨lc_markOf hb h hcc h0 h1 h2 hn, (List.forall_mem_cons.mpr ⟨lc_habit hb h hcc h0 h1 h2 hn, (List.forall_mem_cons.mpr ⟨lc_fit hb h hcc h0 h1 h2 hn, (List.forall_mem_cons.mpr ⟨lc_give hb h hcc h0 h1 h2 hn, (List.forall_mem_cons.mpr ⟨lc_take hb h hcc h0 h1 h2 hn, (List.forall_mem_cons.mpr ⟨lc_plan hb h hcc h0 h1 h2 hn, (List.forall_mem_cons.mpr ⟨lc_passed hb h hcc h0 h1 h2 hn, (List.forall_mem_cons.mpr ⟨lc_why hb h hcc h0 h1 h2 hn, (List.forall_mem_cons.mpr ⟨lc_best hb h hcc h0 h1 h2 hn, (List.forall_mem_cons.mpr ⟨lc_hosts hb h hcc h0 h1 h2 hn, (List.forall_mem_cons.mpr ⟨lc_owe hb h hcc h0 h1 h2 hn, (List.forall_mem_cons.mpr ⟨lc_again hb h hcc h0 h1 h2 hn, (List.forall_mem_cons.mpr ⟨lc_danger hb h hcc h0 h1 h2 hn, (List.forall_mem_cons.mpr ⟨lc_wish hb h hcc h0 h1 h2 hn, (List.forall_mem_cons.mpr ⟨lc_ring hb h hcc h0 h1 h2 hn, (List.forall_mem_cons.mpr ⟨lc_swap hb h hcc h0 h1 h2 hn, (List.forall_mem_cons.mpr ⟨lc_had hb h hcc h0 h1 h2 hn, (List.forall_mem_cons.mpr ⟨lc_lead hb h hcc h0 h1 h2 hn, (List.forall_mem_cons.mpr ⟨lc_put hb h hcc h0 h1 h2 hn, (List.forall_mem_cons.mpr ⟨lc_check hb h hcc h0 h1 h2 hn, (List.forall_mem_cons.mpr ⟨lc_count hb h hcc h0 h1 h2 hn, (fun _ h => nomatch h)⟩)⟩)⟩)⟩)⟩)⟩)⟩)⟩)⟩)⟩)⟩)⟩)⟩)⟩)⟩)⟩)⟩)⟩)⟩)⟩)⟩)⟩)⟩)⟩)⟩)⟩)⟩)⟩)⟩)⟩)⟩)⟩)⟩)⟩)⟩)⟩)⟩)
      exact hcases
theorem mR_init {M : Nat} (h0 : ∀ j, ¬ j = 9 → ¬ j = 10 → J M j = 0) (h9 : J M 9 = 1) (h : ∀ k, 1 ≤ k → k ≤ 52 → ∀ j, J (M + k) j = 0) : mR M J := by
  unfold mR
  simp only [h9, h0 0 (by decide) (by decide), h0 2 (by decide) (by decide), h0 6 (by decide) (by decide), h0 17 (by decide) (by decide), h0 13 (by decide) (by decide), h0 15 (by decide) (by decide), h0 40 (by decide) (by decide), h0 41 (by decide) (by decide), h0 61 (by decide) (by decide), h0 79 (by decide) (by decide), h0 35 (by decide) (by decide), h0 47 (by decide) (by decide), h 7 (by decide) (by decide), h 8 (by decide) (by decide), h 10 (by decide) (by decide), h 16 (by decide) (by decide), h 20 (by decide) (by decide), h 21 (by decide) (by decide), h 29 (by decide) (by decide), h 40 (by decide) (by decide), h 41 (by decide) (by decide), h 44 (by decide) (by decide), h 49 (by decide) (by decide), h 50 (by decide) (by decide)]
  exact ⟨by decide, by decide, by decide, by decide, by decide, by decide, by decide, by decide, by decide, by decide, by decide, by decide, by decide, fun _ => by decide, fun _ => by decide, fun _ => by decide, fun _ => by decide, fun _ => by decide, fun _ => by decide, fun _ => by decide, fun _ => by decide, fun _ => by decide, fun _ => by decide, fun _ => by decide⟩
theorem mE_init {M : Nat} (h35 : J M 35 = 0) (h17 : J M 17 = 0) : mE M 0 J := by
  refine ⟨fun _ => 0, fun a h0 h1 _ => ?_, ?_⟩
  · rw [h17] at h1
    exact absurd h1 (Int32.not_lt.mpr h0)
  · rw [h35]
    decide
theorem nM_no {x : Nat} (h : ¬ K x = 1 ∧ ¬ K x = 3 ∧ ¬ K x = 11) : ¬ nkM n K x = 1 ∧ ¬ nkM n K x = 3 ∧ ¬ nkM n K x = 11 := by
  by_cases h1 : x < n + 1
  · rw [(nM_low (K := K) (L := K) (I := fun _ _ => 0) (R := fun _ _ => 0) x h1).1]; exact h
  · by_cases h2 : n + 54 ≤ x
    · by_cases h3 : K x = 0
      · rw [nM_high x h2 h3]; decide
      · have : nkM n K x = K x := by
          unfold nkM
          simp only [up_ap]
          repeat (rw [if_neg (by omega)])
        rw [this]; exact h
    · obtain ⟨k, hk, rfl⟩ : ∃ k, k ≤ 52 ∧ x = n + 1 + k := ⟨x - (n + 1), by omega, by omega⟩
      rcases Nat.eq_zero_or_pos k with e | e
      · subst e
        rw [Nat.add_zero, nM_0]; decide
      · have key : ∀ q : Fin 53, q.val = 0 ∨ ∃ e ∈ m_arr, e.2.1 = q.val ∧ ¬ e.2.2.1 = 1 ∧ ¬ e.2.2.1 = 3 ∧ ¬ e.2.2.1 = 11 := by decide
        rcases key ⟨k, by omega⟩ with q | ⟨e1, e2, e3, e4⟩
        · exact absurd q (by show ¬ k = 0; omega)
        · have := (nM_S (n := n) (K := K) (L := K) (R := fun _ _ => 0)).2.2 e1 e2
          rw [e3] at this
          rw [this.2.1]
          exact e4
theorem law_init (hr : rawP C K L J R) (hC : C = n + 1) (hlow : ∀ x, x < C → K x = 0) (hhigh : ∀ x, n + 45 ≤ x → K x = 0) (hL0 : L 0 = 0) (hR0 : R 0 5 = 0) (hb : b < C) (ht : t ≤ 290000) : lawI b C 0 (n + 1 + 43 + 53) t (nkM (n + 1 + 43) K) (nlM (n + 1 + 43) L) (niM (n + 1 + 43) J) (nrM (n + 1 + 43) R) := by
  obtain ⟨rS, rNo, r_now, r_trips, r_texts, r_size, r_code, r_at, r_asks, r_benches, r_orderSize, r_passed, r_best, r_circle, r_row, r_rest, r_share, r_scaled, z3, z31, z2, z18, z12, w8, w15, w16, w23, w28, w38, w11⟩ := hr
  have lo : ∀ x, x < C + 44 → nkM (n + 1 + 43) K x = K x ∧ nlM (n + 1 + 43) L x = L x ∧ (∀ j, niM (n + 1 + 43) J x j = J x j) ∧ (∀ j, nrM (n + 1 + 43) R x j = R x j) := fun x hx => nM_low x (by omega)
  have f1 : ∀ q ∈ c_ks, q.1 ≤ 43 := by decide
  have f2 : ∀ q ∈ c_ls, q.1 ≤ 43 := by decide
  have f3 : ∀ q ∈ c_rs, q.1 ≤ 43 := by decide
  have hno : ∀ x, ¬ nkM (n + 1 + 43) K x = 1 ∧ ¬ nkM (n + 1 + 43) K x = 3 ∧ ¬ nkM (n + 1 + 43) K x = 11 := fun x => nM_no (rNo x)
  have lJ : ∀ k, k ≤ 43 → ∀ j, niM (n + 1 + 43) J (C + k) j = J (C + k) j := fun k hk j => (lo _ (by omega)).2.2.1 j
  have lR : ∀ k, k ≤ 43 → ∀ j, nrM (n + 1 + 43) R (C + k) j = R (C + k) j := fun k hk j => (lo _ (by omega)).2.2.2 j
  have lJ0 : ∀ j, niM (n + 1 + 43) J C j = J C j := fun j => (lo _ (by omega)).2.2.1 j
  have lR0 : ∀ j, nrM (n + 1 + 43) R C j = R C j := fun j => (lo _ (by omega)).2.2.2 j
  have eM : C + 44 = n + 1 + 43 + 1 := by omega
  have hT : cT C (nkM (n + 1 + 43) K) (nlM (n + 1 + 43) L) (niM (n + 1 + 43) J) (nrM (n + 1 + 43) R) := cT_mk
    (s := ⟨rS.1, fun q hq => ((lo _ (by have := f1 q hq; omega)).1).trans (rS.2.1 q hq), fun q hq => ((lo _ (by have := f2 q hq; omega)).2.1).trans (rS.2.2.1 q hq), fun q hq => ((lo _ (by have := f3 q hq; omega)).2.2.2 _).trans (rS.2.2.2 q hq)⟩)
    (g_now := by rw [lJ 1 (by decide) _, r_now]; decide)
    (g_trips := by rw [lJ 1 (by decide) _, r_trips]; decide)
    (g_texts := by rw [lJ 7 (by decide) _, r_texts]; decide)
    (g_size := by rw [lJ 11 (by decide) _, r_size]; decide)
    (g_code := by rw [lJ 11 (by decide) _, r_code]; decide)
    (g_at := by rw [lJ 11 (by decide) _, r_at]; decide)
    (g_asks := by rw [lJ 14 (by decide) _, r_asks]; decide)
    (g_benches := by rw [lJ 14 (by decide) _, r_benches]; decide)
    (g_orderSize := by rw [lJ 22 (by decide) _, r_orderSize]; decide)
    (g_passed := by rw [lJ 22 (by decide) _, r_passed]; decide)
    (g_best := by rw [lJ 27 (by decide) _, r_best]; decide)
    (g_circle := by rw [lJ 35 (by decide) _, r_circle]; decide)
    (g_row := by rw [lJ0 _, r_row]; decide)
    (g_rest := by rw [lJ 14 (by decide) _, r_rest]; decide)
    (g_lost := fun j => by rw [lJ 3 (by decide), z3]; decide)
    (g_spots := fun j => by rw [lJ 31 (by decide), z31]; decide)
    (g_ask := fun a ha => absurd ha (hno a).1)
    (g_bnc := fun a ha => absurd ha (hno a).2.1)
    (g_txt := fun a ha => absurd ha (hno a).2.2)
    (g_asksR := fun j => Or.inl (by rw [lR 15 (by decide), w15]))
    (g_asksN := fun i h0 h1 => by
      rw [lJ 14 (by decide), r_asks] at h1
      exact absurd h1 (Int32.not_lt.mpr h0))
    (g_benchesR := fun j => Or.inl (by rw [lR 16 (by decide), w16]))
    (g_textsR := fun j => Or.inl (by rw [lR 8 (by decide), w8]))
    (g_orderR := fun j => Or.inl (by rw [lR 23 (by decide), w23]))
    (g_bestR := fun j => Or.inl (by rw [lR 28 (by decide), w28]))
    (g_ringR := fun j => Or.inl (by rw [lR 38 (by decide), w38]))
    (g_draft := Or.inl (by rw [lR0, w11]))
    (g_benN := fun j _ => by rw [lR 16 (by decide), w16])
    (g_benY := fun j hj => by
      rw [lJ 14 (by decide), r_benches] at hj
      exact absurd hj (Nat.not_lt_zero j))
  have hz : ∀ x, n + 1 + 43 + 53 + 1 ≤ x → nkM (n + 1 + 43) K x = 0 := fun x hx => nM_high x (by omega) (hhigh x (by omega))
  have jM : ∀ x j, C + 44 ≤ x → x ≤ C + 96 → ¬ (x = C + 44 ∧ j = 9) → ¬ (x = C + 44 ∧ j = 10) → niM (n + 1 + 43) J x j = 0 := fun x j q1 q2 q3 q4 => nM_J x j (by omega) (by omega) (fun e => q3 ⟨by omega, e.2⟩) (fun e => q4 ⟨by omega, e.2⟩)
  refine ⟨⟨hT, hz, by omega, ⟨by rw [(lo 0 (by omega)).2.2.2]; exact hR0, by rw [(lo 0 (by omega)).2.1]; exact hL0⟩, by omega, by omega⟩, ?_, ?_, ?_, ?_, ?_⟩
  · rw [eM]
    exact nM_S
  · refine mR_init (fun j e9 e10 => jM _ j (by omega) (by omega) (fun e => e9 e.2) (fun e => e10 e.2)) ?_ (fun k k1 k2 j => jM _ j (by omega) (by omega) (by omega) (by omega))
    rw [eM]
    exact nM_r.1
  · exact mE_init (jM _ _ (by omega) (by omega) (by omega) (by omega)) (jM _ _ (by omega) (by omega) (by omega) (by omega))
  · rw [(lo b (by omega)).1]
    exact hlow b hb
  · exact ⟨by rw [lJ 11 (by decide), r_size, jM _ _ (by omega) (by omega) (by omega) (by omega)], by rw [lJ 7 (by decide), r_texts, jM _ _ (by omega) (by omega) (by omega) (by omega)], fun j => by rw [lJ 12 (by decide), z12, jM _ _ (by omega) (by omega) (by omega) (by omega)], fun i hi => absurd hi (by rw [lJ 7 (by decide), r_texts]; exact Nat.not_lt_zero i), fun i j hi _ => absurd hi (by rw [lJ 7 (by decide), r_texts]; exact Nat.not_lt_zero i)⟩
theorem a_pure : a_Pure := by
  refine a_pure_of (fun B b L xs hb hL => ?_)
  obtain ⟨n, rfl⟩ : ∃ n, B = n + 1 := ⟨B - 1, by omega⟩
  show a_at 700 (lx b L xs) 0 [some (.ref b), none, none, none] [] (n + 1, 0, fun _ => 0, fun _ => 0, fun _ _ => 0, fun _ _ => 0) _
  have f0 : (n + 1 = 0) = False := eq_false (Nat.succ_ne_zero _)
  simp only [qL_0, qL_3, qL_4, as_nil, as_i, as_r, Nat.reduceAdd, Nat.reduceLeDiff, z_eq0, z_eq1, z_or, z_em, Classical.not_not, not_false_eq_true, not_true_eq_false, true_and, and_true, false_and, and_false, and_self, true_implies, false_implies, implies_true, Option.toList_some, Option.toList_none, List.cons_append, List.nil_append, Nat.add_eq_zero_iff, a_nl_i, a_nl_r, a_nl_n, true_or, or_true, eq_self, a_isRA_22, a_isRA_24, a_isRA_32, a_isA_20, f0]
  refine ki_C (d := 698) (n := n) (fun _ => rfl) (fun _ => rfl) (fun _ _ => rfl) (fun _ _ => rfl) (fun t' K' L' J' R' ht hr hlow hhigh hL0 hR0 => ?_)
  have f1 : (n + 1 + 43 + 1 = 0) = False := eq_false (Nat.succ_ne_zero _)
  simp only [qL_7, qL_8, qL_11, qL_12, as_nil, as_i, as_r, Nat.reduceAdd, Nat.reduceLeDiff, z_eq0, z_eq1, z_or, z_em, Classical.not_not, not_false_eq_true, not_true_eq_false, true_and, and_true, false_and, and_false, and_self, true_implies, false_implies, implies_true, Option.toList_some, Option.toList_none, List.cons_append, List.nil_append, Nat.add_eq_zero_iff, a_nl_i, a_nl_r, a_nl_n, true_or, or_true, eq_self, a_isRA_22, a_isRA_24, a_isRA_32, a_isA_20, a_nl_ref, f1]
  refine ki_M (d := 699) (n := n + 1 + 43) (fun t2 ht2 => ?_)
  simp only [qL_15, qL_16, qL_17, as_nil, as_i, as_r, Nat.reduceAdd, Nat.reduceLeDiff, z_eq0, z_eq1, z_or, z_em, Classical.not_not, not_false_eq_true, not_true_eq_false, true_and, and_true, false_and, and_false, and_self, true_implies, false_implies, implies_true, Option.toList_some, Option.toList_none, List.cons_append, List.nil_append, Nat.add_eq_zero_iff, a_nl_i, a_nl_r, a_nl_n, true_or, or_true, eq_self, a_isRA_22, a_isRA_24, a_isRA_32, a_isA_20, a_nl_ref]
  have hI := law_init (b := b) (C := n + 1) (n := n) (t := t2) hr rfl hlow hhigh hL0 hR0 hb (by omega)
  exact ll_18 (C := n + 1) hb hL 512 0 0 (n + 1 + 43 + 53) t2 _ _ _ _ rfl (by decide) (by omega) hI
end KP
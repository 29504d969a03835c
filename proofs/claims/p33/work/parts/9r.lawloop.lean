/-! the law's loop -/
section KP
variable {b sL : Nat} {sx : Nat → Int32}
variable {d n t C c n0 n' n'' t' : Nat} {K L K0 L0 K' L' K'' L'' : Nat → Nat} {I I0 J J0 J1 J2 : Nat → Nat → Int32} {R R0 R' R'' : Nat → Nat → Nat} {P : Option Value → AH → Prop}
theorem ll_end {i : Int32} {h : AH} {P : Option Value → AH → Prop} (hn : a_at 700 (lx b sL sx) 18 [some (.ref b), some (a_rf C), some (a_rf (C + 44)), some (.int (i + 8))] [] h P) : a_at 700 (lx b sL sx) 1547 [some (.ref b), some (a_rf C), some (a_rf (C + 44)), some (.int i)] [] h P := by
  simp only [qL_1547, qL_1550, as_nil, as_i, as_r, Nat.reduceAdd, Nat.reduceLeDiff, z_eq0, z_eq1, z_or, z_em, Classical.not_not, not_false_eq_true, not_true_eq_false, true_and, and_true, false_and, and_false, and_self, true_implies, false_implies, implies_true, Option.toList_some, Option.toList_none, List.cons_append, List.nil_append, Nat.add_eq_zero_iff, a_nl_i, a_nl_r, a_nl_n, true_or, or_true, eq_self, a_isRA_22, a_isRA_24, a_isRA_32, a_isA_20]
  exact hn
theorem ll_18 (hb : b < C) (h2 : sL ≤ 4096) : ∀ (m c : Nat) (i : Int32) (n t : Nat) (K L : Nat → Nat) (J : Nat → Nat → Int32) (R : Nat → Nat → Nat), i.toInt = 8 * c → c ≤ 512 → sL ≤ 8 * (c + m) → lawI b C c n t K L J R → a_at 700 (lx b sL sx) 18 [some (.ref b), some (a_rf C), some (a_rf (C + 44)), some (.int i)] [] (n + 1, t, K, L, J, R) (fun r h1 => r = some (.int 1) ∧ a_nx h1 ≤ C + 600000 ∧ a_tot h1 ≤ 7302250) := by
  intro m
  induction m with
  | zero =>
    intro c i n t K L J R hi hc hm h
    have kb := h.2.2.2.2.1
    have c8 : (8 : Int32).toInt = 8 := rfl
    have eL : (Int32.ofNat sL).toInt = sL := by
      rw [Int32.toInt_ofNat', show Int32.size = 4294967296 from rfl]
      simp only [Int.bmod_def]
      omega
    have es : (Int32.ofNat sL - 8).toInt = sL - 8 := by
      rw [Int32.toInt_sub, eL, c8]
      simp only [Int.bmod_def]
      omega
    have hgt : Int32.ofNat sL - 8 < i := by rw [Int32.lt_iff_toInt_lt]; omega
    have he := ll_exit h hc
    simp only [qL_18, qL_19, qL_20, qL_21, qL_23, qL_24, qL_1553, qL_1554, as_nil, as_i, as_r, Nat.reduceAdd, Nat.reduceLeDiff, z_eq0, z_eq1, z_or, z_em, Classical.not_not, not_false_eq_true, not_true_eq_false, true_and, and_true, false_and, and_false, and_self, true_implies, false_implies, implies_true, Option.toList_some, Option.toList_none, List.cons_append, List.nil_append, Nat.add_eq_zero_iff, a_nl_i, a_nl_r, a_nl_n, true_or, or_true, eq_self, a_isRA_22, a_isRA_24, a_isRA_32, a_isA_20, kb, hgt]
    first
      | exact ⟨rfl, he⟩
      | exact ⟨by decide, rfl, he⟩
      | exact he
  | succ m ih =>
    intro c i n t K L J R hi hc hm h
    have kb := h.2.2.2.2.1
    have c8 : (8 : Int32).toInt = 8 := rfl
    have c0 : (0 : Int32).toInt = 0 := rfl
    have eL : (Int32.ofNat sL).toInt = sL := by
      rw [Int32.toInt_ofNat', show Int32.size = 4294967296 from rfl]
      simp only [Int.bmod_def]
      omega
    have es : (Int32.ofNat sL - 8).toInt = sL - 8 := by
      rw [Int32.toInt_sub, eL, c8]
      simp only [Int.bmod_def]
      omega
    have he := ll_exit h hc
    simp only [qL_18, qL_19, qL_20, qL_21, qL_23, qL_24, as_nil, as_i, as_r, Nat.reduceAdd, Nat.reduceLeDiff, z_eq0, z_eq1, z_or, z_em, Classical.not_not, not_false_eq_true, not_true_eq_false, true_and, and_true, false_and, and_false, and_self, true_implies, false_implies, implies_true, Option.toList_some, Option.toList_none, List.cons_append, List.nil_append, Nat.add_eq_zero_iff, a_nl_i, a_nl_r, a_nl_n, true_or, or_true, eq_self, a_isRA_22, a_isRA_24, a_isRA_32, a_isA_20, kb]
    refine ⟨fun hgt => ?_, fun hgt => ?_⟩
    · simp only [qL_1553, qL_1554, as_nil, as_i, as_r, Nat.reduceAdd, Nat.reduceLeDiff, z_eq0, z_eq1, z_or, z_em, Classical.not_not, not_false_eq_true, not_true_eq_false, true_and, and_true, false_and, and_false, and_self, true_implies, false_implies, implies_true, Option.toList_some, Option.toList_none, List.cons_append, List.nil_append, Nat.add_eq_zero_iff, a_nl_i, a_nl_r, a_nl_n, true_or, or_true, eq_self, a_isRA_22, a_isRA_24, a_isRA_32, a_isA_20]
      first
        | exact ⟨rfl, he⟩
        | exact ⟨by decide, rfl, he⟩
        | exact he
    · have hle := Int32.le_iff_toInt_le.mp (Int32.not_lt.mp hgt)
      rw [es] at hle
      have h0 : 0 ≤ i := by rw [Int32.le_iff_toInt_le]; omega
      have h1 : i.toInt + 8 ≤ sL := by omega
      have hc2 : c + 1 ≤ 512 := by omega
      have hcc : 120 * c + 130 ≤ 84000 := by omega
      have o0 : a_ok i sL := okI h0 (by omega)
      have e8 : (i + 8).toInt = 8 * (c + 1 : Nat) := by rw [ti_add (by omega)]; omega
      have hn : ∀ n t K L J R, lawI b C (c + 1) n t K L J R → a_at 700 (lx b sL sx) 1547 [some (.ref b), some (a_rf C), some (a_rf (C + 44)), some (.int i)] [] (n + 1, t, K, L, J, R) (fun r h1 => r = some (.int 1) ∧ a_nx h1 ≤ C + 600000 ∧ a_tot h1 ≤ 7302250) := fun n t K L J R h => ll_end (ih (c + 1) (i + 8) n t K L J R e8 hc2 (by omega) h)
      have hn0 : ∀ n t K L J R, lawI b C c n t K L J R → a_at 700 (lx b sL sx) 1547 [some (.ref b), some (a_rf C), some (a_rf (C + 44)), some (.int i)] [] (n + 1, t, K, L, J, R) (fun r h1 => r = some (.int 1) ∧ a_nx h1 ≤ C + 600000 ∧ a_tot h1 ≤ 7302250) := fun n t K L J R h => by
        refine ll_end (ih (c + 1) (i + 8) n t K L J R e8 hc2 (by omega) ?_)
        obtain ⟨p1, p2, p3, p4, p5, p6⟩ := h
        exact ⟨cH_le p1 (by omega), p2, p3, mE_le p4 (by omega), p5, p6⟩
      simp only [qL_27, qL_28, qL_29, qL_30, qL_32, as_nil, as_i, as_r, Nat.reduceAdd, Nat.reduceLeDiff, z_eq0, z_eq1, z_or, z_em, Classical.not_not, not_false_eq_true, not_true_eq_false, true_and, and_true, false_and, and_false, and_self, true_implies, false_implies, implies_true, Option.toList_some, Option.toList_none, List.cons_append, List.nil_append, Nat.add_eq_zero_iff, a_nl_i, a_nl_r, a_nl_n, true_or, or_true, eq_self, a_isRA_22, a_isRA_24, a_isRA_32, a_isA_20, kb, o0]
      rw [qL_33]
      refine a_sw_all (hn0 n t K L J R h) ?_
      have hcases : ∀ q ∈ ([(0, 196), (1, 219), (2, 262), (3, 295), (4, 338), (5, 371), (6, 404), (7, 457), (8, 544), (9, 567), (10, 600), (11, 663), (12, 686), (13, 719), (14, 772), (15, 805), (16, 848), (17, 871), (18, 904), (19, 947), (20, 990), (21, 1013), (22, 1046), (23, 1069), (24, 1132), (25, 1185), (26, 1218), (27, 1241), (28, 1254), (29, 1287), (30, 1346), (31, 1369), (32, 1382), (33, 1425), (34, 1458), (35, 1481), (36, 1524)] : List (Int × Nat)), a_at 700 (lx b sL sx) q.2 [some (.ref b), some (a_rf C), some (a_rf (C + 44)), some (.int i)] [] (n + 1, t, K, L, J, R) (fun r h1 => r = some (.int 1) ∧ a_nx h1 ≤ C + 600000 ∧ a_tot h1 ≤ 7302250) := (List.forall_mem_cons.mpr ⟨lc_hours hb h hcc h0 h1 h2 hn, (List.forall_mem_cons.mpr ⟨lc_mode hb h hcc h0 h1 h2 hn, (List.forall_mem_cons.mpr ⟨lc_trip hb h hcc h0 h1 h2 hn, (List.forall_mem_cons.mpr ⟨lc_shiftOf hb h hcc h0 h1 h2 hn, (List.forall_mem_cons.mpr ⟨lc_bench hb h hcc h0 h1 h2 hn, (List.forall_mem_cons.mpr ⟨lc_set hb h hcc h0 h1 h2 hn, (List.forall_mem_cons.mpr ⟨lc_draft hb h hcc h0 h1 h2 hn, (List.forall_mem_cons.mpr ⟨lc_ask hb h hcc h0 h1 h2 hn, (List.forall_mem_cons.mpr ⟨lc_withdraw hb h hcc h0 h1 h2 hn, (List.forall_mem_cons.mpr ⟨lc_askOf hb h hcc h0 h1 h2 hn, (List.forall_mem_cons.mpr ⟨lc_feed hb h hcc h0 h1 h2 hn, (List.forall_mem_cons.mpr ⟨lc_text hb h hcc h0 h1 h2 hn, (List.forall_mem_cons.mpr ⟨lc_strike hb h hcc h0 h1 h2 hn, (List.forall_mem_cons.mpr ⟨lc_barred hb h hcc h0 h1 h2 hn, (List.forall_mem_cons.mpr ⟨lc_kin hb h hcc h0 h1 h2 hn, (List.forall_mem_cons.mpr ⟨lc_mark hb h hcc h0 h1 h2 hn, (List.forall_mem_cons.mpr ⟨lc_markOf hb h hcc h0 h1 h2 hn, (List.forall_mem_cons.mpr ⟨lc_habit hb h hcc h0 h1 h2 hn, (List.forall_mem_cons.mpr ⟨lc_fit hb h hcc h0 h1 h2 hn, (List.forall_mem_cons.mpr ⟨lc_give hb h hcc h0 h1 h2 hn, (List.forall_mem_cons.mpr ⟨lc_take hb h hcc h0 h1 h2 hn, (List.forall_mem_cons.mpr ⟨lc_plan hb h hcc h0 h1 h2 hn, (List.forall_mem_cons.mpr ⟨lc_passed hb h hcc h0 h1 h2 hn, (List.forall_mem_cons.mpr ⟨lc_why hb h hcc h0 h1 h2 hn, (List.forall_mem_cons.mpr ⟨lc_best hb h hcc h0 h1 h2 hn, (List.forall_mem_cons.mpr ⟨lc_hosts hb h hcc h0 h1 h2 hn, (List.forall_mem_cons.mpr ⟨lc_owe hb h hcc h0 h1 h2 hn, (List.forall_mem_cons.mpr ⟨lc_again hb h hcc h0 h1 h2 hn, (List.forall_mem_cons.mpr ⟨lc_danger hb h hcc h0 h1 h2 hn, (List.forall_mem_cons.mpr ⟨lc_wish hb h hcc h0 h1 h2 hn, (List.forall_mem_cons.mpr ⟨lc_ring hb h hcc h0 h1 h2 hn, (List.forall_mem_cons.mpr ⟨lc_swap hb h hcc h0 h1 h2 hn, (List.forall_mem_cons.mpr ⟨lc_had hb h hcc h0 h1 h2 hn, (List.forall_mem_cons.mpr ⟨lc_lead hb h hcc h0 h1 h2 hn, (List.forall_mem_cons.mpr ⟨lc_put hb h hcc h0 h1 h2 hn, (List.forall_mem_cons.mpr ⟨lc_check hb h hcc h0 h1 h2 hn, (List.forall_mem_cons.mpr ⟨lc_count hb h hcc h0 h1 h2 hn, (fun _ h => nomatch h)⟩)⟩)⟩)⟩)⟩)⟩)⟩)⟩)⟩)⟩)⟩)⟩)⟩)⟩)⟩)⟩)⟩)⟩)⟩)⟩)⟩)⟩)⟩)⟩)⟩)⟩)⟩)⟩)⟩)⟩)⟩)⟩)⟩)⟩)⟩)⟩)⟩)
      exact hcases
theorem a_pure : a_Pure := by
  refine a_pure_of (fun B b L xs hb hL => ?_)
  obtain ⟨n, rfl⟩ : ∃ n, B = n + 1 := ⟨B - 1, by omega⟩
  show a_at 700 (lx b L xs) 0 [some (.ref b), none, none, none] [] (n + 1, 0, fun _ => 0, fun _ => 0, fun _ _ => 0, fun _ _ => 0) _
  have f0 : (n + 1 = 0) = False := eq_false (Nat.succ_ne_zero _)
  simp only [qL_0, qL_3, qL_4, as_nil, as_i, as_r, Nat.reduceAdd, Nat.reduceLeDiff, z_eq0, z_eq1, z_or, z_em, Classical.not_not, not_false_eq_true, not_true_eq_false, true_and, and_true, false_and, and_false, and_self, true_implies, false_implies, implies_true, Option.toList_some, Option.toList_none, List.cons_append, List.nil_append, Nat.add_eq_zero_iff, a_nl_i, a_nl_r, a_nl_n, true_or, or_true, eq_self, a_isRA_22, a_isRA_24, a_isRA_32, a_isA_20, f0]
  refine kj_C (d := 698) (n := n) (fun _ => rfl) (fun _ => rfl) (fun _ _ => rfl) (fun _ _ => rfl) (fun t' K' L' J' R' ht hr hlow hhigh hL0 hR0 => ?_)
  have f1 : (n + 1 + 43 + 1 = 0) = False := eq_false (Nat.succ_ne_zero _)
  simp only [qL_7, qL_8, qL_11, qL_12, as_nil, as_i, as_r, Nat.reduceAdd, Nat.reduceLeDiff, z_eq0, z_eq1, z_or, z_em, Classical.not_not, not_false_eq_true, not_true_eq_false, true_and, and_true, false_and, and_false, and_self, true_implies, false_implies, implies_true, Option.toList_some, Option.toList_none, List.cons_append, List.nil_append, Nat.add_eq_zero_iff, a_nl_i, a_nl_r, a_nl_n, true_or, or_true, eq_self, a_isRA_22, a_isRA_24, a_isRA_32, a_isA_20, a_nl_ref, f1]
  refine ki_M (d := 699) (n := n + 1 + 43) (fun t2 ht2 => ?_)
  simp only [qL_15, qL_16, qL_17, as_nil, as_i, as_r, Nat.reduceAdd, Nat.reduceLeDiff, z_eq0, z_eq1, z_or, z_em, Classical.not_not, not_false_eq_true, not_true_eq_false, true_and, and_true, false_and, and_false, and_self, true_implies, false_implies, implies_true, Option.toList_some, Option.toList_none, List.cons_append, List.nil_append, Nat.add_eq_zero_iff, a_nl_i, a_nl_r, a_nl_n, true_or, or_true, eq_self, a_isRA_22, a_isRA_24, a_isRA_32, a_isA_20, a_nl_ref]
  have hI := law_init (b := b) (C := n + 1) (n := n) (t := t2) hr rfl hlow hhigh hL0 hR0 hb (by omega)
  exact ll_18 (C := n + 1) hb hL 512 0 0 (n + 1 + 43 + 53) t2 _ _ _ _ rfl (by decide) (by omega) hI
end KP
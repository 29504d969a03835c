/-! what was had: what each call leaves of it -/
section HI0
variable {d n t C c : Nat} {K L : Nat → Nat} {I I0 J J0 J1 J2 : Nat → Nat → Int32} {R : Nat → Nat → Nat} {P : Option Value → AH → Prop}
variable {Y Z W : Nat → Nat → Int32} {n' t' c' : Nat} {K' L' : Nat → Nat} {R' R1 R2 : Nat → Nat → Nat}
def cFh (C : Nat) (K : Nat → Nat) (J : Nat → Nat → Int32) (R : Nat → Nat → Nat) (h' : AH) : Prop := ∃ n2 t2 K2 L2 J2 R2, h' = (n2 + 1, t2, K2, L2, J2, R2) ∧ hfE C K J R J2 R2
theorem cf_Zh {J0 : Nat → Nat → Int32} (hH : cH C c (n + 1) t K L J R) (z : cZh C c' (n + 1) K L J R (n' + 1) t' K' L' J0 R') : cFh C K J R (n' + 1, t', K', L', J0, R') := by
  have lt : ∀ x, (K x = 20 ∨ K x = 3) → x < n + 1 := fun x h => Classical.byContradiction (fun q => by
    have := hH.2.1 x (by omega)
    omega)
  have b3 : ∀ x, K x = 3 → C + 96 < x := fun x e => (hH.1.g_bnc x e).1
  have c96 := z.1
  refine ⟨_, _, _, _, _, _, rfl, fun x j p q => z.2.2.2.2.2.2 x j (Or.inr ⟨p, q⟩) (lt x q), z.2.2.2.2.2.2 _ _ (Or.inl (Or.inr (Or.inr (Or.inl rfl)))) (by omega), fun x j q => ?_, fun x j p q => z.2.2.2.2.2.2 x j (Or.inl (eD_M p q)) (by omega)⟩
  rcases q with q | q
  · exact z.2.2.2.2.2.1 x j (Or.inr (Or.inl q)) (Or.inl (by omega))
  · have := b3 x q
    exact z.2.2.2.2.2.1 x j (Or.inr (Or.inr (by omega))) (Or.inr ⟨q, lt x (Or.inr q)⟩)
theorem cf_Jh {J0 : Nat → Nat → Int32} (hJ : ∀ x j, C + 44 ≤ x → (x ≤ C + 96 ∨ K x = 20 ∨ K x = 3) → J0 x j = J x j) (hn : J0 (C + 1) 6 = J (C + 1) 6) : cFh C K J R (n + 1, t, K, L, J0, R) := ⟨_, _, _, _, _, _, rfl, fun x j p q => hJ x j (by omega) (Or.inr q), hn, fun _ _ _ => rfl, fun x j p q => hJ x j p (Or.inl q)⟩
theorem cf_hf {J0 : Nat → Nat → Int32} (h : hfE C K J R J0 R1) : cFh C K J R (n + 1, t, K, L, J0, R1) := ⟨_, _, _, _, _, _, rfl, h⟩
theorem cf_tx {J0 : Nat → Nat → Int32} {v1 v2 : Int32} {p2 q2 p3 q3 : Nat} (hH : cH C c (n + 1) t K L J R) (z : cZh C c' (n + 1) K L J R (n' + 1) t' K' L' J0 R') : cFh C K J R (n' + 1, t', K', L', a_ui (a_ui J0 (C + 7) p2 v1) (C + 11) q2 v2, a_ur R' (C + 8) p3 q3) := by
  obtain ⟨n2, t2, K2, L2, J2, R2, e, f⟩ := cf_Zh hH z
  simp only [Prod.mk.injEq, Nat.add_right_cancel_iff] at e
  obtain ⟨i1, i2, i3, i4, i5, i6⟩ := e
  subst i1 i2 i3 i4 i5 i6
  have b3 : ∀ x, K x = 3 → C + 96 < x := fun x e => (hH.1.g_bnc x e).1
  refine ⟨_, _, _, _, _, _, rfl, fun x j p q => ?_, ?_, fun x j q => ?_, fun x j p q => ?_⟩
  · rw [ui_ap, if_neg (by omega), ui_ap, if_neg (by omega)]
    exact f.1 x j p q
  · rw [ui_ap, if_neg (by omega), ui_ap, if_neg (by omega)]
    exact f.2.1
  · have := b3 x
    rw [ur_ap, if_neg (by omega)]
    exact f.2.2.1 x j q
  · rw [ui_ap, if_neg (by omega), ui_ap, if_neg (by omega)]
    exact f.2.2.2 x j p q
theorem gf_ring (hH : cH C c (n + 1) t K L I R) (hu : cuP C K L I R Y) {w : Int32} (hP : ∀ v J R1, rgO Y w v → cH C c (n + 1) t K L J R1 → cuP C K L J R1 Y → hfE C K I R J R1 → P (some (.int v)) (n + 1, t, K, L, J, R1)) : a_does (d + 70) 149 [a_rf C, .int w] (n + 1, t, K, L, I, R) P := by
  have hS := hH.1.s
  by_cases c1 : w < -1
  · have hl := gr_refuse (d := d + 68) (v := -2) hH hu (P := fun r' h' => a_at (d + 69) (a_xm a_m149) 11 [some (a_rf C), some (.int w), none] (r'.toList ++ []) h' P) (fun J z u2 z3 => by
      have hS2 := z.1.s
      have hp := hP (-2) J R (Or.inl ⟨c1, rfl⟩) z u2 z3
      ((try clear hP); (try clear hu))
      simp only [q149_11, as_nil, as_i, as_r, Nat.reduceAdd, Nat.reduceLeDiff, z_eq0, z_eq1, z_or, z_em, Classical.not_not, not_false_eq_true, not_true_eq_false, true_and, and_true, false_and, and_false, and_self, true_implies, false_implies, implies_true, Option.toList_some, Option.toList_none, List.cons_append, List.nil_append, Nat.add_eq_zero_iff, a_nl_i, a_nl_r, a_nl_n, true_or, or_true, eq_self, a_isRA_22, a_isRA_24, a_isRA_32, a_isA_20, ok_4, ok_5, ok_6, ok_7, ok_9, ok_20, ok_21, ok_30, ok_50, ok_180, ok_192, ok_200]
      exact hp)
    ((try clear hP); (try clear hu))
    rw [a_enter1 (M := a_m149) rfl (a_cat_rf (a_cat_int a_cat_nil)) (show 2 ≤ 3 by decide)]
    show a_at _ (a_xm a_m149) 0 [some (a_rf C), some (.int w), none] [] _ _
    simp only [q149_0, q149_1, q149_2, q149_5, q149_6, q149_8, k_0 hS, z_C hS, as_nil, as_i, as_r, Nat.reduceAdd, Nat.reduceLeDiff, z_eq0, z_eq1, z_or, z_em, Classical.not_not, not_false_eq_true, not_true_eq_false, true_and, and_true, false_and, and_false, and_self, true_implies, false_implies, implies_true, Option.toList_some, Option.toList_none, List.cons_append, List.nil_append, Nat.add_eq_zero_iff, a_nl_i, a_nl_r, a_nl_n, true_or, or_true, eq_self, a_isRA_22, a_isRA_24, a_isRA_32, a_isA_20, ok_4, ok_5, ok_6, ok_7, ok_9, ok_20, ok_21, ok_30, ok_50, ok_180, ok_192, ok_200, c1]
    try simp only [true_and, and_true, true_implies, false_implies, implies_true, not_true_eq_false, not_false_eq_true]
    first
      | exact hl
      | grind
  · have hl := ce_find (d := d + 28) (n := n + 1) hH hu (P := fun r' h' => a_at (d + 69) (a_xm a_m149) 19 [some (a_rf C), some (.int w), none] (r'.toList ++ []) h' P) (fun v J R1 g q es hv hr hb => by
      have hT2 := q.1.1
      have hS := hT2.s
      have hu2 := fq_cu hH hu q
      have v05 : 0 ≤ v ∧ v ≤ 5 := by ((try clear hP); (try clear hu); (try clear hu2); (try clear hr); (try clear hb); (try clear q)); grind
      have eo : v = Int32.ofNat v.toNatClampNeg := on_cl v05.1
      by_cases c2 : w = -1
      · have hp := hP v J R1 (Or.inr ⟨c1, _, g, hr, by unfold rgV; rw [if_pos c2]; exact eo⟩) q.1 hu2 (hf_q hH.1 q)
        ((try clear hP); (try clear hu); (try clear hu2); (try clear hr); (try clear hb); (try clear q))
        simp only [q149_19, q149_20, q149_21, q149_22, q149_25, q149_26, q149_37, as_nil, as_i, as_r, Nat.reduceAdd, Nat.reduceLeDiff, z_eq0, z_eq1, z_or, z_em, Classical.not_not, not_false_eq_true, not_true_eq_false, true_and, and_true, false_and, and_false, and_self, true_implies, false_implies, implies_true, Option.toList_some, Option.toList_none, List.cons_append, List.nil_append, Nat.add_eq_zero_iff, a_nl_i, a_nl_r, a_nl_n, true_or, or_true, eq_self, a_isRA_22, a_isRA_24, a_isRA_32, a_isA_20, ok_4, ok_5, ok_6, ok_7, ok_9, ok_20, ok_21, ok_30, ok_50, ok_180, ok_192, ok_200, c2]
        try simp only [true_and, and_true, true_implies, false_implies, implies_true, not_true_eq_false, not_false_eq_true]
        first
          | exact hp
          | grind
      · have w0 : 0 ≤ w := by ((try clear hP); (try clear hu); (try clear hu2); (try clear hr); (try clear hb); (try clear q)); grind
        have hp := hP _ J R1 (Or.inr ⟨c1, _, g, hr, rfl⟩) q.1 hu2 (hf_q hH.1 q)
        unfold rgV at hp
        rw [if_neg c2, ← eo] at hp
        have hm := ce_memberAt (d := d + 68) (n := n + 1) (t := t) (q := w) hT2 hu2.1 v05 es hb (P := fun r' h' => a_at (d + 69) (a_xm a_m149) 37 [some (a_rf C), some (.int w), some (.int v)] (r'.toList ++ []) h' P) (by
          by_cases c3 : w < v
          · rw [if_pos c3] at hp
            rw [if_pos ⟨w0, c3⟩]
            ((try clear hP); (try clear hu); (try clear hu2); (try clear hr); (try clear hb); (try clear q))
            simp only [q149_37, as_nil, as_i, as_r, Nat.reduceAdd, Nat.reduceLeDiff, z_eq0, z_eq1, z_or, z_em, Classical.not_not, not_false_eq_true, not_true_eq_false, true_and, and_true, false_and, and_false, and_self, true_implies, false_implies, implies_true, Option.toList_some, Option.toList_none, List.cons_append, List.nil_append, Nat.add_eq_zero_iff, a_nl_i, a_nl_r, a_nl_n, true_or, or_true, eq_self, a_isRA_22, a_isRA_24, a_isRA_32, a_isA_20, ok_4, ok_5, ok_6, ok_7, ok_9, ok_20, ok_21, ok_30, ok_50, ok_180, ok_192, ok_200]
            exact hp
          · rw [if_neg c3] at hp
            rw [if_neg (fun q => c3 q.2)]
            ((try clear hP); (try clear hu); (try clear hu2); (try clear hr); (try clear hb); (try clear q))
            simp only [q149_37, as_nil, as_i, as_r, Nat.reduceAdd, Nat.reduceLeDiff, z_eq0, z_eq1, z_or, z_em, Classical.not_not, not_false_eq_true, not_true_eq_false, true_and, and_true, false_and, and_false, and_self, true_implies, false_implies, implies_true, Option.toList_some, Option.toList_none, List.cons_append, List.nil_append, Nat.add_eq_zero_iff, a_nl_i, a_nl_r, a_nl_n, true_or, or_true, eq_self, a_isRA_22, a_isRA_24, a_isRA_32, a_isA_20, ok_4, ok_5, ok_6, ok_7, ok_9, ok_20, ok_21, ok_30, ok_50, ok_180, ok_192, ok_200]
            exact hp)
        ((try clear hP); (try clear hu); (try clear hu2); (try clear hr); (try clear hb); (try clear q); (try clear hp))
        simp only [q149_19, q149_20, q149_21, q149_22, q149_25, q149_26, q149_29, q149_30, q149_33, q149_34, k_0 hS, z_C hS, r_0_7 hS, k_35 hS, z_35, as_nil, as_i, as_r, Nat.reduceAdd, Nat.reduceLeDiff, z_eq0, z_eq1, z_or, z_em, Classical.not_not, not_false_eq_true, not_true_eq_false, true_and, and_true, false_and, and_false, and_self, true_implies, false_implies, implies_true, Option.toList_some, Option.toList_none, List.cons_append, List.nil_append, Nat.add_eq_zero_iff, a_nl_i, a_nl_r, a_nl_n, true_or, or_true, eq_self, a_isRA_22, a_isRA_24, a_isRA_32, a_isA_20, ok_4, ok_5, ok_6, ok_7, ok_9, ok_20, ok_21, ok_30, ok_50, ok_180, ok_192, ok_200, c2]
        try simp only [true_and, and_true, true_implies, false_implies, implies_true, not_true_eq_false, not_false_eq_true]
        first
          | exact hm
          | grind)
    ((try clear hP); (try clear hu))
    rw [a_enter1 (M := a_m149) rfl (a_cat_rf (a_cat_int a_cat_nil)) (show 2 ≤ 3 by decide)]
    show a_at _ (a_xm a_m149) 0 [some (a_rf C), some (.int w), none] [] _ _
    simp only [q149_0, q149_1, q149_2, q149_5, q149_6, q149_8, q149_11, q149_12, q149_13, q149_16, k_0 hS, z_C hS, r_0_7 hS, k_35 hS, z_35, as_nil, as_i, as_r, Nat.reduceAdd, Nat.reduceLeDiff, z_eq0, z_eq1, z_or, z_em, Classical.not_not, not_false_eq_true, not_true_eq_false, true_and, and_true, false_and, and_false, and_self, true_implies, false_implies, implies_true, Option.toList_some, Option.toList_none, List.cons_append, List.nil_append, Nat.add_eq_zero_iff, a_nl_i, a_nl_r, a_nl_n, true_or, or_true, eq_self, a_isRA_22, a_isRA_24, a_isRA_32, a_isA_20, ok_4, ok_5, ok_6, ok_7, ok_9, ok_20, ok_21, ok_30, ok_50, ok_180, ok_192, ok_200, c1]
    try simp only [true_and, and_true, true_implies, false_implies, implies_true, not_true_eq_false, not_false_eq_true]
    first
      | exact hl
      | grind
theorem gf_best (hH : cH C c (n + 1) t K L I R) (hu : cuP C K L I R Y) {x y r w : Int32} (hP : ∀ v J R1, cH C c (n + 1) t K L J R1 → cuP C K L J R1 Y → hfE C K I R J R1 → P (some (.int v)) (n + 1, t, K, L, J, R1)) : a_does (d + 70) 128 [a_rf C, .int x, .int y, .int r, .int w] (n + 1, t, K, L, I, R) P := by
  have hT := hH.1
  have hS := hT.s
  have gA := hT.g_asksR
  have gB := hT.g_benchesR
  have gX := hT.g_textsR
  have hrf : ∀ v : Int32, a_does (d + 69) 10 [a_rf C, .int v] (n + 1, t, K, L, I, R) (fun r' h' => ∀ z : Int32, r' = some (.int z) → P (some (.int z)) h') := fun v => by
    refine gr_refuse (d := d + 68) hH hu (fun J z u2 z3 => ?_)
    intro q hq
    cases hq
    exact hP _ J R z u2 z3
  have hq0 : ∀ v, ∀ Q : Option Value → AH → Prop, (∀ J, cH C c (n + 1) t K L J R → cuP C K L J R Y → hfE C K I R J R → Q (some (.int v)) (n + 1, t, K, L, J, R)) → a_does (d + 69) 10 [a_rf C, .int v] (n + 1, t, K, L, I, R) Q := fun v Q hQ => gr_refuse (d := d + 68) hH hu hQ
  have h75 : (0 ≤ x ∧ x < 200) → (0 ≤ y ∧ y < 200) → a_at (d + 69) (a_xm a_m128) 75 [some (a_rf C), some (.int x), some (.int y), some (.int r), some (.int w)] [] (n + 1, t, K, L, I, R) P := fun hx hy => by
    have y199 : y ≤ 199 := by ((try clear hP); (try clear hu); (try clear hrf); (try clear hq0)); grind
    have hp := hP
    have hfree := ce_areAllFree (d := d + 67) (n := n + 1) (t := t) hT hu.1 (r := r) (P := fun r' h' => a_at (d + 69) (a_xm a_m128) 83 [some (a_rf C), some (.int x), some (.int y), some (.int r), some (.int w)] (r'.toList ++ []) h' P) (fun v hv => by
      by_cases cv : v = 0
      · have hr := hq0 (-3) (fun r' h' => a_at (d + 69) (a_xm a_m128) 92 [some (a_rf C), some (.int x), some (.int y), some (.int r), some (.int w)] (r'.toList ++ []) h' P) (fun J z u2 z3 => by
          have hS := z.1.s
          have hp := hP (-3) J R z u2 z3
          ((try clear hP); (try clear hu); (try clear hrf); (try clear hq0))
          simp only [q128_92, as_nil, as_i, as_r, Nat.reduceAdd, Nat.reduceLeDiff, z_eq0, z_eq1, z_or, z_em, Classical.not_not, not_false_eq_true, not_true_eq_false, true_and, and_true, false_and, and_false, and_self, true_implies, false_implies, implies_true, Option.toList_some, Option.toList_none, List.cons_append, List.nil_append, Nat.add_eq_zero_iff, a_nl_i, a_nl_r, a_nl_n, true_or, or_true, eq_self, a_isRA_22, a_isRA_24, a_isRA_32, a_isA_20, ok_4, ok_5, ok_6, ok_7, ok_9, ok_20, ok_21, ok_30, ok_50, ok_180, ok_192, ok_200]
          exact hp)
        ((try clear hP); (try clear hu); (try clear hrf); (try clear hq0); (try clear hv))
        simp only [q128_83, q128_86, q128_87, q128_89, k_0 hS, z_C hS, as_nil, as_i, as_r, Nat.reduceAdd, Nat.reduceLeDiff, z_eq0, z_eq1, z_or, z_em, Classical.not_not, not_false_eq_true, not_true_eq_false, true_and, and_true, false_and, and_false, and_self, true_implies, false_implies, implies_true, Option.toList_some, Option.toList_none, List.cons_append, List.nil_append, Nat.add_eq_zero_iff, a_nl_i, a_nl_r, a_nl_n, true_or, or_true, eq_self, a_isRA_22, a_isRA_24, a_isRA_32, a_isA_20, ok_4, ok_5, ok_6, ok_7, ok_9, ok_20, ok_21, ok_30, ok_50, ok_180, ok_192, ok_200, cv]
        try simp only [true_and, and_true, true_implies, false_implies, implies_true, not_true_eq_false, not_false_eq_true]
        first
          | exact hr
          | grind
      · have hs := ce_search (d := d + 38) (n := n + 1) hH hu.1 hu.2.1 hu.2.2.2.1 (hv cv) (p := x) (q := y) (r := r) ⟨hx.1, by ((try clear hP); (try clear hu); (try clear hrf); (try clear hq0); (try clear hv)); grind⟩ y199 (P := fun r' h' => a_at (d + 69) (a_xm a_m128) 103 [some (a_rf C), some (.int x), some (.int y), some (.int r), some (.int w)] (r'.toList ++ []) h' P) (fun J R1 fb bn => by
          have hS := fb.1.1.s
          have hu2 := fb_cu hH hu fb
          have hp := fun v => hP v J R1 fb.1 hu2 (hf_b hT fb)
          have hT2 := fb.1.1
          ((try clear hP); (try clear hu); (try clear hrf); (try clear hq0); (try clear hv); (try clear hu2); (try clear fb))
          simp only [q128_103, q128_105, q128_106, q128_109, q128_110, q128_113, q128_116, q128_119, q128_120, q128_123, q128_125, q128_128, k_0 hS, z_C hS, r_0_6 hS, k_27 hS, z_27, as_nil, as_i, as_r, Nat.reduceAdd, Nat.reduceLeDiff, z_eq0, z_eq1, z_or, z_em, Classical.not_not, not_false_eq_true, not_true_eq_false, true_and, and_true, false_and, and_false, and_self, true_implies, false_implies, implies_true, Option.toList_some, Option.toList_none, List.cons_append, List.nil_append, Nat.add_eq_zero_iff, a_nl_i, a_nl_r, a_nl_n, true_or, or_true, eq_self, a_isRA_22, a_isRA_24, a_isRA_32, a_isA_20, ok_4, ok_5, ok_6, ok_7, ok_9, ok_20, ok_21, ok_30, ok_50, ok_180, ok_192, ok_200]
          refine ⟨fun _ => ?_, fun _ => ?_⟩
          · first
              | exact hp _
              | (refine ck_spotOf hT2 bn (fun v2 => ?_)
                 simp only [q128_128, as_nil, as_i, as_r, Nat.reduceAdd, Nat.reduceLeDiff, z_eq0, z_eq1, z_or, z_em, Classical.not_not, not_false_eq_true, not_true_eq_false, true_and, and_true, false_and, and_false, and_self, true_implies, false_implies, implies_true, Option.toList_some, Option.toList_none, List.cons_append, List.nil_append, Nat.add_eq_zero_iff, a_nl_i, a_nl_r, a_nl_n, true_or, or_true, eq_self, a_isRA_22, a_isRA_24, a_isRA_32, a_isA_20, ok_4, ok_5, ok_6, ok_7, ok_9, ok_20, ok_21, ok_30, ok_50, ok_180, ok_192, ok_200]
                 exact hp _)
          · first
              | exact hp _
              | (refine ck_spotOf hT2 bn (fun v2 => ?_)
                 simp only [q128_128, as_nil, as_i, as_r, Nat.reduceAdd, Nat.reduceLeDiff, z_eq0, z_eq1, z_or, z_em, Classical.not_not, not_false_eq_true, not_true_eq_false, true_and, and_true, false_and, and_false, and_self, true_implies, false_implies, implies_true, Option.toList_some, Option.toList_none, List.cons_append, List.nil_append, Nat.add_eq_zero_iff, a_nl_i, a_nl_r, a_nl_n, true_or, or_true, eq_self, a_isRA_22, a_isRA_24, a_isRA_32, a_isA_20, ok_4, ok_5, ok_6, ok_7, ok_9, ok_20, ok_21, ok_30, ok_50, ok_180, ok_192, ok_200]
                 exact hp _))
        ((try clear hP); (try clear hu); (try clear hrf); (try clear hq0); (try clear hv))
        simp only [q128_83, q128_93, q128_94, q128_97, q128_98, q128_99, q128_100, k_0 hS, z_C hS, r_0_6 hS, k_27 hS, z_27, as_nil, as_i, as_r, Nat.reduceAdd, Nat.reduceLeDiff, z_eq0, z_eq1, z_or, z_em, Classical.not_not, not_false_eq_true, not_true_eq_false, true_and, and_true, false_and, and_false, and_self, true_implies, false_implies, implies_true, Option.toList_some, Option.toList_none, List.cons_append, List.nil_append, Nat.add_eq_zero_iff, a_nl_i, a_nl_r, a_nl_n, true_or, or_true, eq_self, a_isRA_22, a_isRA_24, a_isRA_32, a_isA_20, ok_4, ok_5, ok_6, ok_7, ok_9, ok_20, ok_21, ok_30, ok_50, ok_180, ok_192, ok_200, cv]
        try simp only [true_and, and_true, true_implies, false_implies, implies_true, not_true_eq_false, not_false_eq_true]
        first
          | exact hs
          | grind)
    ((try clear hP); (try clear hu); (try clear hrf); (try clear hq0))
    simp only [q128_75, q128_76, q128_79, q128_80, k_0 hS, z_C hS, r_0_4 hS, k_14 hS, z_14, as_nil, as_i, as_r, Nat.reduceAdd, Nat.reduceLeDiff, z_eq0, z_eq1, z_or, z_em, Classical.not_not, not_false_eq_true, not_true_eq_false, true_and, and_true, false_and, and_false, and_self, true_implies, false_implies, implies_true, Option.toList_some, Option.toList_none, List.cons_append, List.nil_append, Nat.add_eq_zero_iff, a_nl_i, a_nl_r, a_nl_n, true_or, or_true, eq_self, a_isRA_22, a_isRA_24, a_isRA_32, a_isA_20, ok_4, ok_5, ok_6, ok_7, ok_9, ok_20, ok_21, ok_30, ok_50, ok_180, ok_192, ok_200]
    exact hfree
  have hqz : ∀ v J, cH C c (n + 1) t K L J R → cuP C K L J R Y → hfE C K I R J R → P (some (.int v)) (n + 1, t, K, L, J, R) := fun v J z u2 z3 => hP v J R z u2 z3
  ((try clear hP); (try clear hrf))
  rw [a_enter1 (M := a_m128) rfl (a_cat_rf (a_cat_int (a_cat_int (a_cat_int (a_cat_int a_cat_nil))))) (show 5 ≤ 5 by decide)]
  show a_at _ (a_xm a_m128) 0 [some (a_rf C), some (.int x), some (.int y), some (.int r), some (.int w)] [] _ _
  repeat' first
    | with_reducible apply And.intro
    | with_reducible assumption
    | with_reducible intro _
    | refine hq0 _ _ (fun _ _ _ _ => ?_)
    | exact hqz _ _ (by assumption) (by assumption) (by assumption)
    | with_reducible apply ck_areAsks hT
    | with_reducible apply ck_isIn
    | with_reducible apply ck_bitCount
    | with_reducible apply h75
    | simp only [q128_0, q128_1, q128_2, q128_5, q128_8, q128_9, q128_12, q128_13, q128_16, q128_19, q128_21, q128_24, q128_25, q128_27, q128_30, q128_33, q128_34, q128_35, q128_38, q128_39, q128_41, q128_42, q128_45, q128_46, q128_48, q128_51, q128_52, q128_53, q128_54, q128_55, q128_57, q128_60, q128_61, q128_64, q128_65, q128_68, q128_69, q128_71, q128_74, k_0 hS, z_C hS, r_0_4 hS, k_14 hS, z_14, sp_areShifts, as_nil, as_i, as_r, Nat.reduceAdd, Nat.reduceLeDiff, z_eq0, z_eq1, z_or, z_em, Classical.not_not, not_false_eq_true, not_true_eq_false, true_and, and_true, false_and, and_false, and_self, true_implies, false_implies, implies_true, Option.toList_some, Option.toList_none, List.cons_append, List.nil_append, Nat.add_eq_zero_iff, a_nl_i, a_nl_r, a_nl_n, true_or, or_true, eq_self, a_isRA_22, a_isRA_24, a_isRA_32, a_isA_20, ok_4, ok_5, ok_6, ok_7, ok_9, ok_20, ok_21, ok_30, ok_50, ok_180, ok_192, ok_200]
  all_goals ((try clear h75); (try clear hq0); (try clear hqz); (try clear hu); (try clear hH); (try clear hT); grind [ui_ap])
theorem kf_mode {u1 u2 u3 : Int32} (hH : cH C c (n + 1) t K L J R) : a_does 700 11 [a_rf C, .int u1, .int u2, .int u3] (n + 1, t, K, L, J, R) (fun _ h' => cFh C K J R h') := by
  have hC := hH.2.2.1
  exact ke_modeh hH (fun _ _ z => cf_Zh hH z) (fun _ _ _ z => cf_Zh hH z) (fun _ _ _ _ f _ => cf_Jh (fun x j p _ => f x j (by omega)) (f _ _ (by omega)))
theorem kf_trip {u1 u2 : Int32} (hH : cH C c (n + 1) t K L J R) : a_does 700 15 [a_rf C, .int u1, .int u2] (n + 1, t, K, L, J, R) (fun _ h' => cFh C K J R h') := by
  have hC := hH.2.2.1
  exact ke_triph hH (fun _ _ z => cf_Zh hH z) (fun _ _ _ z => cf_Zh hH z) (fun _ _ _ _ f => cf_Jh (fun x j p _ => (f x j (by omega)).trans (by unfold tX; rw [ui_ap, if_neg (by omega), ui_ap, if_neg (by omega), ui_ap, if_neg (by omega), ui_ap, if_neg (by omega)])) ((f _ _ (by omega)).trans (by unfold tX; rw [ui_ap, if_neg (by omega), ui_ap, if_neg (by omega), ui_ap, if_neg (by omega), ui_ap, if_neg (by omega)])))
theorem kf_shiftOf {u1 u2 u3 : Int32} (hH : cH C c (n + 1) t K L J R) : a_does 700 17 [a_rf C, .int u1, .int u2, .int u3] (n + 1, t, K, L, J, R) (fun _ h' => cFh C K J R h') := by
  exact cu_shiftOfh hH (fun _ _ _ _ _ _ _ z => cf_Zh hH z)
theorem kf_set {u1 u2 : Int32} (hH : cH C c (n + 1) t K L J R) : a_does 700 23 [a_rf C, .int u1, .int u2] (n + 1, t, K, L, J, R) (fun _ h' => cFh C K J R h') := by
  have hC := hH.2.2.1
  exact ke_seth hH (fun _ _ z => cf_Zh hH z) (fun _ _ _ z => cf_Zh hH z) (fun _ _ _ _ z => cf_Zh hH z) (fun _ _ _ _ => cf_Jh (fun x j p _ => by rw [ui_ap, if_neg (by omega)]) (by rw [ui_ap, if_neg (by omega)])) (fun _ _ _ _ => cf_Jh (fun x j p _ => by rw [ui_ap, if_neg (by omega)]) (by rw [ui_ap, if_neg (by omega)])) (fun _ _ _ _ w => cf_Jh (fun x j p q => (w.2 x j (by rcases q with q | q; exact Or.inl (eD_M p q); exact (by by_cases e : x ≤ C + 96; exact Or.inl (eD_M p e); exact Or.inr ⟨by omega, q⟩))).trans (by rw [ui_ap, if_neg (by omega)])) ((w.2 _ _ (Or.inl (Or.inr (Or.inr (Or.inl rfl))))).trans (by rw [ui_ap, if_neg (by omega)])))
theorem kf_draft {u1 u2 u3 u4 : Int32} (hH : cH C c (n + 1) t K L J R) : a_does 700 36 [a_rf C, .int u1, .int u2, .int u3, .int u4] (n + 1, t, K, L, J, R) (fun _ h' => cFh C K J R h') := by
  exact cu_drafth hH (fun _ _ _ _ _ _ _ z => cf_Zh hH z)
theorem kf_ask {u1 u2 u3 u4 u5 u6 u7 : Int32} (hH : cH C c (n + 1) t K L J R) : a_does 700 38 [a_rf C, .int u1, .int u2, .int u3, .int u4, .int u5, .int u6, .int u7] (n + 1, t, K, L, J, R) (fun _ h' => cFh C K J R h') := by
  exact cu_askh hH (fun _ _ _ _ _ _ _ z => cf_Zh hH z)
theorem kf_askOf {u1 u2 : Int32} (hH : cH C c (n + 1) t K L J R) : a_does 700 53 [a_rf C, .int u1, .int u2] (n + 1, t, K, L, J, R) (fun _ h' => cFh C K J R h') := by
  exact cq_askOf hH (fun _ _ z => cf_Jh (fun x j p _ => z.2 x j (by omega) (by omega) (by omega)) (z.2 _ _ (by omega) (by omega) (by omega)))
theorem kf_feed {u1 : Int32} {u2 : Int64} (hH : cH C c (n + 1) t K L J R) : a_does 700 66 [a_rf C, .int u1, .long u2] (n + 1, t, K, L, J, R) (fun _ h' => cFh C K J R h') := by
  have hC := hH.2.2.1
  exact ke_feedh hH (fun _ _ z => cf_Zh hH z) (fun _ _ _ z => cf_Zh hH z) (fun _ _ _ _ f _ _ => cf_Jh (fun x j p _ => f x j (by omega) (by omega)) (f _ _ (by omega) (by omega)))
theorem kf_text {u1 : Int32} (hH : cH C c (n + 1) t K L J R) : a_does 700 68 [a_rf C, .int u1] (n + 1, t, K, L, J, R) (fun _ h' => cFh C K J R h') := by
  have hC := hH.2.2.1
  exact ke_texth hH (fun _ _ z => cf_Zh hH z) (fun _ _ _ z => cf_Zh hH z) (fun _ _ _ J' t1 g => cf_Jh (fun x j p _ => by rw [ui_ap, if_neg (by omega)]; exact t1.2 x j (by omega) (by omega)) (by rw [ui_ap, if_neg (by omega)]; exact t1.2 _ _ (by omega) (by omega))) (fun _ _ _ n' t' K' L' J' R' z _ _ _ _ _ => cf_tx hH z)
theorem kf_strike {u1 u2 : Int32} (hH : cH C c (n + 1) t K L J R) (hx : 0 ≤ u1 → u1 < J (C + 7) 3 → C + 96 < R (C + 8) u1.toNatClampNeg ∧ K (R (C + 8) u1.toNatClampNeg) = 11 ∧ ¬ R (C + 8) u1.toNatClampNeg = 0) : a_does 700 84 [a_rf C, .int u1, .int u2] (n + 1, t, K, L, J, R) (fun _ h' => cFh C K J R h') := by
  have hC := hH.2.2.1
  exact ke_strikeh hH (fun x0 x1 => (hx x0 x1).2.2) (fun _ _ z => cf_Zh hH z) (fun _ _ _ z => cf_Zh hH z) (fun q _ _ => cf_Jh (fun y j p r => by have hh := hx q.1.1 q.1.2; rw [ui_ap, if_neg (fun e => by rw [e.1] at p r; rw [hh.2.1] at r; omega), ui_ap, if_neg (fun e => by rw [e.1] at p r; rw [hh.2.1] at r; omega)]) (by have hh := hx q.1.1 q.1.2; rw [ui_ap, if_neg (by omega), ui_ap, if_neg (by omega)]))
theorem kf_barred {u1 u2 u3 u4 : Int32} (hH : cH C c (n + 1) t K L J R) : a_does 700 85 [a_rf C, .int u1, .int u2, .int u3, .int u4] (n + 1, t, K, L, J, R) (fun _ h' => cFh C K J R h') := by
  exact cq_barred hH (fun _ _ z => cf_Jh (fun x j p _ => z.2 x j (by omega) (by omega) (by omega)) (z.2 _ _ (by omega) (by omega) (by omega)))
theorem kf_kin {u1 u2 : Int32} (hH : cH C c (n + 1) t K L J R) : a_does 700 89 [a_rf C, .int u1, .int u2] (n + 1, t, K, L, J, R) (fun _ h' => cFh C K J R h') := by
  have hC := hH.2.2.1
  exact ke_kinh hH (fun _ _ z => cf_Zh hH z) (fun _ _ _ => cf_Jh (fun x j p _ => by rw [ui_ap, if_neg (by omega)]) (by rw [ui_ap, if_neg (by omega)]))
theorem kf_mark {u1 u2 u3 : Int32} (hH : cH C c (n + 1) t K L J R) : a_does 700 92 [a_rf C, .int u1, .int u2, .int u3] (n + 1, t, K, L, J, R) (fun _ h' => cFh C K J R h') := by
  exact cu_markh hH (fun _ _ _ _ _ _ _ z => cf_Zh hH z)
theorem kf_markOf {u1 : Int32} (hH : cH C c (n + 1) t K L J R) : a_does 700 96 [a_rf C, .int u1] (n + 1, t, K, L, J, R) (fun _ h' => cFh C K J R h') := by
  exact cu_markOfh hH (fun _ _ _ _ _ _ _ z => cf_Zh hH z)
theorem kf_habit {u1 u2 : Int32} (hH : cH C c (n + 1) t K L J R) : a_does 700 97 [a_rf C, .int u1, .int u2] (n + 1, t, K, L, J, R) (fun _ h' => cFh C K J R h') := by
  exact cq_habit hH (fun _ _ z => cf_Jh (fun x j p _ => z.2 x j (by omega) (by omega) (by omega)) (z.2 _ _ (by omega) (by omega) (by omega)))
theorem kf_fit {u1 u2 u3 : Int32} (hH : cH C c (n + 1) t K L J R) : a_does 700 99 [a_rf C, .int u1, .int u2, .int u3] (n + 1, t, K, L, J, R) (fun _ h' => cFh C K J R h') := by
  exact cu_fith hH (fun _ _ _ _ _ _ _ z => cf_Zh hH z)
theorem kf_passed {u1 : Int32} (hH : cH C c (n + 1) t K L J R) : a_does 700 125 [a_rf C, .int u1] (n + 1, t, K, L, J, R) (fun _ h' => cFh C K J R h') := by
  exact cq_passed hH (fun _ _ z => cf_Jh (fun x j p _ => z.2 x j (by omega) (by omega) (by omega)) (z.2 _ _ (by omega) (by omega) (by omega)))
theorem kf_why {u1 u2 u3 u4 u5 : Int32} (hH : cH C c (n + 1) t K L J R) : a_does 700 127 [a_rf C, .int u1, .int u2, .int u3, .int u4, .int u5] (n + 1, t, K, L, J, R) (fun _ h' => cFh C K J R h') := by
  exact cu_whyh hH (fun _ _ _ _ _ _ _ z => cf_Zh hH z)
theorem kf_best {u1 u2 u3 u4 : Int32} (hH : cH C c (n + 1) t K L J R) (hu : cuP C K L J R Y) : a_does 700 128 [a_rf C, .int u1, .int u2, .int u3, .int u4] (n + 1, t, K, L, J, R) (fun _ h' => cFh C K J R h') := by
  exact gf_best hH hu (fun _ _ _ _ _ e => cf_hf e)
theorem kf_hosts {u1 u2 : Int32} (hH : cH C c (n + 1) t K L J R) : a_does 700 140 [a_rf C, .int u1, .int u2] (n + 1, t, K, L, J, R) (fun _ h' => cFh C K J R h') := by
  exact cq_hosts hH (fun _ _ z => cf_Jh (fun x j p _ => z.2 x j (by omega) (by omega) (by omega)) (z.2 _ _ (by omega) (by omega) (by omega)))
theorem kf_owe {u1 : Int32} (hH : cH C c (n + 1) t K L J R) : a_does 700 141 [a_rf C, .int u1] (n + 1, t, K, L, J, R) (fun _ h' => cFh C K J R h') := by
  exact cu_oweh hH (fun _ _ _ _ _ _ _ z => cf_Zh hH z)
theorem kf_wish {u1 u2 u3 : Int32} (hw : u3 = 0 ∨ u3 = 1) (hH : cH C c (n + 1) t K L J R) : a_does 700 147 [a_rf C, .int u1, .int u2, .int u3] (n + 1, t, K, L, J, R) (fun _ h' => cFh C K J R h') := by
  exact cu_wishh hH hw (fun _ _ _ _ _ _ _ z => cf_Zh hH z)
theorem kf_ring {u1 : Int32} (hH : cH C c (n + 1) t K L J R) (hu : cuP C K L J R Y) : a_does 700 149 [a_rf C, .int u1] (n + 1, t, K, L, J, R) (fun _ h' => cFh C K J R h') := by
  exact gf_ring hH hu (fun _ _ _ _ _ _ e => cf_hf e)
theorem kf_had {u1 u2 u3 : Int32} (hH : cH C c (n + 1) t K L J R) : a_does 700 160 [a_rf C, .int u1, .int u2, .int u3] (n + 1, t, K, L, J, R) (fun _ h' => cFh C K J R h') := by
  exact cq_had hH (fun _ _ z => cf_Jh (fun x j p _ => z.2 x j (by omega) (by omega) (by omega)) (z.2 _ _ (by omega) (by omega) (by omega)))
theorem kf_lead {u1 u2 : Int32} (hH : cH C c (n + 1) t K L J R) : a_does 700 162 [a_rf C, .int u1, .int u2] (n + 1, t, K, L, J, R) (fun _ h' => cFh C K J R h') := by
  exact cq_lead hH (fun _ _ z => cf_Jh (fun x j p _ => z.2 x j (by omega) (by omega) (by omega)) (z.2 _ _ (by omega) (by omega) (by omega)))
theorem kf_put {u1 : Int32} (hH : cH C c (n + 1) t K L J R) : a_does 700 163 [a_rf C, .int u1] (n + 1, t, K, L, J, R) (fun _ h' => cFh C K J R h') := by
  have hC := hH.2.2.1
  exact ke_puth hH (fun _ _ z => cf_Zh hH z) (fun _ _ => cf_Jh (fun x j p _ => by rw [ui_ap, if_neg (by omega), ui_ap, if_neg (by omega)]) (by rw [ui_ap, if_neg (by omega), ui_ap, if_neg (by omega)]))
theorem kf_check {u1 u2 u3 : Int32} (hH : cH C c (n + 1) t K L J R) : a_does 700 164 [a_rf C, .int u1, .int u2, .int u3] (n + 1, t, K, L, J, R) (fun _ h' => cFh C K J R h') := by
  have hC := hH.2.2.1
  exact ke_checkh hH (fun _ _ z => cf_Zh hH z) (fun _ _ _ z => cf_Zh hH z) (fun _ _ _ _ z => cf_Zh hH z) (fun _ _ _ _ _ => cf_Jh (fun x j p _ => by rw [ui_ap, if_neg (by omega)]) (by rw [ui_ap, if_neg (by omega)]))
theorem kf_count {u1 : Int32} (hH : cH C c (n + 1) t K L J R) : a_does 700 166 [a_rf C, .int u1] (n + 1, t, K, L, J, R) (fun _ h' => cFh C K J R h') := by
  exact cq_count hH (fun _ _ z => cf_Jh (fun x j p _ => z.2 x j (by omega) (by omega) (by omega)) (z.2 _ _ (by omega) (by omega) (by omega)))
def eRh (M x j : Nat) : Prop := x < M ∨ M + 52 < x ∨ hC M x j
def rPh (C n t : Nat) (K L : Nat → Nat) (R : Nat → Nat → Nat) (J : Nat → Nat → Int32) (h' : AH) : Prop := ∃ J3, h' = (n + 1, t, K, L, J3, R) ∧ ∀ x j, eRh (C + 44) x j → J3 x j = J x j
theorem rh_J {J0 : Nat → Nat → Int32} (hJ : ∀ x j, eRh (C + 44) x j → J0 x j = J x j) : rPh C n t K L R J (n + 1, t, K, L, J0, R) := ⟨_, rfl, hJ⟩
theorem rh_F {J0 : Nat → Nat → Int32} (g : mFh (C + 44) c' J J0) : rPh C n t K L R J (n + 1, t, K, L, J0, R) := ⟨_, rfl, fun x j p => g.1.2 x j (by unfold eRh hC at p; unfold eCh eC; omega)⟩
theorem rh_Q {J0 : Nat → Nat → Int32} (g : mQ (C + 44) J J0) : rPh C n t K L R J (n + 1, t, K, L, J0, R) := ⟨_, rfl, fun x j p => g.2 x j (by unfold eRh hC at p; unfold sC; omega) (by unfold eRh hC at p; omega)⟩
theorem rj_mode {u1 u2 u3 : Int32} (hS : m_S (C + 44) K L R) (hR : mR (C + 44) J) (hE : mE (C + 44) (120 * c) J) (hc : 120 * c + 130 ≤ 84000) : a_does 700 172 [a_rf (C + 44), .int u1, .int u2, .int u3] (n + 1, t, K, L, J, R) (fun _ h' => rPh C n t K L R J h') := by
  exact pe_mode hS (fun _ => rh_J (fun x j hx => by rw [ui_ap, if_neg (by unfold eRh hC at hx; omega)])) (fun _ _ => rh_J (fun x j hx => by rw [ui_ap, if_neg (by unfold eRh hC at hx; omega)])) (fun _ _ _ f _ => rh_J (fun x j hx => f x j (by unfold eRh hC at hx; omega)))
theorem rj_trip {u1 u2 : Int32} (hS : m_S (C + 44) K L R) (hR : mR (C + 44) J) (hE : mE (C + 44) (120 * c) J) (hc : 120 * c + 130 ≤ 84000) : a_does 700 175 [a_rf (C + 44), .int u1, .int u2] (n + 1, t, K, L, J, R) (fun _ h' => rPh C n t K L R J h') := by
  exact pe_trip hS (rg_trips hR) (fun _ => rh_J (fun x j hx => by rw [ui_ap, if_neg (by unfold eRh hC at hx; omega)])) (fun _ _ => rh_J (fun x j hx => by rw [ui_ap, if_neg (by unfold eRh hC at hx; omega)])) (fun _ _ => rh_J (fun x j hx => by rw [ui_ap, if_neg (by unfold eRh hC at hx; omega), ui_ap, if_neg (by unfold eRh hC at hx; omega), ui_ap, if_neg (by unfold eRh hC at hx; omega), ui_ap, if_neg (by unfold eRh hC at hx; omega)]))
theorem rj_shiftOf {u1 u2 u3 : Int32} (hS : m_S (C + 44) K L R) (hR : mR (C + 44) J) (hE : mE (C + 44) (120 * c) J) (hc : 120 * c + 130 ≤ 84000) : a_does 700 176 [a_rf (C + 44), .int u1, .int u2, .int u3] (n + 1, t, K, L, J, R) (fun _ h' => rPh C n t K L R J h') := by
  exact xq_shiftOf hS hR (fun _ _ q => rh_Q q)
theorem rj_bench {u1 u2 : Int32} (hS : m_S (C + 44) K L R) (hR : mR (C + 44) J) (hE : mE (C + 44) (120 * c) J) (hc : 120 * c + 130 ≤ 84000) : a_does 700 178 [a_rf (C + 44), .int u1, .int u2] (n + 1, t, K, L, J, R) (fun _ h' => rPh C n t K L R J h') := by
  exact pe_bench hS (rg_benches hR) (fun _ => rh_J (fun x j hx => by rw [ui_ap, if_neg (by unfold eRh hC at hx; omega)])) (fun _ _ => rh_J (fun x j hx => by rw [ui_ap, if_neg (by unfold eRh hC at hx; omega)])) (fun _ _ => rh_J (fun x j hx => by rw [ui_ap, if_neg (by unfold eRh hC at hx; omega), ui_ap, if_neg (by unfold eRh hC at hx; omega), ui_ap, if_neg (by unfold eRh hC at hx; omega)]))
theorem rj_set {u1 u2 : Int32} (hS : m_S (C + 44) K L R) (hR : mR (C + 44) J) (hE : mE (C + 44) (120 * c) J) (hc : 120 * c + 130 ≤ 84000) : a_does 700 179 [a_rf (C + 44), .int u1, .int u2] (n + 1, t, K, L, J, R) (fun _ h' => rPh C n t K L R J h') := by
  exact pe_set hS (fun _ => rh_J (fun x j hx => by rw [ui_ap, if_neg (by unfold eRh hC at hx; omega)])) (fun _ _ => rh_J (fun x j hx => by rw [ui_ap, if_neg (by unfold eRh hC at hx; omega)])) (fun _ _ _ => rh_J (fun x j hx => by rw [ui_ap, if_neg (by unfold eRh hC at hx; omega)])) (fun _ _ _ => rh_J (fun x j hx => by rw [ui_ap, if_neg (by unfold eRh hC at hx; omega), ui_ap, if_neg (by unfold eRh hC at hx; omega), ui_ap, if_neg (by unfold eRh hC at hx; omega)])) (fun _ _ _ => rh_J (fun x j hx => by rw [ui_ap, if_neg (by unfold eRh hC at hx; omega), ui_ap, if_neg (by unfold eRh hC at hx; omega), ui_ap, if_neg (by unfold eRh hC at hx; omega)])) (fun _ _ _ => rh_J (fun x j hx => by rw [ui_ap, if_neg (by unfold eRh hC at hx; omega), ui_ap, if_neg (by unfold eRh hC at hx; omega), ui_ap, if_neg (by unfold eRh hC at hx; omega)]))
theorem rj_draft {u1 u2 u3 u4 : Int32} (hS : m_S (C + 44) K L R) (hR : mR (C + 44) J) (hE : mE (C + 44) (120 * c) J) (hc : 120 * c + 130 ≤ 84000) : a_does 700 180 [a_rf (C + 44), .int u1, .int u2, .int u3, .int u4] (n + 1, t, K, L, J, R) (fun _ h' => rPh C n t K L R J h') := by
  exact pu_drafth hS ⟨⟨hR, fun _ _ _ => rfl⟩, hE⟩ hc (fun _ _ g => rh_F g)
theorem rj_ask {u1 u2 u3 u4 u5 u6 u7 : Int32} (hS : m_S (C + 44) K L R) (hR : mR (C + 44) J) (hE : mE (C + 44) (120 * c) J) (hc : 120 * c + 130 ≤ 84000) : a_does 700 181 [a_rf (C + 44), .int u1, .int u2, .int u3, .int u4, .int u5, .int u6, .int u7] (n + 1, t, K, L, J, R) (fun _ h' => rPh C n t K L R J h') := by
  exact pu_askh hS ⟨⟨hR, fun _ _ _ => rfl⟩, hE⟩ hc (fun _ _ g => rh_F g)
theorem rj_askOf {u1 u2 : Int32} (hS : m_S (C + 44) K L R) (hR : mR (C + 44) J) (hE : mE (C + 44) (120 * c) J) (hc : 120 * c + 130 ≤ 84000) : a_does 700 188 [a_rf (C + 44), .int u1, .int u2] (n + 1, t, K, L, J, R) (fun _ h' => rPh C n t K L R J h') := by
  exact xq_askOf hS hR (fun _ _ q => rh_Q q)
theorem rj_feed {u1 : Int32} {u2 : Int64} (hS : m_S (C + 44) K L R) (hR : mR (C + 44) J) (hE : mE (C + 44) (120 * c) J) (hc : 120 * c + 130 ≤ 84000) : a_does 700 200 [a_rf (C + 44), .int u1, .long u2] (n + 1, t, K, L, J, R) (fun _ h' => rPh C n t K L R J h') := by
  exact pe_feed hS hR (rg_tapeMany hR) (fun _ => rh_J (fun x j hx => by rw [ui_ap, if_neg (by unfold eRh hC at hx; omega)])) (fun _ _ => rh_J (fun x j hx => by rw [ui_ap, if_neg (by unfold eRh hC at hx; omega)])) (fun _ _ _ _ f _ _ => rh_J (fun x j hx => f x j (by unfold eRh hC at hx; omega) (by unfold eRh hC at hx; omega)))
theorem rj_text {u1 : Int32} (hS : m_S (C + 44) K L R) (hR : mR (C + 44) J) (hE : mE (C + 44) (120 * c) J) (hc : 120 * c + 130 ≤ 84000) : a_does 700 201 [a_rf (C + 44), .int u1] (n + 1, t, K, L, J, R) (fun _ h' => rPh C n t K L R J h') := by
  have fx : ∀ (J0 : Nat → Nat → Int32), (∀ x j, ¬ sC (C + 44) x j → ¬ x = (C + 44 + 28) → ¬ x = (C + 44 + 29) → ¬ x = (C + 44 + 30) → ¬ x = (C + 44 + 31) → ¬ (x = (C + 44) ∧ (j = 40 ∨ j = 41)) → J0 x j = J x j) → ∀ x j, eRh (C + 44) x j → J0 x j = J x j := fun J0 f x j hx => f x j (by unfold eRh hC at hx; unfold sC; omega) (by unfold eRh hC at hx; omega) (by unfold eRh hC at hx; omega) (by unfold eRh hC at hx; omega) (by unfold eRh hC at hx; omega) (by unfold eRh hC at hx; omega)
  exact pe_text hS hR (fun _ => rh_J (fun x j hx => by rw [ui_ap, if_neg (by unfold eRh hC at hx; omega)])) (fun _ _ => rh_J (fun x j hx => by rw [ui_ap, if_neg (by unfold eRh hC at hx; omega)])) (fun _ _ _ J3 _ f _ _ _ => rh_J (fx J3 f)) (fun _ _ _ J3 _ f _ _ _ _ _ _ => rh_J (fx J3 f))
theorem rj_strike {u1 u2 : Int32} (hS : m_S (C + 44) K L R) (hR : mR (C + 44) J) (hE : mE (C + 44) (120 * c) J) (hc : 120 * c + 130 ≤ 84000) : a_does 700 207 [a_rf (C + 44), .int u1, .int u2] (n + 1, t, K, L, J, R) (fun _ h' => rPh C n t K L R J h') := by
  exact pe_strike hS hR (fun _ => rh_J (fun x j hx => by rw [ui_ap, if_neg (by unfold eRh hC at hx; omega)])) (fun _ _ => rh_J (fun x j hx => by rw [ui_ap, if_neg (by unfold eRh hC at hx; omega)])) (fun _ _ => rh_J (fun x j hx => by rw [ui_ap, if_neg (by unfold eRh hC at hx; omega)]))
theorem rj_barred {u1 u2 u3 u4 : Int32} (hS : m_S (C + 44) K L R) (hR : mR (C + 44) J) (hE : mE (C + 44) (120 * c) J) (hc : 120 * c + 130 ≤ 84000) : a_does 700 208 [a_rf (C + 44), .int u1, .int u2, .int u3, .int u4] (n + 1, t, K, L, J, R) (fun _ h' => rPh C n t K L R J h') := by
  exact xq_barred hS hR (fun _ _ q => rh_Q q)
theorem rj_kin {u1 u2 : Int32} (hS : m_S (C + 44) K L R) (hR : mR (C + 44) J) (hE : mE (C + 44) (120 * c) J) (hc : 120 * c + 130 ≤ 84000) : a_does 700 213 [a_rf (C + 44), .int u1, .int u2] (n + 1, t, K, L, J, R) (fun _ h' => rPh C n t K L R J h') := by
  exact pe_kin hS (fun _ => rh_J (fun x j hx => by rw [ui_ap, if_neg (by unfold eRh hC at hx; omega)])) (fun _ _ => rh_J (fun x j hx => by rw [ui_ap, if_neg (by unfold eRh hC at hx; omega)]))
theorem rj_mark {u1 u2 u3 : Int32} (hS : m_S (C + 44) K L R) (hR : mR (C + 44) J) (hE : mE (C + 44) (120 * c) J) (hc : 120 * c + 130 ≤ 84000) : a_does 700 215 [a_rf (C + 44), .int u1, .int u2, .int u3] (n + 1, t, K, L, J, R) (fun _ h' => rPh C n t K L R J h') := by
  exact pu_markh hS ⟨⟨hR, fun _ _ _ => rfl⟩, hE⟩ hc (fun _ _ g => rh_F g)
theorem rj_markOf {u1 : Int32} (hS : m_S (C + 44) K L R) (hR : mR (C + 44) J) (hE : mE (C + 44) (120 * c) J) (hc : 120 * c + 130 ≤ 84000) : a_does 700 216 [a_rf (C + 44), .int u1] (n + 1, t, K, L, J, R) (fun _ h' => rPh C n t K L R J h') := by
  exact pu_markOfh hS ⟨⟨hR, fun _ _ _ => rfl⟩, hE⟩ hc (fun _ _ g => rh_F g)
theorem rj_habit {u1 u2 : Int32} (hS : m_S (C + 44) K L R) (hR : mR (C + 44) J) (hE : mE (C + 44) (120 * c) J) (hc : 120 * c + 130 ≤ 84000) : a_does 700 217 [a_rf (C + 44), .int u1, .int u2] (n + 1, t, K, L, J, R) (fun _ h' => rPh C n t K L R J h') := by
  exact xq_habit hS hR (fun _ _ q => rh_Q q)
theorem rj_fit {u1 u2 u3 : Int32} (hS : m_S (C + 44) K L R) (hR : mR (C + 44) J) (hE : mE (C + 44) (120 * c) J) (hc : 120 * c + 130 ≤ 84000) : a_does 700 220 [a_rf (C + 44), .int u1, .int u2, .int u3] (n + 1, t, K, L, J, R) (fun _ h' => rPh C n t K L R J h') := by
  exact pu_fith hS ⟨⟨hR, fun _ _ _ => rfl⟩, hE⟩ hc (fun _ _ g => rh_F g)
theorem rj_passed {u1 : Int32} (hS : m_S (C + 44) K L R) (hR : mR (C + 44) J) (hE : mE (C + 44) (120 * c) J) (hc : 120 * c + 130 ≤ 84000) : a_does 700 240 [a_rf (C + 44), .int u1] (n + 1, t, K, L, J, R) (fun _ h' => rPh C n t K L R J h') := by
  exact xq_passed hS hR (fun _ _ q => rh_Q q)
theorem rj_why {u1 u2 u3 u4 u5 : Int32} (hS : m_S (C + 44) K L R) (hR : mR (C + 44) J) (hE : mE (C + 44) (120 * c) J) (hc : 120 * c + 130 ≤ 84000) : a_does 700 241 [a_rf (C + 44), .int u1, .int u2, .int u3, .int u4, .int u5] (n + 1, t, K, L, J, R) (fun _ h' => rPh C n t K L R J h') := by
  exact pu_whyh hS ⟨⟨hR, fun _ _ _ => rfl⟩, hE⟩ hc (fun _ _ g => rh_F g)
theorem rj_best {u1 u2 u3 u4 : Int32} (hS : m_S (C + 44) K L R) (hR : mR (C + 44) J) (hE : mE (C + 44) (120 * c) J) (hc : 120 * c + 130 ≤ 84000) : a_does 700 242 [a_rf (C + 44), .int u1, .int u2, .int u3, .int u4] (n + 1, t, K, L, J, R) (fun _ h' => rPh C n t K L R J h') := by
  exact pu_besth hS ⟨⟨hR, fun _ _ _ => rfl⟩, hE⟩ hc (fun _ _ g => rh_F g)
theorem rj_hosts {u1 u2 : Int32} (hS : m_S (C + 44) K L R) (hR : mR (C + 44) J) (hE : mE (C + 44) (120 * c) J) (hc : 120 * c + 130 ≤ 84000) : a_does 700 245 [a_rf (C + 44), .int u1, .int u2] (n + 1, t, K, L, J, R) (fun _ h' => rPh C n t K L R J h') := by
  exact xq_hosts hS hR (fun _ _ q => rh_Q q)
theorem rj_owe {u1 : Int32} (hS : m_S (C + 44) K L R) (hR : mR (C + 44) J) (hE : mE (C + 44) (120 * c) J) (hc : 120 * c + 130 ≤ 84000) : a_does 700 246 [a_rf (C + 44), .int u1] (n + 1, t, K, L, J, R) (fun _ h' => rPh C n t K L R J h') := by
  exact pu_oweh hS ⟨⟨hR, fun _ _ _ => rfl⟩, hE⟩ hc (fun _ _ g => rh_F g)
theorem rj_wish {u1 u2 u3 : Int32} (hw : u3 = 0 ∨ u3 = 1) (hS : m_S (C + 44) K L R) (hR : mR (C + 44) J) (hE : mE (C + 44) (120 * c) J) (hc : 120 * c + 130 ≤ 84000) : a_does 700 250 [a_rf (C + 44), .int u1, .int u2, .int u3] (n + 1, t, K, L, J, R) (fun _ h' => rPh C n t K L R J h') := by
  exact pu_wishh hS ⟨⟨hR, fun _ _ _ => rfl⟩, hE⟩ hc (fun _ _ g => rh_F g)
theorem rj_ring {u1 : Int32} (hS : m_S (C + 44) K L R) (hR : mR (C + 44) J) (hE : mE (C + 44) (120 * c) J) (hc : 120 * c + 130 ≤ 84000) : a_does 700 251 [a_rf (C + 44), .int u1] (n + 1, t, K, L, J, R) (fun _ h' => rPh C n t K L R J h') := by
  exact pu_ringh hS ⟨⟨hR, fun _ _ _ => rfl⟩, hE⟩ hc (fun _ _ g => rh_F g)
theorem rj_had {u1 u2 u3 : Int32} (hS : m_S (C + 44) K L R) (hR : mR (C + 44) J) (hE : mE (C + 44) (120 * c) J) (hc : 120 * c + 130 ≤ 84000) : a_does 700 256 [a_rf (C + 44), .int u1, .int u2, .int u3] (n + 1, t, K, L, J, R) (fun _ h' => rPh C n t K L R J h') := by
  exact xq_had hS hR (fun _ _ q => rh_Q q)
theorem rj_lead {u1 u2 : Int32} (hS : m_S (C + 44) K L R) (hR : mR (C + 44) J) (hE : mE (C + 44) (120 * c) J) (hc : 120 * c + 130 ≤ 84000) : a_does 700 258 [a_rf (C + 44), .int u1, .int u2] (n + 1, t, K, L, J, R) (fun _ h' => rPh C n t K L R J h') := by
  exact xq_lead hS hR (fun _ _ q => rh_Q q)
theorem rj_put {u1 : Int32} (hS : m_S (C + 44) K L R) (hR : mR (C + 44) J) (hE : mE (C + 44) (120 * c) J) (hc : 120 * c + 130 ≤ 84000) : a_does 700 259 [a_rf (C + 44), .int u1] (n + 1, t, K, L, J, R) (fun _ h' => rPh C n t K L R J h') := by
  exact pe_put hS (rg_rowMany hR) (fun _ => rh_J (fun x j hx => by rw [ui_ap, if_neg (by unfold eRh hC at hx; omega)])) (fun _ => rh_J (fun x j hx => by rw [ui_ap, if_neg (by unfold eRh hC at hx; omega), ui_ap, if_neg (by unfold eRh hC at hx; omega)]))
theorem rj_check {u1 u2 u3 : Int32} (hS : m_S (C + 44) K L R) (hR : mR (C + 44) J) (hE : mE (C + 44) (120 * c) J) (hc : 120 * c + 130 ≤ 84000) : a_does 700 260 [a_rf (C + 44), .int u1, .int u2, .int u3] (n + 1, t, K, L, J, R) (fun _ h' => rPh C n t K L R J h') := by
  exact pe_check hS hR (fun _ => rh_J (fun x j hx => by rw [ui_ap, if_neg (by unfold eRh hC at hx; omega)])) (fun _ _ => rh_J (fun x j hx => by rw [ui_ap, if_neg (by unfold eRh hC at hx; omega)])) (fun _ _ _ => rh_J (fun x j hx => by rw [ui_ap, if_neg (by unfold eRh hC at hx; omega)])) (fun _ _ _ _ => rh_J (fun x j hx => by rw [ui_ap, if_neg (by unfold eRh hC at hx; omega)]))
theorem rj_count {u1 : Int32} (hS : m_S (C + 44) K L R) (hR : mR (C + 44) J) (hE : mE (C + 44) (120 * c) J) (hc : 120 * c + 130 ≤ 84000) : a_does 700 261 [a_rf (C + 44), .int u1] (n + 1, t, K, L, J, R) (fun _ h' => rPh C n t K L R J h') := by
  exact xq_count hS hR (fun _ _ q => rh_Q q)
end HI0
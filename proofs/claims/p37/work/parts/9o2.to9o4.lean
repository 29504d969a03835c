section
/-! what was had: what each call leaves of it -/
section HI0
variable {d n t C c : Nat} {K L : Nat → Nat} {I I0 J J0 J1 J2 : Nat → Nat → Int32} {R : Nat → Nat → Nat} {P : Option Value → AH → Prop}
variable {Y Z W : Nat → Nat → Int32} {n' t' c' : Nat} {K' L' : Nat → Nat} {R' R1 R2 : Nat → Nat → Nat}
def cFh (C : Nat) (K : Nat → Nat) (J : Nat → Nat → Int32) (R : Nat → Nat → Nat) (h' : AH) : Prop := ∃ n2 t2 K2 L2 J2 R2, h' = (n2 + 1, t2, K2, L2, J2, R2) ∧ hfE C K J R J2 R2
theorem cf_Zh {J0 : Nat → Nat → Int32} (hH : cH C c (n + 1) t K L J R) (z : cZh C c' (n + 1) K L J R (n' + 1) t' K' L' J0 R') : cFh C K J R (n' + 1, t', K', L', J0, R') := by
  have lt : ∀ x, (K x = 20 ∨ K x = 3) → x < n + 1 := fun x h => Classical.byContradiction (fun q => by
    have := hH.2.1 x (by omega)
    omega)
  have b3 : ∀ x, K x = 3 → C + 96 < x := fun x e => (hH.1.g_bnc x e).1
  have c96 := z.1
  refine ⟨_, _, _, _, _, _, rfl, fun x j p q => z.2.2.2.2.2.2 x j (Or.inr ⟨p, q⟩) (lt x q), z.2.2.2.2.2.2 _ _ (Or.inl (Or.inr (Or.inr (Or.inl rfl)))) (by omega), fun x j q => ?_, fun x j p q => z.2.2.2.2.2.2 x j (Or.inl (eD_M p q)) (by omega)⟩
  rcases q with q | q
  · exact z.2.2.2.2.2.1 x j (Or.inr (Or.inl q)) (Or.inl (by omega))
  · have := b3 x q
    exact z.2.2.2.2.2.1 x j (Or.inr (Or.inr (by omega))) (Or.inr ⟨q, lt x (Or.inr q)⟩)
theorem cf_Jh {J0 : Nat → Nat → Int32} (hJ : ∀ x j, C + 44 ≤ x → (x ≤ C + 96 ∨ K x = 20 ∨ K x = 3) → J0 x j = J x j) (hn : J0 (C + 1) 6 = J (C + 1) 6) : cFh C K J R (n + 1, t, K, L, J0, R) := ⟨_, _, _, _, _, _, rfl, fun x j p q => hJ x j (by omega) (Or.inr q), hn, fun _ _ _ => rfl, fun x j p q => hJ x j p (Or.inl q)⟩
theorem cf_hf {J0 : Nat → Nat → Int32} (h : hfE C K J R J0 R1) : cFh C K J R (n + 1, t, K, L, J0, R1) := ⟨_, _, _, _, _, _, rfl, h⟩
theorem cf_tx {J0 : Nat → Nat → Int32} {v1 v2 : Int32} {p2 q2 p3 q3 : Nat} (hH : cH C c (n + 1) t K L J R) (z : cZh C c' (n + 1) K L J R (n' + 1) t' K' L' J0 R') : cFh C K J R (n' + 1, t', K', L', a_ui (a_ui J0 (C + 7) p2 v1) (C + 11) q2 v2, a_ur R' (C + 8) p3 q3) := by
  obtain ⟨n2, t2, K2, L2, J2, R2, e, f⟩ := cf_Zh hH z
  simp only [Prod.mk.injEq, Nat.add_right_cancel_iff] at e
  obtain ⟨i1, i2, i3, i4, i5, i6⟩ := e
  subst i1 i2 i3 i4 i5 i6
  have b3 : ∀ x, K x = 3 → C + 96 < x := fun x e => (hH.1.g_bnc x e).1
  refine ⟨_, _, _, _, _, _, rfl, fun x j p q => ?_, ?_, fun x j q => ?_, fun x j p q => ?_⟩
  · rw [ui_ap, if_neg (by omega), ui_ap, if_neg (by omega)]
    exact f.1 x j p q
  · rw [ui_ap, if_neg (by omega), ui_ap, if_neg (by omega)]
    exact f.2.1
  · have := b3 x
    rw [ur_ap, if_neg (by omega)]
    exact f.2.2.1 x j q
  · rw [ui_ap, if_neg (by omega), ui_ap, if_neg (by omega)]
    exact f.2.2.2 x j p q
theorem gf_ring (hH : cH C c (n + 1) t K L I R) (hu : cuP C K L I R Y) {w : Int32} (hP : ∀ v J R1, rgO Y w v → cH C c (n + 1) t K L J R1 → cuP C K L J R1 Y → hfE C K I R J R1 → P (some (.int v)) (n + 1, t, K, L, J, R1)) : a_does (d + 70) 149 [a_rf C, .int w] (n + 1, t, K, L, I, R) P := by
  have hS := hH.1.s
  by_cases c1 : w < -1
  · have hl := gr_refuse (d := d + 68) (v := -2) hH hu (P := fun r' h' => a_at (d + 69) (a_xm a_m149) 11 [some (a_rf C), some (.int w), none] (r'.toList ++ []) h' P) (fun J z u2 z3 => by
      have hS2 := z.1.s
      have hp := hP (-2) J R (Or.inl ⟨c1, rfl⟩) z u2 z3
      ((try clear hP); (try clear hu))
      simp only [q149_11, as_nil, as_i, as_r, Nat.reduceAdd, Nat.reduceLeDiff, z_eq0, z_eq1, z_or, z_em, Classical.not_not, not_false_eq_true, not_true_eq_false, true_and, and_true, false_and, and_false, and_self, true_implies, false_implies, implies_true, Option.toList_some, Option.toList_none, List.cons_append, List.nil_append, Nat.add_eq_zero_iff, a_nl_i, a_nl_r, a_nl_n, true_or, or_true, eq_self, a_isRA_22, a_isRA_24, a_isRA_32, a_isA_20, ok_4, ok_5, ok_6, ok_7, ok_9, ok_20, ok_21, ok_30, ok_50, ok_180, ok_192, ok_200]
      exact hp)
    ((try clear hP); (try clear hu))
    rw [a_enter1 (M := a_m149) rfl (a_cat_rf (a_cat_int a_cat_nil)) (show 2 ≤ 3 by decide)]
    show a_at _ (a_xm a_m149) 0 [some (a_rf C), some (.int w), none] [] _ _
    simp only [q149_0, q149_1, q149_2, q149_5, q149_6, q149_8, k_0 hS, z_C hS, as_nil, as_i, as_r, Nat.reduceAdd, Nat.reduceLeDiff, z_eq0, z_eq1, z_or, z_em, Classical.not_not, not_false_eq_true, not_true_eq_false, true_and, and_true, false_and, and_false, and_self, true_implies, false_implies, implies_true, Option.toList_some, Option.toList_none, List.cons_append, List.nil_append, Nat.add_eq_zero_iff, a_nl_i, a_nl_r, a_nl_n, true_or, or_true, eq_self, a_isRA_22, a_isRA_24, a_isRA_32, a_isA_20, ok_4, ok_5, ok_6, ok_7, ok_9, ok_20, ok_21, ok_30, ok_50, ok_180, ok_192, ok_200, c1]
    try simp only [true_and, and_true, true_implies, false_implies, implies_true, not_true_eq_false, not_false_eq_true]
    first
      | exact hl
      | grind
  · have hl := ce_find (d := d + 28) (n := n + 1) hH hu (P := fun r' h' => a_at (d + 69) (a_xm a_m149) 19 [some (a_rf C), some (.int w), none] (r'.toList ++ []) h' P) (fun v J R1 g q es hv hr hb => by
      have hT2 := q.1.1
      have hS := hT2.s
      have hu2 := fq_cu hH hu q
      have v05 : 0 ≤ v ∧ v ≤ 5 := by ((try clear hP); (try clear hu); (try clear hu2); (try clear hr); (try clear hb); (try clear q)); grind
      have eo : v = Int32.ofNat v.toNatClampNeg := on_cl v05.1
      by_cases c2 : w = -1
      · have hp := hP v J R1 (Or.inr ⟨c1, _, g, hr, by unfold rgV; rw [if_pos c2]; exact eo⟩) q.1 hu2 (hf_q hH.1 q)
        ((try clear hP); (try clear hu); (try clear hu2); (try clear hr); (try clear hb); (try clear q))
        simp only [q149_19, q149_20, q149_21, q149_22, q149_25, q149_26, q149_37, as_nil, as_i, as_r, Nat.reduceAdd, Nat.reduceLeDiff, z_eq0, z_eq1, z_or, z_em, Classical.not_not, not_false_eq_true, not_true_eq_false, true_and, and_true, false_and, and_false, and_self, true_implies, false_implies, implies_true, Option.toList_some, Option.toList_none, List.cons_append, List.nil_append, Nat.add_eq_zero_iff, a_nl_i, a_nl_r, a_nl_n, true_or, or_true, eq_self, a_isRA_22, a_isRA_24, a_isRA_32, a_isA_20, ok_4, ok_5, ok_6, ok_7, ok_9, ok_20, ok_21, ok_30, ok_50, ok_180, ok_192, ok_200, c2]
        try simp only [true_and, and_true, true_implies, false_implies, implies_true, not_true_eq_false, not_false_eq_true]
        first
          | exact hp
          | grind
      · have w0 : 0 ≤ w := by ((try clear hP); (try clear hu); (try clear hu2); (try clear hr); (try clear hb); (try clear q)); grind
        have hp := hP _ J R1 (Or.inr ⟨c1, _, g, hr, rfl⟩) q.1 hu2 (hf_q hH.1 q)
        unfold rgV at hp
        rw [if_neg c2, ← eo] at hp
        have hm := ce_memberAt (d := d + 68) (n := n + 1) (t := t) (q := w) hT2 hu2.1 v05 es hb (P := fun r' h' => a_at (d + 69) (a_xm a_m149) 37 [some (a_rf C), some (.int w), some (.int v)] (r'.toList ++ []) h' P) (by
          by_cases c3 : w < v
          · rw [if_pos c3] at hp
            rw [if_pos ⟨w0, c3⟩]
            ((try clear hP); (try clear hu); (try clear hu2); (try clear hr); (try clear hb); (try clear q))
            simp only [q149_37, as_nil, as_i, as_r, Nat.reduceAdd, Nat.reduceLeDiff, z_eq0, z_eq1, z_or, z_em, Classical.not_not, not_false_eq_true, not_true_eq_false, true_and, and_true, false_and, and_false, and_self, true_implies, false_implies, implies_true, Option.toList_some, Option.toList_none, List.cons_append, List.nil_append, Nat.add_eq_zero_iff, a_nl_i, a_nl_r, a_nl_n, true_or, or_true, eq_self, a_isRA_22, a_isRA_24, a_isRA_32, a_isA_20, ok_4, ok_5, ok_6, ok_7, ok_9, ok_20, ok_21, ok_30, ok_50, ok_180, ok_192, ok_200]
            exact hp
          · rw [if_neg c3] at hp
            rw [if_neg (fun q => c3 q.2)]
            ((try clear hP); (try clear hu); (try clear hu2); (try clear hr); (try clear hb); (try clear q))
            simp only [q149_37, as_nil, as_i, as_r, Nat.reduceAdd, Nat.reduceLeDiff, z_eq0, z_eq1, z_or, z_em, Classical.not_not, not_false_eq_true, not_true_eq_false, true_and, and_true, false_and, and_false, and_self, true_implies, false_implies, implies_true, Option.toList_some, Option.toList_none, List.cons_append, List.nil_append, Nat.add_eq_zero_iff, a_nl_i, a_nl_r, a_nl_n, true_or, or_true, eq_self, a_isRA_22, a_isRA_24, a_isRA_32, a_isA_20, ok_4, ok_5, ok_6, ok_7, ok_9, ok_20, ok_21, ok_30, ok_50, ok_180, ok_192, ok_200]
            exact hp)
        ((try clear hP); (try clear hu); (try clear hu2); (try clear hr); (try clear hb); (try clear q); (try clear hp))
        simp only [q149_19, q149_20, q149_21, q149_22, q149_25, q149_26, q149_29, q149_30, q149_33, q149_34, k_0 hS, z_C hS, r_0_7 hS, k_35 hS, z_35, as_nil, as_i, as_r, Nat.reduceAdd, Nat.reduceLeDiff, z_eq0, z_eq1, z_or, z_em, Classical.not_not, not_false_eq_true, not_true_eq_false, true_and, and_true, false_and, and_false, and_self, true_implies, false_implies, implies_true, Option.toList_some, Option.toList_none, List.cons_append, List.nil_append, Nat.add_eq_zero_iff, a_nl_i, a_nl_r, a_nl_n, true_or, or_true, eq_self, a_isRA_22, a_isRA_24, a_isRA_32, a_isA_20, ok_4, ok_5, ok_6, ok_7, ok_9, ok_20, ok_21, ok_30, ok_50, ok_180, ok_192, ok_200, c2]
        try simp only [true_and, and_true, true_implies, false_implies, implies_true, not_true_eq_false, not_false_eq_true]
        first
          | exact hm
          | grind)
    ((try clear hP); (try clear hu))
    rw [a_enter1 (M := a_m149) rfl (a_cat_rf (a_cat_int a_cat_nil)) (show 2 ≤ 3 by decide)]
    show a_at _ (a_xm a_m149) 0 [some (a_rf C), some (.int w), none] [] _ _
    simp only [q149_0, q149_1, q149_2, q149_5, q149_6, q149_8, q149_11, q149_12, q149_13, q149_16, k_0 hS, z_C hS, r_0_7 hS, k_35 hS, z_35, as_nil, as_i, as_r, Nat.reduceAdd, Nat.reduceLeDiff, z_eq0, z_eq1, z_or, z_em, Classical.not_not, not_false_eq_true, not_true_eq_false, true_and, and_true, false_and, and_false, and_self, true_implies, false_implies, implies_true, Option.toList_some, Option.toList_none, List.cons_append, List.nil_append, Nat.add_eq_zero_iff, a_nl_i, a_nl_r, a_nl_n, true_or, or_true, eq_self, a_isRA_22, a_isRA_24, a_isRA_32, a_isA_20, ok_4, ok_5, ok_6, ok_7, ok_9, ok_20, ok_21, ok_30, ok_50, ok_180, ok_192, ok_200, c1]
    try simp only [true_and, and_true, true_implies, false_implies, implies_true, not_true_eq_false, not_false_eq_true]
    first
      | exact hl
      | grind
theorem gf_best (hH : cH C c (n + 1) t K L I R) (hu : cuP C K L I R Y) {x y r w : Int32} (hP : ∀ v J R1, cH C c (n + 1) t K L J R1 → cuP C K L J R1 Y → hfE C K I R J R1 → P (some (.int v)) (n + 1, t, K, L, J, R1)) : a_does (d + 70) 128 [a_rf C, .int x, .int y, .int r, .int w] (n + 1, t, K, L, I, R) P := by
  have hT := hH.1
  have hS := hT.s
  have gA := hT.g_asksR
  have gB := hT.g_benchesR
  have gX := hT.g_textsR
  have hrf : ∀ v : Int32, a_does (d + 69) 10 [a_rf C, .int v] (n + 1, t, K, L, I, R) (fun r' h' => ∀ z : Int32, r' = some (.int z) → P (some (.int z)) h') := fun v => by
    refine gr_refuse (d := d + 68) hH hu (fun J z u2 z3 => ?_)
    intro q hq
    cases hq
    exact hP _ J R z u2 z3
  have hq0 : ∀ v, ∀ Q : Option Value → AH → Prop, (∀ J, cH C c (n + 1) t K L J R → cuP C K L J R Y → hfE C K I R J R → Q (some (.int v)) (n + 1, t, K, L, J, R)) → a_does (d + 69) 10 [a_rf C, .int v] (n + 1, t, K, L, I, R) Q := fun v Q hQ => gr_refuse (d := d + 68) hH hu hQ
  have h75 : (0 ≤ x ∧ x < 200) → (0 ≤ y ∧ y < 200) → a_at (d + 69) (a_xm a_m128) 75 [some (a_rf C), some (.int x), some (.int y), some (.int r), some (.int w)] [] (n + 1, t, K, L, I, R) P := fun hx hy => by
    have y199 : y ≤ 199 := by ((try clear hP); (try clear hu); (try clear hrf); (try clear hq0)); grind
    have hp := hP
    have hfree := ce_areAllFree (d := d + 67) (n := n + 1) (t := t) hT hu.1 (r := r) (P := fun r' h' => a_at (d + 69) (a_xm a_m128) 83 [some (a_rf C), some (.int x), some (.int y), some (.int r), some (.int w)] (r'.toList ++ []) h' P) (fun v hv => by
      by_cases cv : v = 0
      · have hr := hq0 (-3) (fun r' h' => a_at (d + 69) (a_xm a_m128) 92 [some (a_rf C), some (.int x), some (.int y), some (.int r), some (.int w)] (r'.toList ++ []) h' P) (fun J z u2 z3 => by
          have hS := z.1.s
          have hp := hP (-3) J R z u2 z3
          ((try clear hP); (try clear hu); (try clear hrf); (try clear hq0))
          simp only [q128_92, as_nil, as_i, as_r, Nat.reduceAdd, Nat.reduceLeDiff, z_eq0, z_eq1, z_or, z_em, Classical.not_not, not_false_eq_true, not_true_eq_false, true_and, and_true, false_and, and_false, and_self, true_implies, false_implies, implies_true, Option.toList_some, Option.toList_none, List.cons_append, List.nil_append, Nat.add_eq_zero_iff, a_nl_i, a_nl_r, a_nl_n, true_or, or_true, eq_self, a_isRA_22, a_isRA_24, a_isRA_32, a_isA_20, ok_4, ok_5, ok_6, ok_7, ok_9, ok_20, ok_21, ok_30, ok_50, ok_180, ok_192, ok_200]
          exact hp)
        ((try clear hP); (try clear hu); (try clear hrf); (try clear hq0); (try clear hv))
        simp only [q128_83, q128_86, q128_87, q128_89, k_0 hS, z_C hS, as_nil, as_i, as_r, Nat.reduceAdd, Nat.reduceLeDiff, z_eq0, z_eq1, z_or, z_em, Classical.not_not, not_false_eq_true, not_true_eq_false, true_and, and_true, false_and, and_false, and_self, true_implies, false_implies, implies_true, Option.toList_some, Option.toList_none, List.cons_append, List.nil_append, Nat.add_eq_zero_iff, a_nl_i, a_nl_r, a_nl_n, true_or, or_true, eq_self, a_isRA_22, a_isRA_24, a_isRA_32, a_isA_20, ok_4, ok_5, ok_6, ok_7, ok_9, ok_20, ok_21, ok_30, ok_50, ok_180, ok_192, ok_200, cv]
        try simp only [true_and, and_true, true_implies, false_implies, implies_true, not_true_eq_false, not_false_eq_true]
        first
          | exact hr
          | grind
      · have hs := ce_search (d := d + 38) (n := n + 1) hH hu.1 hu.2.1 hu.2.2.2.1 (hv cv) (p := x) (q := y) (r := r) ⟨hx.1, by ((try clear hP); (try clear hu); (try clear hrf); (try clear hq0); (try clear hv)); grind⟩ y199 (P := fun r' h' => a_at (d + 69) (a_xm a_m128) 103 [some (a_rf C), some (.int x), some (.int y), some (.int r), some (.int w)] (r'.toList ++ []) h' P) (fun J R1 fb bn => by
          have hS := fb.1.1.s
          have hu2 := fb_cu hH hu fb
          have hp := fun v => hP v J R1 fb.1 hu2 (hf_b hT fb)
          have hT2 := fb.1.1
          ((try clear hP); (try clear hu); (try clear hrf); (try clear hq0); (try clear hv); (try clear hu2); (try clear fb))
          simp only [q128_103, q128_105, q128_106, q128_109, q128_110, q128_113, q128_116, q128_119, q128_120, q128_123, q128_125, q128_128, k_0 hS, z_C hS, r_0_6 hS, k_27 hS, z_27, as_nil, as_i, as_r, Nat.reduceAdd, Nat.reduceLeDiff, z_eq0, z_eq1, z_or, z_em, Classical.not_not, not_false_eq_true, not_true_eq_false, true_and, and_true, false_and, and_false, and_self, true_implies, false_implies, implies_true, Option.toList_some, Option.toList_none, List.cons_append, List.nil_append, Nat.add_eq_zero_iff, a_nl_i, a_nl_r, a_nl_n, true_or, or_true, eq_self, a_isRA_22, a_isRA_24, a_isRA_32, a_isA_20, ok_4, ok_5, ok_6, ok_7, ok_9, ok_20, ok_21, ok_30, ok_50, ok_180, ok_192, ok_200]
          refine ⟨fun _ => ?_, fun _ => ?_⟩
          · first
              | exact hp _
              | (refine ck_spotOf hT2 bn (fun v2 => ?_)
                 simp only [q128_128, as_nil, as_i, as_r, Nat.reduceAdd, Nat.reduceLeDiff, z_eq0, z_eq1, z_or, z_em, Classical.not_not, not_false_eq_true, not_true_eq_false, true_and, and_true, false_and, and_false, and_self, true_implies, false_implies, implies_true, Option.toList_some, Option.toList_none, List.cons_append, List.nil_append, Nat.add_eq_zero_iff, a_nl_i, a_nl_r, a_nl_n, true_or, or_true, eq_self, a_isRA_22, a_isRA_24, a_isRA_32, a_isA_20, ok_4, ok_5, ok_6, ok_7, ok_9, ok_20, ok_21, ok_30, ok_50, ok_180, ok_192, ok_200]
                 exact hp _)
          · first
              | exact hp _
              | (refine ck_spotOf hT2 bn (fun v2 => ?_)
                 simp only [q128_128, as_nil, as_i, as_r, Nat.reduceAdd, Nat.reduceLeDiff, z_eq0, z_eq1, z_or, z_em, Classical.not_not, not_false_eq_true, not_true_eq_false, true_and, and_true, false_and, and_false, and_self, true_implies, false_implies, implies_true, Option.toList_some, Option.toList_none, List.cons_append, List.nil_append, Nat.add_eq_zero_iff, a_nl_i, a_nl_r, a_nl_n, true_or, or_true, eq_self, a_isRA_22, a_isRA_24, a_isRA_32, a_isA_20, ok_4, ok_5, ok_6, ok_7, ok_9, ok_20, ok_21, ok_30, ok_50, ok_180, ok_192, ok_200]
                 exact hp _))
        ((try clear hP); (try clear hu); (try clear hrf); (try clear hq0); (try clear hv))
        simp only [q128_83, q128_93, q128_94, q128_97, q128_98, q128_99, q128_100, k_0 hS, z_C hS, r_0_6 hS, k_27 hS, z_27, as_nil, as_i, as_r, Nat.reduceAdd, Nat.reduceLeDiff, z_eq0, z_eq1, z_or, z_em, Classical.not_not, not_false_eq_true, not_true_eq_false, true_and, and_true, false_and, and_false, and_self, true_implies, false_implies, implies_true, Option.toList_some, Option.toList_none, List.cons_append, List.nil_append, Nat.add_eq_zero_iff, a_nl_i, a_nl_r, a_nl_n, true_or, or_true, eq_self, a_isRA_22, a_isRA_24, a_isRA_32, a_isA_20, ok_4, ok_5, ok_6, ok_7, ok_9, ok_20, ok_21, ok_30, ok_50, ok_180, ok_192, ok_200, cv]
        try simp only [true_and, and_true, true_implies, false_implies, implies_true, not_true_eq_false, not_false_eq_true]
        first
          | exact hs
          | grind)
    ((try clear hP); (try clear hu); (try clear hrf); (try clear hq0))
    simp only [q128_75, q128_76, q128_79, q128_80, k_0 hS, z_C hS, r_0_4 hS, k_14 hS, z_14, as_nil, as_i, as_r, Nat.reduceAdd, Nat.reduceLeDiff, z_eq0, z_eq1, z_or, z_em, Classical.not_not, not_false_eq_true, not_true_eq_false, true_and, and_true, false_and, and_false, and_self, true_implies, false_implies, implies_true, Option.toList_some, Option.toList_none, List.cons_append, List.nil_append, Nat.add_eq_zero_iff, a_nl_i, a_nl_r, a_nl_n, true_or, or_true, eq_self, a_isRA_22, a_isRA_24, a_isRA_32, a_isA_20, ok_4, ok_5, ok_6, ok_7, ok_9, ok_20, ok_21, ok_30, ok_50, ok_180, ok_192, ok_200]
    exact hfree
  have hqz : ∀ v J, cH C c (n + 1) t K L J R → cuP C K L J R Y → hfE C K I R J R → P (some (.int v)) (n + 1, t, K, L, J, R) := fun v J z u2 z3 => hP v J R z u2 z3
  ((try clear hP); (try clear hrf))
  rw [a_enter1 (M := a_m128) rfl (a_cat_rf (a_cat_int (a_cat_int (a_cat_int (a_cat_int a_cat_nil))))) (show 5 ≤ 5 by decide)]
  show a_at _ (a_xm a_m128) 0 [some (a_rf C), some (.int x), some (.int y), some (.int r), some (.int w)] [] _ _
  repeat' first
    | with_reducible apply And.intro
    | with_reducible assumption
    | with_reducible intro _
    | refine hq0 _ _ (fun _ _ _ _ => ?_)
    | exact hqz _ _ (by assumption) (by assumption) (by assumption)
    | with_reducible apply ck_areAsks hT
    | with_reducible apply ck_isIn
    | with_reducible apply ck_bitCount
    | with_reducible apply h75
    | simp only [q128_0, q128_1, q128_2, q128_5, q128_8, q128_9, q128_12, q128_13, q128_16, q128_19, q128_21, q128_24, q128_25, q128_27, q128_30, q128_33, q128_34, q128_35, q128_38, q128_39, q128_41, q128_42, q128_45, q128_46, q128_48, q128_51, q128_52, q128_53, q128_54, q128_55, q128_57, q128_60, q128_61, q128_64, q128_65, q128_68, q128_69, q128_71, q128_74, k_0 hS, z_C hS, r_0_4 hS, k_14 hS, z_14, sp_areShifts, as_nil, as_i, as_r, Nat.reduceAdd, Nat.reduceLeDiff, z_eq0, z_eq1, z_or, z_em, Classical.not_not, not_false_eq_true, not_true_eq_false, true_and, and_true, false_and, and_false, and_self, true_implies, false_implies, implies_true, Option.toList_some, Option.toList_none, List.cons_append, List.nil_append, Nat.add_eq_zero_iff, a_nl_i, a_nl_r, a_nl_n, true_or, or_true, eq_self, a_isRA_22, a_isRA_24, a_isRA_32, a_isA_20, ok_4, ok_5, ok_6, ok_7, ok_9, ok_20, ok_21, ok_30, ok_50, ok_180, ok_192, ok_200]
  all_goals ((try clear h75); (try clear hq0); (try clear hqz); (try clear hu); (try clear hH); (try clear hT); grind [ui_ap])
theorem kf_mode {u1 u2 u3 : Int32} (hH : cH C c (n + 1) t K L J R) : a_does 700 11 [a_rf C, .int u1, .int u2, .int u3] (n + 1, t, K, L, J, R) (fun _ h' => cFh C K J R h') := by
  have hC := hH.2.2.1
  exact ke_modeh hH (fun _ _ z => cf_Zh hH z) (fun _ _ _ z => cf_Zh hH z) (fun _ _ _ _ f _ => cf_Jh (fun x j p _ => f x j (by omega)) (f _ _ (by omega)))
theorem kf_trip {u1 u2 : Int32} (hH : cH C c (n + 1) t K L J R) : a_does 700 15 [a_rf C, .int u1, .int u2] (n + 1, t, K, L, J, R) (fun _ h' => cFh C K J R h') := by
  have hC := hH.2.2.1
  exact ke_triph hH (fun _ _ z => cf_Zh hH z) (fun _ _ _ z => cf_Zh hH z) (fun _ _ _ _ f => cf_Jh (fun x j p _ => (f x j (by omega)).trans (by unfold tX; rw [ui_ap, if_neg (by omega), ui_ap, if_neg (by omega), ui_ap, if_neg (by omega), ui_ap, if_neg (by omega)])) ((f _ _ (by omega)).trans (by unfold tX; rw [ui_ap, if_neg (by omega), ui_ap, if_neg (by omega), ui_ap, if_neg (by omega), ui_ap, if_neg (by omega)])))
theorem kf_shiftOf {u1 u2 u3 : Int32} (hH : cH C c (n + 1) t K L J R) : a_does 700 17 [a_rf C, .int u1, .int u2, .int u3] (n + 1, t, K, L, J, R) (fun _ h' => cFh C K J R h') := by
  exact cu_shiftOfh hH (fun _ _ _ _ _ _ _ z => cf_Zh hH z)
theorem kf_set {u1 u2 : Int32} (hH : cH C c (n + 1) t K L J R) : a_does 700 23 [a_rf C, .int u1, .int u2] (n + 1, t, K, L, J, R) (fun _ h' => cFh C K J R h') := by
  have hC := hH.2.2.1
  exact ke_seth hH (fun _ _ z => cf_Zh hH z) (fun _ _ _ z => cf_Zh hH z) (fun _ _ _ _ z => cf_Zh hH z) (fun _ _ _ _ => cf_Jh (fun x j p _ => by rw [ui_ap, if_neg (by omega)]) (by rw [ui_ap, if_neg (by omega)])) (fun _ _ _ _ => cf_Jh (fun x j p _ => by rw [ui_ap, if_neg (by omega)]) (by rw [ui_ap, if_neg (by omega)])) (fun _ _ _ _ w => cf_Jh (fun x j p q => (w.2 x j (by rcases q with q | q; exact Or.inl (eD_M p q); exact (by by_cases e : x ≤ C + 96; exact Or.inl (eD_M p e); exact Or.inr ⟨by omega, q⟩))).trans (by rw [ui_ap, if_neg (by omega)])) ((w.2 _ _ (Or.inl (Or.inr (Or.inr (Or.inl rfl))))).trans (by rw [ui_ap, if_neg (by omega)])))
theorem kf_draft {u1 u2 u3 u4 : Int32} (hH : cH C c (n + 1) t K L J R) : a_does 700 36 [a_rf C, .int u1, .int u2, .int u3, .int u4] (n + 1, t, K, L, J, R) (fun _ h' => cFh C K J R h') := by
  exact cu_drafth hH (fun _ _ _ _ _ _ _ z => cf_Zh hH z)
theorem kf_ask {u1 u2 u3 u4 u5 u6 u7 : Int32} (hH : cH C c (n + 1) t K L J R) : a_does 700 38 [a_rf C, .int u1, .int u2, .int u3, .int u4, .int u5, .int u6, .int u7] (n + 1, t, K, L, J, R) (fun _ h' => cFh C K J R h') := by
  exact cu_askh hH (fun _ _ _ _ _ _ _ z => cf_Zh hH z)
theorem kf_askOf {u1 u2 : Int32} (hH : cH C c (n + 1) t K L J R) : a_does 700 53 [a_rf C, .int u1, .int u2] (n + 1, t, K, L, J, R) (fun _ h' => cFh C K J R h') := by
  exact cq_askOf hH (fun _ _ z => cf_Jh (fun x j p _ => z.2 x j (by omega) (by omega) (by omega)) (z.2 _ _ (by omega) (by omega) (by omega)))
theorem kf_feed {u1 : Int32} {u2 : Int64} (hH : cH C c (n + 1) t K L J R) : a_does 700 66 [a_rf C, .int u1, .long u2] (n + 1, t, K, L, J, R) (fun _ h' => cFh C K J R h') := by
  have hC := hH.2.2.1
  exact ke_feedh hH (fun _ _ z => cf_Zh hH z) (fun _ _ _ z => cf_Zh hH z) (fun _ _ _ _ f _ _ => cf_Jh (fun x j p _ => f x j (by omega) (by omega)) (f _ _ (by omega) (by omega)))
theorem kf_text {u1 : Int32} (hH : cH C c (n + 1) t K L J R) : a_does 700 68 [a_rf C, .int u1] (n + 1, t, K, L, J, R) (fun _ h' => cFh C K J R h') := by
  have hC := hH.2.2.1
  exact ke_texth hH (fun _ _ z => cf_Zh hH z) (fun _ _ _ z => cf_Zh hH z) (fun _ _ _ J' t1 g => cf_Jh (fun x j p _ => by rw [ui_ap, if_neg (by omega)]; exact t1.2 x j (by omega) (by omega)) (by rw [ui_ap, if_neg (by omega)]; exact t1.2 _ _ (by omega) (by omega))) (fun _ _ _ n' t' K' L' J' R' z _ _ _ _ _ => cf_tx hH z)
theorem kf_strike {u1 u2 : Int32} (hH : cH C c (n + 1) t K L J R) (hx : 0 ≤ u1 → u1 < J (C + 7) 3 → C + 96 < R (C + 8) u1.toNatClampNeg ∧ K (R (C + 8) u1.toNatClampNeg) = 11 ∧ ¬ R (C + 8) u1.toNatClampNeg = 0) : a_does 700 84 [a_rf C, .int u1, .int u2] (n + 1, t, K, L, J, R) (fun _ h' => cFh C K J R h') := by
  have hC := hH.2.2.1
  exact ke_strikeh hH (fun x0 x1 => (hx x0 x1).2.2) (fun _ _ z => cf_Zh hH z) (fun _ _ _ z => cf_Zh hH z) (fun q _ _ => cf_Jh (fun y j p r => by have hh := hx q.1.1 q.1.2; rw [ui_ap, if_neg (fun e => by rw [e.1] at p r; rw [hh.2.1] at r; omega), ui_ap, if_neg (fun e => by rw [e.1] at p r; rw [hh.2.1] at r; omega)]) (by have hh := hx q.1.1 q.1.2; rw [ui_ap, if_neg (by omega), ui_ap, if_neg (by omega)]))
theorem kf_barred {u1 u2 u3 u4 : Int32} (hH : cH C c (n + 1) t K L J R) : a_does 700 85 [a_rf C, .int u1, .int u2, .int u3, .int u4] (n + 1, t, K, L, J, R) (fun _ h' => cFh C K J R h') := by
  exact cq_barred hH (fun _ _ z => cf_Jh (fun x j p _ => z.2 x j (by omega) (by omega) (by omega)) (z.2 _ _ (by omega) (by omega) (by omega)))
theorem kf_kin {u1 u2 : Int32} (hH : cH C c (n + 1) t K L J R) : a_does 700 89 [a_rf C, .int u1, .int u2] (n + 1, t, K, L, J, R) (fun _ h' => cFh C K J R h') := by
  have hC := hH.2.2.1
  exact ke_kinh hH (fun _ _ z => cf_Zh hH z) (fun _ _ _ => cf_Jh (fun x j p _ => by rw [ui_ap, if_neg (by omega)]) (by rw [ui_ap, if_neg (by omega)]))
theorem kf_mark {u1 u2 u3 : Int32} (hH : cH C c (n + 1) t K L J R) : a_does 700 92 [a_rf C, .int u1, .int u2, .int u3] (n + 1, t, K, L, J, R) (fun _ h' => cFh C K J R h') := by
  exact cu_markh hH (fun _ _ _ _ _ _ _ z => cf_Zh hH z)
theorem kf_markOf {u1 : Int32} (hH : cH C c (n + 1) t K L J R) : a_does 700 96 [a_rf C, .int u1] (n + 1, t, K, L, J, R) (fun _ h' => cFh C K J R h') := by
  exact cu_markOfh hH (fun _ _ _ _ _ _ _ z => cf_Zh hH z)
theorem kf_habit {u1 u2 : Int32} (hH : cH C c (n + 1) t K L J R) : a_does 700 97 [a_rf C, .int u1, .int u2] (n + 1, t, K, L, J, R) (fun _ h' => cFh C K J R h') := by
  exact cq_habit hH (fun _ _ z => cf_Jh (fun x j p _ => z.2 x j (by omega) (by omega) (by omega)) (z.2 _ _ (by omega) (by omega) (by omega)))
theorem kf_fit {u1 u2 u3 : Int32} (hH : cH C c (n + 1) t K L J R) : a_does 700 99 [a_rf C, .int u1, .int u2, .int u3] (n + 1, t, K, L, J, R) (fun _ h' => cFh C K J R h') := by
  exact cu_fith hH (fun _ _ _ _ _ _ _ z => cf_Zh hH z)
theorem kf_passed {u1 : Int32} (hH : cH C c (n + 1) t K L J R) : a_does 700 125 [a_rf C, .int u1] (n + 1, t, K, L, J, R) (fun _ h' => cFh C K J R h') := by
  exact cq_passed hH (fun _ _ z => cf_Jh (fun x j p _ => z.2 x j (by omega) (by omega) (by omega)) (z.2 _ _ (by omega) (by omega) (by omega)))
theorem kf_why {u1 u2 u3 u4 u5 : Int32} (hH : cH C c (n + 1) t K L J R) : a_does 700 127 [a_rf C, .int u1, .int u2, .int u3, .int u4, .int u5] (n + 1, t, K, L, J, R) (fun _ h' => cFh C K J R h') := by
  exact cu_whyh hH (fun _ _ _ _ _ _ _ z => cf_Zh hH z)
theorem kf_best {u1 u2 u3 u4 : Int32} (hH : cH C c (n + 1) t K L J R) (hu : cuP C K L J R Y) : a_does 700 128 [a_rf C, .int u1, .int u2, .int u3, .int u4] (n + 1, t, K, L, J, R) (fun _ h' => cFh C K J R h') := by
  exact gf_best hH hu (fun _ _ _ _ _ e => cf_hf e)
theorem kf_hosts {u1 u2 : Int32} (hH : cH C c (n + 1) t K L J R) : a_does 700 140 [a_rf C, .int u1, .int u2] (n + 1, t, K, L, J, R) (fun _ h' => cFh C K J R h') := by
  exact cq_hosts hH (fun _ _ z => cf_Jh (fun x j p _ => z.2 x j (by omega) (by omega) (by omega)) (z.2 _ _ (by omega) (by omega) (by omega)))
theorem kf_owe {u1 : Int32} (hH : cH C c (n + 1) t K L J R) : a_does 700 141 [a_rf C, .int u1] (n + 1, t, K, L, J, R) (fun _ h' => cFh C K J R h') := by
  exact cu_oweh hH (fun _ _ _ _ _ _ _ z => cf_Zh hH z)
theorem kf_wish {u1 u2 u3 : Int32} (hw : u3 = 0 ∨ u3 = 1) (hH : cH C c (n + 1) t K L J R) : a_does 700 147 [a_rf C, .int u1, .int u2, .int u3] (n + 1, t, K, L, J, R) (fun _ h' => cFh C K J R h') := by
  exact cu_wishh hH hw (fun _ _ _ _ _ _ _ z => cf_Zh hH z)
theorem kf_ring {u1 : Int32} (hH : cH C c (n + 1) t K L J R) (hu : cuP C K L J R Y) : a_does 700 149 [a_rf C, .int u1] (n + 1, t, K, L, J, R) (fun _ h' => cFh C K J R h') := by
  exact gf_ring hH hu (fun _ _ _ _ _ _ e => cf_hf e)
theorem kf_had {u1 u2 u3 : Int32} (hH : cH C c (n + 1) t K L J R) : a_does 700 160 [a_rf C, .int u1, .int u2, .int u3] (n + 1, t, K, L, J, R) (fun _ h' => cFh C K J R h') := by
  exact cq_had hH (fun _ _ z => cf_Jh (fun x j p _ => z.2 x j (by omega) (by omega) (by omega)) (z.2 _ _ (by omega) (by omega) (by omega)))
theorem kf_lead {u1 u2 : Int32} (hH : cH C c (n + 1) t K L J R) : a_does 700 162 [a_rf C, .int u1, .int u2] (n + 1, t, K, L, J, R) (fun _ h' => cFh C K J R h') := by
  exact cq_lead hH (fun _ _ z => cf_Jh (fun x j p _ => z.2 x j (by omega) (by omega) (by omega)) (z.2 _ _ (by omega) (by omega) (by omega)))
theorem kf_put {u1 : Int32} (hH : cH C c (n + 1) t K L J R) : a_does 700 163 [a_rf C, .int u1] (n + 1, t, K, L, J, R) (fun _ h' => cFh C K J R h') := by
  have hC := hH.2.2.1
  exact ke_puth hH (fun _ _ z => cf_Zh hH z) (fun _ _ => cf_Jh (fun x j p _ => by rw [ui_ap, if_neg (by omega), ui_ap, if_neg (by omega)]) (by rw [ui_ap, if_neg (by omega), ui_ap, if_neg (by omega)]))
theorem kf_check {u1 u2 u3 : Int32} (hH : cH C c (n + 1) t K L J R) : a_does 700 164 [a_rf C, .int u1, .int u2, .int u3] (n + 1, t, K, L, J, R) (fun _ h' => cFh C K J R h') := by
  have hC := hH.2.2.1
  exact ke_checkh hH (fun _ _ z => cf_Zh hH z) (fun _ _ _ z => cf_Zh hH z) (fun _ _ _ _ z => cf_Zh hH z) (fun _ _ _ _ _ => cf_Jh (fun x j p _ => by rw [ui_ap, if_neg (by omega)]) (by rw [ui_ap, if_neg (by omega)]))
theorem kf_count {u1 : Int32} (hH : cH C c (n + 1) t K L J R) : a_does 700 166 [a_rf C, .int u1] (n + 1, t, K, L, J, R) (fun _ h' => cFh C K J R h') := by
  exact cq_count hH (fun _ _ z => cf_Jh (fun x j p _ => z.2 x j (by omega) (by omega) (by omega)) (z.2 _ _ (by omega) (by omega) (by omega)))
def eRh (M x j : Nat) : Prop := x < M ∨ M + 52 < x ∨ hC M x j
def rPh (C n t : Nat) (K L : Nat → Nat) (R : Nat → Nat → Nat) (J : Nat → Nat → Int32) (h' : AH) : Prop := ∃ J3, h' = (n + 1, t, K, L, J3, R) ∧ ∀ x j, eRh (C + 44) x j → J3 x j = J x j
theorem rh_J {J0 : Nat → Nat → Int32} (hJ : ∀ x j, eRh (C + 44) x j → J0 x j = J x j) : rPh C n t K L R J (n + 1, t, K, L, J0, R) := ⟨_, rfl, hJ⟩
theorem rh_F {J0 : Nat → Nat → Int32} (g : mFh (C + 44) c' J J0) : rPh C n t K L R J (n + 1, t, K, L, J0, R) := ⟨_, rfl, fun x j p => g.1.2 x j (by unfold eRh hC at p; unfold eCh eC; omega)⟩
theorem rh_Q {J0 : Nat → Nat → Int32} (g : mQ (C + 44) J J0) : rPh C n t K L R J (n + 1, t, K, L, J0, R) := ⟨_, rfl, fun x j p => g.2 x j (by unfold eRh hC at p; unfold sC; omega) (by unfold eRh hC at p; omega)⟩
theorem rj_mode {u1 u2 u3 : Int32} (hS : m_S (C + 44) K L R) (hR : mR (C + 44) J) (hE : mE (C + 44) (120 * c) J) (hc : 120 * c + 130 ≤ 84000) : a_does 700 172 [a_rf (C + 44), .int u1, .int u2, .int u3] (n + 1, t, K, L, J, R) (fun _ h' => rPh C n t K L R J h') := by
  exact pe_mode hS (fun _ => rh_J (fun x j hx => by rw [ui_ap, if_neg (by unfold eRh hC at hx; omega)])) (fun _ _ => rh_J (fun x j hx => by rw [ui_ap, if_neg (by unfold eRh hC at hx; omega)])) (fun _ _ _ f _ => rh_J (fun x j hx => f x j (by unfold eRh hC at hx; omega)))
theorem rj_trip {u1 u2 : Int32} (hS : m_S (C + 44) K L R) (hR : mR (C + 44) J) (hE : mE (C + 44) (120 * c) J) (hc : 120 * c + 130 ≤ 84000) : a_does 700 175 [a_rf (C + 44), .int u1, .int u2] (n + 1, t, K, L, J, R) (fun _ h' => rPh C n t K L R J h') := by
  exact pe_trip hS (rg_trips hR) (fun _ => rh_J (fun x j hx => by rw [ui_ap, if_neg (by unfold eRh hC at hx; omega)])) (fun _ _ => rh_J (fun x j hx => by rw [ui_ap, if_neg (by unfold eRh hC at hx; omega)])) (fun _ _ => rh_J (fun x j hx => by rw [ui_ap, if_neg (by unfold eRh hC at hx; omega), ui_ap, if_neg (by unfold eRh hC at hx; omega), ui_ap, if_neg (by unfold eRh hC at hx; omega), ui_ap, if_neg (by unfold eRh hC at hx; omega)]))
theorem rj_shiftOf {u1 u2 u3 : Int32} (hS : m_S (C + 44) K L R) (hR : mR (C + 44) J) (hE : mE (C + 44) (120 * c) J) (hc : 120 * c + 130 ≤ 84000) : a_does 700 176 [a_rf (C + 44), .int u1, .int u2, .int u3] (n + 1, t, K, L, J, R) (fun _ h' => rPh C n t K L R J h') := by
  exact xq_shiftOf hS hR (fun _ _ q => rh_Q q)
theorem rj_bench {u1 u2 : Int32} (hS : m_S (C + 44) K L R) (hR : mR (C + 44) J) (hE : mE (C + 44) (120 * c) J) (hc : 120 * c + 130 ≤ 84000) : a_does 700 178 [a_rf (C + 44), .int u1, .int u2] (n + 1, t, K, L, J, R) (fun _ h' => rPh C n t K L R J h') := by
  exact pe_bench hS (rg_benches hR) (fun _ => rh_J (fun x j hx => by rw [ui_ap, if_neg (by unfold eRh hC at hx; omega)])) (fun _ _ => rh_J (fun x j hx => by rw [ui_ap, if_neg (by unfold eRh hC at hx; omega)])) (fun _ _ => rh_J (fun x j hx => by rw [ui_ap, if_neg (by unfold eRh hC at hx; omega), ui_ap, if_neg (by unfold eRh hC at hx; omega), ui_ap, if_neg (by unfold eRh hC at hx; omega)]))
theorem rj_set {u1 u2 : Int32} (hS : m_S (C + 44) K L R) (hR : mR (C + 44) J) (hE : mE (C + 44) (120 * c) J) (hc : 120 * c + 130 ≤ 84000) : a_does 700 179 [a_rf (C + 44), .int u1, .int u2] (n + 1, t, K, L, J, R) (fun _ h' => rPh C n t K L R J h') := by
  exact pe_set hS (fun _ => rh_J (fun x j hx => by rw [ui_ap, if_neg (by unfold eRh hC at hx; omega)])) (fun _ _ => rh_J (fun x j hx => by rw [ui_ap, if_neg (by unfold eRh hC at hx; omega)])) (fun _ _ _ => rh_J (fun x j hx => by rw [ui_ap, if_neg (by unfold eRh hC at hx; omega)])) (fun _ _ _ => rh_J (fun x j hx => by rw [ui_ap, if_neg (by unfold eRh hC at hx; omega), ui_ap, if_neg (by unfold eRh hC at hx; omega), ui_ap, if_neg (by unfold eRh hC at hx; omega)])) (fun _ _ _ => rh_J (fun x j hx => by rw [ui_ap, if_neg (by unfold eRh hC at hx; omega), ui_ap, if_neg (by unfold eRh hC at hx; omega), ui_ap, if_neg (by unfold eRh hC at hx; omega)])) (fun _ _ _ => rh_J (fun x j hx => by rw [ui_ap, if_neg (by unfold eRh hC at hx; omega), ui_ap, if_neg (by unfold eRh hC at hx; omega), ui_ap, if_neg (by unfold eRh hC at hx; omega)]))
theorem rj_draft {u1 u2 u3 u4 : Int32} (hS : m_S (C + 44) K L R) (hR : mR (C + 44) J) (hE : mE (C + 44) (120 * c) J) (hc : 120 * c + 130 ≤ 84000) : a_does 700 180 [a_rf (C + 44), .int u1, .int u2, .int u3, .int u4] (n + 1, t, K, L, J, R) (fun _ h' => rPh C n t K L R J h') := by
  exact pu_drafth hS ⟨⟨hR, fun _ _ _ => rfl⟩, hE⟩ hc (fun _ _ g => rh_F g)
theorem rj_ask {u1 u2 u3 u4 u5 u6 u7 : Int32} (hS : m_S (C + 44) K L R) (hR : mR (C + 44) J) (hE : mE (C + 44) (120 * c) J) (hc : 120 * c + 130 ≤ 84000) : a_does 700 181 [a_rf (C + 44), .int u1, .int u2, .int u3, .int u4, .int u5, .int u6, .int u7] (n + 1, t, K, L, J, R) (fun _ h' => rPh C n t K L R J h') := by
  exact pu_askh hS ⟨⟨hR, fun _ _ _ => rfl⟩, hE⟩ hc (fun _ _ g => rh_F g)
theorem rj_askOf {u1 u2 : Int32} (hS : m_S (C + 44) K L R) (hR : mR (C + 44) J) (hE : mE (C + 44) (120 * c) J) (hc : 120 * c + 130 ≤ 84000) : a_does 700 188 [a_rf (C + 44), .int u1, .int u2] (n + 1, t, K, L, J, R) (fun _ h' => rPh C n t K L R J h') := by
  exact xq_askOf hS hR (fun _ _ q => rh_Q q)
theorem rj_feed {u1 : Int32} {u2 : Int64} (hS : m_S (C + 44) K L R) (hR : mR (C + 44) J) (hE : mE (C + 44) (120 * c) J) (hc : 120 * c + 130 ≤ 84000) : a_does 700 200 [a_rf (C + 44), .int u1, .long u2] (n + 1, t, K, L, J, R) (fun _ h' => rPh C n t K L R J h') := by
  exact pe_feed hS hR (rg_tapeMany hR) (fun _ => rh_J (fun x j hx => by rw [ui_ap, if_neg (by unfold eRh hC at hx; omega)])) (fun _ _ => rh_J (fun x j hx => by rw [ui_ap, if_neg (by unfold eRh hC at hx; omega)])) (fun _ _ _ _ f _ _ => rh_J (fun x j hx => f x j (by unfold eRh hC at hx; omega) (by unfold eRh hC at hx; omega)))
theorem rj_text {u1 : Int32} (hS : m_S (C + 44) K L R) (hR : mR (C + 44) J) (hE : mE (C + 44) (120 * c) J) (hc : 120 * c + 130 ≤ 84000) : a_does 700 201 [a_rf (C + 44), .int u1] (n + 1, t, K, L, J, R) (fun _ h' => rPh C n t K L R J h') := by
  have fx : ∀ (J0 : Nat → Nat → Int32), (∀ x j, ¬ sC (C + 44) x j → ¬ x = (C + 44 + 28) → ¬ x = (C + 44 + 29) → ¬ x = (C + 44 + 30) → ¬ x = (C + 44 + 31) → ¬ (x = (C + 44) ∧ (j = 40 ∨ j = 41)) → J0 x j = J x j) → ∀ x j, eRh (C + 44) x j → J0 x j = J x j := fun J0 f x j hx => f x j (by unfold eRh hC at hx; unfold sC; omega) (by unfold eRh hC at hx; omega) (by unfold eRh hC at hx; omega) (by unfold eRh hC at hx; omega) (by unfold eRh hC at hx; omega) (by unfold eRh hC at hx; omega)
  exact pe_text hS hR (fun _ => rh_J (fun x j hx => by rw [ui_ap, if_neg (by unfold eRh hC at hx; omega)])) (fun _ _ => rh_J (fun x j hx => by rw [ui_ap, if_neg (by unfold eRh hC at hx; omega)])) (fun _ _ _ J3 _ f _ _ _ => rh_J (fx J3 f)) (fun _ _ _ J3 _ f _ _ _ _ _ _ => rh_J (fx J3 f))
theorem rj_strike {u1 u2 : Int32} (hS : m_S (C + 44) K L R) (hR : mR (C + 44) J) (hE : mE (C + 44) (120 * c) J) (hc : 120 * c + 130 ≤ 84000) : a_does 700 207 [a_rf (C + 44), .int u1, .int u2] (n + 1, t, K, L, J, R) (fun _ h' => rPh C n t K L R J h') := by
  exact pe_strike hS hR (fun _ => rh_J (fun x j hx => by rw [ui_ap, if_neg (by unfold eRh hC at hx; omega)])) (fun _ _ => rh_J (fun x j hx => by rw [ui_ap, if_neg (by unfold eRh hC at hx; omega)])) (fun _ _ => rh_J (fun x j hx => by rw [ui_ap, if_neg (by unfold eRh hC at hx; omega)]))
theorem rj_barred {u1 u2 u3 u4 : Int32} (hS : m_S (C + 44) K L R) (hR : mR (C + 44) J) (hE : mE (C + 44) (120 * c) J) (hc : 120 * c + 130 ≤ 84000) : a_does 700 208 [a_rf (C + 44), .int u1, .int u2, .int u3, .int u4] (n + 1, t, K, L, J, R) (fun _ h' => rPh C n t K L R J h') := by
  exact xq_barred hS hR (fun _ _ q => rh_Q q)
theorem rj_kin {u1 u2 : Int32} (hS : m_S (C + 44) K L R) (hR : mR (C + 44) J) (hE : mE (C + 44) (120 * c) J) (hc : 120 * c + 130 ≤ 84000) : a_does 700 213 [a_rf (C + 44), .int u1, .int u2] (n + 1, t, K, L, J, R) (fun _ h' => rPh C n t K L R J h') := by
  exact pe_kin hS (fun _ => rh_J (fun x j hx => by rw [ui_ap, if_neg (by unfold eRh hC at hx; omega)])) (fun _ _ => rh_J (fun x j hx => by rw [ui_ap, if_neg (by unfold eRh hC at hx; omega)]))
theorem rj_mark {u1 u2 u3 : Int32} (hS : m_S (C + 44) K L R) (hR : mR (C + 44) J) (hE : mE (C + 44) (120 * c) J) (hc : 120 * c + 130 ≤ 84000) : a_does 700 215 [a_rf (C + 44), .int u1, .int u2, .int u3] (n + 1, t, K, L, J, R) (fun _ h' => rPh C n t K L R J h') := by
  exact pu_markh hS ⟨⟨hR, fun _ _ _ => rfl⟩, hE⟩ hc (fun _ _ g => rh_F g)
theorem rj_markOf {u1 : Int32} (hS : m_S (C + 44) K L R) (hR : mR (C + 44) J) (hE : mE (C + 44) (120 * c) J) (hc : 120 * c + 130 ≤ 84000) : a_does 700 216 [a_rf (C + 44), .int u1] (n + 1, t, K, L, J, R) (fun _ h' => rPh C n t K L R J h') := by
  exact pu_markOfh hS ⟨⟨hR, fun _ _ _ => rfl⟩, hE⟩ hc (fun _ _ g => rh_F g)
theorem rj_habit {u1 u2 : Int32} (hS : m_S (C + 44) K L R) (hR : mR (C + 44) J) (hE : mE (C + 44) (120 * c) J) (hc : 120 * c + 130 ≤ 84000) : a_does 700 217 [a_rf (C + 44), .int u1, .int u2] (n + 1, t, K, L, J, R) (fun _ h' => rPh C n t K L R J h') := by
  exact xq_habit hS hR (fun _ _ q => rh_Q q)
theorem rj_fit {u1 u2 u3 : Int32} (hS : m_S (C + 44) K L R) (hR : mR (C + 44) J) (hE : mE (C + 44) (120 * c) J) (hc : 120 * c + 130 ≤ 84000) : a_does 700 220 [a_rf (C + 44), .int u1, .int u2, .int u3] (n + 1, t, K, L, J, R) (fun _ h' => rPh C n t K L R J h') := by
  exact pu_fith hS ⟨⟨hR, fun _ _ _ => rfl⟩, hE⟩ hc (fun _ _ g => rh_F g)
theorem rj_passed {u1 : Int32} (hS : m_S (C + 44) K L R) (hR : mR (C + 44) J) (hE : mE (C + 44) (120 * c) J) (hc : 120 * c + 130 ≤ 84000) : a_does 700 240 [a_rf (C + 44), .int u1] (n + 1, t, K, L, J, R) (fun _ h' => rPh C n t K L R J h') := by
  exact xq_passed hS hR (fun _ _ q => rh_Q q)
theorem rj_why {u1 u2 u3 u4 u5 : Int32} (hS : m_S (C + 44) K L R) (hR : mR (C + 44) J) (hE : mE (C + 44) (120 * c) J) (hc : 120 * c + 130 ≤ 84000) : a_does 700 241 [a_rf (C + 44), .int u1, .int u2, .int u3, .int u4, .int u5] (n + 1, t, K, L, J, R) (fun _ h' => rPh C n t K L R J h') := by
  exact pu_whyh hS ⟨⟨hR, fun _ _ _ => rfl⟩, hE⟩ hc (fun _ _ g => rh_F g)
theorem rj_best {u1 u2 u3 u4 : Int32} (hS : m_S (C + 44) K L R) (hR : mR (C + 44) J) (hE : mE (C + 44) (120 * c) J) (hc : 120 * c + 130 ≤ 84000) : a_does 700 242 [a_rf (C + 44), .int u1, .int u2, .int u3, .int u4] (n + 1, t, K, L, J, R) (fun _ h' => rPh C n t K L R J h') := by
  exact pu_besth hS ⟨⟨hR, fun _ _ _ => rfl⟩, hE⟩ hc (fun _ _ g => rh_F g)
theorem rj_hosts {u1 u2 : Int32} (hS : m_S (C + 44) K L R) (hR : mR (C + 44) J) (hE : mE (C + 44) (120 * c) J) (hc : 120 * c + 130 ≤ 84000) : a_does 700 245 [a_rf (C + 44), .int u1, .int u2] (n + 1, t, K, L, J, R) (fun _ h' => rPh C n t K L R J h') := by
  exact xq_hosts hS hR (fun _ _ q => rh_Q q)
theorem rj_owe {u1 : Int32} (hS : m_S (C + 44) K L R) (hR : mR (C + 44) J) (hE : mE (C + 44) (120 * c) J) (hc : 120 * c + 130 ≤ 84000) : a_does 700 246 [a_rf (C + 44), .int u1] (n + 1, t, K, L, J, R) (fun _ h' => rPh C n t K L R J h') := by
  exact pu_oweh hS ⟨⟨hR, fun _ _ _ => rfl⟩, hE⟩ hc (fun _ _ g => rh_F g)
theorem rj_wish {u1 u2 u3 : Int32} (hw : u3 = 0 ∨ u3 = 1) (hS : m_S (C + 44) K L R) (hR : mR (C + 44) J) (hE : mE (C + 44) (120 * c) J) (hc : 120 * c + 130 ≤ 84000) : a_does 700 250 [a_rf (C + 44), .int u1, .int u2, .int u3] (n + 1, t, K, L, J, R) (fun _ h' => rPh C n t K L R J h') := by
  exact pu_wishh hS ⟨⟨hR, fun _ _ _ => rfl⟩, hE⟩ hc (fun _ _ g => rh_F g)
theorem rj_ring {u1 : Int32} (hS : m_S (C + 44) K L R) (hR : mR (C + 44) J) (hE : mE (C + 44) (120 * c) J) (hc : 120 * c + 130 ≤ 84000) : a_does 700 251 [a_rf (C + 44), .int u1] (n + 1, t, K, L, J, R) (fun _ h' => rPh C n t K L R J h') := by
  exact pu_ringh hS ⟨⟨hR, fun _ _ _ => rfl⟩, hE⟩ hc (fun _ _ g => rh_F g)
theorem rj_had {u1 u2 u3 : Int32} (hS : m_S (C + 44) K L R) (hR : mR (C + 44) J) (hE : mE (C + 44) (120 * c) J) (hc : 120 * c + 130 ≤ 84000) : a_does 700 256 [a_rf (C + 44), .int u1, .int u2, .int u3] (n + 1, t, K, L, J, R) (fun _ h' => rPh C n t K L R J h') := by
  exact xq_had hS hR (fun _ _ q => rh_Q q)
theorem rj_lead {u1 u2 : Int32} (hS : m_S (C + 44) K L R) (hR : mR (C + 44) J) (hE : mE (C + 44) (120 * c) J) (hc : 120 * c + 130 ≤ 84000) : a_does 700 258 [a_rf (C + 44), .int u1, .int u2] (n + 1, t, K, L, J, R) (fun _ h' => rPh C n t K L R J h') := by
  exact xq_lead hS hR (fun _ _ q => rh_Q q)
theorem rj_put {u1 : Int32} (hS : m_S (C + 44) K L R) (hR : mR (C + 44) J) (hE : mE (C + 44) (120 * c) J) (hc : 120 * c + 130 ≤ 84000) : a_does 700 259 [a_rf (C + 44), .int u1] (n + 1, t, K, L, J, R) (fun _ h' => rPh C n t K L R J h') := by
  exact pe_put hS (rg_rowMany hR) (fun _ => rh_J (fun x j hx => by rw [ui_ap, if_neg (by unfold eRh hC at hx; omega)])) (fun _ => rh_J (fun x j hx => by rw [ui_ap, if_neg (by unfold eRh hC at hx; omega), ui_ap, if_neg (by unfold eRh hC at hx; omega)]))
theorem rj_check {u1 u2 u3 : Int32} (hS : m_S (C + 44) K L R) (hR : mR (C + 44) J) (hE : mE (C + 44) (120 * c) J) (hc : 120 * c + 130 ≤ 84000) : a_does 700 260 [a_rf (C + 44), .int u1, .int u2, .int u3] (n + 1, t, K, L, J, R) (fun _ h' => rPh C n t K L R J h') := by
  exact pe_check hS hR (fun _ => rh_J (fun x j hx => by rw [ui_ap, if_neg (by unfold eRh hC at hx; omega)])) (fun _ _ => rh_J (fun x j hx => by rw [ui_ap, if_neg (by unfold eRh hC at hx; omega)])) (fun _ _ _ => rh_J (fun x j hx => by rw [ui_ap, if_neg (by unfold eRh hC at hx; omega)])) (fun _ _ _ _ => rh_J (fun x j hx => by rw [ui_ap, if_neg (by unfold eRh hC at hx; omega)]))
theorem rj_count {u1 : Int32} (hS : m_S (C + 44) K L R) (hR : mR (C + 44) J) (hE : mE (C + 44) (120 * c) J) (hc : 120 * c + 130 ≤ 84000) : a_does 700 261 [a_rf (C + 44), .int u1] (n + 1, t, K, L, J, R) (fun _ h' => rPh C n t K L R J h') := by
  exact xq_count hS hR (fun _ _ q => rh_Q q)
end HI0
end
section
/-! what was had: both sides -/
/-- places alike -/
def plE (Y Z : Nat → Nat → Int32) : Prop := Z 0 6 = Y 0 6 ∧ (∀ x c t : Int32, (0 ≤ x ∧ x < Z 0 17 ∧ hoY Z x c t) ↔ (0 ≤ x ∧ x < Y 0 17 ∧ hoY Y x c t)) ∧ ∀ x : Int32, 0 ≤ x → x < Z 0 17 → 0 ≤ Z 20 x.toNatClampNeg → Z 20 x.toNatClampNeg = Y 20 x.toNatClampNeg ∧ Z 21 x.toNatClampNeg = Y 21 x.toNatClampNeg
def hzP (M : Nat) (J W : Nat → Nat → Int32) : Prop := ∀ c t : Int32, (W 0 6 ≤ c ∧ c < 6) → (0 ≤ t ∧ t < 200) → (∀ k, hdR M J c t k = -9) ∧ ldR M J c t = -9
/-- the histories of both sides are one -/
def hcG (C m : Nat) (J : Nat → Nat → Int32) (R : Nat → Nat → Nat) (W : Nat → Nat → Int32) : Prop := eoM (C + 44) J ∧ hsN 6 (J (C + 44) 0) (hdR (C + 44) J) W ∧ ciP C J R W m ∧ (∀ c t : Int32, (0 ≤ c ∧ c < W 0 6) → (0 ≤ t ∧ t < 200) → (∀ k, hdC C J R c t k = hdR (C + 44) J c t k) ∧ ldC C J R c t = ldR (C + 44) J c t) ∧ hzP (C + 44) J W
/-- the class has given and taken back, the reference not yet -/
def hcR (C m : Nat) (J : Nat → Nat → Int32) (R : Nat → Nat → Nat) (Y W1 Z : Nat → Nat → Int32) : Prop := eoM (C + 44) J ∧ hsN 6 (J (C + 44) 0) (hdR (C + 44) J) Y ∧ ciP C J R Z m ∧ (J (C + 1) 6 = J (C + 44) 0 ∧ Z 0 6 = Y 0 6) ∧ hxF (Y 0 6) (J (C + 44) 0) Y W1 Z (hdR (C + 44) J) (ldR (C + 44) J) (hdC C J R) (ldC C J R) ∧ hzP (C + 44) J Y ∧ ∀ x c t : Int32, 0 ≤ x → x < Y 0 17 → hoY Y x c t → c < Y 0 6
section HJ0
variable {d n t C c : Nat} {K L : Nat → Nat} {I I0 J J0 J1 J2 : Nat → Nat → Int32} {R : Nat → Nat → Nat} {P : Option Value → AH → Prop}
variable {Y Z W W1 : Nat → Nat → Int32} {b n' t' c' m m' : Nat} {K' L' : Nat → Nat} {R' R1 R2 : Nat → Nat → Nat} {nb n0 : Int32} {hd hd' hd1 hd2 : Int32 → Int32 → Int32 → Int32} {ld ld' ld1 ld2 : Int32 → Int32 → Int32}
theorem pz_0 : plE Y Y := ⟨rfl, fun _ _ _ => Iff.rfl, fun _ _ _ _ => ⟨rfl, rfl⟩⟩
theorem pz_r (e6 : Z 0 6 = Y 0 6) (e17 : Z 0 17 = Y 0 17) (er : ∀ k, k = 20 ∨ k = 21 ∨ k = 10 → Z k = Y k) : plE Y Z := by
  have ho : ∀ x c t, hoY Z x c t = hoY Y x c t := fun x c t => ho_e (fun k hk => by rw [er k hk])
  refine ⟨e6, fun x c t => by rw [e17, ho], fun x _ _ _ => by rw [er 20 (by omega), er 21 (by omega)]; exact ⟨rfl, rfl⟩⟩
theorem hsN_pl (h : hsN nb n0 hd Y) (e : plE Y Z) : hsN nb n0 hd Z := by
  intro c t hc ht
  obtain ⟨h1, h2⟩ := h c t hc ht
  refine ⟨fun x x0 x1 x2 => ?_, fun q => h2 (fun x x0 x1 x2 => ?_)⟩
  · obtain ⟨y0, y1, y2⟩ := (e.2.1 x c t).mp ⟨x0, x1, x2⟩
    exact h1 x y0 y1 y2
  · obtain ⟨y0, y1, y2⟩ := (e.2.1 x c t).mpr ⟨x0, x1, x2⟩
    exact q x y0 y1 y2
theorem ci_pl (h : ciP C I R Y m) (e : plE Y Z) : ciP C I R Z m := by
  refine ⟨fun c c0 c1 => h.1 c c0 (by rw [← e.1]; exact c1), fun x x0 x1 t ht q => ?_, fun b c b0 b1 c0 c1 q => h.2.2 b c b0 (by rw [← e.1]; exact b1) c0 (by rw [← e.1]; exact c1) q⟩
  obtain ⟨q1, q2⟩ := e.2.2 x x0 x1 q.1
  obtain ⟨-, y1, y2⟩ := (e.2.1 x _ t).mp ⟨x0, x1, q⟩
  rw [q1] at y2 ⊢
  rw [q2]
  exact h.2.1 x x0 y1 t ht y2
theorem hsN_e (h1 : hsN nb n0 hd1 Z) (h2 : hsN nb n0 hd2 Z) {c t k : Int32} (hc : 0 ≤ c ∧ c < nb) (ht : 0 ≤ t ∧ t < 200) (hk : n0 ≤ k) : hd1 c t k = hd2 c t k := by
  obtain ⟨a1, a2⟩ := h1 c t hc ht
  obtain ⟨b1, b2⟩ := h2 c t hc ht
  by_cases q : ∃ x : Int32, 0 ≤ x ∧ x < Z 0 17 ∧ hoY Z x c t
  · obtain ⟨x, x0, x1, x2⟩ := q
    rw [a1 x x0 x1 x2 k hk, b1 x x0 x1 x2 k hk]
  · rw [a2 (fun x x0 x1 x2 => q ⟨x, x0, x1, x2⟩) k hk, b2 (fun x x0 x1 x2 => q ⟨x, x0, x1, x2⟩) k hk]
theorem hsN_le (h : hsN nb n0 hd Y) {n1 : Int32} (hn : n0 ≤ n1) : hsN nb n1 hd Y := fun c t hc ht => ⟨fun x x0 x1 x2 k hk => (h c t hc ht).1 x x0 x1 x2 k (Int32.le_trans hn hk), fun q k hk => (h c t hc ht).2 q k (Int32.le_trans hn hk)⟩
/-- the model's part of the heap stays -/
theorem mR_same (e : ∀ x j, C + 44 ≤ x → x ≤ C + 96 → J2 x j = J x j) : hdR (C + 44) J2 = hdR (C + 44) J ∧ ldR (C + 44) J2 = ldR (C + 44) J ∧ J2 (C + 44) 0 = J (C + 44) 0 ∧ (eoM (C + 44) J → eoM (C + 44) J2) := hR_eq (fun x j q => e x j (by unfold hC at q; omega) (by unfold hC at q; omega))
/-- the class's call that leaves it all -/
theorem hg_c (hT : cT C K L J R) (hc : cpP C K L J R Y) (h : hcG C m J R Y) (e : hfE C K J R J2 R2) (p : plE Y Z) (hm : m ≤ m') : hcG C m' J2 R2 Z := by
  obtain ⟨h1, h2, h3, h4, h5⟩ := h
  obtain ⟨e1, e2, e3, e4⟩ := mR_same e.2.2.2
  refine ⟨e4 h1, by rw [e1, e3]; exact hsN_pl h2 p, ci_le (ci_pl (ci_fr hT hc e h3) p) hm, fun c t hcb ht => ?_, fun c t hcb ht => ?_⟩
  · rw [p.1] at hcb
    obtain ⟨q1, q2⟩ := hd_vw hT hc e c t hcb ht
    rw [e1, e2, q2]
    exact ⟨fun k => (q1 k).trans ((h4 c t hcb ht).1 k), (h4 c t hcb ht).2⟩
  · rw [p.1] at hcb
    rw [e1, e2]
    exact h5 c t hcb ht
/-- cells of the class that a call of the reference leaves -/
theorem hr_vw (hT : cT C K L J R) (hc : cpP C K L J R W) (hf : ∀ x j, (x < (C + 44) ∨ (C + 44) + 52 < x) → J2 x j = J x j) {c : Int32} (c0 : 0 ≤ c) (c1 : c < W 0 6) : chC C J2 R c = chC C J R c ∧ whC C J2 R c = whC C J R c ∧ paC C J2 R c = paC C J R c ∧ pcC C J2 R c = pcC C J R c := by
  have k := (hc.2.1.2.2.1 c c0 c1).1
  obtain ⟨b1, ⟨w1, w2, -⟩, -, ⟨h1, h2, -⟩, ⟨p1, p2, -⟩, -⟩ := hT.g_bnc _ k
  unfold chC whC paC pcC
  refine ⟨funext (fun j => hf _ _ (by omega)), funext (fun j => hf _ _ (by omega)), funext (fun j => hf _ _ (by omega)), by rw [hf _ _ (by omega)]⟩
theorem ci_rf (hT : cT C K L J R) (hc : cpP C K L J R W) (hf : ∀ x j, (x < (C + 44) ∨ (C + 44) + 52 < x) → J2 x j = J x j) (h : ciP C J R W m) : ciP C J2 R W m := by
  obtain ⟨h1, h2, h3⟩ := h
  refine ⟨fun c c0 c1 => ?_, fun x x0 x1 t ht q => ?_, h3⟩
  · obtain ⟨v1, v2, v3, v4⟩ := hr_vw hT hc hf c0 c1
    rw [v1, v3, v4, hf (C + 1) 6 (by omega)]
    exact h1 c c0 c1
  · have p1 := (hc.2.1.2.2.2.1 x x0 x1 q.1).1
    rw [(hr_vw hT hc hf q.1 p1).1]
    exact h2 x x0 x1 t ht q
/-- the reference's call that leaves it all -/
theorem hg_r (hT : cT C K L J R) (hc : cpP C K L J R Z) (h : hcG C m J R Z) (e : ∀ x j, eRh (C + 44) x j → J2 x j = J x j) (p : plE Z W) : hcG C m J2 R W := by
  obtain ⟨h1, h2, h3, h4, h5⟩ := h
  obtain ⟨e1, e2, e3, e4⟩ := hR_eq (M := (C + 44)) (I := J) (J := J2) (fun x j q => e x j (Or.inr (Or.inr q)))
  have hf : ∀ x j, (x < (C + 44) ∨ (C + 44) + 52 < x) → J2 x j = J x j := fun x j q => e x j (by unfold eRh; omega)
  have hv := fun (c : Int32) c0 c1 => hr_vw (R := R) (W := Z) hT hc hf (c := c) c0 c1
  refine ⟨e4 h1, by rw [e1, e3]; exact hsN_pl h2 p, ci_pl (ci_rf hT hc hf h3) p, fun c t hcb ht => ?_, fun c t hcb ht => ?_⟩
  · rw [p.1] at hcb
    obtain ⟨v1, v2, v3, v4⟩ := hv c hcb.1 hcb.2
    unfold hdC ldC
    rw [v1, v2, v3, v4, e1, e2]
    exact h4 c t hcb ht
  · rw [p.1] at hcb
    rw [e1, e2]
    exact h5 c t hcb ht
/-- the class gives and takes back -/
theorem hr_c (hc : cpP C K L J R Y) (h : hcG C m J R Y) (en : J (C + 1) 6 = J (C + 44) 0) (hbY : ∀ x c t : Int32, 0 ≤ x → x < Y 0 17 → hoY Y x c t → c < Y 0 6) (x : hxK C J R Y m J2 R2 W1 Z) (e : ∀ x j, C + 44 ≤ x → x ≤ C + 96 → J2 x j = J x j) : hcR C (m + 30) J2 R2 Y W1 Z := by
  obtain ⟨h1, h2, h3, h4, h5⟩ := h
  obtain ⟨x1, x2, x3, x4⟩ := x
  obtain ⟨e1, e2, e3, e4⟩ := mR_same e
  refine ⟨e4 h1, by rw [e1, e3]; exact h2, x1, ⟨by rw [x2, e3]; exact en, x3⟩, ?_, by unfold hzP; rw [e1, e2]; exact h5, hbY⟩
  rw [e1, e2, e3, ← en]
  refine ⟨x4.1, fun c t hcb ht => ?_, x4.2.2⟩
  obtain ⟨q1, q2⟩ := h4 c t hcb ht
  have q := x4.2.1 c t hcb ht
  simp only [q1, q2] at q
  exact q
/-- the reference gives and takes back -/
theorem hr_r (hT : cT C K L J R) (hc : cpP C K L J R Z) (h6 : Y 0 6 ≤ 6) (h : hcR C m J R Y W1 Z) (x : hxQ (C + 44) J J2 Y W1 Z) (hf : ∀ x j, (x < (C + 44) ∨ (C + 44) + 52 < x) → J2 x j = J x j) (p : plE Z W) : hcG C m J2 R W := by
  obtain ⟨h1, h2, h3, ⟨h4, h4'⟩, ⟨g1, g2, g3, g4⟩, h5, hbY⟩ := h
  obtain ⟨x1, x2, x3, x4, x5, x6⟩ := x
  have hbZ : ∀ x c t : Int32, 0 ≤ x → x < Z 0 17 → hoY Z x c t → c < Z 0 6 := fun x c t x0 x1 q => by
    have := (hc.2.1.2.2.2.1 x x0 x1 q.1).1
    rw [q.2.1] at this
    exact this
  refine ⟨x1, by rw [x2]; exact hsN_pl x3 p, ci_pl (ci_rf hT hc hf h3) p, fun c t hcb ht => ?_, fun c t hcb ht => ?_⟩
  · rw [p.1] at hcb
    obtain ⟨v1, v2, v3, v4⟩ := hr_vw hT hc hf hcb.1 hcb.2
    have hcb2 : 0 ≤ c ∧ c < Y 0 6 := ⟨hcb.1, by rw [← h4']; exact hcb.2⟩
    have hcb6 : 0 ≤ c ∧ c < 6 := ⟨hcb.1, Int32.lt_of_lt_of_le hcb2.2 h6⟩
    have ed : ∀ k, hdC C J2 R c t k = hdC C J R c t k := fun k => by unfold hdC; rw [v1, v2, v3, v4]
    have el : ldC C J2 R c t = ldC C J R c t := by unfold ldC; rw [v1]
    obtain ⟨a1, a2, a3⟩ := g2 c t hcb2 ht
    obtain ⟨b1, b2, b3⟩ := x4 c t hcb6 ht
    refine ⟨fun k => ?_, ?_⟩
    · rw [ed]
      by_cases hk : J (C + 44) 0 ≤ k
      · have n1 : hsN (Y 0 6) (J (C + 44) 0) (hdR (C + 44) J2) Z := fun c2 t2 hc2 => x3 c2 t2 ⟨hc2.1, Int32.lt_of_lt_of_le hc2.2 h6⟩
        exact hsN_e g1 n1 hcb2 ht hk
      · rw [a1 k hk, b1 k hk]
    · rw [el]
      by_cases q : tkT Y W1 c t ∨ gvT W1 Z c t
      · rw [a2 q, b2 q]
      · rw [a3 q, b3 q]
  · rw [p.1, h4'] at hcb
    have h6' : 0 ≤ Y 0 6 := by rw [← h4']; exact hc.2.2.2.2.2.2.2.2.2.1.1
    have hcb6 : 0 ≤ c ∧ c < 6 := ⟨Int32.le_trans h6' hcb.1, hcb.2⟩
    obtain ⟨b1, b2, b3⟩ := x4 c t hcb6 ht
    obtain ⟨z1, z2⟩ := h5 c t hcb ht
    have nY : ∀ x : Int32, 0 ≤ x → x < Y 0 17 → ¬ hoY Y x c t := fun x x0 x1 q => absurd (Int32.lt_of_lt_of_le (hbY x c t x0 x1 q) hcb.1) Int32.lt_irrefl
    have nZ : ∀ x : Int32, 0 ≤ x → x < Z 0 17 → ¬ hoY Z x c t := fun x x0 x1 q => absurd (Int32.lt_of_lt_of_le (by have := hbZ x c t x0 x1 q; rw [h4'] at this; exact this) hcb.1) Int32.lt_irrefl
    refine ⟨fun k => ?_, ?_⟩
    · by_cases hk : J (C + 44) 0 ≤ k
      · exact (x3 c t hcb6 ht).2 nZ k hk
      · rw [b1 k hk]
        exact z1 k
    · rw [b3 (fun q => by
        rcases q with ⟨x, y0, y1, y2, y3⟩ | ⟨x, y0, y1, y2, y3⟩
        · exact nY x y0 y1 y3
        · exact nZ x y0 (by rw [x6]; exact y1) y3)]
      exact z2
/-- the law's state with it -/
def lawH (b C c n t : Nat) (K L : Nat → Nat) (J : Nat → Nat → Int32) (R : Nat → Nat → Nat) : Prop := lawI b C c n t K L J R ∧ hcG C (30 * c) J R (yv (C + 44) J)
theorem cdh_gen {D mid : Nat} {as : List Value} {Q : Int32 → Nat → Nat → (Nat → Nat) → (Nat → Nat) → (Nat → Nat → Int32) → (Nat → Nat → Nat) → Prop} {B : AH → Prop} (A : a_does D mid as (n + 1, t, K, L, J, R) (fun r h' => ∃ v n2 t2 K2 L2 J2 R2, r = some (.int v) ∧ h' = (n2 + 1, t2, K2, L2, J2, R2) ∧ Q v n2 t2 K2 L2 J2 R2)) (hB : a_does D mid as (n + 1, t, K, L, J, R) (fun _ h' => B h')) (hP : ∀ v n2 t2 K2 L2 J2 R2, Q v n2 t2 K2 L2 J2 R2 → B (n2 + 1, t2, K2, L2, J2, R2) → P (some (.int v)) (n2 + 1, t2, K2, L2, J2, R2)) : a_does D mid as (n + 1, t, K, L, J, R) P := by
  refine does_mono (does_and A hB) (fun r h' q => ?_)
  obtain ⟨⟨v, n2, t2, K2, L2, J2, R2, e1, e2, g⟩, w⟩ := q
  rw [e2] at w
  rw [e1, e2]
  exact hP v _ _ _ _ _ _ g w
theorem cF_in {n2 t2 : Nat} {K2 L2 : Nat → Nat} (h : cFh C K J R (n2 + 1, t2, K2, L2, J2, R2)) : hfE C K J R J2 R2 := by
  obtain ⟨m1, m2, K3, L3, J3, R3, e, f⟩ := h
  simp only [Prod.mk.injEq, Nat.add_right_cancel_iff] at e
  obtain ⟨i1, i2, i3, i4, i5, i6⟩ := e
  subst i5 i6
  exact f
theorem cB_in {n2 t2 : Nat} {K2 L2 : Nat → Nat} {r : Option Value} (h : cB C n K L J R r (n2 + 1, t2, K2, L2, J2, R2)) : ∀ x j, C + 44 ≤ x → x ≤ C + 96 → J2 x j = J x j := by
  obtain ⟨m1, m2, K3, L3, J3, R3, e, f, -⟩ := h
  simp only [Prod.mk.injEq, Nat.add_right_cancel_iff] at e
  obtain ⟨i1, i2, i3, i4, i5, i6⟩ := e
  subst i5
  exact f.2.2.2.2
theorem law_now (h : lawI b C c n t K L J R) : J (C + 1) 6 = J (C + 44) 0 := h.2.2.2.2.2.1.1.1.1
theorem law_pl (h : lawI b C c n t K L J R) : ∀ x c2 t2 : Int32, 0 ≤ x → x < (yv (C + 44) J) 0 17 → hoY (yv (C + 44) J) x c2 t2 → c2 < (yv (C + 44) J) 0 6 := fun x c2 t2 x0 x1 q => by
  have := (h.2.2.2.2.2.1.1.2.1.2.2.2.1 x x0 x1 q.1).1
  rw [q.2.1] at this
  exact this
theorem pz_t (h : plE Y Z) (h2 : plE Z W) (e17 : W 0 17 = Z 0 17) : plE Y W := ⟨h2.1.trans h.1, fun x c t => (h2.2.1 x c t).trans (h.2.1 x c t), fun x x0 x1 x2 => by
  obtain ⟨q1, q2⟩ := h2.2.2 x x0 x1 x2
  have x3 : 0 ≤ Z 20 x.toNatClampNeg := by rw [← q1]; exact x2
  obtain ⟨p1, p2⟩ := h.2.2 x x0 (by rw [← e17]; exact x1) x3
  exact ⟨q1.trans p1, q2.trans p2⟩⟩
theorem pz_mode {u1 u2 u3 : Int32} : plE Y (mdY Y u1 u2 u3) := by
  unfold mdY
  split
  · exact pz_r (by unfold mdW; rw [if_neg (by omega)]) (by unfold mdW; rw [if_neg (by omega)]) (fun q hq => funext (fun j => by unfold mdW; rw [if_neg (by omega)]))
  · exact pz_0
theorem pz_trip {u1 u2 : Int32} : plE Y (tpY Y u1 u2) := by
  unfold tpY
  split
  · exact pz_0
  · exact pz_r (tp_no (by omega)) (tp_no (by omega)) (fun q hq => funext (fun j => tp_no (by omega)))
theorem pz_set {u1 u2 : Int32} : plE Y (seY Y u1 u2) := by
  unfold seY
  split
  · exact pz_0
  · split
    · exact pz_r (up_no (by omega)) (up_no (by omega)) (fun q hq => (up_r (by omega) q hq).symm)
    · split
      · exact pz_r (up_no (by omega)) (up_no (by omega)) (fun q hq => (up_r (by omega) q hq).symm)
      · exact pz_r (up_no (by omega)) (up_no (by omega)) (fun q hq => (up_r (by omega) q hq).symm)
theorem pz_draft {u1 u2 u3 u4 : Int32} : plE Y (drY Y u1 u2 u3 u4) := by
  unfold drY
  split
  · exact pz_r (dr_no (by omega)) (dr_no (by omega)) (fun q hq => funext (fun j => dr_no (by omega)))
  · exact pz_0
theorem pz_feed {u1 : Int32} {u2 : Int64} : plE Y (feY Y u1 u2) := by
  unfold feY
  split
  · exact pz_0
  · exact pz_r (by unfold feW; rw [if_neg (by omega), if_neg (by omega)]) (by unfold feW; rw [if_neg (by omega), if_neg (by omega)]) (fun q hq => funext (fun j => by unfold feW; rw [if_neg (by omega), if_neg (by omega)]))
theorem pz_text {u1 : Int32} : plE Y (txY Y u1) := by
  unfold txY
  split
  · exact pz_0
  · split
    · exact pz_r (tw_no (by omega) (by omega)) (tw_no (by omega) (by omega)) (fun q hq => funext (fun j => tw_no (by omega) (by omega)))
    · exact pz_r (up_no (by omega)) (up_no (by omega)) (fun q hq => (up_r (by omega) q hq).symm)
theorem pz_kin {u1 u2 : Int32} : plE Y (kiY Y u1 u2) := by
  unfold kiY
  split
  · exact pz_r (up_no (by omega)) (up_no (by omega)) (fun q hq => (up_r (by omega) q hq).symm)
  · exact pz_0
theorem pz_put {u1 : Int32} : plE Y ((ptY Y u1).2) := by
  unfold ptY
  split
  · exact pz_0
  · show plE Y (upY (upY Y 52 (Y 0 79).toNatClampNeg u1) 0 79 (Y 0 79 + 1))
    have h1 : plE Y (upY Y 52 (Y 0 79).toNatClampNeg u1) := pz_r (up_no (by omega)) (up_no (by omega)) (fun q hq => (up_r (by omega) q hq).symm)
    have h2 : plE (upY Y 52 (Y 0 79).toNatClampNeg u1) (upY (upY Y 52 (Y 0 79).toNatClampNeg u1) 0 79 (Y 0 79 + 1)) := pz_r (up_no (by omega)) (up_no (by omega)) (fun q hq => (up_r (by omega) q hq).symm)
    exact pz_t h1 h2 (up_no (by omega))
theorem pz_check {u1 u2 u3 : Int32} : plE Y (ckY Y u1 u2 u3) := by
  unfold ckY
  split
  · exact pz_r (up_no (by omega)) (up_no (by omega)) (fun q hq => (up_r (by omega) q hq).symm)
  · exact pz_0
theorem pz_wish {u1 u2 u3 : Int32} : plE Y ((wsY Y u1 u2 u3).2) := by
  unfold wsY
  split
  · exact pz_0
  · show plE Y (upY Y 47 _ _)
    exact pz_r (up_no (by omega)) (up_no (by omega)) (fun q hq => (up_r (by omega) q hq).symm)
theorem pz_strike {u1 u2 : Int32} : plE Y ((skY Y u1 u2).2) := by
  unfold skY
  repeat' split
  all_goals first
    | exact pz_0
    | exact pz_r (up_no (by omega)) (up_no (by omega)) (fun q hq => (up_r (by omega) q hq).symm)
theorem pz_mark {u1 u2 u3 : Int32} : plE Y ((mrY Y u1 u2 u3).2) := by
  unfold mrY
  repeat' split
  all_goals first
    | exact pz_0
    | exact pz_r (mw_no (by omega)) (mw_no (by omega)) (fun q hq => funext (fun j => mw_no (by omega)))
/-- one ASK more, without a place -/
theorem pz_new (hz : 0 ≤ Y 0 17 ∧ Y 0 17 < 30) (e6 : Z 0 6 = Y 0 6) (e17 : Z 0 17 = Y 0 17 + 1) (e20 : Z 20 (Y 0 17).toNatClampNeg = -9) (er : ∀ k j, (k = 20 ∨ k = 21 ∨ k = 10) → ¬ j = (Y 0 17).toNatClampNeg → Z k j = Y k j) : plE Y Z := by
  have hlt : ∀ x : Int32, x < Y 0 17 → x < Z 0 17 := fun x h => by rw [e17]; (try clear er); grind
  have hge : ∀ x : Int32, x < Z 0 17 → ¬ x = Y 0 17 → x < Y 0 17 := fun x h q => by rw [e17] at h; (try clear er); grind
  have hn : ∀ x : Int32, 0 ≤ x → ¬ x = Y 0 17 → ¬ x.toNatClampNeg = (Y 0 17).toNatClampNeg := fun x h q e => q (cl_inj h hz.1 e)
  have hp : ∀ x : Int32, 0 ≤ Z 20 x.toNatClampNeg → ¬ x = Y 0 17 := fun x h e => by
    rw [e, e20] at h
    exact absurd h (by decide)
  refine ⟨e6, fun x c t => ⟨fun ⟨x0, x1, x2⟩ => ?_, fun ⟨x0, x1, x2⟩ => ?_⟩, fun x x0 x1 x2 => ?_⟩
  · have ne := hp x x2.1
    rw [ho_e (W := Y) (fun k hk => er k _ hk (hn x x0 ne))] at x2
    exact ⟨x0, hge x x1 ne, x2⟩
  · have ne : ¬ x = Y 0 17 := fun e => by rw [e] at x1; exact absurd x1 Int32.lt_irrefl
    rw [← ho_e (Z := Z) (W := Y) (fun k hk => er k _ hk (hn x x0 ne))] at x2
    exact ⟨x0, hlt x x1, x2⟩
  · have ne := hp x x2
    exact ⟨er 20 _ (by omega) (hn x x0 ne), er 21 _ (by omega) (hn x x0 ne)⟩
theorem pz_ask (h17 : 0 ≤ Y 0 17 ∧ Y 0 17 ≤ 30) {k b m g e x y : Int32} : plE Y (akY Y k b m g e x y).2 := by
  unfold akY
  split
  · exact pz_0
  · split
    · exact pz_0
    · split
      · exact pz_0
      · split
        · exact pz_0
        · next c4 =>
          split
          · exact pz_0
          · have c5 : ¬ Y 0 17 = 30 := fun q => c4 (Or.inr (Or.inr (Or.inr (Or.inr (Or.inr q)))))
            show plE Y (akW Y k b m g e x y)
            exact pz_new ⟨h17.1, by (try clear c4); grind⟩ (ak_no (by omega) (by omega)) ak_17 ak_at.2.2.2.2.2.1 (fun k j hk hj => ak_no (by omega) (by omega))
theorem pz_owe (h17 : 0 ≤ Y 0 17 ∧ Y 0 17 ≤ 30) {a : Int32} : plE Y (oeY Y a).2 := by
  unfold oeY
  split
  · exact pz_0
  · next c1 =>
    split
    · exact pz_0
    · split
      · exact pz_0
      · next c3 =>
        have c1' : 0 ≤ a ∧ a < Y 0 17 := Classical.byContradiction c1
        have cl := cl_lt c1'.1 c1'.2
        show plE Y (oeW Y a)
        exact pz_new ⟨h17.1, by (try clear c1); grind⟩ ((oe_no (by omega) (by omega)).trans (up_no (by omega))) oe_17 (oe_at (by omega)).2.2.2.2.2.1 (fun k j hk hj => (oe_no (by omega) (by omega)).trans (up_no (by omega)))
theorem pz_hours {v : Int32} : plE Y (hrY Y v) := by
  unfold hrY
  split
  · exact pz_0
  · exact pz_r (up_no (by omega)) (up_no (by omega)) (fun q hq => (up_r (by omega) q hq).symm)
/-- one class, two rows of words: places alike -/
theorem pz_cu (hT : cT C K L J R) (hc : cpP C K L J R Z) (hf : ∀ x j, (x < (C + 44) ∨ (C + 44) + 52 < x) → J2 x j = J x j) (hc2 : cpP C K L J2 R W) : plE Z W := by
  have e6 : W 0 6 = Z 0 6 := hc2.2.1.1.symm.trans ((hf (C + 14) 5 (by omega)).trans hc.2.1.1)
  have e17 : W 0 17 = Z 0 17 := hc2.2.2.1.1.symm.trans ((hf (C + 14) 4 (by omega)).trans hc.2.2.1.1)
  have er : ∀ x : Int32, 0 ≤ x → x < W 0 17 → W 20 x.toNatClampNeg = Z 20 x.toNatClampNeg ∧ W 21 x.toNatClampNeg = Z 21 x.toNatClampNeg ∧ W 10 x.toNatClampNeg = Z 10 x.toNatClampNeg := fun x x0 x1 => by
    have al := hc.2.2.1.2.2.2 x x0 (by rw [← e17]; exact x1)
    have al2 := hc2.2.2.1.2.2.2 x x0 x1
    have k1 := (hc2.2.2.1.2.1 x x0 x1).1
    have a96 := (hT.g_ask _ k1).1
    have eJ : ∀ j, J2 (R (C + 15) x.toNatClampNeg) j = J (R (C + 15) x.toNatClampNeg) j := fun j => hf _ _ (by omega)
    exact ⟨al2.2.2.2.1.1.symm.trans ((eJ 13).trans al.2.2.2.1.1), al2.2.2.2.1.2.symm.trans ((eJ 14).trans al.2.2.2.1.2), al2.1.2.2.1.symm.trans ((eJ 2).trans al.1.2.2.1)⟩
  have ho : ∀ x c t : Int32, 0 ≤ x → x < W 0 17 → hoY W x c t = hoY Z x c t := fun x c t x0 x1 => by
    obtain ⟨q1, q2, q3⟩ := er x x0 x1
    exact ho_e (fun k hk => by rcases hk with h | h | h <;> subst h <;> assumption)
  refine ⟨e6, fun x c t => ⟨fun ⟨x0, x1, x2⟩ => ⟨x0, by rw [← e17]; exact x1, by rw [← ho x c t x0 x1]; exact x2⟩, fun ⟨x0, x1, x2⟩ => ⟨x0, by rw [e17]; exact x1, by rw [ho x c t x0 (by rw [e17]; exact x1)]; exact x2⟩⟩, fun x x0 x1 _ => ⟨(er x x0 x1).1, (er x x0 x1).2.1⟩⟩
theorem hg_le (h : hcG C m J R W) (hm : m ≤ m') : hcG C m' J R W := ⟨h.1, h.2.1, ci_le h.2.2.1 hm, h.2.2.2⟩
/-- hours pass: the class; the reference -/
theorem hg_hc (hT : cT C K L J R) (hc : cpP C K L J R Y) (h : hcG C m J R Y) {w : Int32} (hw : J (C + 1) 6 ≤ w) (p : plE Y Z) (hm : m ≤ m') : hcG C m' (a_ui J (C + 1) 6 w) R Z := by
  obtain ⟨h1, h2, h3, h4, h5⟩ := h
  have eJ : ∀ x j, C + 43 < x → a_ui J (C + 1) 6 w x j = J x j := fun x j q => by rw [ui_ap, if_neg (by omega)]
  obtain ⟨e1, e2, e3, e4⟩ := mR_same (C := C) (J2 := a_ui J (C + 1) 6 w) (J := J) (fun x j p q => eJ x j (by omega))
  have hv : ∀ c : Int32, 0 ≤ c → c < Y 0 6 → chC C (a_ui J (C + 1) 6 w) R c = chC C J R c ∧ whC C (a_ui J (C + 1) 6 w) R c = whC C J R c ∧ paC C (a_ui J (C + 1) 6 w) R c = paC C J R c ∧ pcC C (a_ui J (C + 1) 6 w) R c = pcC C J R c := fun c c0 c1 => by
    have k := (hc.2.1.2.2.1 c c0 c1).1
    obtain ⟨b1, ⟨w1, w2, -⟩, -, ⟨h1, h2, -⟩, ⟨p1, p2, -⟩, -⟩ := hT.g_bnc _ k
    unfold chC whC paC pcC
    refine ⟨funext (fun j => eJ _ _ (by omega)), funext (fun j => eJ _ _ (by omega)), funext (fun j => eJ _ _ (by omega)), by rw [eJ _ _ (by omega)]⟩
  have hci : ciP C (a_ui J (C + 1) 6 w) R Y m := by
    obtain ⟨i1, i2, i3⟩ := h3
    refine ⟨fun c c0 c1 => ?_, fun x x0 x1 t ht q => ?_, i3⟩
    · obtain ⟨v1, v2, v3, v4⟩ := hv c c0 c1
      rw [v1, v3, v4, ui_ap, if_pos ⟨rfl, rfl⟩]
      exact ⟨fun t t0 t1 => Int32.le_trans ((i1 c c0 c1).1 t t0 t1) hw, (i1 c c0 c1).2⟩
    · rw [(hv _ q.1 (hc.2.1.2.2.2.1 x x0 x1 q.1).1).1]
      exact i2 x x0 x1 t ht q
  refine ⟨e4 h1, by rw [e1, e3]; exact hsN_pl h2 p, ci_le (ci_pl hci p) hm, fun c t hcb ht => ?_, fun c t hcb ht => ?_⟩
  · rw [p.1] at hcb
    obtain ⟨v1, v2, v3, v4⟩ := hv c hcb.1 hcb.2
    unfold hdC ldC
    rw [v1, v2, v3, v4, e1, e2]
    exact h4 c t hcb ht
  · rw [p.1] at hcb
    rw [e1, e2]
    exact h5 c t hcb ht
theorem hg_hr (hT : cT C K L J R) (hc : cpP C K L J R Z) (h : hcG C m J R Z) {w : Int32} (hw : J (C + 44) 0 ≤ w) (p : plE Z W) : hcG C m (a_ui J (C + 44) 0 w) R W := by
  obtain ⟨h1, h2, h3, h4, h5⟩ := h
  have eJ : ∀ x j, ¬ (x = (C + 44) ∧ j = 0) → a_ui J (C + 44) 0 w x j = J x j := fun x j q => by rw [ui_ap, if_neg q]
  have e1 : hdR (C + 44) (a_ui J (C + 44) 0 w) = hdR (C + 44) J := funext (fun b => funext (fun s => funext (fun k => hd_eq (eJ _ _ (by omega)) (fun j => eJ _ _ (by omega)) (fun j => eJ _ _ (by omega)) (fun j => eJ _ _ (by omega)) _ k)))
  have e2 : ldR (C + 44) (a_ui J (C + 44) 0 w) = ldR (C + 44) J := funext (fun b => funext (fun s => ld_eq (eJ _ _ (by omega)) (fun j => eJ _ _ (by omega)) (fun j => eJ _ _ (by omega)) _))
  have e0 : a_ui J (C + 44) 0 w (C + 44) 0 = w := by rw [ui_ap, if_pos ⟨rfl, rfl⟩]
  have hf : ∀ x j, (x < (C + 44) ∨ (C + 44) + 52 < x) → a_ui J (C + 44) 0 w x j = J x j := fun x j q => eJ x j (by omega)
  refine ⟨fun i hi => ?_, by rw [e1, e0]; exact hsN_le (hsN_pl h2 p) hw, ci_pl (ci_rf hT hc hf h3) p, fun c t hcb ht => ?_, fun c t hcb ht => ?_⟩
  · rw [eJ _ _ (by omega)] at hi
    rw [eJ _ _ (by omega), e0]
    exact Int32.le_trans (h1 i hi) hw
  · rw [p.1] at hcb
    obtain ⟨v1, v2, v3, v4⟩ := hr_vw (R := R) (W := Z) hT hc hf hcb.1 hcb.2
    unfold hdC ldC
    rw [v1, v2, v3, v4, e1, e2]
    exact h4 c t hcb ht
  · rw [p.1] at hcb
    rw [e1, e2]
    exact h5 c t hcb ht
end HJ0
end
section
/-! what was had: each call carries it -/
section HK0
variable {d n t C c : Nat} {K L : Nat → Nat} {I I0 J J0 J1 J2 : Nat → Nat → Int32} {R : Nat → Nat → Nat} {P : Option Value → AH → Prop}
variable {Y Z W W1 : Nat → Nat → Int32} {b n' t' c' m m' : Nat} {K' L' : Nat → Nat} {R' R1 R2 : Nat → Nat → Nat}
theorem rdh_gen {D mid : Nat} {as : List Value} {Q : Int32 → (Nat → Nat → Int32) → Prop} {B : AH → Prop} (A : a_does D mid as (n + 1, t, K, L, J, R) (fun r h' => ∃ v J3, r = some (.int v) ∧ h' = (n + 1, t, K, L, J3, R) ∧ Q v J3)) (hB : a_does D mid as (n + 1, t, K, L, J, R) (fun _ h' => B h')) (hP : ∀ v J3, Q v J3 → B (n + 1, t, K, L, J3, R) → P (some (.int v)) (n + 1, t, K, L, J3, R)) : a_does D mid as (n + 1, t, K, L, J, R) P := by
  refine does_mono (does_and A hB) (fun r h' q => ?_)
  obtain ⟨⟨v, J3, e1, e2, g⟩, w⟩ := q
  rw [e2] at w
  rw [e1, e2]
  exact hP v _ g w
def kcX (C : Nat) (J : Nat → Nat → Int32) (R : Nat → Nat → Nat) (Y : Nat → Nat → Int32) (m : Nat) (W1 Z : Nat → Nat → Int32) (h' : AH) : Prop := ∃ n2 t2 K2 L2 J2 R2, h' = (n2 + 1, t2, K2, L2, J2, R2) ∧ hxK C J R Y m J2 R2 W1 Z ∧ ∀ x j, C + 44 ≤ x → x ≤ C + 96 → J2 x j = J x j
theorem kcX_in {n2 t2 : Nat} {K2 L2 : Nat → Nat} (h : kcX C J R Y m W1 Z (n2 + 1, t2, K2, L2, J2, R2)) : hxK C J R Y m J2 R2 W1 Z ∧ ∀ x j, C + 44 ≤ x → x ≤ C + 96 → J2 x j = J x j := by
  obtain ⟨m1, m2, K3, L3, J3, R3, e, f⟩ := h
  simp only [Prod.mk.injEq, Nat.add_right_cancel_iff] at e
  obtain ⟨i1, i2, i3, i4, i5, i6⟩ := e
  subst i5 i6
  exact f
theorem kcX_of {n2 t2 : Nat} {K2 L2 : Nat → Nat} {r : Option Value} (x : hxK C J R Y m J2 R2 W1 Z) (h : cB C n K L J R r (n2 + 1, t2, K2, L2, J2, R2)) : kcX C J R Y m W1 Z (n2 + 1, t2, K2, L2, J2, R2) := ⟨_, _, _, _, _, _, rfl, x, cB_in h⟩
theorem law_17 (h : lawI b C c n t K L J R) : 0 ≤ (yv (C + 44) J) 0 17 ∧ (yv (C + 44) J) 0 17 ≤ 30 := (lawI_ok h).1.2.2.2.2.1
theorem rPh_in (h : rPh C n t K L R J (n + 1, t, K, L, J2, R)) : ∀ x j, eRh (C + 44) x j → J2 x j = J x j := by
  obtain ⟨J3, e, f⟩ := h
  simp only [Prod.mk.injEq, true_and, and_true] at e
  subst e
  exact f
def xqX (C n t : Nat) (K L : Nat → Nat) (R : Nat → Nat → Nat) (J Y W1 Z : Nat → Nat → Int32) (h' : AH) : Prop := ∃ J4, h' = (n + 1, t, K, L, J4, R) ∧ hxQ (C + 44) J J4 Y W1 Z ∧ ∀ x j, (x < (C + 44) ∨ (C + 44) + 52 < x) → J4 x j = J x j
theorem xqX_in (h : xqX C n t K L R J Y W1 Z (n + 1, t, K, L, J2, R)) : hxQ (C + 44) J J2 Y W1 Z ∧ ∀ x j, (x < (C + 44) ∨ (C + 44) + 52 < x) → J2 x j = J x j := by
  obtain ⟨J3, e, f⟩ := h
  simp only [Prod.mk.injEq, true_and, and_true] at e
  subst e
  exact f
theorem lawH_n {J3 : Nat → Nat → Int32} (hI : lawI b C (c + 1) n t K L J3 R) (g : hcG C (30 * c + 30) J3 R (yv (C + 44) J3)) : lawH b C (c + 1) n t K L J3 R := ⟨hI, by rw [show 30 * (c + 1) = 30 * c + 30 by omega]; exact g⟩
/-- hours, the class -/
def hoX (C n t : Nat) (K L : Nat → Nat) (J : Nat → Nat → Int32) (R : Nat → Nat → Nat) (h' : AH) : Prop := cFh C K J R h' ∨ ∃ w, J (C + 1) 6 ≤ w ∧ h' = (n + 1, t, K, L, a_ui J (C + 1) 6 w, R)
theorem now_le {a v : Int32} (ha : 0 ≤ a ∧ a ≤ 1600) (h0 : ¬ v < 0) (h1 : ¬ 1600 - a < v) : a ≤ a + v := by
  have z0 : (0 : Int32).toInt = 0 := rfl
  have z1 : (1600 : Int32).toInt = 1600 := rfl
  have a0 := Int32.le_iff_toInt_le.mp ha.1
  have a1 := Int32.le_iff_toInt_le.mp ha.2
  have v0 := Int32.le_iff_toInt_le.mp (Int32.not_lt.mp h0)
  have v1 := Int32.le_iff_toInt_le.mp (Int32.not_lt.mp h1)
  have e : ((1600 : Int32) - a).toInt = 1600 - a.toInt := by
    rw [Int32.toInt_sub, z1]
    simp only [Int.bmod_def]
    omega
  rw [e] at v1
  rw [Int32.le_iff_toInt_le, ti_add (by omega)]
  omega
theorem kf_hours {u1 : Int32} (hH : cH C c (n + 1) t K L J R) : a_does 700 9 [a_rf C, .int u1] (n + 1, t, K, L, J, R) (fun _ h' => hoX C n t K L J R h') := ke_hoursh hH (fun _ _ z => Or.inl (cf_Zh hH z)) (fun _ _ _ z => Or.inl (cf_Zh hH z)) (fun q1 q2 _ => Or.inr ⟨_, now_le hH.1.g_now q1 q2, rfl⟩)
theorem hoX_g {u1 : Int32} {n2 t2 : Nat} {K2 L2 : Nat → Nat} (h : lawH b C c n t K L J R) (w : hoX C n t K L J R (n2 + 1, t2, K2, L2, J2, R2)) : hcG C (30 * c + 30) J2 R2 (hrY (yv (C + 44) J) u1) := by
  have hT := h.1.1.1
  have hcp := h.1.2.2.2.2.2.1.1
  rcases w with w | ⟨w, hw, e⟩
  · exact hg_c hT hcp h.2 (cF_in w) pz_hours (Nat.le_add_right _ _)
  · simp only [Prod.mk.injEq, Nat.add_right_cancel_iff] at e
    obtain ⟨i1, i2, i3, i4, i5, i6⟩ := e
    subst i5 i6
    exact hg_hc hT hcp h.2 hw pz_hours (Nat.le_add_right _ _)
/-- hours, the reference -/
def hrX (C n t : Nat) (K L : Nat → Nat) (J : Nat → Nat → Int32) (R : Nat → Nat → Nat) (h' : AH) : Prop := rPh C n t K L R J h' ∨ ∃ w, J (C + 44) 0 ≤ w ∧ h' = (n + 1, t, K, L, a_ui J (C + 44) 0 w, R)
theorem rj_hours {u1 : Int32} (hS : m_S (C + 44) K L R) (hR : mR (C + 44) J) : a_does 700 170 [a_rf (C + 44), .int u1] (n + 1, t, K, L, J, R) (fun _ h' => hrX C n t K L J R h') := pe_hours hS (fun _ => Or.inl (rh_J (fun x j hx => by rw [ui_ap, if_neg (by unfold eRh hC at hx; omega)]))) (fun _ _ => Or.inl (rh_J (fun x j hx => by rw [ui_ap, if_neg (by unfold eRh hC at hx; omega)]))) (fun q1 q2 => Or.inr ⟨_, now_le (rg_now hR) (fun q => q1 (Int32.lt_trans q (by decide))) q2, rfl⟩)
theorem hrX_g (hT : cT C K L J R) (hc : cpP C K L J R Z) (h : hcG C m J R Z) (w : hrX C n t K L J R (n + 1, t, K, L, J2, R)) (hc2 : cpP C K L J2 R W) : hcG C m J2 R W := by
  rcases w with w | ⟨w, hw, e⟩
  · have w2 := rPh_in w
    exact hg_r hT hc h w2 (pz_cu hT hc (fun x j q => w2 x j (by unfold eRh; omega)) hc2)
  · simp only [Prod.mk.injEq, true_and, and_true] at e
    subst e
    exact hg_hr hT hc h hw (pz_cu hT hc (fun x j q => by rw [ui_ap, if_neg (by omega)]) hc2)
/-- a new bench -/
def bnX (C n t : Nat) (K L : Nat → Nat) (J : Nat → Nat → Int32) (R : Nat → Nat → Nat) (Y : Nat → Nat → Int32) (p q : Int32) (h' : AH) : Prop := ((p < 0 ∨ q < 0) ∨ (255 < p ∨ 255 < q ∨ Y 0 6 = 6)) ∧ cFh C K J R h' ∨ ¬ ((p < 0 ∨ q < 0) ∨ (255 < p ∨ 255 < q ∨ Y 0 6 = 6)) ∧ ∃ t' K' L' J0 R0, h' = (n + 1 + 5, t', K', L', a_ui J0 (C + 14) 5 (J (C + 14) 5 + 1), a_ur R0 (C + 16) (J (C + 14) 5).toNatClampNeg (n + 1)) ∧ (∀ x j, x < n + 1 → J0 x j = J x j) ∧ (∀ x j, x < n + 1 → R0 x j = R x j) ∧ (R0 (n + 1) 2 = n + 2 ∧ R0 (n + 1) 4 = n + 4 ∧ R0 (n + 1) 5 = n + 5) ∧ (∀ j, j < 200 → J0 (n + 2) j = -9 ∧ J0 (n + 4) j = -9) ∧ J0 (n + 1) 6 = 0
theorem kf_bench {u1 u2 : Int32} (hH : cH C c (n + 1) t K L J R) (hc : cpP C K L J R Y) (h6 : Y 0 6 ≤ 6) : a_does 700 20 [a_rf C, .int u1, .int u2] (n + 1, t, K, L, J, R) (fun _ h' => bnX C n t K L J R Y u1 u2 h') := by
  have e5 : J (C + 14) 5 = Y 0 6 := hc.2.1.1
  have hr : ∀ J', rfQ C c (n + 1) t K L J R J' → cFh C K J R (n + 1, t, K, L, J', R) := fun J' z => cf_Jh (fun x j p _ => z.2 x j (by omega)) (z.2 _ _ (by omega))
  refine ky_bench hH (fun q J' z => Or.inl ⟨Or.inl q, hr J' z⟩) (fun q q2 J' z => Or.inl ⟨Or.inr ?_, hr J' z⟩) (fun q1 q2 t' K' L' J0 R0 _ _ _ _ _ z1 z2 z3 _ z5 z6 _ z8 _ z10 => Or.inr ⟨fun q => ?_, t', K', L', J0, R0, rfl, z1, z2, ⟨z3, z5, z6⟩, z8, z10⟩)
  · rcases q2 with q2 | q2 | q2
    · exact Or.inl q2
    · exact Or.inr (Or.inl q2)
    · exact Or.inr (Or.inr (Int32.le_antisymm h6 (by rw [← e5]; exact q2)))
  · rcases q with q | q | q | q
    · exact q1 q
    · exact q2 (Or.inl q)
    · exact q2 (Or.inr (Or.inl q))
    · exact q2 (Or.inr (Or.inr (by rw [e5, q]; exact Int32.le_refl _)))
theorem bn_g {u1 u2 : Int32} {J0 : Nat → Nat → Int32} {R0 : Nat → Nat → Nat} (hH : cH C c' (n + 1) t K L J R) (hc : cpP C K L J R Y) (h : hcG C m J R Y) (h6 : 0 ≤ Y 0 6 ∧ Y 0 6 < 6) (hm : m ≤ m') (z1 : ∀ x j, x < n + 1 → J0 x j = J x j) (z2 : ∀ x j, x < n + 1 → R0 x j = R x j) (z3 : R0 (n + 1) 2 = n + 2 ∧ R0 (n + 1) 4 = n + 4 ∧ R0 (n + 1) 5 = n + 5) (z8 : ∀ j, j < 200 → J0 (n + 2) j = -9 ∧ J0 (n + 4) j = -9) (z10 : J0 (n + 1) 6 = 0) : hcG C m' (a_ui J0 (C + 14) 5 (J (C + 14) 5 + 1)) (a_ur R0 (C + 16) (J (C + 14) 5).toNatClampNeg (n + 1)) (bnW Y u1 u2) := by
  have hT := hH.1
  have hC := hH.2.2.1
  have e5 : J (C + 14) 5 = Y 0 6 := hc.2.1.1
  have fr : ∀ x, ¬ K x = 0 → x < n + 1 := fun x h => Classical.byContradiction (fun q => h (hH.2.1 x (by omega)))
  have c1 : bnW Y u1 u2 0 6 = Y 0 6 + 1 := bn_at.2.2
  have c17 : bnW Y u1 u2 0 17 = Y 0 17 := bn_no (by omega) (by omega)
  have cr : ∀ k, k = 20 ∨ k = 21 ∨ k = 10 → bnW Y u1 u2 k = Y k := fun k hk => funext (fun j => bn_no (by omega) (by omega))
  have ho : ∀ x c t, hoY (bnW Y u1 u2) x c t = hoY Y x c t := fun x c t => ho_e (fun k hk => by rw [cr k hk])
  obtain ⟨h1, h2, h3, h4, h5⟩ := h
  rw [e5]
  generalize eJ : a_ui J0 (C + 14) 5 (Y 0 6 + 1) = J2
  generalize eR : a_ur R0 (C + 16) (Y 0 6).toNatClampNeg (n + 1) = R2
  generalize eW : bnW Y u1 u2 = Z at c1 c17 cr ho
  have fJ : ∀ x j, x < n + 1 → ¬ (x = C + 14 ∧ j = 5) → J2 x j = J x j := fun x j q q2 => by rw [← eJ, ui_ap, if_neg q2]; exact z1 x j q
  have gJ : ∀ x j, n + 1 ≤ x → J2 x j = J0 x j := fun x j q => by rw [← eJ, ui_ap, if_neg (by omega)]
  have fR : ∀ x j, x < n + 1 → ¬ (x = C + 16 ∧ j = (Y 0 6).toNatClampNeg) → R2 x j = R x j := fun x j q q2 => by rw [← eR, ur_ap, if_neg q2]; exact z2 x j q
  have gR : ∀ j, R2 (n + 1) j = R0 (n + 1) j := fun j => by rw [← eR, ur_ap, if_neg (by omega)]
  have nb : R2 (C + 16) (Y 0 6).toNatClampNeg = n + 1 := by rw [← eR, ur_ap, if_pos ⟨rfl, rfl⟩]
  ((try clear eJ); (try clear eR); (try clear eW); (try clear z1); (try clear z2))
  obtain ⟨e1, e2, e3, e4⟩ := mR_same (C := C) (J2 := J2) (J := J) (fun x j p q => fJ x j (by omega) (by omega))
  have en : J2 (C + 1) 6 = J (C + 1) 6 := fJ _ _ (by omega) (by omega)
  -- the benches that were there
  have hv : ∀ c : Int32, 0 ≤ c → c < Y 0 6 → (chC C J2 R2 c = chC C J R c ∧ whC C J2 R2 c = whC C J R c ∧ paC C J2 R2 c = paC C J R c ∧ pcC C J2 R2 c = pcC C J R c) ∧ R2 (R2 (C + 16) c.toNatClampNeg) 5 = R (R (C + 16) c.toNatClampNeg) 5 ∧ R (R (C + 16) c.toNatClampNeg) 5 < n + 1 := fun c c0 c1 => by
    have k := (hc.2.1.2.2.1 c c0 c1).1
    obtain ⟨b1, ⟨w1, w2, -⟩, -, ⟨h1, h2, -⟩, ⟨p1, p2, -⟩, -⟩ := hT.g_bnc _ k
    have ne : ¬ c.toNatClampNeg = (Y 0 6).toNatClampNeg := fun e => by
      have := cl_lt c0 c1
      omega
    have e16 : R2 (C + 16) c.toNatClampNeg = R (C + 16) c.toNatClampNeg := fR _ _ (by omega) (fun q => ne q.2)
    have lb := fr _ (by rw [k]; decide)
    have eB : ∀ j, R2 (R (C + 16) c.toNatClampNeg) j = R (R (C + 16) c.toNatClampNeg) j := fun j => fR _ _ lb (by omega)
    have l2 := fr _ (by rw [w2]; decide)
    have l4 := fr _ (by rw [h2]; decide)
    have l5 := fr _ (by rw [p2]; decide)
    unfold chC whC paC pcC
    rw [e16, eB, eB, eB]
    exact ⟨⟨funext (fun j => fJ _ _ l4 (by omega)), funext (fun j => fJ _ _ l2 (by omega)), funext (fun j => fJ _ _ l5 (by omega)), by rw [fJ _ _ lb (by omega)]⟩, rfl, l5⟩
  -- the one that is new
  have hn : (∀ j, j < 200 → chC C J2 R2 (Y 0 6) j = -9 ∧ whC C J2 R2 (Y 0 6) j = -9) ∧ pcC C J2 R2 (Y 0 6) = 0 ∧ R2 (R2 (C + 16) (Y 0 6).toNatClampNeg) 5 = n + 5 := by
    unfold chC whC pcC
    rw [nb, gR, gR, gR, z3.1, z3.2.1, z3.2.2, gJ (n + 1) 6 (by omega), z10]
    exact ⟨fun j hj => ⟨(gJ _ _ (by omega)).trans (z8 j hj).2, (gJ _ _ (by omega)).trans (z8 j hj).1⟩, rfl, rfl⟩
  have old : ∀ c : Int32, c < Z 0 6 → ¬ c = Y 0 6 → c < Y 0 6 := fun c q q2 => by
    rw [c1] at q
    (try clear h3); (try clear h4); (try clear h5); (try clear h1); (try clear h2); (try clear hv); (try clear hn)
    grind
  have t200 : ∀ t : Int32, 0 ≤ t → t < 200 → t.toNatClampNeg < 200 := fun t q0 q1 => by
    have := cl_lt q0 q1
    rw [show (200 : Int32).toNatClampNeg = 200 from rfl] at this
    exact this
  have hnow := hT.g_now
  refine ⟨e4 h1, by rw [e1, e3]; exact hsN_w h2 c17 cr, ⟨fun c c0 c1 => ?_, fun x x0 x1 t ht q => ?_, fun b c b0 b1 c0 c1 q => ?_⟩, fun c t hcb ht => ?_, fun c t hcb ht => ?_⟩
  · by_cases e : c = Y 0 6
    · rw [e, hn.2.1, en]
      refine ⟨fun t t0 t1 => ?_, fun x hx => absurd hx (Nat.not_lt_zero _), Nat.zero_le _⟩
      rw [(hn.1 _ (t200 t t0 t1)).1]
      exact Int32.le_trans (by decide) hnow.1
    · have c2 := old c c1 e
      obtain ⟨⟨v1, v2, v3, v4⟩, -⟩ := hv c c0 c2
      rw [v1, v3, v4, en]
      exact ⟨(h3.1 c c0 c2).1, (h3.1 c c0 c2).2.1, Nat.le_trans (h3.1 c c0 c2).2.2 hm⟩
  · rw [cr 20 (by omega), cr 21 (by omega)]
    rw [cr 20 (by omega), ho] at q
    rw [c17] at x1
    have p1 := (hc.2.1.2.2.2.1 x x0 x1 q.1).1
    rw [(hv _ q.1 p1).1.1]
    exact h3.2.1 x x0 x1 t ht q
  · by_cases eb : b = Y 0 6
    · by_cases ec : c = Y 0 6
      · rw [eb, ec]
      · obtain ⟨-, r1, r2⟩ := hv c c0 (old c c1 ec)
        rw [eb, hn.2.2, r1] at q
        omega
    · obtain ⟨-, r1, r2⟩ := hv b b0 (old b b1 eb)
      by_cases ec : c = Y 0 6
      · rw [ec, hn.2.2, r1] at q
        omega
      · rw [r1, (hv c c0 (old c c1 ec)).2.1] at q
        exact h3.2.2 b c b0 (old b b1 eb) c0 (old c c1 ec) q
  · by_cases e : c = Y 0 6
    · obtain ⟨q1, q2⟩ := h5 c t ⟨by rw [e]; exact Int32.le_refl _, by rw [e]; exact h6.2⟩ ht
      rw [e1, e2]
      have q3 := (hn.1 _ (t200 t ht.1 ht.2))
      refine ⟨fun k => ?_, ?_⟩
      · rw [q1 k]
        unfold hdC
        rw [e, hn.2.1, q3.1, q3.2]
        split <;> rfl
      · rw [q2]
        unfold ldC
        rw [e]
        exact q3.1
    · have c2 := old c hcb.2 e
      obtain ⟨⟨v1, v2, v3, v4⟩, -⟩ := hv c hcb.1 c2
      unfold hdC ldC
      rw [v1, v2, v3, v4, e1, e2]
      exact h4 c t ⟨hcb.1, c2⟩ ht
  · rw [e1, e2]
    exact h5 c t ⟨by rw [c1] at hcb; (try clear h3); (try clear h4); (try clear h5); (try clear h1); (try clear h2); (try clear hv); (try clear hn); (try clear old); grind, hcb.2⟩ ht
theorem bnX_g {u1 u2 : Int32} {n2 t2 : Nat} {K2 L2 : Nat → Nat} (h : lawH b C c n t K L J R) (w : bnX C n t K L J R (yv (C + 44) J) u1 u2 (n2 + 1, t2, K2, L2, J2, R2)) : hcG C (30 * c + 30) J2 R2 (bnY (yv (C + 44) J) u1 u2) := by
  have hT := h.1.1.1
  have hcp := h.1.2.2.2.2.2.1.1
  have h6 := (lawI_ok h.1).1.2.2.2.2.2.1
  unfold bnY
  rcases w with ⟨q, w⟩ | ⟨q, t', K', L', J0, R0, e, z1, z2, z3, z8, z10⟩
  · rw [if_pos q]
    exact hg_c hT hcp h.2 (cF_in w) pz_0 (Nat.le_add_right _ _)
  · rw [if_neg q]
    simp only [Prod.mk.injEq] at e
    obtain ⟨i1, i2, i3, i4, i5, i6⟩ := e
    subst i5 i6
    refine bn_g h.1.1 hcp h.2 ⟨h6.1, ?_⟩ (Nat.le_add_right _ _) z1 z2 z3 z8 z10
    exact Int32.lt_of_le_of_ne h6.2 (fun e => q (Or.inr (Or.inr (Or.inr e))))
theorem cdh_hours {u1 : Int32} (hb : b < C) (hc : 120 * c + 130 ≤ 62000) (h : lawH b C c n t K L J R) (hP : ∀ v n2 t2 K2 L2 J2 R2, aNx b C c n2 t2 K2 L2 J2 R2 (yv (C + 44) J) (hrY (yv (C + 44) J) u1) → (hcG C (30 * c + 30) J2 R2 (hrY (yv (C + 44) J) u1)) → P (some (.int v)) (n2 + 1, t2, K2, L2, J2, R2)) : a_does 700 9 [a_rf C, .int u1] (n + 1, t, K, L, J, R) P := by
  have hT := h.1.1.1
  have hcp := h.1.2.2.2.2.2.1.1
  exact cdh_gen (Q := fun v n2 t2 K2 L2 J2 R2 => aNx b C c n2 t2 K2 L2 J2 R2 (yv (C + 44) J) (hrY (yv (C + 44) J) u1)) (B := hoX C n t K L J R) (cd_hours hb h.1 (fun v n2 t2 K2 L2 J2 R2 hx => ⟨v, n2, t2, K2, L2, J2, R2, rfl, rfl, hx⟩)) (kf_hours h.1.1) (fun v n2 t2 K2 L2 J2 R2 q w => hP _ _ _ _ _ _ _ q (hoX_g h w))
theorem rdh_hours {u1 : Int32} (hx : aNx b C c n t K L J R Y (hrY Y u1)) (hc : 120 * c + 130 ≤ 62000) (g : hcG C (30 * c + 30) J R (hrY Y u1)) (hP : ∀ v J3, lawH b C (c + 1) n t K L J3 R → P (some (.int v)) (n + 1, t, K, L, J3, R)) : a_does 700 170 [a_rf (C + 44), .int u1] (n + 1, t, K, L, J, R) P := by
  have hc8 : 120 * c + 130 ≤ 84000 := by omega
  have hT := hx.1.1.1
  have hcZ := hx.2.2.2.1.1
  have h6 : Y 0 6 ≤ 6 := hx.2.2.1.1.2.2.2.2.2.1.2
  exact rdh_gen (Q := fun w J3 => lawI b C (c + 1) n t K L J3 R) (B := hrX C n t K L J R) (rd_hours hx hc8 (fun v J3 hI => ⟨v, J3, rfl, rfl, hI⟩)) (rj_hours hx.1.2.1 hx.1.2.2.1) (fun v0 J3 hI w => hP _ _ (lawH_n hI (hrX_g hT hcZ g w hI.2.2.2.2.2.1.1)))
theorem cdh_mode {u1 u2 u3 : Int32} (hb : b < C) (hc : 120 * c + 130 ≤ 62000) (h : lawH b C c n t K L J R) (hP : ∀ v n2 t2 K2 L2 J2 R2, aNx b C c n2 t2 K2 L2 J2 R2 (yv (C + 44) J) (mdY (yv (C + 44) J) u1 u2 u3) → (hcG C (30 * c + 30) J2 R2 (mdY (yv (C + 44) J) u1 u2 u3)) → P (some (.int v)) (n2 + 1, t2, K2, L2, J2, R2)) : a_does 700 11 [a_rf C, .int u1, .int u2, .int u3] (n + 1, t, K, L, J, R) P := by
  have hT := h.1.1.1
  have hcp := h.1.2.2.2.2.2.1.1
  exact cdh_gen (Q := fun v n2 t2 K2 L2 J2 R2 => aNx b C c n2 t2 K2 L2 J2 R2 (yv (C + 44) J) (mdY (yv (C + 44) J) u1 u2 u3)) (B := cFh C K J R) (cd_mode hb h.1 (fun v n2 t2 K2 L2 J2 R2 hx => ⟨v, n2, t2, K2, L2, J2, R2, rfl, rfl, hx⟩)) (kf_mode h.1.1) (fun v n2 t2 K2 L2 J2 R2 q w => hP _ _ _ _ _ _ _ q (hg_c hT hcp h.2 (cF_in w) pz_mode (Nat.le_add_right _ _)))
theorem rdh_mode {u1 u2 u3 : Int32} (hx : aNx b C c n t K L J R Y (mdY Y u1 u2 u3)) (hc : 120 * c + 130 ≤ 62000) (g : hcG C (30 * c + 30) J R (mdY Y u1 u2 u3)) (hP : ∀ v J3, lawH b C (c + 1) n t K L J3 R → P (some (.int v)) (n + 1, t, K, L, J3, R)) : a_does 700 172 [a_rf (C + 44), .int u1, .int u2, .int u3] (n + 1, t, K, L, J, R) P := by
  have hc8 : 120 * c + 130 ≤ 84000 := by omega
  have hT := hx.1.1.1
  have hcZ := hx.2.2.2.1.1
  have h6 : Y 0 6 ≤ 6 := hx.2.2.1.1.2.2.2.2.2.1.2
  exact rdh_gen (Q := fun w J3 => lawI b C (c + 1) n t K L J3 R) (B := rPh C n t K L R J) (rd_mode hx hc8 (fun v J3 hI => ⟨v, J3, rfl, rfl, hI⟩)) (rj_mode hx.1.2.1 hx.1.2.2.1 hx.1.2.2.2.1 hc8) (fun v0 J3 hI w => hP _ _ (lawH_n hI (hg_r hT hcZ g (rPh_in w) (pz_cu hT hcZ (fun x j q => rPh_in w x j (by unfold eRh; omega)) hI.2.2.2.2.2.1.1))))
theorem cdh_trip {u1 u2 : Int32} (hb : b < C) (hc : 120 * c + 130 ≤ 62000) (h : lawH b C c n t K L J R) (hP : ∀ v n2 t2 K2 L2 J2 R2, aNx b C c n2 t2 K2 L2 J2 R2 (yv (C + 44) J) (tpY (yv (C + 44) J) u1 u2) → (hcG C (30 * c + 30) J2 R2 (tpY (yv (C + 44) J) u1 u2)) → P (some (.int v)) (n2 + 1, t2, K2, L2, J2, R2)) : a_does 700 15 [a_rf C, .int u1, .int u2] (n + 1, t, K, L, J, R) P := by
  have hT := h.1.1.1
  have hcp := h.1.2.2.2.2.2.1.1
  exact cdh_gen (Q := fun v n2 t2 K2 L2 J2 R2 => aNx b C c n2 t2 K2 L2 J2 R2 (yv (C + 44) J) (tpY (yv (C + 44) J) u1 u2)) (B := cFh C K J R) (cd_trip hb h.1 (fun v n2 t2 K2 L2 J2 R2 hx => ⟨v, n2, t2, K2, L2, J2, R2, rfl, rfl, hx⟩)) (kf_trip h.1.1) (fun v n2 t2 K2 L2 J2 R2 q w => hP _ _ _ _ _ _ _ q (hg_c hT hcp h.2 (cF_in w) pz_trip (Nat.le_add_right _ _)))
theorem rdh_trip {u1 u2 : Int32} (hx : aNx b C c n t K L J R Y (tpY Y u1 u2)) (hc : 120 * c + 130 ≤ 62000) (g : hcG C (30 * c + 30) J R (tpY Y u1 u2)) (hP : ∀ v J3, lawH b C (c + 1) n t K L J3 R → P (some (.int v)) (n + 1, t, K, L, J3, R)) : a_does 700 175 [a_rf (C + 44), .int u1, .int u2] (n + 1, t, K, L, J, R) P := by
  have hc8 : 120 * c + 130 ≤ 84000 := by omega
  have hT := hx.1.1.1
  have hcZ := hx.2.2.2.1.1
  have h6 : Y 0 6 ≤ 6 := hx.2.2.1.1.2.2.2.2.2.1.2
  exact rdh_gen (Q := fun w J3 => lawI b C (c + 1) n t K L J3 R) (B := rPh C n t K L R J) (rd_trip hx hc8 (fun v J3 hI => ⟨v, J3, rfl, rfl, hI⟩)) (rj_trip hx.1.2.1 hx.1.2.2.1 hx.1.2.2.2.1 hc8) (fun v0 J3 hI w => hP _ _ (lawH_n hI (hg_r hT hcZ g (rPh_in w) (pz_cu hT hcZ (fun x j q => rPh_in w x j (by unfold eRh; omega)) hI.2.2.2.2.2.1.1))))
theorem cdh_shiftOf {u1 u2 u3 : Int32} (hb : b < C) (hc : 120 * c + 130 ≤ 62000) (h : lawH b C c n t K L J R) (hP : ∀ v n2 t2 K2 L2 J2 R2, aNx b C c n2 t2 K2 L2 J2 R2 (yv (C + 44) J) ((yv (C + 44) J)) → (hcG C (30 * c + 30) J2 R2 ((yv (C + 44) J))) → P (some (.int v)) (n2 + 1, t2, K2, L2, J2, R2)) : a_does 700 17 [a_rf C, .int u1, .int u2, .int u3] (n + 1, t, K, L, J, R) P := by
  have hT := h.1.1.1
  have hcp := h.1.2.2.2.2.2.1.1
  exact cdh_gen (Q := fun v n2 t2 K2 L2 J2 R2 => aNx b C c n2 t2 K2 L2 J2 R2 (yv (C + 44) J) ((yv (C + 44) J))) (B := cFh C K J R) (cd_shiftOf hb h.1 (fun v n2 t2 K2 L2 J2 R2 hx => ⟨v, n2, t2, K2, L2, J2, R2, rfl, rfl, hx⟩)) (kf_shiftOf h.1.1) (fun v n2 t2 K2 L2 J2 R2 q w => hP _ _ _ _ _ _ _ q (hg_c hT hcp h.2 (cF_in w) pz_0 (Nat.le_add_right _ _)))
theorem rdh_shiftOf {u1 u2 u3 : Int32} (hx : aNx b C c n t K L J R Y (Y)) (hc : 120 * c + 130 ≤ 62000) (g : hcG C (30 * c + 30) J R (Y)) (hP : ∀ v J3, lawH b C (c + 1) n t K L J3 R → P (some (.int v)) (n + 1, t, K, L, J3, R)) : a_does 700 176 [a_rf (C + 44), .int u1, .int u2, .int u3] (n + 1, t, K, L, J, R) P := by
  have hc8 : 120 * c + 130 ≤ 84000 := by omega
  have hT := hx.1.1.1
  have hcZ := hx.2.2.2.1.1
  have h6 : Y 0 6 ≤ 6 := hx.2.2.1.1.2.2.2.2.2.1.2
  exact rdh_gen (Q := fun w J3 => lawI b C (c + 1) n t K L J3 R) (B := rPh C n t K L R J) (rd_shiftOf hx hc8 (fun v J3 hI => ⟨v, J3, rfl, rfl, hI⟩)) (rj_shiftOf hx.1.2.1 hx.1.2.2.1 hx.1.2.2.2.1 hc8) (fun v0 J3 hI w => hP _ _ (lawH_n hI (hg_r hT hcZ g (rPh_in w) (pz_cu hT hcZ (fun x j q => rPh_in w x j (by unfold eRh; omega)) hI.2.2.2.2.2.1.1))))
theorem cdh_bench {u1 u2 : Int32} (hb : b < C) (hc : 120 * c + 130 ≤ 62000) (h : lawH b C c n t K L J R) (hP : ∀ v n2 t2 K2 L2 J2 R2, aNx b C c n2 t2 K2 L2 J2 R2 (yv (C + 44) J) (bnY (yv (C + 44) J) u1 u2) → (hcG C (30 * c + 30) J2 R2 (bnY (yv (C + 44) J) u1 u2)) → P (some (.int v)) (n2 + 1, t2, K2, L2, J2, R2)) : a_does 700 20 [a_rf C, .int u1, .int u2] (n + 1, t, K, L, J, R) P := by
  have hT := h.1.1.1
  have hcp := h.1.2.2.2.2.2.1.1
  exact cdh_gen (Q := fun v n2 t2 K2 L2 J2 R2 => aNx b C c n2 t2 K2 L2 J2 R2 (yv (C + 44) J) (bnY (yv (C + 44) J) u1 u2)) (B := bnX C n t K L J R (yv (C + 44) J) u1 u2) (cd_bench hb h.1 (fun v n2 t2 K2 L2 J2 R2 hx => ⟨v, n2, t2, K2, L2, J2, R2, rfl, rfl, hx⟩)) (kf_bench h.1.1 hcp (lawI_ok h.1).1.2.2.2.2.2.1.2) (fun v n2 t2 K2 L2 J2 R2 q w => hP _ _ _ _ _ _ _ q (bnX_g h w))
theorem rdh_bench {u1 u2 : Int32} (hx : aNx b C c n t K L J R Y (bnY Y u1 u2)) (hc : 120 * c + 130 ≤ 62000) (g : hcG C (30 * c + 30) J R (bnY Y u1 u2)) (hP : ∀ v J3, lawH b C (c + 1) n t K L J3 R → P (some (.int v)) (n + 1, t, K, L, J3, R)) : a_does 700 178 [a_rf (C + 44), .int u1, .int u2] (n + 1, t, K, L, J, R) P := by
  have hc8 : 120 * c + 130 ≤ 84000 := by omega
  have hT := hx.1.1.1
  have hcZ := hx.2.2.2.1.1
  have h6 : Y 0 6 ≤ 6 := hx.2.2.1.1.2.2.2.2.2.1.2
  exact rdh_gen (Q := fun w J3 => lawI b C (c + 1) n t K L J3 R) (B := rPh C n t K L R J) (rd_bench hx hc8 (fun v J3 hI => ⟨v, J3, rfl, rfl, hI⟩)) (rj_bench hx.1.2.1 hx.1.2.2.1 hx.1.2.2.2.1 hc8) (fun v0 J3 hI w => hP _ _ (lawH_n hI (hg_r hT hcZ g (rPh_in w) (pz_cu hT hcZ (fun x j q => rPh_in w x j (by unfold eRh; omega)) hI.2.2.2.2.2.1.1))))
theorem cdh_set {u1 u2 : Int32} (hb : b < C) (hc : 120 * c + 130 ≤ 62000) (h : lawH b C c n t K L J R) (hP : ∀ v n2 t2 K2 L2 J2 R2, aNx b C c n2 t2 K2 L2 J2 R2 (yv (C + 44) J) (seY (yv (C + 44) J) u1 u2) → (hcG C (30 * c + 30) J2 R2 (seY (yv (C + 44) J) u1 u2)) → P (some (.int v)) (n2 + 1, t2, K2, L2, J2, R2)) : a_does 700 23 [a_rf C, .int u1, .int u2] (n + 1, t, K, L, J, R) P := by
  have hT := h.1.1.1
  have hcp := h.1.2.2.2.2.2.1.1
  exact cdh_gen (Q := fun v n2 t2 K2 L2 J2 R2 => aNx b C c n2 t2 K2 L2 J2 R2 (yv (C + 44) J) (seY (yv (C + 44) J) u1 u2)) (B := cFh C K J R) (cd_set hb h.1 (fun v n2 t2 K2 L2 J2 R2 hx => ⟨v, n2, t2, K2, L2, J2, R2, rfl, rfl, hx⟩)) (kf_set h.1.1) (fun v n2 t2 K2 L2 J2 R2 q w => hP _ _ _ _ _ _ _ q (hg_c hT hcp h.2 (cF_in w) pz_set (Nat.le_add_right _ _)))
theorem rdh_set {u1 u2 : Int32} (hx : aNx b C c n t K L J R Y (seY Y u1 u2)) (hc : 120 * c + 130 ≤ 62000) (g : hcG C (30 * c + 30) J R (seY Y u1 u2)) (hP : ∀ v J3, lawH b C (c + 1) n t K L J3 R → P (some (.int v)) (n + 1, t, K, L, J3, R)) : a_does 700 179 [a_rf (C + 44), .int u1, .int u2] (n + 1, t, K, L, J, R) P := by
  have hc8 : 120 * c + 130 ≤ 84000 := by omega
  have hT := hx.1.1.1
  have hcZ := hx.2.2.2.1.1
  have h6 : Y 0 6 ≤ 6 := hx.2.2.1.1.2.2.2.2.2.1.2
  exact rdh_gen (Q := fun w J3 => lawI b C (c + 1) n t K L J3 R) (B := rPh C n t K L R J) (rd_set hx hc8 (fun v J3 hI => ⟨v, J3, rfl, rfl, hI⟩)) (rj_set hx.1.2.1 hx.1.2.2.1 hx.1.2.2.2.1 hc8) (fun v0 J3 hI w => hP _ _ (lawH_n hI (hg_r hT hcZ g (rPh_in w) (pz_cu hT hcZ (fun x j q => rPh_in w x j (by unfold eRh; omega)) hI.2.2.2.2.2.1.1))))
theorem cdh_draft {u1 u2 u3 u4 : Int32} (hb : b < C) (hc : 120 * c + 130 ≤ 62000) (h : lawH b C c n t K L J R) (hP : ∀ v n2 t2 K2 L2 J2 R2, aNx b C c n2 t2 K2 L2 J2 R2 (yv (C + 44) J) (drY (yv (C + 44) J) u1 u2 u3 u4) → (hcG C (30 * c + 30) J2 R2 (drY (yv (C + 44) J) u1 u2 u3 u4)) → P (some (.int v)) (n2 + 1, t2, K2, L2, J2, R2)) : a_does 700 36 [a_rf C, .int u1, .int u2, .int u3, .int u4] (n + 1, t, K, L, J, R) P := by
  have hT := h.1.1.1
  have hcp := h.1.2.2.2.2.2.1.1
  exact cdh_gen (Q := fun v n2 t2 K2 L2 J2 R2 => aNx b C c n2 t2 K2 L2 J2 R2 (yv (C + 44) J) (drY (yv (C + 44) J) u1 u2 u3 u4)) (B := cFh C K J R) (cd_draft hb h.1 (fun v n2 t2 K2 L2 J2 R2 hx => ⟨v, n2, t2, K2, L2, J2, R2, rfl, rfl, hx⟩)) (kf_draft h.1.1) (fun v n2 t2 K2 L2 J2 R2 q w => hP _ _ _ _ _ _ _ q (hg_c hT hcp h.2 (cF_in w) pz_draft (Nat.le_add_right _ _)))
theorem rdh_draft {u1 u2 u3 u4 : Int32} (hx : aNx b C c n t K L J R Y (drY Y u1 u2 u3 u4)) (hc : 120 * c + 130 ≤ 62000) (g : hcG C (30 * c + 30) J R (drY Y u1 u2 u3 u4)) (hP : ∀ v J3, lawH b C (c + 1) n t K L J3 R → P (some (.int v)) (n + 1, t, K, L, J3, R)) : a_does 700 180 [a_rf (C + 44), .int u1, .int u2, .int u3, .int u4] (n + 1, t, K, L, J, R) P := by
  have hc8 : 120 * c + 130 ≤ 84000 := by omega
  have hT := hx.1.1.1
  have hcZ := hx.2.2.2.1.1
  have h6 : Y 0 6 ≤ 6 := hx.2.2.1.1.2.2.2.2.2.1.2
  exact rdh_gen (Q := fun w J3 => lawI b C (c + 1) n t K L J3 R) (B := rPh C n t K L R J) (rd_draft hx hc8 (fun v J3 hI => ⟨v, J3, rfl, rfl, hI⟩)) (rj_draft hx.1.2.1 hx.1.2.2.1 hx.1.2.2.2.1 hc8) (fun v0 J3 hI w => hP _ _ (lawH_n hI (hg_r hT hcZ g (rPh_in w) (pz_cu hT hcZ (fun x j q => rPh_in w x j (by unfold eRh; omega)) hI.2.2.2.2.2.1.1))))
theorem cdh_ask {u1 u2 u3 u4 u5 u6 u7 : Int32} (hb : b < C) (hc : 120 * c + 130 ≤ 62000) (h : lawH b C c n t K L J R) (hP : ∀ n2 t2 K2 L2 J2 R2, aNx b C c n2 t2 K2 L2 J2 R2 (yv (C + 44) J) ((akY (yv (C + 44) J) u1 u2 u3 u4 u5 u6 u7).2) → (hcG C (30 * c + 30) J2 R2 ((akY (yv (C + 44) J) u1 u2 u3 u4 u5 u6 u7).2)) → P (some (.int ((akY (yv (C + 44) J) u1 u2 u3 u4 u5 u6 u7).1))) (n2 + 1, t2, K2, L2, J2, R2)) : a_does 700 38 [a_rf C, .int u1, .int u2, .int u3, .int u4, .int u5, .int u6, .int u7] (n + 1, t, K, L, J, R) P := by
  have hT := h.1.1.1
  have hcp := h.1.2.2.2.2.2.1.1
  exact cdh_gen (Q := fun v n2 t2 K2 L2 J2 R2 => v = (akY (yv (C + 44) J) u1 u2 u3 u4 u5 u6 u7).1 ∧ aNx b C c n2 t2 K2 L2 J2 R2 (yv (C + 44) J) ((akY (yv (C + 44) J) u1 u2 u3 u4 u5 u6 u7).2)) (B := cFh C K J R) (cd_ask hb h.1 (fun n2 t2 K2 L2 J2 R2 hx => ⟨_, n2, t2, K2, L2, J2, R2, rfl, rfl, rfl, hx⟩)) (kf_ask h.1.1) (fun v n2 t2 K2 L2 J2 R2 q w => by
    obtain ⟨rfl, hx⟩ := q
    exact hP _ _ _ _ _ _ hx (hg_c hT hcp h.2 (cF_in w) (pz_ask (law_17 h.1)) (Nat.le_add_right _ _)))
theorem rdh_ask {u1 u2 u3 u4 u5 u6 u7 : Int32} (hx : aNx b C c n t K L J R Y ((akY Y u1 u2 u3 u4 u5 u6 u7).2)) (hc : 120 * c + 130 ≤ 62000) (g : hcG C (30 * c + 30) J R ((akY Y u1 u2 u3 u4 u5 u6 u7).2)) (hP : ∀ J3, lawH b C (c + 1) n t K L J3 R → P (some (.int ((akY Y u1 u2 u3 u4 u5 u6 u7).1))) (n + 1, t, K, L, J3, R)) : a_does 700 181 [a_rf (C + 44), .int u1, .int u2, .int u3, .int u4, .int u5, .int u6, .int u7] (n + 1, t, K, L, J, R) P := by
  have hc8 : 120 * c + 130 ≤ 84000 := by omega
  have hT := hx.1.1.1
  have hcZ := hx.2.2.2.1.1
  have h6 : Y 0 6 ≤ 6 := hx.2.2.1.1.2.2.2.2.2.1.2
  exact rdh_gen (Q := fun w J3 => w = (akY Y u1 u2 u3 u4 u5 u6 u7).1 ∧ lawI b C (c + 1) n t K L J3 R) (B := rPh C n t K L R J) (rd_ask hx hc8 (fun J3 hI => ⟨_, J3, rfl, rfl, rfl, hI⟩)) (rj_ask hx.1.2.1 hx.1.2.2.1 hx.1.2.2.2.1 hc8) (fun v0 J3 q w => by
    obtain ⟨rfl, hI⟩ := q
    exact hP _ (lawH_n hI (hg_r hT hcZ g (rPh_in w) (pz_cu hT hcZ (fun x j q => rPh_in w x j (by unfold eRh; omega)) hI.2.2.2.2.2.1.1))))
theorem kc_withdraw {u1 : Int32} (hc : 120 * c + 130 ≤ 62000) (h : lawH b C c n t K L J R) : a_does 700 44 [a_rf C, .int u1] (n + 1, t, K, L, J, R) (fun _ h' => kcX C J R (yv (C + 44) J) (30 * c) ((wdY (yv (C + 44) J) u1).2) ((wdY (yv (C + 44) J) u1).2) h') := by
  exact does_mono (does_and (gk_withdraw (P := fun _ h' => ∃ n2 t2 K2 L2 J2 R2, h' = (n2 + 1, t2, K2, L2, J2, R2) ∧ hxK C J R (yv (C + 44) J) (30 * c) J2 R2 ((wdY (yv (C + 44) J) u1).2) ((wdY (yv (C + 44) J) u1).2)) h.1.1 h.1.2.2.2.2.2.1 h.2.2.2.1 (by omega) (fun n2 t2 K2 L2 J2 R2 _ _ x => ⟨n2, t2, K2, L2, J2, R2, rfl, x⟩)) (cu_withdraw (P := fun _ h' => cB C n K L J R none h') h.1.1 (fun _ _ _ _ _ _ _ z => cb_Z z))) (fun r h' q => by
    obtain ⟨⟨n2, t2, K2, L2, J2, R2, e, x⟩, q3⟩ := q
    rw [e] at q3 ⊢
    exact kcX_of x q3)
theorem cdh_withdraw {u1 : Int32} (hb : b < C) (hc : 120 * c + 130 ≤ 62000) (h : lawH b C c n t K L J R) (hP : ∀ n2 t2 K2 L2 J2 R2, aNx b C c n2 t2 K2 L2 J2 R2 (yv (C + 44) J) ((wdY (yv (C + 44) J) u1).2) → (hcR C (30 * c + 30) J2 R2 (yv (C + 44) J) ((wdY (yv (C + 44) J) u1).2) ((wdY (yv (C + 44) J) u1).2)) → P (some (.int ((wdY (yv (C + 44) J) u1).1))) (n2 + 1, t2, K2, L2, J2, R2)) : a_does 700 44 [a_rf C, .int u1] (n + 1, t, K, L, J, R) P := by
  have hT := h.1.1.1
  have hcp := h.1.2.2.2.2.2.1.1
  exact cdh_gen (Q := fun v n2 t2 K2 L2 J2 R2 => v = (wdY (yv (C + 44) J) u1).1 ∧ aNx b C c n2 t2 K2 L2 J2 R2 (yv (C + 44) J) ((wdY (yv (C + 44) J) u1).2)) (B := (kcX C J R (yv (C + 44) J) (30 * c) ((wdY (yv (C + 44) J) u1).2) ((wdY (yv (C + 44) J) u1).2))) (cd_withdraw hb h.1 (fun n2 t2 K2 L2 J2 R2 hx => ⟨_, n2, t2, K2, L2, J2, R2, rfl, rfl, rfl, hx⟩)) (kc_withdraw hc h) (fun v n2 t2 K2 L2 J2 R2 q w => by
    obtain ⟨rfl, hx⟩ := q
    exact hP _ _ _ _ _ _ hx (hr_c hcp h.2 (law_now h.1) (law_pl h.1) (kcX_in w).1 (kcX_in w).2))
theorem rdh_withdraw {u1 : Int32} (hx : aNx b C c n t K L J R Y ((wdY Y u1).2)) (hc : 120 * c + 130 ≤ 62000) (g : hcR C (30 * c + 30) J R Y ((wdY Y u1).2) ((wdY Y u1).2)) (hP : ∀ J3, lawH b C (c + 1) n t K L J3 R → P (some (.int ((wdY Y u1).1))) (n + 1, t, K, L, J3, R)) : a_does 700 184 [a_rf (C + 44), .int u1] (n + 1, t, K, L, J, R) P := by
  have hc8 : 120 * c + 130 ≤ 84000 := by omega
  have hT := hx.1.1.1
  have hcZ := hx.2.2.2.1.1
  have h6 : Y 0 6 ≤ 6 := hx.2.2.1.1.2.2.2.2.2.1.2
  exact rdh_gen (Q := fun w J3 => w = (wdY Y u1).1 ∧ lawI b C (c + 1) n t K L J3 R) (B := xqX C n t K L R J Y ((wdY Y u1).2) ((wdY Y u1).2)) (rd_withdraw hx hc8 (fun J3 hI => ⟨_, J3, rfl, rfl, rfl, hI⟩)) (xp_withdraw9 (P := fun _ h' => xqX C n t K L R J Y ((wdY Y u1).2) ((wdY Y u1).2) h') hx.1.2.1 hx.2.2.1 hc8 ⟨mG_refl hx.1.2.2.1, hx.1.2.2.2.1⟩ hx.2.1 g.1 g.2.1 (fun J4 _ gs x => ⟨J4, rfl, x, gs.2.1⟩)) (fun v0 J3 q w => by
    obtain ⟨rfl, hI⟩ := q
    exact hP _ (lawH_n hI (hr_r hT hcZ h6 g (xqX_in w).1 (xqX_in w).2 (pz_cu hT hcZ (xqX_in w).2 hI.2.2.2.2.2.1.1))))
theorem cdh_askOf {u1 u2 : Int32} (hb : b < C) (hc : 120 * c + 130 ≤ 62000) (h : lawH b C c n t K L J R) (hP : ∀ v n2 t2 K2 L2 J2 R2, aNx b C c n2 t2 K2 L2 J2 R2 (yv (C + 44) J) ((yv (C + 44) J)) → (hcG C (30 * c + 30) J2 R2 ((yv (C + 44) J))) → P (some (.int v)) (n2 + 1, t2, K2, L2, J2, R2)) : a_does 700 53 [a_rf C, .int u1, .int u2] (n + 1, t, K, L, J, R) P := by
  have hT := h.1.1.1
  have hcp := h.1.2.2.2.2.2.1.1
  exact cdh_gen (Q := fun v n2 t2 K2 L2 J2 R2 => aNx b C c n2 t2 K2 L2 J2 R2 (yv (C + 44) J) ((yv (C + 44) J))) (B := cFh C K J R) (cd_askOf hb h.1 (fun v n2 t2 K2 L2 J2 R2 hx => ⟨v, n2, t2, K2, L2, J2, R2, rfl, rfl, hx⟩)) (kf_askOf h.1.1) (fun v n2 t2 K2 L2 J2 R2 q w => hP _ _ _ _ _ _ _ q (hg_c hT hcp h.2 (cF_in w) pz_0 (Nat.le_add_right _ _)))
theorem rdh_askOf {u1 u2 : Int32} (hx : aNx b C c n t K L J R Y (Y)) (hc : 120 * c + 130 ≤ 62000) (g : hcG C (30 * c + 30) J R (Y)) (hP : ∀ v J3, lawH b C (c + 1) n t K L J3 R → P (some (.int v)) (n + 1, t, K, L, J3, R)) : a_does 700 188 [a_rf (C + 44), .int u1, .int u2] (n + 1, t, K, L, J, R) P := by
  have hc8 : 120 * c + 130 ≤ 84000 := by omega
  have hT := hx.1.1.1
  have hcZ := hx.2.2.2.1.1
  have h6 : Y 0 6 ≤ 6 := hx.2.2.1.1.2.2.2.2.2.1.2
  exact rdh_gen (Q := fun w J3 => lawI b C (c + 1) n t K L J3 R) (B := rPh C n t K L R J) (rd_askOf hx hc8 (fun v J3 hI => ⟨v, J3, rfl, rfl, hI⟩)) (rj_askOf hx.1.2.1 hx.1.2.2.1 hx.1.2.2.2.1 hc8) (fun v0 J3 hI w => hP _ _ (lawH_n hI (hg_r hT hcZ g (rPh_in w) (pz_cu hT hcZ (fun x j q => rPh_in w x j (by unfold eRh; omega)) hI.2.2.2.2.2.1.1))))
theorem cdh_feed {u1 : Int32} {u2 : Int64} (hb : b < C) (hc : 120 * c + 130 ≤ 62000) (h : lawH b C c n t K L J R) (hP : ∀ v n2 t2 K2 L2 J2 R2, aNx b C c n2 t2 K2 L2 J2 R2 (yv (C + 44) J) (feY (yv (C + 44) J) u1 u2) → (hcG C (30 * c + 30) J2 R2 (feY (yv (C + 44) J) u1 u2)) → P (some (.int v)) (n2 + 1, t2, K2, L2, J2, R2)) : a_does 700 66 [a_rf C, .int u1, .long u2] (n + 1, t, K, L, J, R) P := by
  have hT := h.1.1.1
  have hcp := h.1.2.2.2.2.2.1.1
  exact cdh_gen (Q := fun v n2 t2 K2 L2 J2 R2 => aNx b C c n2 t2 K2 L2 J2 R2 (yv (C + 44) J) (feY (yv (C + 44) J) u1 u2)) (B := cFh C K J R) (cd_feed hb h.1 (fun v n2 t2 K2 L2 J2 R2 hx => ⟨v, n2, t2, K2, L2, J2, R2, rfl, rfl, hx⟩)) (kf_feed h.1.1) (fun v n2 t2 K2 L2 J2 R2 q w => hP _ _ _ _ _ _ _ q (hg_c hT hcp h.2 (cF_in w) pz_feed (Nat.le_add_right _ _)))
theorem rdh_feed {u1 : Int32} {u2 : Int64} (hx : aNx b C c n t K L J R Y (feY Y u1 u2)) (hc : 120 * c + 130 ≤ 62000) (g : hcG C (30 * c + 30) J R (feY Y u1 u2)) (hP : ∀ v J3, lawH b C (c + 1) n t K L J3 R → P (some (.int v)) (n + 1, t, K, L, J3, R)) : a_does 700 200 [a_rf (C + 44), .int u1, .long u2] (n + 1, t, K, L, J, R) P := by
  have hc8 : 120 * c + 130 ≤ 84000 := by omega
  have hT := hx.1.1.1
  have hcZ := hx.2.2.2.1.1
  have h6 : Y 0 6 ≤ 6 := hx.2.2.1.1.2.2.2.2.2.1.2
  exact rdh_gen (Q := fun w J3 => lawI b C (c + 1) n t K L J3 R) (B := rPh C n t K L R J) (rd_feed hx hc8 (fun v J3 hI => ⟨v, J3, rfl, rfl, hI⟩)) (rj_feed hx.1.2.1 hx.1.2.2.1 hx.1.2.2.2.1 hc8) (fun v0 J3 hI w => hP _ _ (lawH_n hI (hg_r hT hcZ g (rPh_in w) (pz_cu hT hcZ (fun x j q => rPh_in w x j (by unfold eRh; omega)) hI.2.2.2.2.2.1.1))))
theorem cdh_text {u1 : Int32} (hb : b < C) (hc : 120 * c + 130 ≤ 62000) (h : lawH b C c n t K L J R) (hP : ∀ v n2 t2 K2 L2 J2 R2, aNx b C c n2 t2 K2 L2 J2 R2 (yv (C + 44) J) (txY (yv (C + 44) J) u1) → (hcG C (30 * c + 30) J2 R2 (txY (yv (C + 44) J) u1)) → P (some (.int v)) (n2 + 1, t2, K2, L2, J2, R2)) : a_does 700 68 [a_rf C, .int u1] (n + 1, t, K, L, J, R) P := by
  have hT := h.1.1.1
  have hcp := h.1.2.2.2.2.2.1.1
  exact cdh_gen (Q := fun v n2 t2 K2 L2 J2 R2 => aNx b C c n2 t2 K2 L2 J2 R2 (yv (C + 44) J) (txY (yv (C + 44) J) u1)) (B := cFh C K J R) (cd_text hb h.1 (fun v n2 t2 K2 L2 J2 R2 hx => ⟨v, n2, t2, K2, L2, J2, R2, rfl, rfl, hx⟩)) (kf_text h.1.1) (fun v n2 t2 K2 L2 J2 R2 q w => hP _ _ _ _ _ _ _ q (hg_c hT hcp h.2 (cF_in w) pz_text (Nat.le_add_right _ _)))
theorem rdh_text {u1 : Int32} (hx : aNx b C c n t K L J R Y (txY Y u1)) (hc : 120 * c + 130 ≤ 62000) (g : hcG C (30 * c + 30) J R (txY Y u1)) (hP : ∀ v J3, lawH b C (c + 1) n t K L J3 R → P (some (.int v)) (n + 1, t, K, L, J3, R)) : a_does 700 201 [a_rf (C + 44), .int u1] (n + 1, t, K, L, J, R) P := by
  have hc8 : 120 * c + 130 ≤ 84000 := by omega
  have hT := hx.1.1.1
  have hcZ := hx.2.2.2.1.1
  have h6 : Y 0 6 ≤ 6 := hx.2.2.1.1.2.2.2.2.2.1.2
  exact rdh_gen (Q := fun w J3 => lawI b C (c + 1) n t K L J3 R) (B := rPh C n t K L R J) (rd_text hx hc8 (fun v J3 hI => ⟨v, J3, rfl, rfl, hI⟩)) (rj_text hx.1.2.1 hx.1.2.2.1 hx.1.2.2.2.1 hc8) (fun v0 J3 hI w => hP _ _ (lawH_n hI (hg_r hT hcZ g (rPh_in w) (pz_cu hT hcZ (fun x j q => rPh_in w x j (by unfold eRh; omega)) hI.2.2.2.2.2.1.1))))
theorem cdh_strike {u1 u2 : Int32} (hb : b < C) (hc : 120 * c + 130 ≤ 62000) (h : lawH b C c n t K L J R) (hP : ∀ n2 t2 K2 L2 J2 R2, aNx b C c n2 t2 K2 L2 J2 R2 (yv (C + 44) J) ((skY (yv (C + 44) J) u1 u2).2) → (hcG C (30 * c + 30) J2 R2 ((skY (yv (C + 44) J) u1 u2).2)) → P (some (.int ((skY (yv (C + 44) J) u1 u2).1))) (n2 + 1, t2, K2, L2, J2, R2)) : a_does 700 84 [a_rf C, .int u1, .int u2] (n + 1, t, K, L, J, R) P := by
  have hT := h.1.1.1
  have hcp := h.1.2.2.2.2.2.1.1
  have hx : 0 ≤ u1 → u1 < J (C + 7) 3 → C + 96 < R (C + 8) u1.toNatClampNeg ∧ K (R (C + 8) u1.toNatClampNeg) = 11 ∧ ¬ R (C + 8) u1.toNatClampNeg = 0 := fun x0 x1 => by
    rw [hcp.2.2.2.1.1] at x1
    have q := hcp.2.2.2.1.2 u1 x0 x1
    exact ⟨(hT.g_txt _ q.1).1, q.1, q.2.1⟩
  exact cdh_gen (Q := fun v n2 t2 K2 L2 J2 R2 => v = (skY (yv (C + 44) J) u1 u2).1 ∧ aNx b C c n2 t2 K2 L2 J2 R2 (yv (C + 44) J) ((skY (yv (C + 44) J) u1 u2).2)) (B := cFh C K J R) (cd_strike hb h.1 (fun n2 t2 K2 L2 J2 R2 hx => ⟨_, n2, t2, K2, L2, J2, R2, rfl, rfl, rfl, hx⟩)) (kf_strike h.1.1 hx) (fun v n2 t2 K2 L2 J2 R2 q w => by
    obtain ⟨rfl, hx⟩ := q
    exact hP _ _ _ _ _ _ hx (hg_c hT hcp h.2 (cF_in w) pz_strike (Nat.le_add_right _ _)))
theorem rdh_strike {u1 u2 : Int32} (hx : aNx b C c n t K L J R Y ((skY Y u1 u2).2)) (hc : 120 * c + 130 ≤ 62000) (g : hcG C (30 * c + 30) J R ((skY Y u1 u2).2)) (hP : ∀ J3, lawH b C (c + 1) n t K L J3 R → P (some (.int ((skY Y u1 u2).1))) (n + 1, t, K, L, J3, R)) : a_does 700 207 [a_rf (C + 44), .int u1, .int u2] (n + 1, t, K, L, J, R) P := by
  have hc8 : 120 * c + 130 ≤ 84000 := by omega
  have hT := hx.1.1.1
  have hcZ := hx.2.2.2.1.1
  have h6 : Y 0 6 ≤ 6 := hx.2.2.1.1.2.2.2.2.2.1.2
  exact rdh_gen (Q := fun w J3 => w = (skY Y u1 u2).1 ∧ lawI b C (c + 1) n t K L J3 R) (B := rPh C n t K L R J) (rd_strike hx hc8 (fun J3 hI => ⟨_, J3, rfl, rfl, rfl, hI⟩)) (rj_strike hx.1.2.1 hx.1.2.2.1 hx.1.2.2.2.1 hc8) (fun v0 J3 q w => by
    obtain ⟨rfl, hI⟩ := q
    exact hP _ (lawH_n hI (hg_r hT hcZ g (rPh_in w) (pz_cu hT hcZ (fun x j q => rPh_in w x j (by unfold eRh; omega)) hI.2.2.2.2.2.1.1))))
theorem cdh_barred {u1 u2 u3 u4 : Int32} (hb : b < C) (hc : 120 * c + 130 ≤ 62000) (h : lawH b C c n t K L J R) (hP : ∀ v n2 t2 K2 L2 J2 R2, aNx b C c n2 t2 K2 L2 J2 R2 (yv (C + 44) J) ((yv (C + 44) J)) → (hcG C (30 * c + 30) J2 R2 ((yv (C + 44) J))) → P (some (.int v)) (n2 + 1, t2, K2, L2, J2, R2)) : a_does 700 85 [a_rf C, .int u1, .int u2, .int u3, .int u4] (n + 1, t, K, L, J, R) P := by
  have hT := h.1.1.1
  have hcp := h.1.2.2.2.2.2.1.1
  exact cdh_gen (Q := fun v n2 t2 K2 L2 J2 R2 => aNx b C c n2 t2 K2 L2 J2 R2 (yv (C + 44) J) ((yv (C + 44) J))) (B := cFh C K J R) (cd_barred hb h.1 (fun v n2 t2 K2 L2 J2 R2 hx => ⟨v, n2, t2, K2, L2, J2, R2, rfl, rfl, hx⟩)) (kf_barred h.1.1) (fun v n2 t2 K2 L2 J2 R2 q w => hP _ _ _ _ _ _ _ q (hg_c hT hcp h.2 (cF_in w) pz_0 (Nat.le_add_right _ _)))
theorem rdh_barred {u1 u2 u3 u4 : Int32} (hx : aNx b C c n t K L J R Y (Y)) (hc : 120 * c + 130 ≤ 62000) (g : hcG C (30 * c + 30) J R (Y)) (hP : ∀ v J3, lawH b C (c + 1) n t K L J3 R → P (some (.int v)) (n + 1, t, K, L, J3, R)) : a_does 700 208 [a_rf (C + 44), .int u1, .int u2, .int u3, .int u4] (n + 1, t, K, L, J, R) P := by
  have hc8 : 120 * c + 130 ≤ 84000 := by omega
  have hT := hx.1.1.1
  have hcZ := hx.2.2.2.1.1
  have h6 : Y 0 6 ≤ 6 := hx.2.2.1.1.2.2.2.2.2.1.2
  exact rdh_gen (Q := fun w J3 => lawI b C (c + 1) n t K L J3 R) (B := rPh C n t K L R J) (rd_barred hx hc8 (fun v J3 hI => ⟨v, J3, rfl, rfl, hI⟩)) (rj_barred hx.1.2.1 hx.1.2.2.1 hx.1.2.2.2.1 hc8) (fun v0 J3 hI w => hP _ _ (lawH_n hI (hg_r hT hcZ g (rPh_in w) (pz_cu hT hcZ (fun x j q => rPh_in w x j (by unfold eRh; omega)) hI.2.2.2.2.2.1.1))))
theorem cdh_kin {u1 u2 : Int32} (hb : b < C) (hc : 120 * c + 130 ≤ 62000) (h : lawH b C c n t K L J R) (hP : ∀ v n2 t2 K2 L2 J2 R2, aNx b C c n2 t2 K2 L2 J2 R2 (yv (C + 44) J) (kiY (yv (C + 44) J) u1 u2) → (hcG C (30 * c + 30) J2 R2 (kiY (yv (C + 44) J) u1 u2)) → P (some (.int v)) (n2 + 1, t2, K2, L2, J2, R2)) : a_does 700 89 [a_rf C, .int u1, .int u2] (n + 1, t, K, L, J, R) P := by
  have hT := h.1.1.1
  have hcp := h.1.2.2.2.2.2.1.1
  exact cdh_gen (Q := fun v n2 t2 K2 L2 J2 R2 => aNx b C c n2 t2 K2 L2 J2 R2 (yv (C + 44) J) (kiY (yv (C + 44) J) u1 u2)) (B := cFh C K J R) (cd_kin hb h.1 (fun v n2 t2 K2 L2 J2 R2 hx => ⟨v, n2, t2, K2, L2, J2, R2, rfl, rfl, hx⟩)) (kf_kin h.1.1) (fun v n2 t2 K2 L2 J2 R2 q w => hP _ _ _ _ _ _ _ q (hg_c hT hcp h.2 (cF_in w) pz_kin (Nat.le_add_right _ _)))
theorem rdh_kin {u1 u2 : Int32} (hx : aNx b C c n t K L J R Y (kiY Y u1 u2)) (hc : 120 * c + 130 ≤ 62000) (g : hcG C (30 * c + 30) J R (kiY Y u1 u2)) (hP : ∀ v J3, lawH b C (c + 1) n t K L J3 R → P (some (.int v)) (n + 1, t, K, L, J3, R)) : a_does 700 213 [a_rf (C + 44), .int u1, .int u2] (n + 1, t, K, L, J, R) P := by
  have hc8 : 120 * c + 130 ≤ 84000 := by omega
  have hT := hx.1.1.1
  have hcZ := hx.2.2.2.1.1
  have h6 : Y 0 6 ≤ 6 := hx.2.2.1.1.2.2.2.2.2.1.2
  exact rdh_gen (Q := fun w J3 => lawI b C (c + 1) n t K L J3 R) (B := rPh C n t K L R J) (rd_kin hx hc8 (fun v J3 hI => ⟨v, J3, rfl, rfl, hI⟩)) (rj_kin hx.1.2.1 hx.1.2.2.1 hx.1.2.2.2.1 hc8) (fun v0 J3 hI w => hP _ _ (lawH_n hI (hg_r hT hcZ g (rPh_in w) (pz_cu hT hcZ (fun x j q => rPh_in w x j (by unfold eRh; omega)) hI.2.2.2.2.2.1.1))))
theorem cdh_mark {u1 u2 u3 : Int32} (hb : b < C) (hc : 120 * c + 130 ≤ 62000) (h : lawH b C c n t K L J R) (hP : ∀ n2 t2 K2 L2 J2 R2, aNx b C c n2 t2 K2 L2 J2 R2 (yv (C + 44) J) ((mrY (yv (C + 44) J) u1 u2 u3).2) → (hcG C (30 * c + 30) J2 R2 ((mrY (yv (C + 44) J) u1 u2 u3).2)) → P (some (.int ((mrY (yv (C + 44) J) u1 u2 u3).1))) (n2 + 1, t2, K2, L2, J2, R2)) : a_does 700 92 [a_rf C, .int u1, .int u2, .int u3] (n + 1, t, K, L, J, R) P := by
  have hT := h.1.1.1
  have hcp := h.1.2.2.2.2.2.1.1
  exact cdh_gen (Q := fun v n2 t2 K2 L2 J2 R2 => v = (mrY (yv (C + 44) J) u1 u2 u3).1 ∧ aNx b C c n2 t2 K2 L2 J2 R2 (yv (C + 44) J) ((mrY (yv (C + 44) J) u1 u2 u3).2)) (B := cFh C K J R) (cd_mark hb h.1 (fun n2 t2 K2 L2 J2 R2 hx => ⟨_, n2, t2, K2, L2, J2, R2, rfl, rfl, rfl, hx⟩)) (kf_mark h.1.1) (fun v n2 t2 K2 L2 J2 R2 q w => by
    obtain ⟨rfl, hx⟩ := q
    exact hP _ _ _ _ _ _ hx (hg_c hT hcp h.2 (cF_in w) pz_mark (Nat.le_add_right _ _)))
theorem rdh_mark {u1 u2 u3 : Int32} (hx : aNx b C c n t K L J R Y ((mrY Y u1 u2 u3).2)) (hc : 120 * c + 130 ≤ 62000) (g : hcG C (30 * c + 30) J R ((mrY Y u1 u2 u3).2)) (hP : ∀ J3, lawH b C (c + 1) n t K L J3 R → P (some (.int ((mrY Y u1 u2 u3).1))) (n + 1, t, K, L, J3, R)) : a_does 700 215 [a_rf (C + 44), .int u1, .int u2, .int u3] (n + 1, t, K, L, J, R) P := by
  have hc8 : 120 * c + 130 ≤ 84000 := by omega
  have hT := hx.1.1.1
  have hcZ := hx.2.2.2.1.1
  have h6 : Y 0 6 ≤ 6 := hx.2.2.1.1.2.2.2.2.2.1.2
  exact rdh_gen (Q := fun w J3 => w = (mrY Y u1 u2 u3).1 ∧ lawI b C (c + 1) n t K L J3 R) (B := rPh C n t K L R J) (rd_mark hx hc8 (fun J3 hI => ⟨_, J3, rfl, rfl, rfl, hI⟩)) (rj_mark hx.1.2.1 hx.1.2.2.1 hx.1.2.2.2.1 hc8) (fun v0 J3 q w => by
    obtain ⟨rfl, hI⟩ := q
    exact hP _ (lawH_n hI (hg_r hT hcZ g (rPh_in w) (pz_cu hT hcZ (fun x j q => rPh_in w x j (by unfold eRh; omega)) hI.2.2.2.2.2.1.1))))
theorem cdh_markOf {u1 : Int32} (hb : b < C) (hc : 120 * c + 130 ≤ 62000) (h : lawH b C c n t K L J R) (hP : ∀ n2 t2 K2 L2 J2 R2, aNx b C c n2 t2 K2 L2 J2 R2 (yv (C + 44) J) ((yv (C + 44) J)) → (hcG C (30 * c + 30) J2 R2 ((yv (C + 44) J))) → P (some (.int (mkV (yv (C + 44) J) u1))) (n2 + 1, t2, K2, L2, J2, R2)) : a_does 700 96 [a_rf C, .int u1] (n + 1, t, K, L, J, R) P := by
  have hT := h.1.1.1
  have hcp := h.1.2.2.2.2.2.1.1
  exact cdh_gen (Q := fun v n2 t2 K2 L2 J2 R2 => v = mkV (yv (C + 44) J) u1 ∧ aNx b C c n2 t2 K2 L2 J2 R2 (yv (C + 44) J) ((yv (C + 44) J))) (B := cFh C K J R) (cd_markOf hb h.1 (fun n2 t2 K2 L2 J2 R2 hx => ⟨_, n2, t2, K2, L2, J2, R2, rfl, rfl, rfl, hx⟩)) (kf_markOf h.1.1) (fun v n2 t2 K2 L2 J2 R2 q w => by
    obtain ⟨rfl, hx⟩ := q
    exact hP _ _ _ _ _ _ hx (hg_c hT hcp h.2 (cF_in w) pz_0 (Nat.le_add_right _ _)))
theorem rdh_markOf {u1 : Int32} (hx : aNx b C c n t K L J R Y (Y)) (hc : 120 * c + 130 ≤ 62000) (g : hcG C (30 * c + 30) J R (Y)) (hP : ∀ J3, lawH b C (c + 1) n t K L J3 R → P (some (.int (mkV Y u1))) (n + 1, t, K, L, J3, R)) : a_does 700 216 [a_rf (C + 44), .int u1] (n + 1, t, K, L, J, R) P := by
  have hc8 : 120 * c + 130 ≤ 84000 := by omega
  have hT := hx.1.1.1
  have hcZ := hx.2.2.2.1.1
  have h6 : Y 0 6 ≤ 6 := hx.2.2.1.1.2.2.2.2.2.1.2
  exact rdh_gen (Q := fun w J3 => w = mkV Y u1 ∧ lawI b C (c + 1) n t K L J3 R) (B := rPh C n t K L R J) (rd_markOf hx hc8 (fun J3 hI => ⟨_, J3, rfl, rfl, rfl, hI⟩)) (rj_markOf hx.1.2.1 hx.1.2.2.1 hx.1.2.2.2.1 hc8) (fun v0 J3 q w => by
    obtain ⟨rfl, hI⟩ := q
    exact hP _ (lawH_n hI (hg_r hT hcZ g (rPh_in w) (pz_cu hT hcZ (fun x j q => rPh_in w x j (by unfold eRh; omega)) hI.2.2.2.2.2.1.1))))
theorem cdh_habit {u1 u2 : Int32} (hb : b < C) (hc : 120 * c + 130 ≤ 62000) (h : lawH b C c n t K L J R) (hP : ∀ v n2 t2 K2 L2 J2 R2, aNx b C c n2 t2 K2 L2 J2 R2 (yv (C + 44) J) ((yv (C + 44) J)) → (hcG C (30 * c + 30) J2 R2 ((yv (C + 44) J))) → P (some (.int v)) (n2 + 1, t2, K2, L2, J2, R2)) : a_does 700 97 [a_rf C, .int u1, .int u2] (n + 1, t, K, L, J, R) P := by
  have hT := h.1.1.1
  have hcp := h.1.2.2.2.2.2.1.1
  exact cdh_gen (Q := fun v n2 t2 K2 L2 J2 R2 => aNx b C c n2 t2 K2 L2 J2 R2 (yv (C + 44) J) ((yv (C + 44) J))) (B := cFh C K J R) (cd_habit hb h.1 (fun v n2 t2 K2 L2 J2 R2 hx => ⟨v, n2, t2, K2, L2, J2, R2, rfl, rfl, hx⟩)) (kf_habit h.1.1) (fun v n2 t2 K2 L2 J2 R2 q w => hP _ _ _ _ _ _ _ q (hg_c hT hcp h.2 (cF_in w) pz_0 (Nat.le_add_right _ _)))
theorem rdh_habit {u1 u2 : Int32} (hx : aNx b C c n t K L J R Y (Y)) (hc : 120 * c + 130 ≤ 62000) (g : hcG C (30 * c + 30) J R (Y)) (hP : ∀ v J3, lawH b C (c + 1) n t K L J3 R → P (some (.int v)) (n + 1, t, K, L, J3, R)) : a_does 700 217 [a_rf (C + 44), .int u1, .int u2] (n + 1, t, K, L, J, R) P := by
  have hc8 : 120 * c + 130 ≤ 84000 := by omega
  have hT := hx.1.1.1
  have hcZ := hx.2.2.2.1.1
  have h6 : Y 0 6 ≤ 6 := hx.2.2.1.1.2.2.2.2.2.1.2
  exact rdh_gen (Q := fun w J3 => lawI b C (c + 1) n t K L J3 R) (B := rPh C n t K L R J) (rd_habit hx hc8 (fun v J3 hI => ⟨v, J3, rfl, rfl, hI⟩)) (rj_habit hx.1.2.1 hx.1.2.2.1 hx.1.2.2.2.1 hc8) (fun v0 J3 hI w => hP _ _ (lawH_n hI (hg_r hT hcZ g (rPh_in w) (pz_cu hT hcZ (fun x j q => rPh_in w x j (by unfold eRh; omega)) hI.2.2.2.2.2.1.1))))
theorem cdh_fit {u1 u2 u3 : Int32} (hb : b < C) (hc : 120 * c + 130 ≤ 62000) (h : lawH b C c n t K L J R) (hP : ∀ n2 t2 K2 L2 J2 R2, aNx b C c n2 t2 K2 L2 J2 R2 (yv (C + 44) J) ((yv (C + 44) J)) → (hcG C (30 * c + 30) J2 R2 ((yv (C + 44) J))) → P (some (.int (ftV (yv (C + 44) J) u1 u2 u3))) (n2 + 1, t2, K2, L2, J2, R2)) : a_does 700 99 [a_rf C, .int u1, .int u2, .int u3] (n + 1, t, K, L, J, R) P := by
  have hT := h.1.1.1
  have hcp := h.1.2.2.2.2.2.1.1
  exact cdh_gen (Q := fun v n2 t2 K2 L2 J2 R2 => v = ftV (yv (C + 44) J) u1 u2 u3 ∧ aNx b C c n2 t2 K2 L2 J2 R2 (yv (C + 44) J) ((yv (C + 44) J))) (B := cFh C K J R) (cd_fit hb h.1 (fun n2 t2 K2 L2 J2 R2 hx => ⟨_, n2, t2, K2, L2, J2, R2, rfl, rfl, rfl, hx⟩)) (kf_fit h.1.1) (fun v n2 t2 K2 L2 J2 R2 q w => by
    obtain ⟨rfl, hx⟩ := q
    exact hP _ _ _ _ _ _ hx (hg_c hT hcp h.2 (cF_in w) pz_0 (Nat.le_add_right _ _)))
theorem rdh_fit {u1 u2 u3 : Int32} (hx : aNx b C c n t K L J R Y (Y)) (hc : 120 * c + 130 ≤ 62000) (g : hcG C (30 * c + 30) J R (Y)) (hP : ∀ J3, lawH b C (c + 1) n t K L J3 R → P (some (.int (ftV Y u1 u2 u3))) (n + 1, t, K, L, J3, R)) : a_does 700 220 [a_rf (C + 44), .int u1, .int u2, .int u3] (n + 1, t, K, L, J, R) P := by
  have hc8 : 120 * c + 130 ≤ 84000 := by omega
  have hT := hx.1.1.1
  have hcZ := hx.2.2.2.1.1
  have h6 : Y 0 6 ≤ 6 := hx.2.2.1.1.2.2.2.2.2.1.2
  exact rdh_gen (Q := fun w J3 => w = ftV Y u1 u2 u3 ∧ lawI b C (c + 1) n t K L J3 R) (B := rPh C n t K L R J) (rd_fit hx hc8 (fun J3 hI => ⟨_, J3, rfl, rfl, rfl, hI⟩)) (rj_fit hx.1.2.1 hx.1.2.2.1 hx.1.2.2.2.1 hc8) (fun v0 J3 q w => by
    obtain ⟨rfl, hI⟩ := q
    exact hP _ (lawH_n hI (hg_r hT hcZ g (rPh_in w) (pz_cu hT hcZ (fun x j q => rPh_in w x j (by unfold eRh; omega)) hI.2.2.2.2.2.1.1))))
theorem kc_give {u1 u2 u3 : Int32} (hc : 120 * c + 130 ≤ 62000) (h : lawH b C c n t K L J R) : a_does 700 112 [a_rf C, .int u1, .int u2, .int u3] (n + 1, t, K, L, J, R) (fun _ h' => kcX C J R (yv (C + 44) J) (30 * c) ((yv (C + 44) J)) ((gvY (yv (C + 44) J) u1 u2 u3).2) h') := by
  exact does_mono (does_and (gk_give (P := fun _ h' => ∃ n2 t2 K2 L2 J2 R2, h' = (n2 + 1, t2, K2, L2, J2, R2) ∧ hxK C J R (yv (C + 44) J) (30 * c) J2 R2 ((yv (C + 44) J)) ((gvY (yv (C + 44) J) u1 u2 u3).2)) h.1.1 h.1.2.2.2.2.2.1 h.2.2.2.1 (by omega) (fun n2 t2 K2 L2 J2 R2 _ _ x => ⟨n2, t2, K2, L2, J2, R2, rfl, x⟩)) (cu_give (P := fun _ h' => cB C n K L J R none h') h.1.1 (fun _ _ _ _ _ _ _ z => cb_Z z))) (fun r h' q => by
    obtain ⟨⟨n2, t2, K2, L2, J2, R2, e, x⟩, q3⟩ := q
    rw [e] at q3 ⊢
    exact kcX_of x q3)
theorem cdh_give {u1 u2 u3 : Int32} (hb : b < C) (hc : 120 * c + 130 ≤ 62000) (h : lawH b C c n t K L J R) (hP : ∀ n2 t2 K2 L2 J2 R2, aNx b C c n2 t2 K2 L2 J2 R2 (yv (C + 44) J) ((gvY (yv (C + 44) J) u1 u2 u3).2) → (hcR C (30 * c + 30) J2 R2 (yv (C + 44) J) ((yv (C + 44) J)) ((gvY (yv (C + 44) J) u1 u2 u3).2)) → P (some (.int ((gvY (yv (C + 44) J) u1 u2 u3).1))) (n2 + 1, t2, K2, L2, J2, R2)) : a_does 700 112 [a_rf C, .int u1, .int u2, .int u3] (n + 1, t, K, L, J, R) P := by
  have hT := h.1.1.1
  have hcp := h.1.2.2.2.2.2.1.1
  exact cdh_gen (Q := fun v n2 t2 K2 L2 J2 R2 => v = (gvY (yv (C + 44) J) u1 u2 u3).1 ∧ aNx b C c n2 t2 K2 L2 J2 R2 (yv (C + 44) J) ((gvY (yv (C + 44) J) u1 u2 u3).2)) (B := (kcX C J R (yv (C + 44) J) (30 * c) ((yv (C + 44) J)) ((gvY (yv (C + 44) J) u1 u2 u3).2))) (cd_give hb h.1 (fun n2 t2 K2 L2 J2 R2 hx => ⟨_, n2, t2, K2, L2, J2, R2, rfl, rfl, rfl, hx⟩)) (kc_give hc h) (fun v n2 t2 K2 L2 J2 R2 q w => by
    obtain ⟨rfl, hx⟩ := q
    exact hP _ _ _ _ _ _ hx (hr_c hcp h.2 (law_now h.1) (law_pl h.1) (kcX_in w).1 (kcX_in w).2))
theorem rdh_give {u1 u2 u3 : Int32} (hx : aNx b C c n t K L J R Y ((gvY Y u1 u2 u3).2)) (hc : 120 * c + 130 ≤ 62000) (g : hcR C (30 * c + 30) J R Y (Y) ((gvY Y u1 u2 u3).2)) (hP : ∀ J3, lawH b C (c + 1) n t K L J3 R → P (some (.int ((gvY Y u1 u2 u3).1))) (n + 1, t, K, L, J3, R)) : a_does 700 229 [a_rf (C + 44), .int u1, .int u2, .int u3] (n + 1, t, K, L, J, R) P := by
  have hc8 : 120 * c + 130 ≤ 84000 := by omega
  have hT := hx.1.1.1
  have hcZ := hx.2.2.2.1.1
  have h6 : Y 0 6 ≤ 6 := hx.2.2.1.1.2.2.2.2.2.1.2
  exact rdh_gen (Q := fun w J3 => w = (gvY Y u1 u2 u3).1 ∧ lawI b C (c + 1) n t K L J3 R) (B := xqX C n t K L R J Y (Y) ((gvY Y u1 u2 u3).2)) (rd_give hx hc8 (fun J3 hI => ⟨_, J3, rfl, rfl, rfl, hI⟩)) (xp_give9 (P := fun _ h' => xqX C n t K L R J Y (Y) ((gvY Y u1 u2 u3).2) h') hx.1.2.1 hx.2.2.1 hc8 ⟨mG_refl hx.1.2.2.1, hx.1.2.2.2.1⟩ hx.2.1 g.1 g.2.1 (fun J4 _ gs x => ⟨J4, rfl, x, gs.2.1⟩)) (fun v0 J3 q w => by
    obtain ⟨rfl, hI⟩ := q
    exact hP _ (lawH_n hI (hr_r hT hcZ h6 g (xqX_in w).1 (xqX_in w).2 (pz_cu hT hcZ (xqX_in w).2 hI.2.2.2.2.2.1.1))))
theorem kc_take {u1 : Int32} (hc : 120 * c + 130 ≤ 62000) (h : lawH b C c n t K L J R) : a_does 700 116 [a_rf C, .int u1] (n + 1, t, K, L, J, R) (fun _ h' => kcX C J R (yv (C + 44) J) (30 * c) ((tkY (yv (C + 44) J) u1).2) ((tkY (yv (C + 44) J) u1).2) h') := by
  exact does_mono (does_and (gk_take (P := fun _ h' => ∃ n2 t2 K2 L2 J2 R2, h' = (n2 + 1, t2, K2, L2, J2, R2) ∧ hxK C J R (yv (C + 44) J) (30 * c) J2 R2 ((tkY (yv (C + 44) J) u1).2) ((tkY (yv (C + 44) J) u1).2)) h.1.1 h.1.2.2.2.2.2.1 h.2.2.2.1 (by omega) (fun n2 t2 K2 L2 J2 R2 _ _ x => ⟨n2, t2, K2, L2, J2, R2, rfl, x⟩)) (cu_take (P := fun _ h' => cB C n K L J R none h') h.1.1 (fun _ _ _ _ _ _ _ z => cb_Z z))) (fun r h' q => by
    obtain ⟨⟨n2, t2, K2, L2, J2, R2, e, x⟩, q3⟩ := q
    rw [e] at q3 ⊢
    exact kcX_of x q3)
theorem cdh_take {u1 : Int32} (hb : b < C) (hc : 120 * c + 130 ≤ 62000) (h : lawH b C c n t K L J R) (hP : ∀ n2 t2 K2 L2 J2 R2, aNx b C c n2 t2 K2 L2 J2 R2 (yv (C + 44) J) ((tkY (yv (C + 44) J) u1).2) → (hcR C (30 * c + 30) J2 R2 (yv (C + 44) J) ((tkY (yv (C + 44) J) u1).2) ((tkY (yv (C + 44) J) u1).2)) → P (some (.int ((tkY (yv (C + 44) J) u1).1))) (n2 + 1, t2, K2, L2, J2, R2)) : a_does 700 116 [a_rf C, .int u1] (n + 1, t, K, L, J, R) P := by
  have hT := h.1.1.1
  have hcp := h.1.2.2.2.2.2.1.1
  exact cdh_gen (Q := fun v n2 t2 K2 L2 J2 R2 => v = (tkY (yv (C + 44) J) u1).1 ∧ aNx b C c n2 t2 K2 L2 J2 R2 (yv (C + 44) J) ((tkY (yv (C + 44) J) u1).2)) (B := (kcX C J R (yv (C + 44) J) (30 * c) ((tkY (yv (C + 44) J) u1).2) ((tkY (yv (C + 44) J) u1).2))) (cd_take hb h.1 (fun n2 t2 K2 L2 J2 R2 hx => ⟨_, n2, t2, K2, L2, J2, R2, rfl, rfl, rfl, hx⟩)) (kc_take hc h) (fun v n2 t2 K2 L2 J2 R2 q w => by
    obtain ⟨rfl, hx⟩ := q
    exact hP _ _ _ _ _ _ hx (hr_c hcp h.2 (law_now h.1) (law_pl h.1) (kcX_in w).1 (kcX_in w).2))
theorem rdh_take {u1 : Int32} (hx : aNx b C c n t K L J R Y ((tkY Y u1).2)) (hc : 120 * c + 130 ≤ 62000) (g : hcR C (30 * c + 30) J R Y ((tkY Y u1).2) ((tkY Y u1).2)) (hP : ∀ J3, lawH b C (c + 1) n t K L J3 R → P (some (.int ((tkY Y u1).1))) (n + 1, t, K, L, J3, R)) : a_does 700 233 [a_rf (C + 44), .int u1] (n + 1, t, K, L, J, R) P := by
  have hc8 : 120 * c + 130 ≤ 84000 := by omega
  have hT := hx.1.1.1
  have hcZ := hx.2.2.2.1.1
  have h6 : Y 0 6 ≤ 6 := hx.2.2.1.1.2.2.2.2.2.1.2
  exact rdh_gen (Q := fun w J3 => w = (tkY Y u1).1 ∧ lawI b C (c + 1) n t K L J3 R) (B := xqX C n t K L R J Y ((tkY Y u1).2) ((tkY Y u1).2)) (rd_take hx hc8 (fun J3 hI => ⟨_, J3, rfl, rfl, rfl, hI⟩)) (xp_take9 (P := fun _ h' => xqX C n t K L R J Y ((tkY Y u1).2) ((tkY Y u1).2) h') hx.1.2.1 hx.2.2.1 hc8 ⟨mG_refl hx.1.2.2.1, hx.1.2.2.2.1⟩ hx.2.1 g.1 g.2.1 (fun J4 _ gs x => ⟨J4, rfl, x, gs.2.1⟩)) (fun v0 J3 q w => by
    obtain ⟨rfl, hI⟩ := q
    exact hP _ (lawH_n hI (hr_r hT hcZ h6 g (xqX_in w).1 (xqX_in w).2 (pz_cu hT hcZ (xqX_in w).2 hI.2.2.2.2.2.1.1))))
theorem kc_plan {u1 u2 : Int32} (hc : 120 * c + 130 ≤ 62000) (h : lawH b C c n t K L J R) : a_does 700 118 [a_rf C, .int u1, .int u2] (n + 1, t, K, L, J, R) (fun _ h' => kcX C J R (yv (C + 44) J) (30 * c) ((yv (C + 44) J)) ((plO (yv (C + 44) J) u1 u2).2) h') := by
  exact does_mono (does_and (gk_plan (P := fun _ h' => ∃ n2 t2 K2 L2 J2 R2, h' = (n2 + 1, t2, K2, L2, J2, R2) ∧ hxK C J R (yv (C + 44) J) (30 * c) J2 R2 ((yv (C + 44) J)) ((plO (yv (C + 44) J) u1 u2).2)) h.1.1 h.1.2.2.2.2.2.1 h.2.2.2.1 (by omega) (fun n2 t2 K2 L2 J2 R2 _ _ x => ⟨n2, t2, K2, L2, J2, R2, rfl, x⟩)) (cu_plan (P := fun _ h' => cB C n K L J R none h') h.1.1 (fun _ _ _ _ _ _ _ z => cb_Z z))) (fun r h' q => by
    obtain ⟨⟨n2, t2, K2, L2, J2, R2, e, x⟩, q3⟩ := q
    rw [e] at q3 ⊢
    exact kcX_of x q3)
theorem cdh_plan {u1 u2 : Int32} (hb : b < C) (hc : 120 * c + 130 ≤ 62000) (h : lawH b C c n t K L J R) (hP : ∀ n2 t2 K2 L2 J2 R2, aNx b C c n2 t2 K2 L2 J2 R2 (yv (C + 44) J) ((plO (yv (C + 44) J) u1 u2).2) → (hcR C (30 * c + 30) J2 R2 (yv (C + 44) J) ((yv (C + 44) J)) ((plO (yv (C + 44) J) u1 u2).2)) → P (some (.int ((plO (yv (C + 44) J) u1 u2).1))) (n2 + 1, t2, K2, L2, J2, R2)) : a_does 700 118 [a_rf C, .int u1, .int u2] (n + 1, t, K, L, J, R) P := by
  have hT := h.1.1.1
  have hcp := h.1.2.2.2.2.2.1.1
  exact cdh_gen (Q := fun v n2 t2 K2 L2 J2 R2 => v = (plO (yv (C + 44) J) u1 u2).1 ∧ aNx b C c n2 t2 K2 L2 J2 R2 (yv (C + 44) J) ((plO (yv (C + 44) J) u1 u2).2)) (B := (kcX C J R (yv (C + 44) J) (30 * c) ((yv (C + 44) J)) ((plO (yv (C + 44) J) u1 u2).2))) (cd_plan hb h.1 (fun n2 t2 K2 L2 J2 R2 hx => ⟨_, n2, t2, K2, L2, J2, R2, rfl, rfl, rfl, hx⟩)) (kc_plan hc h) (fun v n2 t2 K2 L2 J2 R2 q w => by
    obtain ⟨rfl, hx⟩ := q
    exact hP _ _ _ _ _ _ hx (hr_c hcp h.2 (law_now h.1) (law_pl h.1) (kcX_in w).1 (kcX_in w).2))
theorem rdh_plan {u1 u2 : Int32} (hx : aNx b C c n t K L J R Y ((plO Y u1 u2).2)) (hc : 120 * c + 130 ≤ 62000) (g : hcR C (30 * c + 30) J R Y (Y) ((plO Y u1 u2).2)) (hP : ∀ J3, lawH b C (c + 1) n t K L J3 R → P (some (.int ((plO Y u1 u2).1))) (n + 1, t, K, L, J3, R)) : a_does 700 234 [a_rf (C + 44), .int u1, .int u2] (n + 1, t, K, L, J, R) P := by
  have hc8 : 120 * c + 130 ≤ 84000 := by omega
  have hT := hx.1.1.1
  have hcZ := hx.2.2.2.1.1
  have h6 : Y 0 6 ≤ 6 := hx.2.2.1.1.2.2.2.2.2.1.2
  exact rdh_gen (Q := fun w J3 => w = (plO Y u1 u2).1 ∧ lawI b C (c + 1) n t K L J3 R) (B := xqX C n t K L R J Y (Y) ((plO Y u1 u2).2)) (rd_plan hx hc8 (fun J3 hI => ⟨_, J3, rfl, rfl, rfl, hI⟩)) (xp_plan9 (P := fun _ h' => xqX C n t K L R J Y (Y) ((plO Y u1 u2).2) h') hx.1.2.1 hx.2.2.1 hc8 ⟨mG_refl hx.1.2.2.1, hx.1.2.2.2.1⟩ hx.2.1 g.1 g.2.1 (fun J4 _ gs x => ⟨J4, rfl, x, gs.2.1⟩)) (fun v0 J3 q w => by
    obtain ⟨rfl, hI⟩ := q
    exact hP _ (lawH_n hI (hr_r hT hcZ h6 g (xqX_in w).1 (xqX_in w).2 (pz_cu hT hcZ (xqX_in w).2 hI.2.2.2.2.2.1.1))))
theorem cdh_passed {u1 : Int32} (hb : b < C) (hc : 120 * c + 130 ≤ 62000) (h : lawH b C c n t K L J R) (hP : ∀ v n2 t2 K2 L2 J2 R2, aNx b C c n2 t2 K2 L2 J2 R2 (yv (C + 44) J) ((yv (C + 44) J)) → (hcG C (30 * c + 30) J2 R2 ((yv (C + 44) J))) → P (some (.int v)) (n2 + 1, t2, K2, L2, J2, R2)) : a_does 700 125 [a_rf C, .int u1] (n + 1, t, K, L, J, R) P := by
  have hT := h.1.1.1
  have hcp := h.1.2.2.2.2.2.1.1
  exact cdh_gen (Q := fun v n2 t2 K2 L2 J2 R2 => aNx b C c n2 t2 K2 L2 J2 R2 (yv (C + 44) J) ((yv (C + 44) J))) (B := cFh C K J R) (cd_passed hb h.1 (fun v n2 t2 K2 L2 J2 R2 hx => ⟨v, n2, t2, K2, L2, J2, R2, rfl, rfl, hx⟩)) (kf_passed h.1.1) (fun v n2 t2 K2 L2 J2 R2 q w => hP _ _ _ _ _ _ _ q (hg_c hT hcp h.2 (cF_in w) pz_0 (Nat.le_add_right _ _)))
theorem rdh_passed {u1 : Int32} (hx : aNx b C c n t K L J R Y (Y)) (hc : 120 * c + 130 ≤ 62000) (g : hcG C (30 * c + 30) J R (Y)) (hP : ∀ v J3, lawH b C (c + 1) n t K L J3 R → P (some (.int v)) (n + 1, t, K, L, J3, R)) : a_does 700 240 [a_rf (C + 44), .int u1] (n + 1, t, K, L, J, R) P := by
  have hc8 : 120 * c + 130 ≤ 84000 := by omega
  have hT := hx.1.1.1
  have hcZ := hx.2.2.2.1.1
  have h6 : Y 0 6 ≤ 6 := hx.2.2.1.1.2.2.2.2.2.1.2
  exact rdh_gen (Q := fun w J3 => lawI b C (c + 1) n t K L J3 R) (B := rPh C n t K L R J) (rd_passed hx hc8 (fun v J3 hI => ⟨v, J3, rfl, rfl, hI⟩)) (rj_passed hx.1.2.1 hx.1.2.2.1 hx.1.2.2.2.1 hc8) (fun v0 J3 hI w => hP _ _ (lawH_n hI (hg_r hT hcZ g (rPh_in w) (pz_cu hT hcZ (fun x j q => rPh_in w x j (by unfold eRh; omega)) hI.2.2.2.2.2.1.1))))
theorem cdh_why {u1 u2 u3 u4 u5 : Int32} (hb : b < C) (hc : 120 * c + 130 ≤ 62000) (h : lawH b C c n t K L J R) (hP : ∀ n2 t2 K2 L2 J2 R2, aNx b C c n2 t2 K2 L2 J2 R2 (yv (C + 44) J) ((yv (C + 44) J)) → (hcG C (30 * c + 30) J2 R2 ((yv (C + 44) J))) → P (some (.int (whV (yv (C + 44) J) u1 u2 u3 u4 u5))) (n2 + 1, t2, K2, L2, J2, R2)) : a_does 700 127 [a_rf C, .int u1, .int u2, .int u3, .int u4, .int u5] (n + 1, t, K, L, J, R) P := by
  have hT := h.1.1.1
  have hcp := h.1.2.2.2.2.2.1.1
  exact cdh_gen (Q := fun v n2 t2 K2 L2 J2 R2 => v = whV (yv (C + 44) J) u1 u2 u3 u4 u5 ∧ aNx b C c n2 t2 K2 L2 J2 R2 (yv (C + 44) J) ((yv (C + 44) J))) (B := cFh C K J R) (cd_why hb h.1 (fun n2 t2 K2 L2 J2 R2 hx => ⟨_, n2, t2, K2, L2, J2, R2, rfl, rfl, rfl, hx⟩)) (kf_why h.1.1) (fun v n2 t2 K2 L2 J2 R2 q w => by
    obtain ⟨rfl, hx⟩ := q
    exact hP _ _ _ _ _ _ hx (hg_c hT hcp h.2 (cF_in w) pz_0 (Nat.le_add_right _ _)))
theorem rdh_why {u1 u2 u3 u4 u5 : Int32} (hx : aNx b C c n t K L J R Y (Y)) (hc : 120 * c + 130 ≤ 62000) (g : hcG C (30 * c + 30) J R (Y)) (hP : ∀ J3, lawH b C (c + 1) n t K L J3 R → P (some (.int (whV Y u1 u2 u3 u4 u5))) (n + 1, t, K, L, J3, R)) : a_does 700 241 [a_rf (C + 44), .int u1, .int u2, .int u3, .int u4, .int u5] (n + 1, t, K, L, J, R) P := by
  have hc8 : 120 * c + 130 ≤ 84000 := by omega
  have hT := hx.1.1.1
  have hcZ := hx.2.2.2.1.1
  have h6 : Y 0 6 ≤ 6 := hx.2.2.1.1.2.2.2.2.2.1.2
  exact rdh_gen (Q := fun w J3 => w = whV Y u1 u2 u3 u4 u5 ∧ lawI b C (c + 1) n t K L J3 R) (B := rPh C n t K L R J) (rd_why hx hc8 (fun J3 hI => ⟨_, J3, rfl, rfl, rfl, hI⟩)) (rj_why hx.1.2.1 hx.1.2.2.1 hx.1.2.2.2.1 hc8) (fun v0 J3 q w => by
    obtain ⟨rfl, hI⟩ := q
    exact hP _ (lawH_n hI (hg_r hT hcZ g (rPh_in w) (pz_cu hT hcZ (fun x j q => rPh_in w x j (by unfold eRh; omega)) hI.2.2.2.2.2.1.1))))
theorem cdh_best {u1 u2 u3 u4 : Int32} (hb : b < C) (hc : 120 * c + 130 ≤ 62000) (h : lawH b C c n t K L J R) (hP : ∀ v n2 t2 K2 L2 J2 R2, aNx b C c n2 t2 K2 L2 J2 R2 (yv (C + 44) J) ((yv (C + 44) J)) → (hcG C (30 * c + 30) J2 R2 ((yv (C + 44) J))) → P (some (.int v)) (n2 + 1, t2, K2, L2, J2, R2)) : a_does 700 128 [a_rf C, .int u1, .int u2, .int u3, .int u4] (n + 1, t, K, L, J, R) P := by
  have hT := h.1.1.1
  have hcp := h.1.2.2.2.2.2.1.1
  exact cdh_gen (Q := fun v n2 t2 K2 L2 J2 R2 => aNx b C c n2 t2 K2 L2 J2 R2 (yv (C + 44) J) ((yv (C + 44) J))) (B := cFh C K J R) (cd_best hb h.1 (fun v n2 t2 K2 L2 J2 R2 hx => ⟨v, n2, t2, K2, L2, J2, R2, rfl, rfl, hx⟩)) (kf_best h.1.1 h.1.2.2.2.2.2.1) (fun v n2 t2 K2 L2 J2 R2 q w => hP _ _ _ _ _ _ _ q (hg_c hT hcp h.2 (cF_in w) pz_0 (Nat.le_add_right _ _)))
theorem rdh_best {u1 u2 u3 u4 : Int32} (hx : aNx b C c n t K L J R Y (Y)) (hc : 120 * c + 130 ≤ 62000) (g : hcG C (30 * c + 30) J R (Y)) (hP : ∀ v J3, lawH b C (c + 1) n t K L J3 R → P (some (.int v)) (n + 1, t, K, L, J3, R)) : a_does 700 242 [a_rf (C + 44), .int u1, .int u2, .int u3, .int u4] (n + 1, t, K, L, J, R) P := by
  have hc8 : 120 * c + 130 ≤ 84000 := by omega
  have hT := hx.1.1.1
  have hcZ := hx.2.2.2.1.1
  have h6 : Y 0 6 ≤ 6 := hx.2.2.1.1.2.2.2.2.2.1.2
  exact rdh_gen (Q := fun w J3 => lawI b C (c + 1) n t K L J3 R) (B := rPh C n t K L R J) (rd_best hx hc8 (fun v J3 hI => ⟨v, J3, rfl, rfl, hI⟩)) (rj_best hx.1.2.1 hx.1.2.2.1 hx.1.2.2.2.1 hc8) (fun v0 J3 hI w => hP _ _ (lawH_n hI (hg_r hT hcZ g (rPh_in w) (pz_cu hT hcZ (fun x j q => rPh_in w x j (by unfold eRh; omega)) hI.2.2.2.2.2.1.1))))
theorem cdh_hosts {u1 u2 : Int32} (hb : b < C) (hc : 120 * c + 130 ≤ 62000) (h : lawH b C c n t K L J R) (hP : ∀ v n2 t2 K2 L2 J2 R2, aNx b C c n2 t2 K2 L2 J2 R2 (yv (C + 44) J) ((yv (C + 44) J)) → (hcG C (30 * c + 30) J2 R2 ((yv (C + 44) J))) → P (some (.int v)) (n2 + 1, t2, K2, L2, J2, R2)) : a_does 700 140 [a_rf C, .int u1, .int u2] (n + 1, t, K, L, J, R) P := by
  have hT := h.1.1.1
  have hcp := h.1.2.2.2.2.2.1.1
  exact cdh_gen (Q := fun v n2 t2 K2 L2 J2 R2 => aNx b C c n2 t2 K2 L2 J2 R2 (yv (C + 44) J) ((yv (C + 44) J))) (B := cFh C K J R) (cd_hosts hb h.1 (fun v n2 t2 K2 L2 J2 R2 hx => ⟨v, n2, t2, K2, L2, J2, R2, rfl, rfl, hx⟩)) (kf_hosts h.1.1) (fun v n2 t2 K2 L2 J2 R2 q w => hP _ _ _ _ _ _ _ q (hg_c hT hcp h.2 (cF_in w) pz_0 (Nat.le_add_right _ _)))
theorem rdh_hosts {u1 u2 : Int32} (hx : aNx b C c n t K L J R Y (Y)) (hc : 120 * c + 130 ≤ 62000) (g : hcG C (30 * c + 30) J R (Y)) (hP : ∀ v J3, lawH b C (c + 1) n t K L J3 R → P (some (.int v)) (n + 1, t, K, L, J3, R)) : a_does 700 245 [a_rf (C + 44), .int u1, .int u2] (n + 1, t, K, L, J, R) P := by
  have hc8 : 120 * c + 130 ≤ 84000 := by omega
  have hT := hx.1.1.1
  have hcZ := hx.2.2.2.1.1
  have h6 : Y 0 6 ≤ 6 := hx.2.2.1.1.2.2.2.2.2.1.2
  exact rdh_gen (Q := fun w J3 => lawI b C (c + 1) n t K L J3 R) (B := rPh C n t K L R J) (rd_hosts hx hc8 (fun v J3 hI => ⟨v, J3, rfl, rfl, hI⟩)) (rj_hosts hx.1.2.1 hx.1.2.2.1 hx.1.2.2.2.1 hc8) (fun v0 J3 hI w => hP _ _ (lawH_n hI (hg_r hT hcZ g (rPh_in w) (pz_cu hT hcZ (fun x j q => rPh_in w x j (by unfold eRh; omega)) hI.2.2.2.2.2.1.1))))
theorem cdh_owe {u1 : Int32} (hb : b < C) (hc : 120 * c + 130 ≤ 62000) (h : lawH b C c n t K L J R) (hP : ∀ n2 t2 K2 L2 J2 R2, aNx b C c n2 t2 K2 L2 J2 R2 (yv (C + 44) J) ((oeY (yv (C + 44) J) u1).2) → (0 ≤ u1 ∧ u1 < (yv (C + 44) J) 0 17 → 0 ≤ ohY (yv (C + 44) J) u1 ∧ ohY (yv (C + 44) J) u1 ≤ 4) → (hcG C (30 * c + 30) J2 R2 ((oeY (yv (C + 44) J) u1).2)) → P (some (.int ((oeY (yv (C + 44) J) u1).1))) (n2 + 1, t2, K2, L2, J2, R2)) : a_does 700 141 [a_rf C, .int u1] (n + 1, t, K, L, J, R) P := by
  have hT := h.1.1.1
  have hcp := h.1.2.2.2.2.2.1.1
  exact cdh_gen (Q := fun v n2 t2 K2 L2 J2 R2 => v = (oeY (yv (C + 44) J) u1).1 ∧ aNx b C c n2 t2 K2 L2 J2 R2 (yv (C + 44) J) ((oeY (yv (C + 44) J) u1).2) ∧ (0 ≤ u1 ∧ u1 < (yv (C + 44) J) 0 17 → 0 ≤ ohY (yv (C + 44) J) u1 ∧ ohY (yv (C + 44) J) u1 ≤ 4)) (B := cFh C K J R) (cd_owe hb h.1 (fun n2 t2 K2 L2 J2 R2 hx hbd => ⟨_, n2, t2, K2, L2, J2, R2, rfl, rfl, rfl, hx, hbd⟩)) (kf_owe h.1.1) (fun v n2 t2 K2 L2 J2 R2 q w => by
    obtain ⟨rfl, hx, hbd⟩ := q
    exact hP _ _ _ _ _ _ hx hbd (hg_c hT hcp h.2 (cF_in w) (pz_owe (law_17 h.1)) (Nat.le_add_right _ _)))
theorem rdh_owe {u1 : Int32} (hx : aNx b C c n t K L J R Y ((oeY Y u1).2)) (hc : 120 * c + 130 ≤ 62000) (hbd : 0 ≤ u1 ∧ u1 < Y 0 17 → 0 ≤ ohY Y u1 ∧ ohY Y u1 ≤ 4) (g : hcG C (30 * c + 30) J R ((oeY Y u1).2)) (hP : ∀ J3, lawH b C (c + 1) n t K L J3 R → P (some (.int ((oeY Y u1).1))) (n + 1, t, K, L, J3, R)) : a_does 700 246 [a_rf (C + 44), .int u1] (n + 1, t, K, L, J, R) P := by
  have hc8 : 120 * c + 130 ≤ 84000 := by omega
  have hT := hx.1.1.1
  have hcZ := hx.2.2.2.1.1
  have h6 : Y 0 6 ≤ 6 := hx.2.2.1.1.2.2.2.2.2.1.2
  exact rdh_gen (Q := fun w J3 => w = (oeY Y u1).1 ∧ lawI b C (c + 1) n t K L J3 R) (B := rPh C n t K L R J) (rd_owe hx hc8 hbd (fun J3 hI => ⟨_, J3, rfl, rfl, rfl, hI⟩)) (rj_owe hx.1.2.1 hx.1.2.2.1 hx.1.2.2.2.1 hc8) (fun v0 J3 q w => by
    obtain ⟨rfl, hI⟩ := q
    exact hP _ (lawH_n hI (hg_r hT hcZ g (rPh_in w) (pz_cu hT hcZ (fun x j q => rPh_in w x j (by unfold eRh; omega)) hI.2.2.2.2.2.1.1))))
theorem kc_again  (hc : 120 * c + 130 ≤ 62000) (h : lawH b C c n t K L J R) : a_does 700 143 [a_rf C] (n + 1, t, K, L, J, R) (fun _ h' => kcX C J R (yv (C + 44) J) (30 * c) ((agP (yv (C + 44) J)).1) ((agY (yv (C + 44) J)).1) h') := by
  exact does_mono (does_and (gk_again (P := fun _ h' => ∃ n2 t2 K2 L2 J2 R2, h' = (n2 + 1, t2, K2, L2, J2, R2) ∧ hxK C J R (yv (C + 44) J) (30 * c) J2 R2 ((agP (yv (C + 44) J)).1) ((agY (yv (C + 44) J)).1)) h.1.1 h.1.2.2.2.2.2.1 h.2.2.2.1 (by omega) (fun n2 t2 K2 L2 J2 R2 _ _ x => ⟨n2, t2, K2, L2, J2, R2, rfl, x⟩)) (cu_again (P := fun _ h' => cB C n K L J R none h') h.1.1 (fun _ _ _ _ _ _ _ z => cb_Z z))) (fun r h' q => by
    obtain ⟨⟨n2, t2, K2, L2, J2, R2, e, x⟩, q3⟩ := q
    rw [e] at q3 ⊢
    exact kcX_of x q3)
theorem cdh_again  (hb : b < C) (hc : 120 * c + 130 ≤ 62000) (h : lawH b C c n t K L J R) (hP : ∀ n2 t2 K2 L2 J2 R2, aNx b C c n2 t2 K2 L2 J2 R2 (yv (C + 44) J) ((agY (yv (C + 44) J)).1) → (hcR C (30 * c + 30) J2 R2 (yv (C + 44) J) ((agP (yv (C + 44) J)).1) ((agY (yv (C + 44) J)).1)) → P (some (.int (Int32.ofNat (agY (yv (C + 44) J)).2))) (n2 + 1, t2, K2, L2, J2, R2)) : a_does 700 143 [a_rf C] (n + 1, t, K, L, J, R) P := by
  have hT := h.1.1.1
  have hcp := h.1.2.2.2.2.2.1.1
  exact cdh_gen (Q := fun v n2 t2 K2 L2 J2 R2 => v = Int32.ofNat (agY (yv (C + 44) J)).2 ∧ aNx b C c n2 t2 K2 L2 J2 R2 (yv (C + 44) J) ((agY (yv (C + 44) J)).1)) (B := (kcX C J R (yv (C + 44) J) (30 * c) ((agP (yv (C + 44) J)).1) ((agY (yv (C + 44) J)).1))) (cd_again hb h.1 (fun n2 t2 K2 L2 J2 R2 hx => ⟨_, n2, t2, K2, L2, J2, R2, rfl, rfl, rfl, hx⟩)) (kc_again hc h) (fun v n2 t2 K2 L2 J2 R2 q w => by
    obtain ⟨rfl, hx⟩ := q
    exact hP _ _ _ _ _ _ hx (hr_c hcp h.2 (law_now h.1) (law_pl h.1) (kcX_in w).1 (kcX_in w).2))
theorem rdh_again  (hx : aNx b C c n t K L J R Y ((agY Y).1)) (hc : 120 * c + 130 ≤ 62000) (g : hcR C (30 * c + 30) J R Y ((agP Y).1) ((agY Y).1)) (hP : ∀ J3, lawH b C (c + 1) n t K L J3 R → P (some (.int (Int32.ofNat (agY Y).2))) (n + 1, t, K, L, J3, R)) : a_does 700 247 [a_rf (C + 44)] (n + 1, t, K, L, J, R) P := by
  have hc8 : 120 * c + 130 ≤ 84000 := by omega
  have hT := hx.1.1.1
  have hcZ := hx.2.2.2.1.1
  have h6 : Y 0 6 ≤ 6 := hx.2.2.1.1.2.2.2.2.2.1.2
  exact rdh_gen (Q := fun w J3 => w = Int32.ofNat (agY Y).2 ∧ lawI b C (c + 1) n t K L J3 R) (B := xqX C n t K L R J Y ((agP Y).1) ((agY Y).1)) (rd_again hx hc8 (fun J3 hI => ⟨_, J3, rfl, rfl, rfl, hI⟩)) (xp_again9 (P := fun _ h' => xqX C n t K L R J Y ((agP Y).1) ((agY Y).1) h') hx.1.2.1 hx.2.2.1 hc8 ⟨mG_refl hx.1.2.2.1, hx.1.2.2.2.1⟩ hx.2.1 g.1 g.2.1 (fun J4 _ gs x => ⟨J4, rfl, x, gs.2.1⟩)) (fun v0 J3 q w => by
    obtain ⟨rfl, hI⟩ := q
    exact hP _ (lawH_n hI (hr_r hT hcZ h6 g (xqX_in w).1 (xqX_in w).2 (pz_cu hT hcZ (xqX_in w).2 hI.2.2.2.2.2.1.1))))
theorem kc_danger {u1 u2 : Int32} (hc : 120 * c + 130 ≤ 62000) (h : lawH b C c n t K L J R) : a_does 700 146 [a_rf C, .int u1, .int u2] (n + 1, t, K, L, J, R) (fun _ h' => kcX C J R (yv (C + 44) J) (30 * c) ((dgY (yv (C + 44) J) u1 u2).2) ((dgY (yv (C + 44) J) u1 u2).2) h') := by
  exact does_mono (does_and (gk_danger (P := fun _ h' => ∃ n2 t2 K2 L2 J2 R2, h' = (n2 + 1, t2, K2, L2, J2, R2) ∧ hxK C J R (yv (C + 44) J) (30 * c) J2 R2 ((dgY (yv (C + 44) J) u1 u2).2) ((dgY (yv (C + 44) J) u1 u2).2)) h.1.1 h.1.2.2.2.2.2.1 h.2.2.2.1 (by omega) (fun n2 t2 K2 L2 J2 R2 _ _ x => ⟨n2, t2, K2, L2, J2, R2, rfl, x⟩)) (cu_danger (P := fun _ h' => cB C n K L J R none h') h.1.1 (fun _ _ _ _ _ _ _ z => cb_Z z))) (fun r h' q => by
    obtain ⟨⟨n2, t2, K2, L2, J2, R2, e, x⟩, q3⟩ := q
    rw [e] at q3 ⊢
    exact kcX_of x q3)
theorem cdh_danger {u1 u2 : Int32} (hb : b < C) (hc : 120 * c + 130 ≤ 62000) (h : lawH b C c n t K L J R) (hP : ∀ n2 t2 K2 L2 J2 R2, aNx b C c n2 t2 K2 L2 J2 R2 (yv (C + 44) J) ((dgY (yv (C + 44) J) u1 u2).2) → (hcR C (30 * c + 30) J2 R2 (yv (C + 44) J) ((dgY (yv (C + 44) J) u1 u2).2) ((dgY (yv (C + 44) J) u1 u2).2)) → P (some (.int ((dgY (yv (C + 44) J) u1 u2).1))) (n2 + 1, t2, K2, L2, J2, R2)) : a_does 700 146 [a_rf C, .int u1, .int u2] (n + 1, t, K, L, J, R) P := by
  have hT := h.1.1.1
  have hcp := h.1.2.2.2.2.2.1.1
  exact cdh_gen (Q := fun v n2 t2 K2 L2 J2 R2 => v = (dgY (yv (C + 44) J) u1 u2).1 ∧ aNx b C c n2 t2 K2 L2 J2 R2 (yv (C + 44) J) ((dgY (yv (C + 44) J) u1 u2).2)) (B := (kcX C J R (yv (C + 44) J) (30 * c) ((dgY (yv (C + 44) J) u1 u2).2) ((dgY (yv (C + 44) J) u1 u2).2))) (cd_danger hb h.1 (fun n2 t2 K2 L2 J2 R2 hx => ⟨_, n2, t2, K2, L2, J2, R2, rfl, rfl, rfl, hx⟩)) (kc_danger hc h) (fun v n2 t2 K2 L2 J2 R2 q w => by
    obtain ⟨rfl, hx⟩ := q
    exact hP _ _ _ _ _ _ hx (hr_c hcp h.2 (law_now h.1) (law_pl h.1) (kcX_in w).1 (kcX_in w).2))
theorem rdh_danger {u1 u2 : Int32} (hx : aNx b C c n t K L J R Y ((dgY Y u1 u2).2)) (hc : 120 * c + 130 ≤ 62000) (g : hcR C (30 * c + 30) J R Y ((dgY Y u1 u2).2) ((dgY Y u1 u2).2)) (hP : ∀ J3, lawH b C (c + 1) n t K L J3 R → P (some (.int ((dgY Y u1 u2).1))) (n + 1, t, K, L, J3, R)) : a_does 700 249 [a_rf (C + 44), .int u1, .int u2] (n + 1, t, K, L, J, R) P := by
  have hc8 : 120 * c + 130 ≤ 84000 := by omega
  have hT := hx.1.1.1
  have hcZ := hx.2.2.2.1.1
  have h6 : Y 0 6 ≤ 6 := hx.2.2.1.1.2.2.2.2.2.1.2
  exact rdh_gen (Q := fun w J3 => w = (dgY Y u1 u2).1 ∧ lawI b C (c + 1) n t K L J3 R) (B := xqX C n t K L R J Y ((dgY Y u1 u2).2) ((dgY Y u1 u2).2)) (rd_danger hx hc8 (fun J3 hI => ⟨_, J3, rfl, rfl, rfl, hI⟩)) (xp_danger9 (P := fun _ h' => xqX C n t K L R J Y ((dgY Y u1 u2).2) ((dgY Y u1 u2).2) h') hx.1.2.1 hx.2.2.1 hc8 ⟨mG_refl hx.1.2.2.1, hx.1.2.2.2.1⟩ hx.2.1 g.1 g.2.1 (fun J4 _ gs x => ⟨J4, rfl, x, gs.2.1⟩)) (fun v0 J3 q w => by
    obtain ⟨rfl, hI⟩ := q
    exact hP _ (lawH_n hI (hr_r hT hcZ h6 g (xqX_in w).1 (xqX_in w).2 (pz_cu hT hcZ (xqX_in w).2 hI.2.2.2.2.2.1.1))))
theorem cdh_wish {u1 u2 u3 : Int32} (hw : u3 = 0 ∨ u3 = 1) (hb : b < C) (hc : 120 * c + 130 ≤ 62000) (h : lawH b C c n t K L J R) (hP : ∀ n2 t2 K2 L2 J2 R2, aNx b C c n2 t2 K2 L2 J2 R2 (yv (C + 44) J) ((wsY (yv (C + 44) J) u1 u2 u3).2) → (hcG C (30 * c + 30) J2 R2 ((wsY (yv (C + 44) J) u1 u2 u3).2)) → P (some (.int ((wsY (yv (C + 44) J) u1 u2 u3).1))) (n2 + 1, t2, K2, L2, J2, R2)) : a_does 700 147 [a_rf C, .int u1, .int u2, .int u3] (n + 1, t, K, L, J, R) P := by
  have hT := h.1.1.1
  have hcp := h.1.2.2.2.2.2.1.1
  exact cdh_gen (Q := fun v n2 t2 K2 L2 J2 R2 => v = (wsY (yv (C + 44) J) u1 u2 u3).1 ∧ aNx b C c n2 t2 K2 L2 J2 R2 (yv (C + 44) J) ((wsY (yv (C + 44) J) u1 u2 u3).2)) (B := cFh C K J R) (cd_wish hw hb h.1 (fun n2 t2 K2 L2 J2 R2 hx => ⟨_, n2, t2, K2, L2, J2, R2, rfl, rfl, rfl, hx⟩)) (kf_wish hw h.1.1) (fun v n2 t2 K2 L2 J2 R2 q w => by
    obtain ⟨rfl, hx⟩ := q
    exact hP _ _ _ _ _ _ hx (hg_c hT hcp h.2 (cF_in w) pz_wish (Nat.le_add_right _ _)))
theorem rdh_wish {u1 u2 u3 : Int32} (hw : u3 = 0 ∨ u3 = 1) (hx : aNx b C c n t K L J R Y ((wsY Y u1 u2 u3).2)) (hc : 120 * c + 130 ≤ 62000) (g : hcG C (30 * c + 30) J R ((wsY Y u1 u2 u3).2)) (hP : ∀ J3, lawH b C (c + 1) n t K L J3 R → P (some (.int ((wsY Y u1 u2 u3).1))) (n + 1, t, K, L, J3, R)) : a_does 700 250 [a_rf (C + 44), .int u1, .int u2, .int u3] (n + 1, t, K, L, J, R) P := by
  have hc8 : 120 * c + 130 ≤ 84000 := by omega
  have hT := hx.1.1.1
  have hcZ := hx.2.2.2.1.1
  have h6 : Y 0 6 ≤ 6 := hx.2.2.1.1.2.2.2.2.2.1.2
  exact rdh_gen (Q := fun w J3 => w = (wsY Y u1 u2 u3).1 ∧ lawI b C (c + 1) n t K L J3 R) (B := rPh C n t K L R J) (rd_wish hw hx hc8 (fun J3 hI => ⟨_, J3, rfl, rfl, rfl, hI⟩)) (rj_wish hw hx.1.2.1 hx.1.2.2.1 hx.1.2.2.2.1 hc8) (fun v0 J3 q w => by
    obtain ⟨rfl, hI⟩ := q
    exact hP _ (lawH_n hI (hg_r hT hcZ g (rPh_in w) (pz_cu hT hcZ (fun x j q => rPh_in w x j (by unfold eRh; omega)) hI.2.2.2.2.2.1.1))))
theorem cdh_ring {u1 : Int32} (hb : b < C) (hc : 120 * c + 130 ≤ 62000) (h : lawH b C c n t K L J R) (hP : ∀ v n2 t2 K2 L2 J2 R2, rgO (yv (C + 44) J) u1 v → aNx b C c n2 t2 K2 L2 J2 R2 (yv (C + 44) J) ((yv (C + 44) J)) → (hcG C (30 * c + 30) J2 R2 ((yv (C + 44) J))) → P (some (.int v)) (n2 + 1, t2, K2, L2, J2, R2)) : a_does 700 149 [a_rf C, .int u1] (n + 1, t, K, L, J, R) P := by
  have hT := h.1.1.1
  have hcp := h.1.2.2.2.2.2.1.1
  exact cdh_gen (Q := fun v n2 t2 K2 L2 J2 R2 => rgO (yv (C + 44) J) u1 v ∧ aNx b C c n2 t2 K2 L2 J2 R2 (yv (C + 44) J) ((yv (C + 44) J))) (B := cFh C K J R) (cd_ring hb h.1 (fun v n2 t2 K2 L2 J2 R2 ho hx => ⟨v, n2, t2, K2, L2, J2, R2, rfl, rfl, ho, hx⟩)) (kf_ring h.1.1 h.1.2.2.2.2.2.1) (fun v n2 t2 K2 L2 J2 R2 q w => hP _ _ _ _ _ _ _ q.1 q.2 (hg_c hT hcp h.2 (cF_in w) pz_0 (Nat.le_add_right _ _)))
theorem rdh_ring {u1 : Int32} (hx : aNx b C c n t K L J R Y (Y)) (hc : 120 * c + 130 ≤ 62000) {v : Int32} (ho : rgO Y u1 v) (g : hcG C (30 * c + 30) J R (Y)) (hP : ∀ J3, lawH b C (c + 1) n t K L J3 R → P (some (.int (v))) (n + 1, t, K, L, J3, R)) : a_does 700 251 [a_rf (C + 44), .int u1] (n + 1, t, K, L, J, R) P := by
  have hc8 : 120 * c + 130 ≤ 84000 := by omega
  have hT := hx.1.1.1
  have hcZ := hx.2.2.2.1.1
  have h6 : Y 0 6 ≤ 6 := hx.2.2.1.1.2.2.2.2.2.1.2
  exact rdh_gen (Q := fun w J3 => w = v ∧ lawI b C (c + 1) n t K L J3 R) (B := rPh C n t K L R J) (rd_ring hx hc8 ho (fun J3 hI => ⟨_, J3, rfl, rfl, rfl, hI⟩)) (rj_ring hx.1.2.1 hx.1.2.2.1 hx.1.2.2.2.1 hc8) (fun v0 J3 q w => by
    obtain ⟨rfl, hI⟩ := q
    exact hP _ (lawH_n hI (hg_r hT hcZ g (rPh_in w) (pz_cu hT hcZ (fun x j q => rPh_in w x j (by unfold eRh; omega)) hI.2.2.2.2.2.1.1))))
theorem kc_swap  (hc : 120 * c + 130 ≤ 62000) (h : lawH b C c n t K L J R) : a_does 700 158 [a_rf C] (n + 1, t, K, L, J, R) (fun _ h' => (fun h' => ∃ v Z W1, swO (yv (C + 44) J) v Z ∧ swW (yv (C + 44) J) W1 ∧ kcX C J R (yv (C + 44) J) (30 * c) (W1) Z h') h') := by
  exact does_mono (does_and (gk_swap (P := fun _ h' => ∃ v Z W1 n2 t2 K2 L2 J2 R2, h' = (n2 + 1, t2, K2, L2, J2, R2) ∧ swO (yv (C + 44) J) v Z ∧ swW (yv (C + 44) J) W1 ∧ hxK C J R (yv (C + 44) J) (30 * c) J2 R2 W1 Z) h.1.1 h.1.2.2.2.2.2.1 h.2.2.2.1 (by omega) (fun v Z W1 n2 t2 K2 L2 J2 R2 q1 q2 _ _ x => ⟨v, Z, W1, n2, t2, K2, L2, J2, R2, rfl, q1, q2, x⟩)) (cu_swap (P := fun _ h' => cB C n K L J R none h') h.1.1 (fun _ _ _ _ _ _ _ z => cb_Z z))) (fun r h' q => by
    obtain ⟨⟨v, Z, W1, n2, t2, K2, L2, J2, R2, e, q1, q2, x⟩, q3⟩ := q
    rw [e] at q3 ⊢
    exact ⟨v, Z, W1, q1, q2, kcX_of x q3⟩)
theorem cdh_swap  (hb : b < C) (hc : 120 * c + 130 ≤ 62000) (h : lawH b C c n t K L J R) (hP : ∀ v Z2 n2 t2 K2 L2 J2 R2, swO (yv (C + 44) J) v Z2 → aNx b C c n2 t2 K2 L2 J2 R2 (yv (C + 44) J) (Z2) → (∃ W1, swW (yv (C + 44) J) W1 ∧ hcR C (30 * c + 30) J2 R2 (yv (C + 44) J) W1 Z2) → P (some (.int v)) (n2 + 1, t2, K2, L2, J2, R2)) : a_does 700 158 [a_rf C] (n + 1, t, K, L, J, R) P := by
  have hT := h.1.1.1
  have hcp := h.1.2.2.2.2.2.1.1
  exact cdh_gen (Q := fun v n2 t2 K2 L2 J2 R2 => ∃ Z2, swO (yv (C + 44) J) v Z2 ∧ aNx b C c n2 t2 K2 L2 J2 R2 (yv (C + 44) J) (Z2)) (B := (fun h' => ∃ v Z W1, swO (yv (C + 44) J) v Z ∧ swW (yv (C + 44) J) W1 ∧ kcX C J R (yv (C + 44) J) (30 * c) (W1) Z h')) (cd_swap hb h.1 (fun v Z2 n2 t2 K2 L2 J2 R2 ho hx => ⟨v, n2, t2, K2, L2, J2, R2, rfl, rfl, Z2, ho, hx⟩)) (kc_swap hc h) (fun v n2 t2 K2 L2 J2 R2 q w => by
    obtain ⟨Z2, ho, hx⟩ := q
    obtain ⟨v3, Z3, W1, s1, s2, w⟩ := w
    rw [(swO_u ho s1).2] at w
    exact hP _ _ _ _ _ _ _ _ ho hx ⟨W1, s2, hr_c hcp h.2 (law_now h.1) (law_pl h.1) (kcX_in w).1 (kcX_in w).2⟩)
theorem rdh_swap  (hx : aNx b C c n t K L J R Y (Z)) (hc : 120 * c + 130 ≤ 62000) {v : Int32} (ho : swO Y v Z) (g : ∃ W1, swW Y W1 ∧ hcR C (30 * c + 30) J R Y W1 Z) (hP : ∀ J3, lawH b C (c + 1) n t K L J3 R → P (some (.int (v))) (n + 1, t, K, L, J3, R)) : a_does 700 255 [a_rf (C + 44)] (n + 1, t, K, L, J, R) P := by
  have hc8 : 120 * c + 130 ≤ 84000 := by omega
  have hT := hx.1.1.1
  have hcZ := hx.2.2.2.1.1
  have h6 : Y 0 6 ≤ 6 := hx.2.2.1.1.2.2.2.2.2.1.2
  obtain ⟨W1, gw, g⟩ := g
  exact rdh_gen (Q := fun w J3 => w = v ∧ lawI b C (c + 1) n t K L J3 R) (B := xqX C n t K L R J Y (W1) (Z)) (rd_swap hx hc8 ho (fun J3 hI => ⟨_, J3, rfl, rfl, rfl, hI⟩)) (xp_swap9 (P := fun _ h' => xqX C n t K L R J Y (W1) (Z) h') hx.1.2.1 hx.2.2.1 hc8 ⟨mG_refl hx.1.2.2.1, hx.1.2.2.2.1⟩ hx.2.1 g.1 g.2.1 ho (fun J4 W2 sw _ gs x => by
    rw [swW_u sw gw] at x
    exact ⟨J4, rfl, x, gs.2.1⟩)) (fun v0 J3 q w => by
    obtain ⟨rfl, hI⟩ := q
    exact hP _ (lawH_n hI (hr_r hT hcZ h6 g (xqX_in w).1 (xqX_in w).2 (pz_cu hT hcZ (xqX_in w).2 hI.2.2.2.2.2.1.1))))
theorem cdh_had {u1 u2 u3 : Int32} (hb : b < C) (hc : 120 * c + 130 ≤ 62000) (h : lawH b C c n t K L J R) (hP : ∀ v n2 t2 K2 L2 J2 R2, aNx b C c n2 t2 K2 L2 J2 R2 (yv (C + 44) J) ((yv (C + 44) J)) → (hcG C (30 * c + 30) J2 R2 ((yv (C + 44) J))) → P (some (.int v)) (n2 + 1, t2, K2, L2, J2, R2)) : a_does 700 160 [a_rf C, .int u1, .int u2, .int u3] (n + 1, t, K, L, J, R) P := by
  have hT := h.1.1.1
  have hcp := h.1.2.2.2.2.2.1.1
  exact cdh_gen (Q := fun v n2 t2 K2 L2 J2 R2 => aNx b C c n2 t2 K2 L2 J2 R2 (yv (C + 44) J) ((yv (C + 44) J))) (B := cFh C K J R) (cd_had hb h.1 (fun v n2 t2 K2 L2 J2 R2 hx => ⟨v, n2, t2, K2, L2, J2, R2, rfl, rfl, hx⟩)) (kf_had h.1.1) (fun v n2 t2 K2 L2 J2 R2 q w => hP _ _ _ _ _ _ _ q (hg_c hT hcp h.2 (cF_in w) pz_0 (Nat.le_add_right _ _)))
theorem rdh_had {u1 u2 u3 : Int32} (hx : aNx b C c n t K L J R Y (Y)) (hc : 120 * c + 130 ≤ 62000) (g : hcG C (30 * c + 30) J R (Y)) (hP : ∀ v J3, lawH b C (c + 1) n t K L J3 R → P (some (.int v)) (n + 1, t, K, L, J3, R)) : a_does 700 256 [a_rf (C + 44), .int u1, .int u2, .int u3] (n + 1, t, K, L, J, R) P := by
  have hc8 : 120 * c + 130 ≤ 84000 := by omega
  have hT := hx.1.1.1
  have hcZ := hx.2.2.2.1.1
  have h6 : Y 0 6 ≤ 6 := hx.2.2.1.1.2.2.2.2.2.1.2
  exact rdh_gen (Q := fun w J3 => lawI b C (c + 1) n t K L J3 R) (B := rPh C n t K L R J) (rd_had hx hc8 (fun v J3 hI => ⟨v, J3, rfl, rfl, hI⟩)) (rj_had hx.1.2.1 hx.1.2.2.1 hx.1.2.2.2.1 hc8) (fun v0 J3 hI w => hP _ _ (lawH_n hI (hg_r hT hcZ g (rPh_in w) (pz_cu hT hcZ (fun x j q => rPh_in w x j (by unfold eRh; omega)) hI.2.2.2.2.2.1.1))))
theorem cdh_lead {u1 u2 : Int32} (hb : b < C) (hc : 120 * c + 130 ≤ 62000) (h : lawH b C c n t K L J R) (hP : ∀ v n2 t2 K2 L2 J2 R2, aNx b C c n2 t2 K2 L2 J2 R2 (yv (C + 44) J) ((yv (C + 44) J)) → (hcG C (30 * c + 30) J2 R2 ((yv (C + 44) J))) → P (some (.int v)) (n2 + 1, t2, K2, L2, J2, R2)) : a_does 700 162 [a_rf C, .int u1, .int u2] (n + 1, t, K, L, J, R) P := by
  have hT := h.1.1.1
  have hcp := h.1.2.2.2.2.2.1.1
  exact cdh_gen (Q := fun v n2 t2 K2 L2 J2 R2 => aNx b C c n2 t2 K2 L2 J2 R2 (yv (C + 44) J) ((yv (C + 44) J))) (B := cFh C K J R) (cd_lead hb h.1 (fun v n2 t2 K2 L2 J2 R2 hx => ⟨v, n2, t2, K2, L2, J2, R2, rfl, rfl, hx⟩)) (kf_lead h.1.1) (fun v n2 t2 K2 L2 J2 R2 q w => hP _ _ _ _ _ _ _ q (hg_c hT hcp h.2 (cF_in w) pz_0 (Nat.le_add_right _ _)))
theorem rdh_lead {u1 u2 : Int32} (hx : aNx b C c n t K L J R Y (Y)) (hc : 120 * c + 130 ≤ 62000) (g : hcG C (30 * c + 30) J R (Y)) (hP : ∀ v J3, lawH b C (c + 1) n t K L J3 R → P (some (.int v)) (n + 1, t, K, L, J3, R)) : a_does 700 258 [a_rf (C + 44), .int u1, .int u2] (n + 1, t, K, L, J, R) P := by
  have hc8 : 120 * c + 130 ≤ 84000 := by omega
  have hT := hx.1.1.1
  have hcZ := hx.2.2.2.1.1
  have h6 : Y 0 6 ≤ 6 := hx.2.2.1.1.2.2.2.2.2.1.2
  exact rdh_gen (Q := fun w J3 => lawI b C (c + 1) n t K L J3 R) (B := rPh C n t K L R J) (rd_lead hx hc8 (fun v J3 hI => ⟨v, J3, rfl, rfl, hI⟩)) (rj_lead hx.1.2.1 hx.1.2.2.1 hx.1.2.2.2.1 hc8) (fun v0 J3 hI w => hP _ _ (lawH_n hI (hg_r hT hcZ g (rPh_in w) (pz_cu hT hcZ (fun x j q => rPh_in w x j (by unfold eRh; omega)) hI.2.2.2.2.2.1.1))))
theorem cdh_put {u1 : Int32} (hb : b < C) (hc : 120 * c + 130 ≤ 62000) (h : lawH b C c n t K L J R) (hP : ∀ n2 t2 K2 L2 J2 R2, aNx b C c n2 t2 K2 L2 J2 R2 (yv (C + 44) J) ((ptY (yv (C + 44) J) u1).2) → (hcG C (30 * c + 30) J2 R2 ((ptY (yv (C + 44) J) u1).2)) → P (some (.int ((ptY (yv (C + 44) J) u1).1))) (n2 + 1, t2, K2, L2, J2, R2)) : a_does 700 163 [a_rf C, .int u1] (n + 1, t, K, L, J, R) P := by
  have hT := h.1.1.1
  have hcp := h.1.2.2.2.2.2.1.1
  exact cdh_gen (Q := fun v n2 t2 K2 L2 J2 R2 => v = (ptY (yv (C + 44) J) u1).1 ∧ aNx b C c n2 t2 K2 L2 J2 R2 (yv (C + 44) J) ((ptY (yv (C + 44) J) u1).2)) (B := cFh C K J R) (cd_put hb h.1 (fun n2 t2 K2 L2 J2 R2 hx => ⟨_, n2, t2, K2, L2, J2, R2, rfl, rfl, rfl, hx⟩)) (kf_put h.1.1) (fun v n2 t2 K2 L2 J2 R2 q w => by
    obtain ⟨rfl, hx⟩ := q
    exact hP _ _ _ _ _ _ hx (hg_c hT hcp h.2 (cF_in w) pz_put (Nat.le_add_right _ _)))
theorem rdh_put {u1 : Int32} (hx : aNx b C c n t K L J R Y ((ptY Y u1).2)) (hc : 120 * c + 130 ≤ 62000) (g : hcG C (30 * c + 30) J R ((ptY Y u1).2)) (hP : ∀ J3, lawH b C (c + 1) n t K L J3 R → P (some (.int ((ptY Y u1).1))) (n + 1, t, K, L, J3, R)) : a_does 700 259 [a_rf (C + 44), .int u1] (n + 1, t, K, L, J, R) P := by
  have hc8 : 120 * c + 130 ≤ 84000 := by omega
  have hT := hx.1.1.1
  have hcZ := hx.2.2.2.1.1
  have h6 : Y 0 6 ≤ 6 := hx.2.2.1.1.2.2.2.2.2.1.2
  exact rdh_gen (Q := fun w J3 => w = (ptY Y u1).1 ∧ lawI b C (c + 1) n t K L J3 R) (B := rPh C n t K L R J) (rd_put hx hc8 (fun J3 hI => ⟨_, J3, rfl, rfl, rfl, hI⟩)) (rj_put hx.1.2.1 hx.1.2.2.1 hx.1.2.2.2.1 hc8) (fun v0 J3 q w => by
    obtain ⟨rfl, hI⟩ := q
    exact hP _ (lawH_n hI (hg_r hT hcZ g (rPh_in w) (pz_cu hT hcZ (fun x j q => rPh_in w x j (by unfold eRh; omega)) hI.2.2.2.2.2.1.1))))
theorem cdh_check {u1 u2 u3 : Int32} (hb : b < C) (hc : 120 * c + 130 ≤ 62000) (h : lawH b C c n t K L J R) (hP : ∀ v n2 t2 K2 L2 J2 R2, aNx b C c n2 t2 K2 L2 J2 R2 (yv (C + 44) J) (ckY (yv (C + 44) J) u1 u2 u3) → (hcG C (30 * c + 30) J2 R2 (ckY (yv (C + 44) J) u1 u2 u3)) → P (some (.int v)) (n2 + 1, t2, K2, L2, J2, R2)) : a_does 700 164 [a_rf C, .int u1, .int u2, .int u3] (n + 1, t, K, L, J, R) P := by
  have hT := h.1.1.1
  have hcp := h.1.2.2.2.2.2.1.1
  exact cdh_gen (Q := fun v n2 t2 K2 L2 J2 R2 => aNx b C c n2 t2 K2 L2 J2 R2 (yv (C + 44) J) (ckY (yv (C + 44) J) u1 u2 u3)) (B := cFh C K J R) (cd_check hb h.1 (fun v n2 t2 K2 L2 J2 R2 hx => ⟨v, n2, t2, K2, L2, J2, R2, rfl, rfl, hx⟩)) (kf_check h.1.1) (fun v n2 t2 K2 L2 J2 R2 q w => hP _ _ _ _ _ _ _ q (hg_c hT hcp h.2 (cF_in w) pz_check (Nat.le_add_right _ _)))
theorem rdh_check {u1 u2 u3 : Int32} (hx : aNx b C c n t K L J R Y (ckY Y u1 u2 u3)) (hc : 120 * c + 130 ≤ 62000) (g : hcG C (30 * c + 30) J R (ckY Y u1 u2 u3)) (hP : ∀ v J3, lawH b C (c + 1) n t K L J3 R → P (some (.int v)) (n + 1, t, K, L, J3, R)) : a_does 700 260 [a_rf (C + 44), .int u1, .int u2, .int u3] (n + 1, t, K, L, J, R) P := by
  have hc8 : 120 * c + 130 ≤ 84000 := by omega
  have hT := hx.1.1.1
  have hcZ := hx.2.2.2.1.1
  have h6 : Y 0 6 ≤ 6 := hx.2.2.1.1.2.2.2.2.2.1.2
  exact rdh_gen (Q := fun w J3 => lawI b C (c + 1) n t K L J3 R) (B := rPh C n t K L R J) (rd_check hx hc8 (fun v J3 hI => ⟨v, J3, rfl, rfl, hI⟩)) (rj_check hx.1.2.1 hx.1.2.2.1 hx.1.2.2.2.1 hc8) (fun v0 J3 hI w => hP _ _ (lawH_n hI (hg_r hT hcZ g (rPh_in w) (pz_cu hT hcZ (fun x j q => rPh_in w x j (by unfold eRh; omega)) hI.2.2.2.2.2.1.1))))
theorem cdh_count {u1 : Int32} (hb : b < C) (hc : 120 * c + 130 ≤ 62000) (h : lawH b C c n t K L J R) (hP : ∀ v n2 t2 K2 L2 J2 R2, aNx b C c n2 t2 K2 L2 J2 R2 (yv (C + 44) J) ((yv (C + 44) J)) → (hcG C (30 * c + 30) J2 R2 ((yv (C + 44) J))) → P (some (.int v)) (n2 + 1, t2, K2, L2, J2, R2)) : a_does 700 166 [a_rf C, .int u1] (n + 1, t, K, L, J, R) P := by
  have hT := h.1.1.1
  have hcp := h.1.2.2.2.2.2.1.1
  exact cdh_gen (Q := fun v n2 t2 K2 L2 J2 R2 => aNx b C c n2 t2 K2 L2 J2 R2 (yv (C + 44) J) ((yv (C + 44) J))) (B := cFh C K J R) (cd_count hb h.1 (fun v n2 t2 K2 L2 J2 R2 hx => ⟨v, n2, t2, K2, L2, J2, R2, rfl, rfl, hx⟩)) (kf_count h.1.1) (fun v n2 t2 K2 L2 J2 R2 q w => hP _ _ _ _ _ _ _ q (hg_c hT hcp h.2 (cF_in w) pz_0 (Nat.le_add_right _ _)))
theorem rdh_count {u1 : Int32} (hx : aNx b C c n t K L J R Y (Y)) (hc : 120 * c + 130 ≤ 62000) (g : hcG C (30 * c + 30) J R (Y)) (hP : ∀ v J3, lawH b C (c + 1) n t K L J3 R → P (some (.int v)) (n + 1, t, K, L, J3, R)) : a_does 700 261 [a_rf (C + 44), .int u1] (n + 1, t, K, L, J, R) P := by
  have hc8 : 120 * c + 130 ≤ 84000 := by omega
  have hT := hx.1.1.1
  have hcZ := hx.2.2.2.1.1
  have h6 : Y 0 6 ≤ 6 := hx.2.2.1.1.2.2.2.2.2.1.2
  exact rdh_gen (Q := fun w J3 => lawI b C (c + 1) n t K L J3 R) (B := rPh C n t K L R J) (rd_count hx hc8 (fun v J3 hI => ⟨v, J3, rfl, rfl, hI⟩)) (rj_count hx.1.2.1 hx.1.2.2.1 hx.1.2.2.2.1 hc8) (fun v0 J3 hI w => hP _ _ (lawH_n hI (hg_r hT hcZ g (rPh_in w) (pz_cu hT hcZ (fun x j q => rPh_in w x j (by unfold eRh; omega)) hI.2.2.2.2.2.1.1))))
/-- at the start -/
theorem hg_init (hr : rawQ C K L J R) (hC : C = n + 1) {W : Nat → Nat → Int32} (h6 : W 0 6 = 0) (h17 : W 0 17 = 0) : hcG C 0 (niM (n + 1 + 43) J) R' W := by
  have e35 : niM (n + 1 + 43) J (C + 44) 35 = 0 := nM_J _ _ (by omega) (by omega) (by omega) (by omega)
  have e0 : niM (n + 1 + 43) J (C + 44) 0 = 0 := nM_J _ _ (by omega) (by omega) (by omega) (by omega)
  have hd : ∀ w k, hdM (C + 44) (niM (n + 1 + 43) J) w k = -9 := fun w k => by
    unfold hdM
    rw [e35]
    rfl
  have ld : ∀ w, ldM (C + 44) (niM (n + 1 + 43) J) w = -9 := fun w => by
    unfold ldM
    rw [e35]
    rfl
  refine ⟨fun i hi => ?_, fun c t _ _ => ⟨fun x x0 x1 => ?_, fun _ k _ => hd _ k⟩, ⟨fun c c0 c1 => ?_, fun x x0 x1 => ?_, fun b c b0 b1 => ?_⟩, fun c t hcb _ => ?_, fun c t _ _ => ⟨fun k => hd _ k, ld _⟩⟩
  · rw [e35] at hi
    exact absurd hi (Nat.not_lt_zero i)
  · rw [h17] at x1
    exact absurd (Int32.lt_of_le_of_lt x0 x1) (Int32.lt_irrefl)
  · rw [h6] at c1
    exact absurd (Int32.lt_of_le_of_lt c0 c1) (Int32.lt_irrefl)
  · rw [h17] at x1
    exact absurd (Int32.lt_of_le_of_lt x0 x1) (Int32.lt_irrefl)
  · rw [h6] at b1
    exact absurd (Int32.lt_of_le_of_lt b0 b1) (Int32.lt_irrefl)
  · rw [h6] at hcb
    exact absurd (Int32.lt_of_le_of_lt hcb.1 hcb.2) (Int32.lt_irrefl)
theorem hg_start (hr : rawQ C K L J R) (hC : C = n + 1) : hcG C 0 (niM (n + 1 + 43) J) R' (yv (C + 44) (niM (n + 1 + 43) J)) := hg_init hr hC (nM_J _ _ (by omega) (by omega) (by omega) (by omega)) (nM_J _ _ (by omega) (by omega) (by omega) (by omega))
end HK0
end

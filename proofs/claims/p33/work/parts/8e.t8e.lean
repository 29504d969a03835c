/-! the reference: ringFits, whole -/
section ZEE
variable {d n t M : Nat} {K L : Nat → Nat} {I I0 J J0 J1 J2 : Nat → Nat → Int32} {R : Nat → Nat → Nat} {P : Option Value → AH → Prop} {f : Nat → Int32} {e : Int32}
variable {Y Z W : Nat → Nat → Int32} {m : Nat} {g : Nat → Int32}
theorem rf_old {p : Nat} (h : rfF M g p m I J) (h2 : (∀ k, k < m → (J (M + 49) k = I (M + 20) (g k).toNatClampNeg ∧ J (M + 50) k = I (M + 21) (g k).toNatClampNeg) ∧ ∀ y, y < 4 → J (M + 51) (4 * k + y) = I (M + 22) (4 * (g k).toNatClampNeg + y))) (hm : ∀ x j, ¬ sC M x j → (M + 48 ≤ x ∧ x ≤ M + 51) → J2 x j = J x j) : (∀ k, k < m → (J2 (M + 49) k = I (M + 20) (g k).toNatClampNeg ∧ J2 (M + 50) k = I (M + 21) (g k).toNatClampNeg) ∧ ∀ y, y < 4 → J2 (M + 51) (4 * k + y) = I (M + 22) (4 * (g k).toNatClampNeg + y)) := fun k hk => ⟨by
  rw [hm _ _ (by unfold sC; omega) (by omega), hm _ _ (by unfold sC; omega) (by omega)]
  exact (h2 k hk).1, fun y hy => by
  rw [hm _ _ (by unfold sC; omega) (by omega)]
  exact (h2 k hk).2 y hy⟩
theorem xt_ringFits_101 (hS : m_S M K L R) (hm : okY Y) (hg0 : gs M I0 I Y) {z : Int32} (ez : z.toNatClampNeg = m) (hz : 2 ≤ z ∧ z ≤ 5) (ty : tyP Y m g) (hgr : ∀ k, k < m → I (M + 48) k = g k) (hb5 : ∀ k, k < m → (0 ≤ Y 20 (g k).toNatClampNeg ∧ Y 20 (g k).toNatClampNeg ≤ 5) ∧ (0 ≤ Y 21 (g k).toNatClampNeg ∧ Y 21 (g k).toNatClampNeg ≤ 199) ∧ Y 21 (g k).toNatClampNeg + Y 10 (g 0).toNatClampNeg ≤ 200) (hP : ∀ J u i o, (u = 0 ∨ u = 1) → (u = 1 ↔ ∀ k, k < m → rgF Y m g k) → mR M J → rfF M g 0 m I J → (∀ k, k < m → (J (M + 49) k = I (M + 20) (g k).toNatClampNeg ∧ J (M + 50) k = I (M + 21) (g k).toNatClampNeg) ∧ ∀ y, y < 4 → J (M + 51) (4 * k + y) = I (M + 22) (4 * (g k).toNatClampNeg + y)) → a_at (d + 10) (a_xm a_m254) 193 [some (a_rf M), some (.int z), some (.int u), some (.int i), o, none] [] (n, t, K, L, J, R) P) : ∀ i : Int32, i ≤ 5 → ∀ J u o, 0 ≤ i → i ≤ z → (u = 0 ∨ u = 1) → (u = 0 → ¬ ∀ k, k < m → rgF Y m g k) → (u = 1 → gs M I0 J (rgP g m Y (rgU g Y m) i.toNatClampNeg) ∧ inP (rgP g m Y (rgU g Y m) i.toNatClampNeg) ∧ ∀ k, k < i.toNatClampNeg → rgF Y m g k) → mR M J → rfF M g 0 m I J → (∀ k, k < m → (J (M + 49) k = I (M + 20) (g k).toNatClampNeg ∧ J (M + 50) k = I (M + 21) (g k).toNatClampNeg) ∧ ∀ y, y < 4 → J (M + 51) (4 * k + y) = I (M + 22) (4 * (g k).toNatClampNeg + y)) → a_at (d + 10) (a_xm a_m254) 101 [some (a_rf M), some (.int z), some (.int u), some (.int i), o, none] [] (n, t, K, L, J, R) P := by
  have hy := hm.1
  have h17 := hy.2.2.2.2.1
  have h10 := hy.2.1
  refine up_ind 5 (fun i hk ih => ?_)
  intro J u o q0 q1 hu hu0 hu1 hR rf old
  rw [q254_101]
  by_cases c : i < z
  · have c' : ¬ z ≤ i := Int32.not_le.mpr c
    by_cases cu : u = 0
    · have hp := hP J u i o hu ⟨fun e => absurd (cu.symm.trans e) (by decide), fun h => absurd h (hu0 cu)⟩ hR rf old
      clear ih hP hu0 hu1 rf old
      simp only [q254_102, q254_103, q254_106, q254_107, as_nil, as_i, as_r, Nat.reduceAdd, Nat.reduceLeDiff, z_eq0, z_eq1, z_or, z_em, Classical.not_not, not_false_eq_true, not_true_eq_false, true_and, and_true, false_and, and_false, and_self, true_implies, false_implies, implies_true, Option.toList_some, Option.toList_none, List.cons_append, List.nil_append, Nat.add_eq_zero_iff, a_nl_i, a_nl_r, a_nl_n, true_or, or_true, eq_self, ok_4, ok_5, ok_6, ok_7, ok_9, ok_10, ok_20, ok_21, ok_24, ok_30, ok_48, ok_50, ok_60, ok_80, ok_120, ok_180, ok_192, ok_200, ok_900, ok_1000, ok_84000, c', cu]
      try simp only [true_and, and_true, true_implies, false_implies, implies_true, not_true_eq_false, not_false_eq_true]
      rw [cu] at hp
      first
        | exact hp
        | grind
    · have cu1 := hu.resolve_left cu
      obtain ⟨hg, hin, hF⟩ := hu1 cu1
      obtain ⟨t1, t2, t3, t4⟩ := lp_st q0 c
      have hi : 0 ≤ i ∧ i < 5 := ⟨q0, Int32.lt_of_lt_of_le c hz.2⟩
      have him : i.toNatClampNeg < m := by rw [← ez]; exact cl_lt q0 c
      have hnm := nxN_lt (m := m) him
      obtain ⟨⟨a0, a1⟩, -⟩ := ty.1 _ him
      have ha : 0 ≤ g i.toNatClampNeg ∧ g i.toNatClampNeg < 30 := ⟨a0, Int32.lt_of_lt_of_le a1 h17.2⟩
      obtain ⟨bb, bs, bl⟩ := hb5 _ hnm
      have sW : ssE Y (rgP g m Y (rgU g Y m) i.toNatClampNeg) := ss_tr (rgU_s m) (rgP_s _)
      have o10 : (rgP g m Y (rgU g Y m) i.toNatClampNeg) 10 = Y 10 := rg_10 _
      have e17 : (rgP g m Y (rgU g Y m) i.toNatClampNeg) 0 17 = Y 0 17 := sW 0 17 (by unfold ss ps1; omega)
      have mW : moY (rgP g m Y (rgU g Y m) i.toNatClampNeg) := moY_b hm.2.1 (ss_b sW) hin
      have eY20 : ∀ k, k < m → I (M + 20) (g k).toNatClampNeg = Y 20 (g k).toNatClampNeg ∧ I (M + 21) (g k).toNatClampNeg = Y 21 (g k).toNatClampNeg := fun k hk => ⟨hg0.2.2.1 20 _ (by unfold ps1; omega), hg0.2.2.1 21 _ (by unfold ps1; omega)⟩
      have e48 : J (M + 48) i.toNatClampNeg = g i.toNatClampNeg := by rw [rf _ _ (by unfold sC; omega) (by omega) (by omega) (by omega) (fun k k1 k2 => by omega)]; exact hgr _ him
      -- the next one
      have hnx : ∀ j : Int32, j.toNatClampNeg = (nxN m i.toNatClampNeg) → J (M + 49) j.toNatClampNeg = (Y 20 (g (nxN m i.toNatClampNeg)).toNatClampNeg) ∧ J (M + 50) j.toNatClampNeg = (Y 21 (g (nxN m i.toNatClampNeg)).toNatClampNeg) := fun j hj => by
        rw [hj, (old _ hnm).1.1, (old _ hnm).1.2]
        exact eY20 _ hnm
      have hln : 0 ≤ (Y 21 (g (nxN m i.toNatClampNeg)).toNatClampNeg) ∧ (Y 21 (g (nxN m i.toNatClampNeg)).toNatClampNeg) ≤ 200 ∧ (Y 21 (g (nxN m i.toNatClampNeg)).toNatClampNeg) + (rgP g m Y (rgU g Y m) i.toNatClampNeg) 10 (g i.toNatClampNeg).toNatClampNeg ≤ 200 := ⟨bs.1, Int32.le_trans bs.2 (by decide), by rw [o10, ty.2.2 _ him]; exact bl⟩
      have hput : rgF Y m g i.toNatClampNeg → ∀ J2, mC M J J2 → ∀ o, a_does (d + 10) 231 [a_rf M, .int (g i.toNatClampNeg), .int (Y 20 (g (nxN m i.toNatClampNeg)).toNatClampNeg), .int (Y 21 (g (nxN m i.toNatClampNeg)).toNatClampNeg)] (n, t, K, L, J2, R) (fun r h' => a_at (d + 10) (a_xm a_m254) 187 [some (a_rf M), some (.int z), some (.int 1), some (.int i), o, none] (r.toList ++ []) h' P) := fun hFi J2 hC o => by
        have g2 := gs_C hg hC
        refine xt_putAt hS (moP_of g2.1 mW g2.2.2) ha bb ⟨Int32.le_trans (by decide) bs.1, Int32.le_trans bs.2 (by decide)⟩ (fun J3 f3 y3 => ?_)
        have hgW := yR_gs g2 y3 (puY_p (by rw [e17]; exact h17) (by rw [o10]; exact h10) g2.2.2 ha)
        have cl0 := (h10 (g i.toNatClampNeg).toNatClampNeg)
        have l4 : (yv M J2 10 (g i.toNatClampNeg).toNatClampNeg).toNatClampNeg ≤ 4 := by
          have e : yv M J2 10 (g i.toNatClampNeg).toNatClampNeg = Y 10 (g i.toNatClampNeg).toNatClampNeg := by
            have := g2.2.2.1 10 (g i.toNatClampNeg).toNatClampNeg (by unfold ps1; omega)
            rw [this, o10]
          rw [e]
          have w : (Y 10 (g i.toNatClampNeg).toNatClampNeg).toNatClampNeg < 5 := cl_lt (j := 5) cl0.1 (Int32.lt_of_le_of_lt cl0.2 (by decide))
          omega
        have hg2 := ih hi.2 J3 1 o t2 t3 (Or.inr rfl) (fun e => absurd e (by decide)) (fun _ => by
          rw [t4]
          refine ⟨hgW, inP_pu hin hln bb.2, fun k hk => ?_⟩
          by_cases e : k = i.toNatClampNeg
          · rw [e]; exact hFi
          · exact hF k (by omega)) y3.1 (fun x j n1 n2 n3 n4 hk => by
          have hi0 := hk i.toNatClampNeg (by omega) him
          by_cases c20 : x = M + 20 ∨ x = M + 21 ∨ x = M + 22
          · have e : J3 x j = J2 x j := by
              rcases c20 with e | e | e <;> subst e
              · rw [y3.2.2 20 j (by omega) (by unfold mk0; omega)]
                unfold puY
                rw [if_neg (by omega), if_neg (by omega), if_neg (by omega)]
                rfl
              · rw [y3.2.2 21 j (by omega) (by unfold mk0; omega)]
                unfold puY
                rw [if_neg (by omega), if_neg (by omega), if_neg (by omega)]
                rfl
              · rw [y3.2.2 22 j (by omega) (by unfold mk0; omega)]
                unfold puY
                rw [if_neg (by omega), if_neg (by omega), if_neg (by omega)]
                rfl
            rw [e, hC.2 x j n1]
            exact rf x j n1 n2 n3 n4 hk
          · rw [f3 x j n1 (by omega) (by omega) (by omega), hC.2 x j n1]
            exact rf x j n1 n2 n3 n4 hk) (rf_old (J := J) rf old (fun x j n1 n2 => (f3 x j n1 (by omega) (by omega) (by omega)).trans (hC.2 x j n1)))
        clear ih hP hu0 hu1 rf old hg hF hm ty mW g2 hgW hnx eY20 hb5
        simp only [q254_187, q254_190, as_nil, as_i, as_r, Nat.reduceAdd, Nat.reduceLeDiff, z_eq0, z_eq1, z_or, z_em, Classical.not_not, not_false_eq_true, not_true_eq_false, true_and, and_true, false_and, and_false, and_self, true_implies, false_implies, implies_true, Option.toList_some, Option.toList_none, List.cons_append, List.nil_append, Nat.add_eq_zero_iff, a_nl_i, a_nl_r, a_nl_n, true_or, or_true, eq_self, ok_4, ok_5, ok_6, ok_7, ok_9, ok_10, ok_20, ok_21, ok_24, ok_30, ok_48, ok_50, ok_60, ok_80, ok_120, ok_180, ok_192, ok_200, ok_900, ok_1000, ok_84000]
        exact hg2
      have h126 : ∀ j : Int32, 0 ≤ j ∧ j < 6 → j.toNatClampNeg = (nxN m i.toNatClampNeg) → a_at (d + 10) (a_xm a_m254) 126 [some (a_rf M), some (.int z), some (.int 1), some (.int i), some (.int j), none] [] (n, t, K, L, J, R) P := fun j hj ej => by
        obtain ⟨x49, x50⟩ := hnx j ej
        have hcall : a_does (d + 10) 221 [a_rf M, .int (g i.toNatClampNeg), .int (Y 20 (g (nxN m i.toNatClampNeg)).toNatClampNeg), .int (Y 21 (g (nxN m i.toNatClampNeg)).toNatClampNeg)] (n, t, K, L, J, R) (fun r h' => a_at (d + 10) (a_xm a_m254) 150 [some (a_rf M), some (.int z), some (.int 1), some (.int i), some (.int j), none] (r.toList ++ []) h' P) := by
          refine xt_fitOf hS (moP_of hR mW hg.2.2) (mC_refl hR) ha bb bs (fun J2 hC => ?_)
          rw [ftY_p (by rw [e17]; exact h17) (by rw [o10]; exact h10) hg.2.2]
          by_cases cf : ftY (rgP g m Y (rgU g Y m) i.toNatClampNeg) (g i.toNatClampNeg) (Y 20 (g (nxN m i.toNatClampNeg)).toNatClampNeg) (Y 21 (g (nxN m i.toNatClampNeg)).toNatClampNeg) = 0
          · have hp := hput cf J2 hC (some (.int j))
            have k48 : J2 (M + 48) i.toNatClampNeg = g i.toNatClampNeg := (hC.2 _ _ (by unfold sC; omega)).trans e48
            have k49 : J2 (M + 49) j.toNatClampNeg = (Y 20 (g (nxN m i.toNatClampNeg)).toNatClampNeg) := (hC.2 _ _ (by unfold sC; omega)).trans x49
            have k50 : J2 (M + 50) j.toNatClampNeg = (Y 21 (g (nxN m i.toNatClampNeg)).toNatClampNeg) := (hC.2 _ _ (by unfold sC; omega)).trans x50
            rw [cf]
            have n10 : ¬ (1 : Int32) = 0 := by decide
            have i6 : 0 ≤ i ∧ i < 6 := ⟨q0, Int32.lt_trans hi.2 (by decide)⟩
            clear ih hP hu0 hu1 rf old hg hF hm ty mW hnx eY20 hb5 hput
            simp only [q254_150, q254_153, q254_154, q254_157, q254_158, q254_159, q254_160, q254_163, q254_164, q254_165, q254_168, q254_169, q254_170, q254_171, q254_174, q254_176, q254_177, q254_178, q254_181, q254_183, q254_184, m_0 hS, m_K hS, mR_ringAsk hS, mK_ringAsk hS, mL_ringAsk hS, mR_oldBench hS, mK_oldBench hS, mL_oldBench hS, mR_oldShift hS, mK_oldShift hS, mL_oldShift hS, as_nil, as_i, as_r, Nat.reduceAdd, Nat.reduceLeDiff, z_eq0, z_eq1, z_or, z_em, Classical.not_not, not_false_eq_true, not_true_eq_false, true_and, and_true, false_and, and_false, and_self, true_implies, false_implies, implies_true, Option.toList_some, Option.toList_none, List.cons_append, List.nil_append, Nat.add_eq_zero_iff, a_nl_i, a_nl_r, a_nl_n, true_or, or_true, eq_self, ok_4, ok_5, ok_6, ok_7, ok_9, ok_10, ok_20, ok_21, ok_24, ok_30, ok_48, ok_50, ok_60, ok_80, ok_120, ok_180, ok_192, ok_200, ok_900, ok_1000, ok_84000, k48, k49, k50, n10, i6, hj]
            try simp only [true_and, and_true, true_implies, false_implies, implies_true, not_true_eq_false, not_false_eq_true]
            first
              | exact hp
              | (repeat refine And.intro (by grind) ?_
                 exact hp)
              | grind
          · have hp := ih hi.2 J2 0 (some (.int j)) t2 t3 (Or.inl rfl) (fun _ h => cf (h _ him)) (fun e => absurd e (by decide)) hC.1 (fun x y n1 n2 n3 n4 hk => (hC.2 x y n1).trans (rf x y n1 n2 n3 n4 hk)) (rf_old (J := J) rf old (fun x y n1 n2 => hC.2 x y n1))
            clear ih hP hu0 hu1 rf old hg hF hm ty mW hnx eY20 hb5 hput
            simp only [q254_150, q254_153, q254_154, q254_157, q254_158, q254_159, q254_160, q254_187, q254_190, as_nil, as_i, as_r, Nat.reduceAdd, Nat.reduceLeDiff, z_eq0, z_eq1, z_or, z_em, Classical.not_not, not_false_eq_true, not_true_eq_false, true_and, and_true, false_and, and_false, and_self, true_implies, false_implies, implies_true, Option.toList_some, Option.toList_none, List.cons_append, List.nil_append, Nat.add_eq_zero_iff, a_nl_i, a_nl_r, a_nl_n, true_or, or_true, eq_self, ok_4, ok_5, ok_6, ok_7, ok_9, ok_10, ok_20, ok_21, ok_24, ok_30, ok_48, ok_50, ok_60, ok_80, ok_120, ok_180, ok_192, ok_200, ok_900, ok_1000, ok_84000, cf]
            try simp only [true_and, and_true, true_implies, false_implies, implies_true, not_true_eq_false, not_false_eq_true]
            first
              | exact hp
              | (repeat refine And.intro (by grind) ?_
                 exact hp)
              | grind
        have i6 : 0 ≤ i ∧ i < 6 := ⟨q0, Int32.lt_trans hi.2 (by decide)⟩
        clear ih hP hu0 hu1 rf old hg hF hm ty mW hnx eY20 hb5 hput
        simp only [q254_126, q254_127, q254_128, q254_131, q254_132, q254_133, q254_134, q254_137, q254_139, q254_140, q254_141, q254_144, q254_146, q254_147, m_0 hS, m_K hS, mR_ringAsk hS, mK_ringAsk hS, mL_ringAsk hS, mR_oldBench hS, mK_oldBench hS, mL_oldBench hS, mR_oldShift hS, mK_oldShift hS, mL_oldShift hS, as_nil, as_i, as_r, Nat.reduceAdd, Nat.reduceLeDiff, z_eq0, z_eq1, z_or, z_em, Classical.not_not, not_false_eq_true, not_true_eq_false, true_and, and_true, false_and, and_false, and_self, true_implies, false_implies, implies_true, Option.toList_some, Option.toList_none, List.cons_append, List.nil_append, Nat.add_eq_zero_iff, a_nl_i, a_nl_r, a_nl_n, true_or, or_true, eq_self, ok_4, ok_5, ok_6, ok_7, ok_9, ok_10, ok_20, ok_21, ok_24, ok_30, ok_48, ok_50, ok_60, ok_80, ok_120, ok_180, ok_192, ok_200, ok_900, ok_1000, ok_84000, e48, x49, x50, i6, hj]
        try simp only [true_and, and_true, true_implies, false_implies, implies_true, not_true_eq_false, not_false_eq_true]
        first
          | exact hcall
          | (repeat refine And.intro (by grind) ?_
             exact hcall)
          | grind
      have n10 : ¬ (1 : Int32) = 0 := by decide
      by_cases c2 : i + 1 < z
      · have hp := h126 (i + 1) ⟨t2, Int32.lt_trans (Int32.lt_of_lt_of_le c2 hz.2) (by decide)⟩ (by
          rw [t4]
          unfold nxN
          rw [if_pos]
          rw [← ez, ← t4]
          exact cl_lt t2 c2)
        rw [cu1]
        clear ih hP hu0 hu1 rf old hg hF hm ty mW hnx eY20 hb5 hput h126
        simp only [q254_102, q254_103, q254_106, q254_107, q254_110, q254_111, q254_112, q254_113, q254_114, q254_117, q254_118, q254_119, q254_120, q254_123, q254_124, as_nil, as_i, as_r, Nat.reduceAdd, Nat.reduceLeDiff, z_eq0, z_eq1, z_or, z_em, Classical.not_not, not_false_eq_true, not_true_eq_false, true_and, and_true, false_and, and_false, and_self, true_implies, false_implies, implies_true, Option.toList_some, Option.toList_none, List.cons_append, List.nil_append, Nat.add_eq_zero_iff, a_nl_i, a_nl_r, a_nl_n, true_or, or_true, eq_self, ok_4, ok_5, ok_6, ok_7, ok_9, ok_10, ok_20, ok_21, ok_24, ok_30, ok_48, ok_50, ok_60, ok_80, ok_120, ok_180, ok_192, ok_200, ok_900, ok_1000, ok_84000, c', c2, n10]
        try simp only [true_and, and_true, true_implies, false_implies, implies_true, not_true_eq_false, not_false_eq_true]
        first
          | exact hp
          | (repeat refine And.intro (by grind) ?_
             exact hp)
          | grind
      · have hp := h126 0 (by decide) (by
          rw [show (0 : Int32).toNatClampNeg = 0 from rfl]
          unfold nxN
          rw [if_neg]
          have e : i + 1 = z := by clear ih hP hu0 hu1 rf old hg hF hm ty mW hnx eY20 hb5 hput h126; grind
          rw [← ez, ← t4, e]
          omega)
        rw [cu1]
        clear ih hP hu0 hu1 rf old hg hF hm ty mW hnx eY20 hb5 hput h126
        simp only [q254_102, q254_103, q254_106, q254_107, q254_110, q254_111, q254_112, q254_113, q254_114, q254_117, q254_118, q254_119, q254_120, q254_123, q254_124, as_nil, as_i, as_r, Nat.reduceAdd, Nat.reduceLeDiff, z_eq0, z_eq1, z_or, z_em, Classical.not_not, not_false_eq_true, not_true_eq_false, true_and, and_true, false_and, and_false, and_self, true_implies, false_implies, implies_true, Option.toList_some, Option.toList_none, List.cons_append, List.nil_append, Nat.add_eq_zero_iff, a_nl_i, a_nl_r, a_nl_n, true_or, or_true, eq_self, ok_4, ok_5, ok_6, ok_7, ok_9, ok_10, ok_20, ok_21, ok_24, ok_30, ok_48, ok_50, ok_60, ok_80, ok_120, ok_180, ok_192, ok_200, ok_900, ok_1000, ok_84000, c', c2, n10]
        try simp only [true_and, and_true, true_implies, false_implies, implies_true, not_true_eq_false, not_false_eq_true]
        first
          | exact hp
          | (repeat refine And.intro (by grind) ?_
             exact hp)
          | grind
  · have e := (lp_end q1 c).2
    have hp := hP J u i o hu (by
      rcases hu with h | h
      · exact ⟨fun q => absurd (h.symm.trans q) (by decide), fun q => absurd q (hu0 h)⟩
      · exact ⟨fun _ k hk => (hu1 h).2.2 k (by rw [e, ez]; exact hk), fun _ => h⟩) hR rf old
    have c' : z ≤ i := Int32.not_lt.mp c
    clear ih hP hu0 hu1 rf old
    simp only [q254_102, q254_103, as_nil, as_i, as_r, Nat.reduceAdd, Nat.reduceLeDiff, z_eq0, z_eq1, z_or, z_em, Classical.not_not, not_false_eq_true, not_true_eq_false, true_and, and_true, false_and, and_false, and_self, true_implies, false_implies, implies_true, Option.toList_some, Option.toList_none, List.cons_append, List.nil_append, Nat.add_eq_zero_iff, a_nl_i, a_nl_r, a_nl_n, true_or, or_true, eq_self, ok_4, ok_5, ok_6, ok_7, ok_9, ok_10, ok_20, ok_21, ok_24, ok_30, ok_48, ok_50, ok_60, ok_80, ok_120, ok_180, ok_192, ok_200, ok_900, ok_1000, ok_84000, c']
    try simp only [true_and, and_true, true_implies, false_implies, implies_true, not_true_eq_false, not_false_eq_true]
    first
      | exact hp
      | grind
/-- while putting back -/
def rfH (M : Nat) (g : Nat → Int32) (p m q : Nat) (I J : Nat → Nat → Int32) : Prop := ∀ x j, ¬ sC M x j → ¬ x = M + 49 → ¬ x = M + 50 → ¬ x = M + 51 → (∀ k, p + 1 ≤ k → k < m → ¬ ((x = M + 20 ∨ x = M + 21) ∧ j = (g k).toNatClampNeg) ∧ ¬ (x = M + 22 ∧ 4 * (g k).toNatClampNeg ≤ j ∧ j < 4 * (g k).toNatClampNeg + 4)) → ¬ (x = M + 22 ∧ 4 * (g p).toNatClampNeg + q ≤ j ∧ j < 4 * (g p).toNatClampNeg + 4) → J x j = I x j
theorem xt_ringFits_237 (hS : m_S M K L R) {i z u : Int32} (ha : 0 ≤ g i.toNatClampNeg ∧ g i.toNatClampNeg < 30) (hi : 0 ≤ i ∧ i < 5) (him : i.toNatClampNeg < m) (hP : ∀ J, mR M J → rfF M g (i.toNatClampNeg + 1) m I J → (∀ k, k < m → (J (M + 49) k = I (M + 20) (g k).toNatClampNeg ∧ J (M + 50) k = I (M + 21) (g k).toNatClampNeg) ∧ ∀ y, y < 4 → J (M + 51) (4 * k + y) = I (M + 22) (4 * (g k).toNatClampNeg + y)) → a_at d (a_xm a_m254) 272 [some (a_rf M), some (.int z), some (.int u), some (.int i), some (.int (g i.toNatClampNeg)), some (.int 4)] [] (n, t, K, L, J, R) P) : ∀ o : Int32, o ≤ 4 → ∀ J, 0 ≤ o → mR M J → rfH M g i.toNatClampNeg m o.toNatClampNeg I J → (∀ k, k < m → (J (M + 49) k = I (M + 20) (g k).toNatClampNeg ∧ J (M + 50) k = I (M + 21) (g k).toNatClampNeg) ∧ ∀ y, y < 4 → J (M + 51) (4 * k + y) = I (M + 22) (4 * (g k).toNatClampNeg + y)) → a_at d (a_xm a_m254) 237 [some (a_rf M), some (.int z), some (.int u), some (.int i), some (.int (g i.toNatClampNeg)), some (.int o)] [] (n, t, K, L, J, R) P := by
  refine up_ind 4 (fun o ho ih => ?_)
  intro J h0 hR rf old
  rw [q254_237]
  by_cases c : o < 4
  · obtain ⟨t1, t2, t3, t4⟩ := lp_st h0 c
    have n1 := n4 (o := i) (i := o) ⟨hi.1, Int32.lt_trans hi.2 (by decide)⟩ ⟨h0, c⟩
    have n2 := n4 (o := g i.toNatClampNeg) (i := o) ha ⟨h0, c⟩
    have on : o.toNatClampNeg < 4 := cl_lt h0 c
    have e51 : J (M + 51) (4 * i + o).toNatClampNeg = I (M + 22) (4 * (g i.toNatClampNeg).toNatClampNeg + o.toNatClampNeg) := by rw [n1.1]; exact (old _ him).2 _ on
    have hg := ih c (a_ui J (M + 22) (4 * g i.toNatClampNeg + o).toNatClampNeg (J (M + 51) (4 * i + o).toNatClampNeg)) t2 (sR_standing hR) (fun x j a1 a2 a3 a4 a5 a6 => by
      rw [t4] at a6
      rw [ui_ap, n2.1]
      by_cases e : x = M + 22 ∧ j = 4 * (g i.toNatClampNeg).toNatClampNeg + o.toNatClampNeg
      · rw [if_pos e, e51, e.1, e.2]
      · rw [if_neg e]
        exact rf x j a1 a2 a3 a4 a5 (by omega)) (fun k hk => ⟨by rw [ui_ap, if_neg (by omega), ui_ap, if_neg (by omega)]; exact (old k hk).1, fun y hy => by rw [ui_ap, if_neg (by omega)]; exact (old k hk).2 y hy⟩)
    have c' : ¬ 4 ≤ o := Int32.not_le.mpr c
    have b1 : 0 ≤ 4 * i + o ∧ 4 * i + o < 24 := by clear ih hP rf old hg e51 n1 n2; grind
    have b2 := n2.2
    clear ih hP rf old e51 n1 n2
    simp only [q254_239, q254_240, q254_243, q254_244, q254_247, q254_248, q254_250, q254_251, q254_253, q254_254, q254_255, q254_258, q254_259, q254_260, q254_261, q254_263, q254_264, q254_265, q254_266, q254_269, m_0 hS, m_K hS, mR_standing hS, mK_standing hS, mL_standing hS, mR_oldStanding hS, mK_oldStanding hS, mL_oldStanding hS, as_nil, as_i, as_r, Nat.reduceAdd, Nat.reduceLeDiff, z_eq0, z_eq1, z_or, z_em, Classical.not_not, not_false_eq_true, not_true_eq_false, true_and, and_true, false_and, and_false, and_self, true_implies, false_implies, implies_true, Option.toList_some, Option.toList_none, List.cons_append, List.nil_append, Nat.add_eq_zero_iff, a_nl_i, a_nl_r, a_nl_n, true_or, or_true, eq_self, ok_4, ok_5, ok_6, ok_7, ok_9, ok_10, ok_20, ok_21, ok_24, ok_30, ok_48, ok_50, ok_60, ok_80, ok_120, ok_180, ok_192, ok_200, ok_900, ok_1000, ok_84000, c']
    try simp only [true_and, and_true, true_implies, false_implies, implies_true, not_true_eq_false, not_false_eq_true]
    first
      | exact hg
      | (repeat refine And.intro (by first | exact b1.1 | exact b1.2 | exact b2.1 | exact b2.2 | grind) ?_
         exact hg)
      | grind
  · have e : o = 4 := by clear ih hP rf old; grind
    subst e
    have hp := hP J hR (fun x j a1 a2 a3 a4 a5 => rf x j a1 a2 a3 a4 a5 (by rw [show (4 : Int32).toNatClampNeg = 4 from rfl]; omega)) old
    clear ih hP rf old
    simp only [q254_239, q254_240, as_nil, as_i, as_r, Nat.reduceAdd, Nat.reduceLeDiff, z_eq0, z_eq1, z_or, z_em, Classical.not_not, not_false_eq_true, not_true_eq_false, true_and, and_true, false_and, and_false, and_self, true_implies, false_implies, implies_true, Option.toList_some, Option.toList_none, List.cons_append, List.nil_append, Nat.add_eq_zero_iff, a_nl_i, a_nl_r, a_nl_n, true_or, or_true, eq_self, ok_4, ok_5, ok_6, ok_7, ok_9, ok_10, ok_20, ok_21, ok_24, ok_30, ok_48, ok_50, ok_60, ok_80, ok_120, ok_180, ok_192, ok_200, ok_900, ok_1000, ok_84000]
    try simp only [true_and, and_true, true_implies, false_implies, implies_true, not_true_eq_false, not_false_eq_true]
    first
      | exact hp
      | exact ⟨fun _ => hp, fun h => absurd (by decide) h⟩
      | grind
theorem xt_ringFits_195 (hS : m_S M K L R) {z : Int32} (ez : z.toNatClampNeg = m) (hz : 2 ≤ z ∧ z ≤ 5) (ty : tyP Y m g) (h17 : Y 0 17 ≤ 30) (hgr : ∀ k, k < m → I (M + 48) k = g k) {u : Int32} (hu : u = 0 ∨ u = 1) (hP : ∀ J, mR M J → rfF M g m m I J → P (some (.int u)) (n, t, K, L, J, R)) : ∀ i : Int32, i ≤ 5 → ∀ J a o, 0 ≤ i → i ≤ z → mR M J → rfF M g i.toNatClampNeg m I J → (∀ k, k < m → (J (M + 49) k = I (M + 20) (g k).toNatClampNeg ∧ J (M + 50) k = I (M + 21) (g k).toNatClampNeg) ∧ ∀ y, y < 4 → J (M + 51) (4 * k + y) = I (M + 22) (4 * (g k).toNatClampNeg + y)) → a_at d (a_xm a_m254) 195 [some (a_rf M), some (.int z), some (.int u), some (.int i), a, o] [] (n, t, K, L, J, R) P := by
  refine up_ind 5 (fun i hk ih => ?_)
  intro J a o q0 q1 hR rf old
  rw [q254_195]
  by_cases c : i < z
  · obtain ⟨t1, t2, t3, t4⟩ := lp_st q0 c
    have hi : 0 ≤ i ∧ i < 5 := ⟨q0, Int32.lt_of_lt_of_le c hz.2⟩
    have him : i.toNatClampNeg < m := by rw [← ez]; exact cl_lt q0 c
    obtain ⟨⟨a0, a1⟩, -⟩ := ty.1 _ him
    have ha : 0 ≤ g i.toNatClampNeg ∧ g i.toNatClampNeg < 30 := ⟨a0, Int32.lt_of_lt_of_le a1 h17⟩
    have e48 : J (M + 48) i.toNatClampNeg = g i.toNatClampNeg := by rw [rf _ _ (by unfold sC; omega) (by omega) (by omega) (by omega) (fun k k1 k2 => by omega)]; exact hgr _ him
    obtain ⟨⟨o49, o50⟩, -⟩ := old _ him
    have r1 := rg_oldBench hR i.toNatClampNeg
    have r2 := rg_oldShift hR i.toNatClampNeg
    have c' : ¬ z ≤ i := Int32.not_le.mpr c
    have hg := xt_ringFits_237 (d := d) (n := n) (t := t) (K := K) (L := L) (R := R) (P := P) (z := z) (u := u) hS ha hi him (I := I) (fun J2 hR2 rf2 old2 => by
      have hg := ih hi.2 J2 (some (.int (g i.toNatClampNeg))) (some (.int 4)) t2 t3 hR2 (by rw [t4]; exact rf2) old2
      clear ih hP rf old rf2 old2
      simp only [q254_272, q254_275, as_nil, as_i, as_r, Nat.reduceAdd, Nat.reduceLeDiff, z_eq0, z_eq1, z_or, z_em, Classical.not_not, not_false_eq_true, not_true_eq_false, true_and, and_true, false_and, and_false, and_self, true_implies, false_implies, implies_true, Option.toList_some, Option.toList_none, List.cons_append, List.nil_append, Nat.add_eq_zero_iff, a_nl_i, a_nl_r, a_nl_n, true_or, or_true, eq_self, ok_4, ok_5, ok_6, ok_7, ok_9, ok_10, ok_20, ok_21, ok_24, ok_30, ok_48, ok_50, ok_60, ok_80, ok_120, ok_180, ok_192, ok_200, ok_900, ok_1000, ok_84000]
      exact hg) 0 (by decide) (a_ui (a_ui J (M + 20) (g i.toNatClampNeg).toNatClampNeg (J (M + 49) i.toNatClampNeg)) (M + 21) (g i.toNatClampNeg).toNatClampNeg (J (M + 50) i.toNatClampNeg)) (by decide) (sR_atShift (sR_atBench hR r1) r2) (fun x j n1 n2 n3 n5 hk hn => by
      rw [show (0 : Int32).toNatClampNeg = 0 from rfl] at hn
      by_cases c21 : x = M + 21 ∧ j = (g i.toNatClampNeg).toNatClampNeg
      · rw [ui_ap, if_pos c21, c21.1, c21.2]
        exact o50
      · rw [ui_ap, if_neg c21]
        by_cases c20 : x = M + 20 ∧ j = (g i.toNatClampNeg).toNatClampNeg
        · rw [ui_ap, if_pos c20, c20.1, c20.2]
          exact o49
        · rw [ui_ap, if_neg c20]
          refine rf x j n1 n2 n3 n5 (fun k k1 k2 => ?_)
          by_cases e : k = i.toNatClampNeg
          · rw [e]
            omega
          · exact hk k (by omega) k2) (fun k hk => ⟨by rw [ui_ap, if_neg (by omega), ui_ap, if_neg (by omega), ui_ap, if_neg (by omega), ui_ap, if_neg (by omega)]; exact (old k hk).1, fun y hy => by rw [ui_ap, if_neg (by omega), ui_ap, if_neg (by omega)]; exact (old k hk).2 y hy⟩)
    clear ih hP rf old
    simp only [q254_196, q254_197, q254_200, q254_201, q254_204, q254_205, q254_206, q254_208, q254_209, q254_212, q254_214, q254_215, q254_218, q254_219, q254_220, q254_221, q254_222, q254_225, q254_227, q254_228, q254_231, q254_232, q254_233, q254_234, q254_235, m_0 hS, m_K hS, mR_ringAsk hS, mK_ringAsk hS, mL_ringAsk hS, mR_atBench hS, mK_atBench hS, mL_atBench hS, mR_oldBench hS, mK_oldBench hS, mL_oldBench hS, mR_atShift hS, mK_atShift hS, mL_atShift hS, mR_oldShift hS, mK_oldShift hS, mL_oldShift hS, as_nil, as_i, as_r, Nat.reduceAdd, Nat.reduceLeDiff, z_eq0, z_eq1, z_or, z_em, Classical.not_not, not_false_eq_true, not_true_eq_false, true_and, and_true, false_and, and_false, and_self, true_implies, false_implies, implies_true, Option.toList_some, Option.toList_none, List.cons_append, List.nil_append, Nat.add_eq_zero_iff, a_nl_i, a_nl_r, a_nl_n, true_or, or_true, eq_self, ok_4, ok_5, ok_6, ok_7, ok_9, ok_10, ok_20, ok_21, ok_24, ok_30, ok_48, ok_50, ok_60, ok_80, ok_120, ok_180, ok_192, ok_200, ok_900, ok_1000, ok_84000, ui_ap, ne_MM, ne_M0, ne_0M, Nat.reduceEqDiff, reduceIte, if_true, if_false, e48, c']
    try simp only [true_and, and_true, true_implies, false_implies, implies_true, not_true_eq_false, not_false_eq_true]
    first
      | exact hg
      | (repeat refine And.intro (by grind) ?_
         exact hg)
      | grind
  · have e := (lp_end q1 c).2
    have hp := hP J hR (by rw [e, ez] at rf; exact rf)
    have c' : z ≤ i := Int32.not_lt.mp c
    subst e
    clear ih hP rf old
    simp only [q254_196, q254_197, q254_278, q254_279, as_nil, as_i, as_r, Nat.reduceAdd, Nat.reduceLeDiff, z_eq0, z_eq1, z_or, z_em, Classical.not_not, not_false_eq_true, not_true_eq_false, true_and, and_true, false_and, and_false, and_self, true_implies, false_implies, implies_true, Option.toList_some, Option.toList_none, List.cons_append, List.nil_append, Nat.add_eq_zero_iff, a_nl_i, a_nl_r, a_nl_n, true_or, or_true, eq_self, ok_4, ok_5, ok_6, ok_7, ok_9, ok_10, ok_20, ok_21, ok_24, ok_30, ok_48, ok_50, ok_60, ok_80, ok_120, ok_180, ok_192, ok_200, ok_900, ok_1000, ok_84000, c']
    try simp only [true_and, and_true, true_implies, false_implies, implies_true, not_true_eq_false, not_false_eq_true]
    first
      | exact hp
      | exact ⟨hu, hp⟩
      | grind
/-- all but scratch is the same -/
def rqP (M : Nat) (I J : Nat → Nat → Int32) : Prop := mR M J ∧ ∀ x j, ¬ sC M x j → ¬ x = M + 49 → ¬ x = M + 50 → ¬ x = M + 51 → J x j = I x j
theorem xt_ringFits (hS : m_S M K L R) (hm : okY Y) (hg : gs M I0 I Y) {z : Int32} (ez : z.toNatClampNeg = m) (hz : 2 ≤ z ∧ z ≤ 5) (ty : tyP Y m g) (hgr : ∀ k, k < m → I (M + 48) k = g k) (hb5 : ∀ k, k < m → (0 ≤ Y 20 (g k).toNatClampNeg ∧ Y 20 (g k).toNatClampNeg ≤ 5) ∧ (0 ≤ Y 21 (g k).toNatClampNeg ∧ Y 21 (g k).toNatClampNeg ≤ 199) ∧ Y 21 (g k).toNatClampNeg + Y 10 (g 0).toNatClampNeg ≤ 200) (hP : ∀ v J, (v = 0 ∨ v = 1) → (v = 1 ↔ ∀ k, k < m → rgF Y m g k) → rqP M I J → P (some (.int v)) (n, t, K, L, J, R)) : a_does (d + 11) 254 [a_rf M, .int z] (n, t, K, L, I, R) P := by
  have hy := hm.1
  have h17 := hy.2.2.2.2.1
  have z0 : 0 ≤ z := Int32.le_trans (by decide) hz.1
  have hg30 : ∀ i, i < m → 0 ≤ g i ∧ g i < 30 := fun i hi => ⟨(ty.1 i hi).1.1, Int32.lt_of_lt_of_le (ty.1 i hi).1.2 h17.2⟩
  have hinU : ∀ p, inP (rgU g Y p) := by
    intro p
    induction p with
    | zero => exact hm.2.1.2.2.2.1
    | succ p ih => exact inP_un ih
  have hl := xt_ringFits_2 (d := d + 10) (n := n) (t := t) (P := P) hS ez hz ty h17.2 hgr (I := I) (fun J a o hR sv old => by
    have hg1 : gs M I0 J (rgU g Y m) := ⟨hR, fun x j hx => (sv.1 x j (by omega) (by omega) (by omega) (fun k _ => by omega)).trans (hg.2.1 x j hx), psE_tr (rgU_p hg.2.2 m hg30) (sv_ps sv)⟩
    have hf := xt_ringFits_101 (d := d) (n := n) (t := t) (P := P) hS hm hg ez hz ty hgr hb5 (fun J u i o hu hh hR rf old => by
      have hb := xt_ringFits_195 (d := d + 10) (n := n) (t := t) (P := P) hS ez hz ty h17.2 hgr hu (fun J hR rf => hP u J hu hh ⟨hR, fun x j a1 a2 a3 a4 => rf x j a1 a2 a3 a4 (fun k k1 k2 => by omega)⟩) 0 (by decide) J o none (by decide) z0 hR rf old
      clear hP
      simp only [q254_193, q254_194, as_nil, as_i, as_r, Nat.reduceAdd, Nat.reduceLeDiff, z_eq0, z_eq1, z_or, z_em, Classical.not_not, not_false_eq_true, not_true_eq_false, true_and, and_true, false_and, and_false, and_self, true_implies, false_implies, implies_true, Option.toList_some, Option.toList_none, List.cons_append, List.nil_append, Nat.add_eq_zero_iff, a_nl_i, a_nl_r, a_nl_n, true_or, or_true, eq_self, ok_4, ok_5, ok_6, ok_7, ok_9, ok_10, ok_20, ok_21, ok_24, ok_30, ok_48, ok_50, ok_60, ok_80, ok_120, ok_180, ok_192, ok_200, ok_900, ok_1000, ok_84000]
      exact hb) 0 (by decide) J 1 o (by decide) z0 (Or.inr rfl) (fun e => absurd e (by decide)) (fun _ => ⟨hg1, hinU m, fun k hk => absurd hk (Nat.not_lt_zero k)⟩) hR (sv_rf sv) old
    clear hP sv old hg1
    simp only [q254_97, q254_98, q254_99, q254_100, as_nil, as_i, as_r, Nat.reduceAdd, Nat.reduceLeDiff, z_eq0, z_eq1, z_or, z_em, Classical.not_not, not_false_eq_true, not_true_eq_false, true_and, and_true, false_and, and_false, and_self, true_implies, false_implies, implies_true, Option.toList_some, Option.toList_none, List.cons_append, List.nil_append, Nat.add_eq_zero_iff, a_nl_i, a_nl_r, a_nl_n, true_or, or_true, eq_self, ok_4, ok_5, ok_6, ok_7, ok_9, ok_10, ok_20, ok_21, ok_24, ok_30, ok_48, ok_50, ok_60, ok_80, ok_120, ok_180, ok_192, ok_200, ok_900, ok_1000, ok_84000]
    exact hf) 0 (by decide) I none none (by decide) z0 hg.1 ⟨fun _ _ _ _ _ _ => rfl, fun k hk => absurd hk (Nat.not_lt_zero k)⟩ (fun k hk => absurd hk (Nat.not_lt_zero k))
  clear hP
  rw [a_enter1 (M := a_m254) rfl (a_cat_rf (a_cat_int a_cat_nil)) (show 2 ≤ 6 by decide)]
  show a_at _ (a_xm a_m254) 0 [some (a_rf M), some (.int z), none, none, none, none] [] _ _
  simp only [q254_0, q254_1, as_nil, as_i, as_r, Nat.reduceAdd, Nat.reduceLeDiff, z_eq0, z_eq1, z_or, z_em, Classical.not_not, not_false_eq_true, not_true_eq_false, true_and, and_true, false_and, and_false, and_self, true_implies, false_implies, implies_true, Option.toList_some, Option.toList_none, List.cons_append, List.nil_append, Nat.add_eq_zero_iff, a_nl_i, a_nl_r, a_nl_n, true_or, or_true, eq_self, ok_4, ok_5, ok_6, ok_7, ok_9, ok_10, ok_20, ok_21, ok_24, ok_30, ok_48, ok_50, ok_60, ok_80, ok_120, ok_180, ok_192, ok_200, ok_900, ok_1000, ok_84000]
  exact hl
end ZEE
/-! the class: which wishes are sound -/
section ZW0
variable {d n t C c : Nat} {K L : Nat → Nat} {I I0 J J0 J1 J2 : Nat → Nat → Int32} {R : Nat → Nat → Nat} {P : Option Value → AH → Prop}
variable {Y Z W : Nat → Nat → Int32} {m : Nat} {g : Nat → Int32}
/-- has a place that isn't begun -/
def mvY (Y : Nat → Nat → Int32) (o : Int32) : Prop := 0 ≤ Y 20 o.toNatClampNeg ∧ ¬ Y 21 o.toNatClampNeg * 8 < Y 0 0
/-- a wish that could come true as far as others don't count -/
def swP (Y : Nat → Nat → Int32) (i o : Int32) : Prop := ¬ Y 47 (30 * i.toNatClampNeg + o.toNatClampNeg) = 0 ∧ mvY Y o ∧ Y 10 o.toNatClampNeg = Y 10 i.toNatClampNeg ∧ suB Y i (Y 20 o.toNatClampNeg) (Y 21 o.toNatClampNeg) = true
theorem ft_su {a b s : Int32} : ∀ (k : Nat) (x : Int32), ftI Y a b s k x = 0 → suI Y a b s k x = true := by
  intro k
  induction k with
  | zero => intro x _; rfl
  | succ k ih =>
    intro x h
    have g0 := brY_rng (Y := Y) (x := a) (b := b) (s := s + x) (f := s)
    have hb := br_0 (Y := Y) (a := a) (b := b) (s := s + x) (f := s)
    unfold ftI at h
    unfold suI
    by_cases c : 0 < brY Y a b (s + x) s
    · rw [if_pos c] at h
      rw [h] at c
      exact absurd c (by decide)
    · rw [if_neg c] at h
      obtain ⟨c1, c2, c3, c4, c5, c6⟩ := hb.mp (by clear hb ih h; grind)
      rw [if_pos ⟨c1, c3, c6⟩]
      exact ih _ h
theorem rgA_su (r : rgA Y m g) {k : Nat} (hk : k < m) : suB Y (g k) (Y 20 (g (nxN m k)).toNatClampNeg) (Y 21 (g (nxN m k)).toNatClampNeg) = true := by
  have h := r.2 k hk
  have sW : ssE Y (rgP g m Y (rgU g Y m) k) := ss_tr (rgU_s m) (rgP_s _)
  unfold rgF ftY at h
  have h2 := ft_su _ _ h
  rw [← suB_b (ss_b sW)]
  exact h2
theorem ce_isIn {a b : Int32} {h : AH} (hb : 0 ≤ b ∧ b < 30) (hP : P (some (.int (if bq a b.toNatClampNeg = true then 1 else 0))) h) : a_does (d + 1) 130 [.int a, .int b] h P := by
  have w : b.toNatClampNeg < 30 := cl_lt hb.1 hb.2
  have e := bq_vi hb.1 (by omega) a
  rw [a_enter1 (M := a_m130) rfl (a_cat_int (a_cat_int a_cat_nil)) (show 2 ≤ 2 by decide)]
  show a_at _ (a_xm a_m130) 0 [some (.int a), some (.int b)] [] _ _
  by_cases c : bq a b.toNatClampNeg = true
  · rw [if_pos c] at e hP
    simp only [q130_0, q130_1, q130_4, q130_5, q130_7, q130_10, q130_11, q130_12, q130_13, q130_14, q130_15, q130_18, q130_19, q130_22, q130_23, as_nil, as_i, as_r, Nat.reduceAdd, Nat.reduceLeDiff, z_eq0, z_eq1, z_or, z_em, Classical.not_not, not_false_eq_true, not_true_eq_false, true_and, and_true, false_and, and_false, and_self, true_implies, false_implies, implies_true, Option.toList_some, Option.toList_none, List.cons_append, List.nil_append, Nat.add_eq_zero_iff, a_nl_i, a_nl_r, a_nl_n, true_or, or_true, eq_self, a_isRA_22, a_isRA_24, a_isRA_32, a_isA_20, ok_4, ok_5, ok_6, ok_7, ok_9, ok_20, ok_21, ok_30, ok_50, ok_180, ok_192, ok_200, e]
    try simp only [true_and, and_true, true_implies, false_implies, implies_true, not_true_eq_false, not_false_eq_true]
    grind
  · rw [if_neg c] at e hP
    simp only [q130_0, q130_1, q130_4, q130_5, q130_7, q130_10, q130_11, q130_12, q130_13, q130_14, q130_15, q130_18, q130_19, q130_22, q130_23, as_nil, as_i, as_r, Nat.reduceAdd, Nat.reduceLeDiff, z_eq0, z_eq1, z_or, z_em, Classical.not_not, not_false_eq_true, not_true_eq_false, true_and, and_true, false_and, and_false, and_self, true_implies, false_implies, implies_true, Option.toList_some, Option.toList_none, List.cons_append, List.nil_append, Nat.add_eq_zero_iff, a_nl_i, a_nl_r, a_nl_n, true_or, or_true, eq_self, a_isRA_22, a_isRA_24, a_isRA_32, a_isA_20, ok_4, ok_5, ok_6, ok_7, ok_9, ok_20, ok_21, ok_30, ok_50, ok_180, ok_192, ok_200, e]
    try simp only [true_and, and_true, true_implies, false_implies, implies_true, not_true_eq_false, not_false_eq_true]
    grind
theorem le_soundWishes_31 (hT0 : cT C K L I R) (hc : cpP C K L I R Y) (hw : ∀ a o : Nat, a < 30 → o < 30 → (bq (I (C + 36) a) o = true ↔ ¬ Y 47 (30 * a + o) = 0)) {q : Int32} (hq : 0 ≤ q ∧ q < Y 0 17) (hP : ∀ w J, dC C K L R I J → (∀ k, k < 32 → (bq w k = true ↔ k < (Y 0 17).toNatClampNeg ∧ swP Y q (Int32.ofNat k))) → P (some (.int w)) (n, t, K, L, J, R)) : ∀ i : Int32, i ≤ 30 → ∀ J w u, dC C K L R I J → 0 ≤ i → i ≤ Y 0 17 → (∀ k, k < 32 → (bq w k = true ↔ k < i.toNatClampNeg ∧ swP Y q (Int32.ofNat k))) → a_at (d + 5) (a_xm a_m151) 31 [some (a_rf (C + 35)), some (.int q), some (a_rf (R (C + 15) q.toNatClampNeg)), some (.int w), some (.int i), u] [] (n, t, K, L, J, R) P := by
  have hy := hc.2.2.2.2
  have y17 := hy.2.2.2.2.1
  refine up_ind 30 (fun i hk ih => ?_)
  intro J w u hJ h0 h1 hw2
  have hT := hJ.1
  have hS := hT.s
  have gA := hT.g_asksR
  have gB := hT.g_benchesR
  have gX := hT.g_textsR
  have hcJ := cpP_C hT0 hc hJ
  have apq := aa_of hcJ hq.1 hq.2
  obtain ⟨-, ⟨haq, aq0, -⟩, -, alq⟩ := id apq
  have e4 : J (C + 14) 4 = Y 0 17 := hcJ.2.2.1.1
  have e36 : J (C + 36) q.toNatClampNeg = I (C + 36) q.toNatClampNeg := hJ.2 _ _ (by omega) (by omega)
  have e16 : J (C + 1) 6 = Y 0 0 := hcJ.1.1
  have q30 : 0 ≤ q ∧ q < 30 := ⟨hq.1, Int32.lt_of_lt_of_le hq.2 y17.2⟩
  have qn : q.toNatClampNeg < 30 := cl_lt q30.1 q30.2
  have e2 : J (R (C + 15) q.toNatClampNeg) 2 = Y 10 q.toNatClampNeg := alq.1.2.2.1
  rw [q151_31]
  by_cases c : i < Y 0 17
  · obtain ⟨t1, t2, t3, t4⟩ := lp_st h0 c
    have hi30 : 0 ≤ i ∧ i < 30 := ⟨h0, Int32.lt_of_lt_of_le c y17.2⟩
    have hin : i.toNatClampNeg < 30 := cl_lt h0 hi30.2
    have ei : Int32.ofNat i.toNatClampNeg = i := (on_cl h0).symm
    have hia : 0 ≤ i ∧ i < Y 0 17 ∧ i < 30 := ⟨h0, c, hi30.2⟩
    obtain ⟨-, ⟨hai, ai0, -⟩, -, ali⟩ := aa_of hcJ h0 c
    have f2 : J (R (C + 15) i.toNatClampNeg) 2 = Y 10 i.toNatClampNeg := ali.1.2.2.1
    have f13 : J (R (C + 15) i.toNatClampNeg) 13 = Y 20 i.toNatClampNeg := ali.2.2.2.1.1
    have f14 : J (R (C + 15) i.toNatClampNeg) 14 = Y 21 i.toNatClampNeg := ali.2.2.2.1.2
    have hskip : ¬ swP Y q i → ∀ J u, dC C K L R I J → a_at (d + 5) (a_xm a_m151) 125 [some (a_rf (C + 35)), some (.int q), some (a_rf (R (C + 15) q.toNatClampNeg)), some (.int w), some (.int i), u] [] (n, t, K, L, J, R) P := fun hn J u hJ => by
      have hS := hJ.1.s
      have hg := ih hi30.2 J w u hJ t2 t3 (fun k hk => by
        rw [hw2 k hk, t4]
        refine ⟨fun r => ⟨by omega, r.2⟩, fun r => ⟨?_, r.2⟩⟩
        by_cases e : k = i.toNatClampNeg
        · rw [e, ei] at r
          exact absurd r.2 hn
        · omega)
      clear ih hP hc hcJ hw2
      simp only [q151_125, q151_128, as_nil, as_i, as_r, Nat.reduceAdd, Nat.reduceLeDiff, z_eq0, z_eq1, z_or, z_em, Classical.not_not, not_false_eq_true, not_true_eq_false, true_and, and_true, false_and, and_false, and_self, true_implies, false_implies, implies_true, Option.toList_some, Option.toList_none, List.cons_append, List.nil_append, Nat.add_eq_zero_iff, a_nl_i, a_nl_r, a_nl_n, true_or, or_true, eq_self, a_isRA_22, a_isRA_24, a_isRA_32, a_isA_20, ok_4, ok_5, ok_6, ok_7, ok_9, ok_20, ok_21, ok_30, ok_50, ok_180, ok_192, ok_200]
      exact hg
    have hset : swP Y q i → ∀ J u, dC C K L R I J → a_at (d + 5) (a_xm a_m151) 118 [some (a_rf (C + 35)), some (.int q), some (a_rf (R (C + 15) q.toNatClampNeg)), some (.int w), some (.int i), u] [] (n, t, K, L, J, R) P := fun hn J u hJ => by
      have hS := hJ.1.s
      have hg := ih hi30.2 J (w ||| ((1 : Int32) <<< (i &&& 31))) u hJ t2 t3 (fun k hk => by
        have hset := bq_set (k := i.toNatClampNeg) (i := k) (by omega) hk w
        rw [ei] at hset
        rw [hset, t4, Bool.or_eq_true, hw2 k hk]
        refine ⟨fun r => ?_, fun r => ?_⟩
        · rcases r with r | r
          · exact ⟨by omega, r.2⟩
          · have r := of_decide_eq_true r
            rw [r, ei]
            exact ⟨by omega, hn⟩
        · by_cases e : k = i.toNatClampNeg
          · exact Or.inr (decide_eq_true e)
          · exact Or.inl ⟨by omega, r.2⟩)
      clear ih hP hc hcJ hw2
      simp only [q151_118, q151_119, q151_120, q151_122, q151_123, q151_124, q151_125, q151_128, as_nil, as_i, as_r, Nat.reduceAdd, Nat.reduceLeDiff, z_eq0, z_eq1, z_or, z_em, Classical.not_not, not_false_eq_true, not_true_eq_false, true_and, and_true, false_and, and_false, and_self, true_implies, false_implies, implies_true, Option.toList_some, Option.toList_none, List.cons_append, List.nil_append, Nat.add_eq_zero_iff, a_nl_i, a_nl_r, a_nl_n, true_or, or_true, eq_self, a_isRA_22, a_isRA_24, a_isRA_32, a_isA_20, ok_4, ok_5, ok_6, ok_7, ok_9, ok_20, ok_21, ok_30, ok_50, ok_180, ok_192, ok_200]
      exact hg
    have hbq := hw q.toNatClampNeg i.toNatClampNeg qn hin
    have nc : ¬ Y 0 17 ≤ i := Int32.not_le.mpr c
    simp only [q151_33, q151_34, q151_37, q151_40, q151_43, q151_44, q151_47, q151_49, q151_52, q151_54, q151_56, q151_59, q151_60, q151_63, q151_64, q151_65, q151_67, k_35 hS, z_35, r_35_0 hS, k_14 hS, z_14, r_35_1 hS, k_36 hS, l_36 hS, z_36, sp_askAt hS gA, as_nil, as_i, as_r, Nat.reduceAdd, Nat.reduceLeDiff, z_eq0, z_eq1, z_or, z_em, Classical.not_not, not_false_eq_true, not_true_eq_false, true_and, and_true, false_and, and_false, and_self, true_implies, false_implies, implies_true, Option.toList_some, Option.toList_none, List.cons_append, List.nil_append, Nat.add_eq_zero_iff, a_nl_i, a_nl_r, a_nl_n, true_or, or_true, eq_self, a_isRA_22, a_isRA_24, a_isRA_32, a_isA_20, ok_4, ok_5, ok_6, ok_7, ok_9, ok_20, ok_21, ok_30, ok_50, ok_180, ok_192, ok_200, e4, hia, hai, ai0, e36, nc, q30]
    try simp only [true_and, and_true, true_implies, false_implies, implies_true, not_true_eq_false, not_false_eq_true]
    refine ce_isIn (d := d + 4) hi30 ?_
    by_cases c1 : bq (I (C + 36) q.toNatClampNeg) i.toNatClampNeg = true
    · rw [if_pos c1]
      by_cases c2 : 0 ≤ Y 20 i.toNatClampNeg ∧ ¬ Y 21 i.toNatClampNeg * 8 < Y 0 0
      · by_cases c3 : Y 10 i.toNatClampNeg = Y 10 q.toNatClampNeg
        · have hpl := hcJ.2.1.2.2.2.1 i h0 c c2.1
          obtain ⟨⟨p21, p200, psl⟩, -⟩ := hy.2.2.2.2.2.2.1 _ hin c2.1
          have l1 := hy.2.2.1 i h0 c
          have hs : 0 ≤ Y 21 i.toNatClampNeg ∧ Y 21 i.toNatClampNeg ≤ 199 := ⟨p21, by
            have l4 := (hy.2.1 i.toNatClampNeg).2
            clear ih hP hc hcJ hw2 hskip hset hpl hy hw hbq ali alq apq
            grind⟩
          have hsu := ce_suits (d := d + 1) (n := n) (t := t) hT hcJ apq (b := Y 20 i.toNatClampNeg) (s := Y 21 i.toNatClampNeg) ⟨c2.1, hpl.1⟩ hs (P := fun r' h' => a_at (d + 5) (a_xm a_m151) 115 [some (a_rf (C + 35)), some (.int q), some (a_rf (R (C + 15) q.toNatClampNeg)), some (.int w), some (.int i), some (a_rf (R (C + 15) i.toNatClampNeg))] (r'.toList ++ []) h' P) (fun J2 j2 => by
            have hJ2 := dC_C hJ j2
            by_cases c4 : suB Y q (Y 20 i.toNatClampNeg) (Y 21 i.toNatClampNeg) = true
            · rw [if_pos c4]
              have hg := hset ⟨hbq.mp c1, c2, c3, c4⟩ J2 (some (a_rf (R (C + 15) i.toNatClampNeg))) hJ2
              clear ih hP hc hcJ hw2 hskip hset
              simp only [q151_115, as_nil, as_i, as_r, Nat.reduceAdd, Nat.reduceLeDiff, z_eq0, z_eq1, z_or, z_em, Classical.not_not, not_false_eq_true, not_true_eq_false, true_and, and_true, false_and, and_false, and_self, true_implies, false_implies, implies_true, Option.toList_some, Option.toList_none, List.cons_append, List.nil_append, Nat.add_eq_zero_iff, a_nl_i, a_nl_r, a_nl_n, true_or, or_true, eq_self, a_isRA_22, a_isRA_24, a_isRA_32, a_isA_20, ok_4, ok_5, ok_6, ok_7, ok_9, ok_20, ok_21, ok_30, ok_50, ok_180, ok_192, ok_200]
              try simp only [true_and, and_true, true_implies, false_implies, implies_true, not_true_eq_false, not_false_eq_true]
              first
                | exact hg
                | grind
            · rw [if_neg c4]
              have hg := hskip (fun q => c4 q.2.2.2) J2 (some (a_rf (R (C + 15) i.toNatClampNeg))) hJ2
              clear ih hP hc hcJ hw2 hskip hset
              simp only [q151_115, as_nil, as_i, as_r, Nat.reduceAdd, Nat.reduceLeDiff, z_eq0, z_eq1, z_or, z_em, Classical.not_not, not_false_eq_true, not_true_eq_false, true_and, and_true, false_and, and_false, and_self, true_implies, false_implies, implies_true, Option.toList_some, Option.toList_none, List.cons_append, List.nil_append, Nat.add_eq_zero_iff, a_nl_i, a_nl_r, a_nl_n, true_or, or_true, eq_self, a_isRA_22, a_isRA_24, a_isRA_32, a_isA_20, ok_4, ok_5, ok_6, ok_7, ok_9, ok_20, ok_21, ok_30, ok_50, ok_180, ok_192, ok_200]
              try simp only [true_and, and_true, true_implies, false_implies, implies_true, not_true_eq_false, not_false_eq_true]
              first
                | exact hg
                | grind)
          clear ih hP hc hcJ hw2 hskip hset
          simp only [q151_70, q151_73, q151_74, q151_77, q151_79, q151_82, q151_85, q151_87, q151_90, q151_91, q151_94, q151_97, q151_98, q151_101, q151_102, q151_104, q151_107, q151_109, q151_112, k_35 hS, z_35, r_35_0 hS, k_14 hS, z_14, sp_mayMove hS, as_nil, as_i, as_r, Nat.reduceAdd, Nat.reduceLeDiff, z_eq0, z_eq1, z_or, z_em, Classical.not_not, not_false_eq_true, not_true_eq_false, true_and, and_true, false_and, and_false, and_self, true_implies, false_implies, implies_true, Option.toList_some, Option.toList_none, List.cons_append, List.nil_append, Nat.add_eq_zero_iff, a_nl_i, a_nl_r, a_nl_n, true_or, or_true, eq_self, a_isRA_22, a_isRA_24, a_isRA_32, a_isA_20, ok_4, ok_5, ok_6, ok_7, ok_9, ok_20, ok_21, ok_30, ok_50, ok_180, ok_192, ok_200, hai, ai0, haq, aq0, f2, e2, f13, f14, e16, c3, c2.1, c2.2]
          try simp only [true_and, and_true, true_implies, false_implies, implies_true, not_true_eq_false, not_false_eq_true]
          first
            | exact hsu
            | grind
        · have hg := hskip (fun q => c3 q.2.2.1) J (some (a_rf (R (C + 15) i.toNatClampNeg))) hJ
          clear ih hP hc hcJ hw2 hskip hset
          simp only [q151_70, q151_73, q151_74, q151_77, q151_79, q151_82, q151_85, q151_87, q151_90, q151_91, q151_94, k_35 hS, z_35, r_35_0 hS, k_14 hS, z_14, sp_mayMove hS, as_nil, as_i, as_r, Nat.reduceAdd, Nat.reduceLeDiff, z_eq0, z_eq1, z_or, z_em, Classical.not_not, not_false_eq_true, not_true_eq_false, true_and, and_true, false_and, and_false, and_self, true_implies, false_implies, implies_true, Option.toList_some, Option.toList_none, List.cons_append, List.nil_append, Nat.add_eq_zero_iff, a_nl_i, a_nl_r, a_nl_n, true_or, or_true, eq_self, a_isRA_22, a_isRA_24, a_isRA_32, a_isA_20, ok_4, ok_5, ok_6, ok_7, ok_9, ok_20, ok_21, ok_30, ok_50, ok_180, ok_192, ok_200, hai, ai0, haq, aq0, f2, e2, f13, f14, e16, c3, c2.1, c2.2]
          try simp only [true_and, and_true, true_implies, false_implies, implies_true, not_true_eq_false, not_false_eq_true]
          first
            | exact hg
            | grind
      · have hg := hskip (fun q => c2 q.2.1) J (some (a_rf (R (C + 15) i.toNatClampNeg))) hJ
        clear ih hP hc hcJ hw2 hskip hset
        simp only [q151_70, q151_73, q151_74, q151_77, q151_79, q151_82, k_35 hS, z_35, r_35_0 hS, k_14 hS, z_14, sp_mayMove hS, as_nil, as_i, as_r, Nat.reduceAdd, Nat.reduceLeDiff, z_eq0, z_eq1, z_or, z_em, Classical.not_not, not_false_eq_true, not_true_eq_false, true_and, and_true, false_and, and_false, and_self, true_implies, false_implies, implies_true, Option.toList_some, Option.toList_none, List.cons_append, List.nil_append, Nat.add_eq_zero_iff, a_nl_i, a_nl_r, a_nl_n, true_or, or_true, eq_self, a_isRA_22, a_isRA_24, a_isRA_32, a_isA_20, ok_4, ok_5, ok_6, ok_7, ok_9, ok_20, ok_21, ok_30, ok_50, ok_180, ok_192, ok_200, hai, ai0, haq, aq0, f13, f14, e16, c2]
        try simp only [true_and, and_true, true_implies, false_implies, implies_true, not_true_eq_false, not_false_eq_true]
        first
          | exact hg
          | grind
    · rw [if_neg c1]
      have hg := hskip (fun q => c1 (hbq.mpr q.1)) J (some (a_rf (R (C + 15) i.toNatClampNeg))) hJ
      clear ih hP hc hcJ hw2 hskip hset
      simp only [q151_70, as_nil, as_i, as_r, Nat.reduceAdd, Nat.reduceLeDiff, z_eq0, z_eq1, z_or, z_em, Classical.not_not, not_false_eq_true, not_true_eq_false, true_and, and_true, false_and, and_false, and_self, true_implies, false_implies, implies_true, Option.toList_some, Option.toList_none, List.cons_append, List.nil_append, Nat.add_eq_zero_iff, a_nl_i, a_nl_r, a_nl_n, true_or, or_true, eq_self, a_isRA_22, a_isRA_24, a_isRA_32, a_isA_20, ok_4, ok_5, ok_6, ok_7, ok_9, ok_20, ok_21, ok_30, ok_50, ok_180, ok_192, ok_200]
      try simp only [true_and, and_true, true_implies, false_implies, implies_true, not_true_eq_false, not_false_eq_true]
      first
        | exact hg
        | grind
  · have e := (lp_end h1 c).2
    have hp := hP w J hJ (by rw [e] at hw2; exact hw2)
    have c' : Y 0 17 ≤ i := Int32.not_lt.mp c
    clear ih hP hc hcJ hw2
    simp only [q151_33, q151_34, q151_37, q151_40, q151_131, q151_132, k_35 hS, z_35, r_35_0 hS, k_14 hS, z_14, as_nil, as_i, as_r, Nat.reduceAdd, Nat.reduceLeDiff, z_eq0, z_eq1, z_or, z_em, Classical.not_not, not_false_eq_true, not_true_eq_false, true_and, and_true, false_and, and_false, and_self, true_implies, false_implies, implies_true, Option.toList_some, Option.toList_none, List.cons_append, List.nil_append, Nat.add_eq_zero_iff, a_nl_i, a_nl_r, a_nl_n, true_or, or_true, eq_self, a_isRA_22, a_isRA_24, a_isRA_32, a_isA_20, ok_4, ok_5, ok_6, ok_7, ok_9, ok_20, ok_21, ok_30, ok_50, ok_180, ok_192, ok_200, e4, c']
    try simp only [true_and, and_true, true_implies, false_implies, implies_true, not_true_eq_false, not_false_eq_true]
    first
      | exact hp
      | grind
theorem ce_soundWishes (hT : cT C K L I R) (hc : cpP C K L I R Y) (hw : ∀ a o : Nat, a < 30 → o < 30 → (bq (I (C + 36) a) o = true ↔ ¬ Y 47 (30 * a + o) = 0)) {q : Int32} (hq : 0 ≤ q ∧ q < Y 0 17) (hP : ∀ w J, dC C K L R I J → (mvY Y q → ∀ k, k < 32 → (bq w k = true ↔ k < (Y 0 17).toNatClampNeg ∧ swP Y q (Int32.ofNat k))) → (¬ mvY Y q → w = 0) → P (some (.int w)) (n, t, K, L, J, R)) : a_does (d + 6) 151 [a_rf (C + 35), .int q] (n, t, K, L, I, R) P := by
  have hS := hT.s
  have gA := hT.g_asksR
  have gB := hT.g_benchesR
  have gX := hT.g_textsR
  have y17 := hc.2.2.2.2.2.2.2.2.1
  obtain ⟨-, ⟨haq, aq0, -⟩, -, alq⟩ := aa_of hc hq.1 hq.2
  have e4 : I (C + 14) 4 = Y 0 17 := hc.2.2.1.1
  have e16 : I (C + 1) 6 = Y 0 0 := hc.1.1
  have f13 : I (R (C + 15) q.toNatClampNeg) 13 = Y 20 q.toNatClampNeg := alq.2.2.2.1.1
  have f14 : I (R (C + 15) q.toNatClampNeg) 14 = Y 21 q.toNatClampNeg := alq.2.2.2.1.2
  have hia : 0 ≤ q ∧ q < Y 0 17 ∧ q < 30 := ⟨hq.1, hq.2, Int32.lt_of_lt_of_le hq.2 y17.2⟩
  by_cases c : 0 ≤ Y 20 q.toNatClampNeg ∧ ¬ Y 21 q.toNatClampNeg * 8 < Y 0 0
  · have hl := fun u => le_soundWishes_31 (d := d) (n := n) (t := t) (P := P) hT hc hw hq (fun w J j h => hP w J j (fun _ => h) (fun h => absurd c h)) 0 (by decide) I 0 u (dC_refl hT) (by decide) y17.1 (fun k hk => by
      rw [bq_0, show (0 : Int32).toNatClampNeg = 0 from rfl]
      exact ⟨fun q => absurd q Bool.false_ne_true, fun q => absurd q.1 (Nat.not_lt_zero k)⟩)
    clear hP hc
    rw [a_enter1 (M := a_m151) rfl (a_cat_rf (a_cat_int a_cat_nil)) (show 2 ≤ 6 by decide)]
    show a_at _ (a_xm a_m151) 0 [some (a_rf (C + 35)), some (.int q), none, none, none, none] [] _ _
    simp only [q151_0, q151_1, q151_4, q151_5, q151_8, q151_9, q151_10, q151_13, q151_14, q151_17, q151_18, q151_21, q151_24, q151_25, q151_26, q151_27, q151_28, q151_29, k_35 hS, z_35, r_35_0 hS, k_14 hS, z_14, sp_askAt hS gA, sp_mayMove hS, as_nil, as_i, as_r, Nat.reduceAdd, Nat.reduceLeDiff, z_eq0, z_eq1, z_or, z_em, Classical.not_not, not_false_eq_true, not_true_eq_false, true_and, and_true, false_and, and_false, and_self, true_implies, false_implies, implies_true, Option.toList_some, Option.toList_none, List.cons_append, List.nil_append, Nat.add_eq_zero_iff, a_nl_i, a_nl_r, a_nl_n, true_or, or_true, eq_self, a_isRA_22, a_isRA_24, a_isRA_32, a_isA_20, ok_4, ok_5, ok_6, ok_7, ok_9, ok_20, ok_21, ok_30, ok_50, ok_180, ok_192, ok_200, e4, hia, haq, aq0, f13, f14, e16, c.1, c.2]
    try simp only [true_and, and_true, true_implies, false_implies, implies_true, not_true_eq_false, not_false_eq_true]
    first
      | exact hl _
      | grind
  · have hp := hP 0 I (dC_refl hT) (fun h => absurd h c) (fun _ => rfl)
    clear hP hc
    rw [a_enter1 (M := a_m151) rfl (a_cat_rf (a_cat_int a_cat_nil)) (show 2 ≤ 6 by decide)]
    show a_at _ (a_xm a_m151) 0 [some (a_rf (C + 35)), some (.int q), none, none, none, none] [] _ _
    simp only [q151_0, q151_1, q151_4, q151_5, q151_8, q151_9, q151_10, q151_13, q151_14, q151_17, q151_18, q151_21, q151_24, q151_25, k_35 hS, z_35, r_35_0 hS, k_14 hS, z_14, sp_askAt hS gA, sp_mayMove hS, as_nil, as_i, as_r, Nat.reduceAdd, Nat.reduceLeDiff, z_eq0, z_eq1, z_or, z_em, Classical.not_not, not_false_eq_true, not_true_eq_false, true_and, and_true, false_and, and_false, and_self, true_implies, false_implies, implies_true, Option.toList_some, Option.toList_none, List.cons_append, List.nil_append, Nat.add_eq_zero_iff, a_nl_i, a_nl_r, a_nl_n, true_or, or_true, eq_self, a_isRA_22, a_isRA_24, a_isRA_32, a_isA_20, ok_4, ok_5, ok_6, ok_7, ok_9, ok_20, ok_21, ok_30, ok_50, ok_180, ok_192, ok_200, e4, hia, haq, aq0, f13, f14, e16, c]
    try simp only [true_and, and_true, true_implies, false_implies, implies_true, not_true_eq_false, not_false_eq_true]
    first
      | exact hp
      | grind
theorem le_isNewGroup_2 (hT : cT C K L I R) (hc : cpP C K L I R Y) {z a : Int32} (ha : 0 ≤ a ∧ a ≤ 5) (hg : ∀ k, k < a.toNatClampNeg → (0 ≤ g k ∧ g k < Y 0 17) ∧ R (C + 38) k = R (C + 15) (g k).toNatClampNeg) {v : Int32} (hv : v = 0 ∨ v = 1) (hvv : v = 0 ↔ ∃ k, k < a.toNatClampNeg ∧ Y 8 (g k).toNatClampNeg = z) (hP : P (some (.int v)) (n, t, K, L, I, R)) : ∀ i : Int32, i ≤ 5 → 0 ≤ i → i ≤ a → (∀ k, k < i.toNatClampNeg → ¬ Y 8 (g k).toNatClampNeg = z) → a_at d (a_xm a_m156) 2 [some (a_rf (C + 35)), some (.int z), some (.int a), some (.int i)] [] (n, t, K, L, I, R) P := by
  have hS := hT.s
  refine up_ind 5 (fun i hk ih => ?_)
  intro h0 h1 hn
  rw [q156_2]
  by_cases c : i < a
  · obtain ⟨t1, t2, t3, t4⟩ := lp_st h0 c
    have hi : 0 ≤ i ∧ i < 5 := ⟨h0, Int32.lt_of_lt_of_le c ha.2⟩
    obtain ⟨⟨g0, g1⟩, er⟩ := hg i.toNatClampNeg (cl_lt h0 c)
    obtain ⟨-, ⟨hai, ai0, -⟩, -, ali⟩ := aa_of hc g0 g1
    have f0 : I (R (C + 15) (g i.toNatClampNeg).toNatClampNeg) 0 = Y 8 (g i.toNatClampNeg).toNatClampNeg := ali.1.1
    have nc : ¬ a ≤ i := Int32.not_le.mpr c
    by_cases c2 : Y 8 (g i.toNatClampNeg).toNatClampNeg = z
    · have ev : v = 0 := hvv.mpr ⟨_, cl_lt h0 c, c2⟩
      rw [ev] at hP
      clear ih hc hg hvv hn
      simp only [q156_3, q156_4, q156_7, q156_8, q156_11, q156_12, q156_13, q156_16, q156_17, q156_20, q156_21, k_35 hS, z_35, r_35_3 hS, k_38 hS, l_38 hS, z_38, as_nil, as_i, as_r, Nat.reduceAdd, Nat.reduceLeDiff, z_eq0, z_eq1, z_or, z_em, Classical.not_not, not_false_eq_true, not_true_eq_false, true_and, and_true, false_and, and_false, and_self, true_implies, false_implies, implies_true, Option.toList_some, Option.toList_none, List.cons_append, List.nil_append, Nat.add_eq_zero_iff, a_nl_i, a_nl_r, a_nl_n, true_or, or_true, eq_self, a_isRA_22, a_isRA_24, a_isRA_32, a_isA_20, ok_4, ok_5, ok_6, ok_7, ok_9, ok_20, ok_21, ok_30, ok_50, ok_180, ok_192, ok_200, er, hai, ai0, f0, c2, nc, hi]
      try simp only [true_and, and_true, true_implies, false_implies, implies_true, not_true_eq_false, not_false_eq_true]
      first
        | exact hP
        | exact ⟨by decide, hP⟩
        | grind
    · have hgo := ih hi.2 t2 t3 (fun k hk => by
        rw [t4] at hk
        by_cases e : k = i.toNatClampNeg
        · rw [e]; exact c2
        · exact hn k (by omega))
      clear ih hc hg hvv hn hP
      simp only [q156_3, q156_4, q156_7, q156_8, q156_11, q156_12, q156_13, q156_16, q156_17, q156_20, q156_21, q156_22, q156_25, k_35 hS, z_35, r_35_3 hS, k_38 hS, l_38 hS, z_38, as_nil, as_i, as_r, Nat.reduceAdd, Nat.reduceLeDiff, z_eq0, z_eq1, z_or, z_em, Classical.not_not, not_false_eq_true, not_true_eq_false, true_and, and_true, false_and, and_false, and_self, true_implies, false_implies, implies_true, Option.toList_some, Option.toList_none, List.cons_append, List.nil_append, Nat.add_eq_zero_iff, a_nl_i, a_nl_r, a_nl_n, true_or, or_true, eq_self, a_isRA_22, a_isRA_24, a_isRA_32, a_isA_20, ok_4, ok_5, ok_6, ok_7, ok_9, ok_20, ok_21, ok_30, ok_50, ok_180, ok_192, ok_200, er, hai, ai0, f0, c2, nc, hi]
      try simp only [true_and, and_true, true_implies, false_implies, implies_true, not_true_eq_false, not_false_eq_true]
      first
        | exact hgo
        | grind
  · have e := (lp_end h1 c).2
    have ev : v = 1 := hv.resolve_left (fun q => by
      obtain ⟨k, k1, k2⟩ := hvv.mp q
      exact hn k (by rw [e]; exact k1) k2)
    rw [ev] at hP
    have c' : a ≤ i := Int32.not_lt.mp c
    clear ih hc hg hvv hn
    simp only [q156_3, q156_4, q156_28, q156_29, as_nil, as_i, as_r, Nat.reduceAdd, Nat.reduceLeDiff, z_eq0, z_eq1, z_or, z_em, Classical.not_not, not_false_eq_true, not_true_eq_false, true_and, and_true, false_and, and_false, and_self, true_implies, false_implies, implies_true, Option.toList_some, Option.toList_none, List.cons_append, List.nil_append, Nat.add_eq_zero_iff, a_nl_i, a_nl_r, a_nl_n, true_or, or_true, eq_self, a_isRA_22, a_isRA_24, a_isRA_32, a_isA_20, ok_4, ok_5, ok_6, ok_7, ok_9, ok_20, ok_21, ok_30, ok_50, ok_180, ok_192, ok_200, c']
    try simp only [true_and, and_true, true_implies, false_implies, implies_true, not_true_eq_false, not_false_eq_true]
    first
      | exact hP
      | exact ⟨by decide, hP⟩
      | grind
theorem ce_isNewGroup (hT : cT C K L I R) (hc : cpP C K L I R Y) {z a : Int32} (ha : 0 ≤ a ∧ a ≤ 5) (hg : ∀ k, k < a.toNatClampNeg → (0 ≤ g k ∧ g k < Y 0 17) ∧ R (C + 38) k = R (C + 15) (g k).toNatClampNeg) (hP : ∀ v : Int32, (v = 0 ∨ v = 1) → (v = 0 ↔ ∃ k, k < a.toNatClampNeg ∧ Y 8 (g k).toNatClampNeg = z) → P (some (.int v)) (n, t, K, L, I, R)) : a_does (d + 1) 156 [a_rf (C + 35), .int z, .int a] (n, t, K, L, I, R) P := by
  have hS := hT.s
  have hl : a_at d (a_xm a_m156) 2 [some (a_rf (C + 35)), some (.int z), some (.int a), some (.int 0)] [] (n, t, K, L, I, R) P := by
    by_cases c : ∃ k, k < a.toNatClampNeg ∧ Y 8 (g k).toNatClampNeg = z
    · exact le_isNewGroup_2 (d := d) (n := n) (t := t) (v := 0) hT hc ha hg (Or.inl rfl) ⟨fun _ => c, fun _ => rfl⟩ (hP 0 (Or.inl rfl) ⟨fun _ => c, fun _ => rfl⟩) 0 (by decide) (by decide) ha.1 (fun k hk => absurd hk (Nat.not_lt_zero k))
    · have hx : (1 : Int32) = 0 ↔ ∃ k, k < a.toNatClampNeg ∧ Y 8 (g k).toNatClampNeg = z := ⟨fun h => absurd h (by decide), fun h => absurd h c⟩
      exact le_isNewGroup_2 (d := d) (n := n) (t := t) (v := 1) hT hc ha hg (Or.inr rfl) hx (hP 1 (Or.inr rfl) hx) 0 (by decide) (by decide) ha.1 (fun k hk => absurd hk (Nat.not_lt_zero k))
  clear hP hc hg
  rw [a_enter1 (M := a_m156) rfl (a_cat_rf (a_cat_int (a_cat_int a_cat_nil))) (show 3 ≤ 4 by decide)]
  show a_at _ (a_xm a_m156) 0 [some (a_rf (C + 35)), some (.int z), some (.int a), none] [] _ _
  simp only [q156_0, q156_1, as_nil, as_i, as_r, Nat.reduceAdd, Nat.reduceLeDiff, z_eq0, z_eq1, z_or, z_em, Classical.not_not, not_false_eq_true, not_true_eq_false, true_and, and_true, false_and, and_false, and_self, true_implies, false_implies, implies_true, Option.toList_some, Option.toList_none, List.cons_append, List.nil_append, Nat.add_eq_zero_iff, a_nl_i, a_nl_r, a_nl_n, true_or, or_true, eq_self, a_isRA_22, a_isRA_24, a_isRA_32, a_isA_20, ok_4, ok_5, ok_6, ok_7, ok_9, ok_20, ok_21, ok_30, ok_50, ok_180, ok_192, ok_200]
  exact hl
end ZW0
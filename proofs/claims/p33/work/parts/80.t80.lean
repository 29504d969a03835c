/-! the class: isOpen, suits -/
section ZQ0
variable {d n t C : Nat} {K L : Nat → Nat} {I I0 J J0 J1 J2 : Nat → Nat → Int32} {R : Nat → Nat → Nat} {P : Option Value → AH → Prop}
variable {Y Z : Nat → Nat → Int32}
/-- none of the BARS that hang on what others have -/
def opI (Y : Nat → Nat → Int32) (a b s w : Int32) : Nat → Int32 → Bool
  | 0, _ => true
  | k + 1, x => if s + x ≤ 199 ∧ hgI Y a b (s + x) (Y 0 17).toNatClampNeg 0 0 = 0 ∧ ¬ bcf (fhY Y a b (s + x)) < (if (w >>> (x &&& 31)) &&& 1 = 0 then 1 else 2) then opI Y a b s w k (x + 1) else false
/-- none of the BARS that don't -/
def suI (Y : Nat → Nat → Int32) (a b s : Int32) : Nat → Int32 → Bool
  | 0, _ => true
  | k + 1, x => if fxY Y a b (s + x) = 0 ∧ ¬ 0 ≤ wtA Y 66 a b (s + x) ∧ ¬ (Y 7 a.toNatClampNeg = 2 ∧ ¬ (Y 16 a.toNatClampNeg ≤ (s + x) ∧ (s + x) ≤ Y 17 a.toNatClampNeg)) then suI Y a b s k (x + 1) else false
def opB (Y : Nat → Nat → Int32) (a b s w : Int32) : Bool := opI Y a b s w (Y 10 a.toNatClampNeg).toNatClampNeg 0
def suB (Y : Nat → Nat → Int32) (a b s : Int32) : Bool := suI Y a b s (Y 10 a.toNatClampNeg).toNatClampNeg 0
theorem br_0 {a b s f : Int32} : brY Y a b s f = 0 ↔ fxY Y a b s = 0 ∧ hgI Y a b s (Y 0 17).toNatClampNeg 0 0 = 0 ∧ ¬ 0 ≤ wtA Y 66 a b s ∧ ¬ lkH Y a b s ∧ ¬ tnY Y a f ∧ ¬ bdY Y a s := by
  unfold brY lkH tnY bdY
  by_cases c1 : fxY Y a b s = 0
  · rw [if_neg (fun q => q c1)]
    by_cases c2 : hgI Y a b s (Y 0 17).toNatClampNeg 0 0 = 0
    · rw [if_neg (fun q => q c2)]
      by_cases c3 : 0 ≤ wtA Y 66 a b s
      · rw [if_pos c3]
        exact ⟨fun q => absurd q (by decide), fun q => absurd c3 q.2.2.1⟩
      · rw [if_neg c3]
        by_cases c4 : bcf (fhY Y a b s) < (if 0 ≤ wtA Y 87 a b s then 2 else 1)
        · rw [if_pos c4]
          exact ⟨fun q => absurd q (by decide), fun q => absurd c4 q.2.2.2.1⟩
        · rw [if_neg c4]
          by_cases c5 : Y 7 a.toNatClampNeg = 1 ∧ (¬ 0 ≤ Y 20 (Y 16 a.toNatClampNeg).toNatClampNeg ∨ f - (Y 21 (Y 16 a.toNatClampNeg).toNatClampNeg + Y 10 (Y 16 a.toNatClampNeg).toNatClampNeg - 1) - 1 < Y 17 a.toNatClampNeg)
          · rw [if_pos c5]
            exact ⟨fun q => absurd q (by decide), fun q => absurd c5 q.2.2.2.2.1⟩
          · rw [if_neg c5]
            by_cases c6 : Y 7 a.toNatClampNeg = 2 ∧ ¬ (Y 16 a.toNatClampNeg ≤ s ∧ s ≤ Y 17 a.toNatClampNeg)
            · rw [if_pos c6]
              exact ⟨fun q => absurd q (by decide), fun q => absurd c6 q.2.2.2.2.2⟩
            · rw [if_neg c6]
              exact ⟨fun _ => ⟨c1, c2, c3, c4, c5, c6⟩, fun _ => rfl⟩
    · rw [if_pos c2]
      exact ⟨fun q => absurd q c2, fun q => absurd q.2.1 c2⟩
  · rw [if_pos c1]
    exact ⟨fun q => absurd q c1, fun q => absurd q.1 c1⟩
/-- FIT is what suits, is open, and isn't too near -/
theorem ft_split {a b s w : Int32} : ∀ (k : Nat) (x : Int32), 0 ≤ x → x ≤ 4 → x.toNatClampNeg + k ≤ 4 → (∀ z : Int32, 0 ≤ z → z.toNatClampNeg < x.toNatClampNeg + k → ((w >>> (z &&& 31)) &&& 1 = 0 ↔ ¬ 0 ≤ wtA Y 87 a b (s + z))) → (ftI Y a b s k x = 0 ↔ suI Y a b s k x = true ∧ (k = 0 ∨ ¬ tnY Y a s) ∧ opI Y a b s w k x = true) := by
  intro k
  induction k with
  | zero =>
    intro x _ _ _ _
    unfold ftI suI opI
    exact ⟨fun _ => ⟨rfl, Or.inl rfl, rfl⟩, fun _ => rfl⟩
  | succ k ih =>
    intro x h0 h4 hk hw
    have hx : x < 4 := cl_lt2 h0 (by decide) (by rw [show (4 : Int32).toNatClampNeg = 4 from rfl]; omega)
    obtain ⟨-, s2, s3, s4⟩ := lp_st h0 hx
    have hi := ih (x + 1) s2 s3 (by omega) (fun z z0 z1 => hw z z0 (by omega))
    have hwx := hw x h0 (by omega)
    have g0 := brY_rng (Y := Y) (x := a) (b := b) (s := s + x) (f := s)
    have hb := br_0 (Y := Y) (a := a) (b := b) (s := s + x) (f := s)
    have el : (bcf (fhY Y a b (s + x)) < (if (w >>> (x &&& 31)) &&& 1 = 0 then 1 else 2)) ↔ lkH Y a b (s + x) := by
      unfold lkH
      by_cases c : 0 ≤ wtA Y 87 a b (s + x)
      · rw [if_pos c, if_neg (fun q => hwx.mp q c)]
      · rw [if_neg c, if_pos (hwx.mpr c)]
    unfold ftI suI opI
    by_cases c : brY Y a b (s + x) s = 0
    · obtain ⟨c1, c2, c3, c4, c5, c6⟩ := hb.mp c
      rw [c, if_neg (by decide), if_pos ⟨c1, c3, c6⟩, if_pos ⟨fx_lt c1, c2, fun q => c4 (el.mp q)⟩, hi]
      exact ⟨fun q => ⟨q.1, Or.inr c5, q.2.2⟩, fun q => ⟨q.1, Or.inr c5, q.2.2⟩⟩
    · have hpos : 0 < brY Y a b (s + x) s := by
        clear hb el hi hw hwx ih
        grind
      rw [if_pos hpos]
      refine ⟨fun q => absurd q c, fun ⟨q1, q2, q3⟩ => ?_⟩
      refine absurd (hb.mpr ?_) c
      have q2 : ¬ tnY Y a s := q2.resolve_left (by omega)
      by_cases d1 : fxY Y a b (s + x) = 0 ∧ ¬ 0 ≤ wtA Y 66 a b (s + x) ∧ ¬ (Y 7 a.toNatClampNeg = 2 ∧ ¬ (Y 16 a.toNatClampNeg ≤ (s + x) ∧ (s + x) ≤ Y 17 a.toNatClampNeg))
      · by_cases d2 : s + x ≤ 199 ∧ hgI Y a b (s + x) (Y 0 17).toNatClampNeg 0 0 = 0 ∧ ¬ bcf (fhY Y a b (s + x)) < (if (w >>> (x &&& 31)) &&& 1 = 0 then 1 else 2)
        · exact ⟨d1.1, d2.2.1, d1.2.1, fun q => d2.2.2 (el.mpr q), q2, d1.2.2⟩
        · rw [if_neg d2] at q3
          exact absurd q3 Bool.false_ne_true
      · rw [if_neg d1] at q1
        exact absurd q1 Bool.false_ne_true
theorem le_isOpen_3 (hT : cT C K L I R) (hc : cpP C K L I R Y) {a : Nat} {i : Int32} (ap : aaP C K I Y i a) {b s w : Int32} (hb : 0 ≤ b ∧ b < Y 0 6) (hs : 0 ≤ s ∧ s ≤ 199) {V : Bool} (hP : P (some (.int (if V = true then 1 else 0))) (n, t, K, L, I, R)) : ∀ x : Int32, x ≤ 4 → ∀ u, 0 ≤ x → x ≤ Y 10 i.toNatClampNeg → opI Y i b s w ((Y 10 i.toNatClampNeg).toNatClampNeg - x.toNatClampNeg) x = V → a_at (d + 3) (a_xm a_m136) 3 [some (a_rf (C + 14)), some (a_rf a), some (.int b), some (.int s), some (.int w), some (.int x), u] [] (n, t, K, L, I, R) P := by
  have y10 := hc.2.2.2.2.2.1 i.toNatClampNeg
  have hy := hc.2.2.2.2
  have hS := hT.s
  obtain ⟨ai, ⟨ha, an0, a4n⟩, am, al⟩ := id ap
  obtain ⟨a1, a2, a4, a3⟩ := hT.g_ask a ha
  have a0 : (a = 0) = False := eq_false an0
  have e2 : I a 2 = Y 10 i.toNatClampNeg := al.1.2.2.1
  generalize ez : Y 10 i.toNatClampNeg = z at y10 e2
  refine up_ind 4 (fun x x4 ih => ?_)
  intro u h0 h1 hV
  have hexit : ¬ x < z → P (some (.int 1)) (n, t, K, L, I, R) := fun q => by
    rw [(lp_end h1 q).1] at hV
    rw [show V = true from hV.symm, if_pos rfl] at hP
    exact hP
  have hgo : x < z → a_at (d + 3) (a_xm a_m136) 12 [some (a_rf (C + 14)), some (a_rf a), some (.int b), some (.int s), some (.int w), some (.int x), u] [] (n, t, K, L, I, R) P := fun q => by
    obtain ⟨t1, t2, t3, t4⟩ := lp_st h0 q
    have hx4 : x < 4 := Int32.lt_of_lt_of_le q y10.2
    rw [t1] at hV
    have hno : ¬ (s + x ≤ 199 ∧ hgI Y i b (s + x) (Y 0 17).toNatClampNeg 0 0 = 0 ∧ ¬ bcf (fhY Y i b (s + x)) < (if (w >>> (x &&& 31)) &&& 1 = 0 then 1 else 2)) → P (some (.int 0)) (n, t, K, L, I, R) := fun e => by
      unfold opI at hV
      rw [if_neg e] at hV
      rw [← hV, if_neg Bool.false_ne_true] at hP
      exact hP
    have hyes : (s + x ≤ 199 ∧ hgI Y i b (s + x) (Y 0 17).toNatClampNeg 0 0 = 0 ∧ ¬ bcf (fhY Y i b (s + x)) < (if (w >>> (x &&& 31)) &&& 1 = 0 then 1 else 2)) → ∀ u, a_at (d + 3) (a_xm a_m136) 3 [some (a_rf (C + 14)), some (a_rf a), some (.int b), some (.int s), some (.int w), some (.int (x + 1)), u] [] (n, t, K, L, I, R) P := fun e u => by
      unfold opI at hV
      rw [if_pos e] at hV
      exact ih hx4 u t2 t3 hV
    clear hP hV hexit ih
    by_cases h199 : s + x ≤ 199
    · have hs2 : 0 ≤ s + x ∧ s + x < 200 := by clear hno hyes hc ap al am hy; grind
      have hg := hg_class (W := whC C I R) (a := i) (b := b) (s := s + x) hc.2.1.2.2.2 hy.2.1 hy.2.2.2.2.1.1 hy.2.2.2.2.2.1.1 hb hs2
      have n10 : ¬ (1 : Int32) = 0 := by decide
      have n67 : ¬ (6 : Int32) = 0 ∧ ¬ (7 : Int32) = 0 := by decide
      simp only [q136_12, q136_13, q136_15, q136_16, q136_18, q136_20, q136_23, q136_26, q136_27, q136_28, q136_29, q136_31, k_14 hS, z_14, sp_isShiftC, as_nil, as_i, as_r, Nat.reduceAdd, Nat.reduceLeDiff, z_eq0, z_eq1, z_or, z_em, Classical.not_not, not_false_eq_true, not_true_eq_false, true_and, and_true, false_and, and_false, and_self, true_implies, false_implies, implies_true, Option.toList_some, Option.toList_none, List.cons_append, List.nil_append, Nat.add_eq_zero_iff, a_nl_i, a_nl_r, a_nl_n, true_or, or_true, eq_self, a_isRA_22, a_isRA_24, a_isRA_32, a_isA_20, ok_4, ok_5, ok_6, ok_7, ok_9, ok_20, ok_21, ok_30, ok_50, ok_180, ok_192, ok_200, hs2]
      try simp only [true_and, and_true, true_implies, false_implies, implies_true, not_true_eq_false, not_false_eq_true]
      refine ce_isHadByOther (d := d + 1) hT hc ap hb hs2 ?_
      by_cases had : ¬ (whC C I R) b (s + x).toNatClampNeg = -9 ∧ ¬ (whC C I R) b (s + x).toNatClampNeg = i
      · rw [if_pos had] at hg ⊢
        have hn := hno (fun e => by rw [hg] at e; exact n67.1 e.2.1)
        clear hno hyes hc ap al am hy hg
        simp only [q136_34, q136_74, q136_75, as_nil, as_i, as_r, Nat.reduceAdd, Nat.reduceLeDiff, z_eq0, z_eq1, z_or, z_em, Classical.not_not, not_false_eq_true, not_true_eq_false, true_and, and_true, false_and, and_false, and_self, true_implies, false_implies, implies_true, Option.toList_some, Option.toList_none, List.cons_append, List.nil_append, Nat.add_eq_zero_iff, a_nl_i, a_nl_r, a_nl_n, true_or, or_true, eq_self, a_isRA_22, a_isRA_24, a_isRA_32, a_isA_20, ok_4, ok_5, ok_6, ok_7, ok_9, ok_20, ok_21, ok_30, ok_50, ok_180, ok_192, ok_200, n10]
        try simp only [true_and, and_true, true_implies, false_implies, implies_true, not_true_eq_false, not_false_eq_true]
        first
          | exact hn
          | grind
      · rw [if_neg had] at hg ⊢
        simp only [q136_34, q136_37, q136_38, q136_39, q136_40, q136_42, k_14 hS, z_14, as_nil, as_i, as_r, Nat.reduceAdd, Nat.reduceLeDiff, z_eq0, z_eq1, z_or, z_em, Classical.not_not, not_false_eq_true, not_true_eq_false, true_and, and_true, false_and, and_false, and_self, true_implies, false_implies, implies_true, Option.toList_some, Option.toList_none, List.cons_append, List.nil_append, Nat.add_eq_zero_iff, a_nl_i, a_nl_r, a_nl_n, true_or, or_true, eq_self, a_isRA_22, a_isRA_24, a_isRA_32, a_isA_20, ok_4, ok_5, ok_6, ok_7, ok_9, ok_20, ok_21, ok_30, ok_50, ok_180, ok_192, ok_200]
        try simp only [true_and, and_true, true_implies, false_implies, implies_true, not_true_eq_false, not_false_eq_true]
        refine ce_isGearElsewhere (d := d + 1) hT hc ap hs2 ?_
        by_cases gear : 0 ≤ Y 14 i.toNatClampNeg ∧ geC (whC C I R) (Y 14) i b (s + x) (Y 0 17) (Y 0 6).toNatClampNeg 0 = 1
        · rw [if_pos gear] at hg ⊢
          have hn := hno (fun e => by rw [hg] at e; exact n67.2 e.2.1)
          clear hno hyes hc ap al am hy hg
          simp only [q136_45, q136_74, q136_75, as_nil, as_i, as_r, Nat.reduceAdd, Nat.reduceLeDiff, z_eq0, z_eq1, z_or, z_em, Classical.not_not, not_false_eq_true, not_true_eq_false, true_and, and_true, false_and, and_false, and_self, true_implies, false_implies, implies_true, Option.toList_some, Option.toList_none, List.cons_append, List.nil_append, Nat.add_eq_zero_iff, a_nl_i, a_nl_r, a_nl_n, true_or, or_true, eq_self, a_isRA_22, a_isRA_24, a_isRA_32, a_isA_20, ok_4, ok_5, ok_6, ok_7, ok_9, ok_20, ok_21, ok_30, ok_50, ok_180, ok_192, ok_200, n10]
          try simp only [true_and, and_true, true_implies, false_implies, implies_true, not_true_eq_false, not_false_eq_true]
          first
            | exact hn
            | grind
        · rw [if_neg gear] at hg ⊢
          have hl : ∀ v : Int32, ((w >>> (x &&& 31)) &&& 1 = 0 ↔ v = 0) → a_does (d + 3) 107 [a_rf (C + 14), a_rf a, .int b, .int (s + x), .int v] (n, t, K, L, I, R) (fun r h' => a_at (d + 3) (a_xm a_m136) 71 [some (a_rf (C + 14)), some (a_rf a), some (.int b), some (.int s), some (.int w), some (.int x), some (.int (s + x))] (r.toList ++ []) h' P) := fun v hv => by
            have ev : (if v = 0 then (1 : Int32) else 2) = (if (w >>> (x &&& 31)) &&& 1 = 0 then 1 else 2) := by
              by_cases c : v = 0
              · rw [if_pos c, if_pos (hv.mpr c)]
              · rw [if_neg c, if_neg (fun q => c (hv.mp q))]
            refine ce_lacksHosts (d := d) hT hc ap hb hs2 (fun e => ?_) (fun e => ?_)
            · rw [ev] at e
              have hyy := hyes ⟨h199, hg, e⟩
              clear hno hyes hc ap al am hy hg
              simp only [q136_71, q136_76, q136_79, as_nil, as_i, as_r, Nat.reduceAdd, Nat.reduceLeDiff, z_eq0, z_eq1, z_or, z_em, Classical.not_not, not_false_eq_true, not_true_eq_false, true_and, and_true, false_and, and_false, and_self, true_implies, false_implies, implies_true, Option.toList_some, Option.toList_none, List.cons_append, List.nil_append, Nat.add_eq_zero_iff, a_nl_i, a_nl_r, a_nl_n, true_or, or_true, eq_self, a_isRA_22, a_isRA_24, a_isRA_32, a_isA_20, ok_4, ok_5, ok_6, ok_7, ok_9, ok_20, ok_21, ok_30, ok_50, ok_180, ok_192, ok_200]
              try simp only [true_and, and_true, true_implies, false_implies, implies_true, not_true_eq_false, not_false_eq_true]
              first
                | exact hyy _
                | grind
            · rw [ev] at e
              have hn := hno (fun q => q.2.2 e)
              clear hno hyes hc ap al am hy hg
              simp only [q136_71, q136_74, q136_75, as_nil, as_i, as_r, Nat.reduceAdd, Nat.reduceLeDiff, z_eq0, z_eq1, z_or, z_em, Classical.not_not, not_false_eq_true, not_true_eq_false, true_and, and_true, false_and, and_false, and_self, true_implies, false_implies, implies_true, Option.toList_some, Option.toList_none, List.cons_append, List.nil_append, Nat.add_eq_zero_iff, a_nl_i, a_nl_r, a_nl_n, true_or, or_true, eq_self, a_isRA_22, a_isRA_24, a_isRA_32, a_isA_20, ok_4, ok_5, ok_6, ok_7, ok_9, ok_20, ok_21, ok_30, ok_50, ok_180, ok_192, ok_200, n10]
              try simp only [true_and, and_true, true_implies, false_implies, implies_true, not_true_eq_false, not_false_eq_true]
              first
                | exact hn
                | grind
          clear hno hyes hc ap al am hy hg
          by_cases cw : (w >>> (x &&& 31)) &&& 1 = 0
          · have hl0 := hl 0 ⟨fun _ => rfl, fun _ => cw⟩
            simp only [q136_45, q136_48, q136_49, q136_50, q136_51, q136_53, q136_55, q136_57, q136_58, q136_59, q136_60, q136_63, q136_64, q136_67, q136_68, k_14 hS, z_14, as_nil, as_i, as_r, Nat.reduceAdd, Nat.reduceLeDiff, z_eq0, z_eq1, z_or, z_em, Classical.not_not, not_false_eq_true, not_true_eq_false, true_and, and_true, false_and, and_false, and_self, true_implies, false_implies, implies_true, Option.toList_some, Option.toList_none, List.cons_append, List.nil_append, Nat.add_eq_zero_iff, a_nl_i, a_nl_r, a_nl_n, true_or, or_true, eq_self, a_isRA_22, a_isRA_24, a_isRA_32, a_isA_20, ok_4, ok_5, ok_6, ok_7, ok_9, ok_20, ok_21, ok_30, ok_50, ok_180, ok_192, ok_200, cw]
            try simp only [true_and, and_true, true_implies, false_implies, implies_true, not_true_eq_false, not_false_eq_true]
            first
              | exact hl0
              | grind
          · have hl1 := hl 1 ⟨fun q => absurd q cw, fun q => absurd q n10⟩
            simp only [q136_45, q136_48, q136_49, q136_50, q136_51, q136_53, q136_55, q136_57, q136_58, q136_59, q136_60, q136_63, q136_64, q136_67, q136_68, k_14 hS, z_14, as_nil, as_i, as_r, Nat.reduceAdd, Nat.reduceLeDiff, z_eq0, z_eq1, z_or, z_em, Classical.not_not, not_false_eq_true, not_true_eq_false, true_and, and_true, false_and, and_false, and_self, true_implies, false_implies, implies_true, Option.toList_some, Option.toList_none, List.cons_append, List.nil_append, Nat.add_eq_zero_iff, a_nl_i, a_nl_r, a_nl_n, true_or, or_true, eq_self, a_isRA_22, a_isRA_24, a_isRA_32, a_isA_20, ok_4, ok_5, ok_6, ok_7, ok_9, ok_20, ok_21, ok_30, ok_50, ok_180, ok_192, ok_200, cw]
            try simp only [true_and, and_true, true_implies, false_implies, implies_true, not_true_eq_false, not_false_eq_true]
            first
              | exact hl1
              | grind
    · have hs2 : ¬ (0 ≤ s + x ∧ s + x < 200) := by clear hno hyes hc ap al am hy; grind
      have hn := hno (fun e => h199 e.1)
      clear hno hyes hc ap al am hy
      simp only [q136_12, q136_13, q136_15, q136_16, q136_18, q136_20, q136_23, q136_74, q136_75, sp_isShiftC, as_nil, as_i, as_r, Nat.reduceAdd, Nat.reduceLeDiff, z_eq0, z_eq1, z_or, z_em, Classical.not_not, not_false_eq_true, not_true_eq_false, true_and, and_true, false_and, and_false, and_self, true_implies, false_implies, implies_true, Option.toList_some, Option.toList_none, List.cons_append, List.nil_append, Nat.add_eq_zero_iff, a_nl_i, a_nl_r, a_nl_n, true_or, or_true, eq_self, a_isRA_22, a_isRA_24, a_isRA_32, a_isA_20, ok_4, ok_5, ok_6, ok_7, ok_9, ok_20, ok_21, ok_30, ok_50, ok_180, ok_192, ok_200, hs2]
      try simp only [true_and, and_true, true_implies, false_implies, implies_true, not_true_eq_false, not_false_eq_true]
      first
        | exact hn
        | grind
  clear ih hP hV hc ap al am hy
  rw [q136_3]
  repeat' first
    | with_reducible apply And.intro
    | with_reducible assumption
    | with_reducible intro _
    | refine hexit ?_
    | refine hgo ?_
    | simp only [q136_5, q136_6, q136_9, q136_82, q136_83, k_14 hS, z_14, as_nil, as_i, as_r, Nat.reduceAdd, Nat.reduceLeDiff, z_eq0, z_eq1, z_or, z_em, Classical.not_not, not_false_eq_true, not_true_eq_false, true_and, and_true, false_and, and_false, and_self, true_implies, false_implies, implies_true, Option.toList_some, Option.toList_none, List.cons_append, List.nil_append, Nat.add_eq_zero_iff, a_nl_i, a_nl_r, a_nl_n, true_or, or_true, eq_self, a_isRA_22, a_isRA_24, a_isRA_32, a_isA_20, ok_4, ok_5, ok_6, ok_7, ok_9, ok_20, ok_21, ok_30, ok_50, ok_180, ok_192, ok_200, ha, a0, e2]
  all_goals ((try clear hexit); (try clear hgo); (try clear hS); (try clear hT); grind [ui_ap])
theorem ce_isOpen (hT : cT C K L I R) (hc : cpP C K L I R Y) {a : Nat} {i : Int32} (ap : aaP C K I Y i a) {b s w : Int32} (hb : 0 ≤ b ∧ b < Y 0 6) (hs : 0 ≤ s ∧ s ≤ 199) (hP : P (some (.int (if opB Y i b s w = true then 1 else 0))) (n, t, K, L, I, R)) : a_does (d + 4) 136 [a_rf (C + 14), a_rf a, .int b, .int s, .int w] (n, t, K, L, I, R) P := by
  have hl := le_isOpen_3 (d := d) (n := n) (t := t) (P := P) (w := w) hT hc ap hb hs hP 0 (by decide) none (by decide) (hc.2.2.2.2.2.1 i.toNatClampNeg).1 (by rw [lp_0]; rfl)
  have hS := hT.s
  clear hP hc ap
  rw [a_enter1 (M := a_m136) rfl (a_cat_rf (a_cat_rf (a_cat_int (a_cat_int (a_cat_int a_cat_nil))))) (show 5 ≤ 7 by decide)]
  show a_at _ (a_xm a_m136) 0 [some (a_rf (C + 14)), some (a_rf a), some (.int b), some (.int s), some (.int w), none, none] [] _ _
  simp only [q136_0, q136_1, as_nil, as_i, as_r, Nat.reduceAdd, Nat.reduceLeDiff, z_eq0, z_eq1, z_or, z_em, Classical.not_not, not_false_eq_true, not_true_eq_false, true_and, and_true, false_and, and_false, and_self, true_implies, false_implies, implies_true, Option.toList_some, Option.toList_none, List.cons_append, List.nil_append, Nat.add_eq_zero_iff, a_nl_i, a_nl_r, a_nl_n, true_or, or_true, eq_self, a_isRA_22, a_isRA_24, a_isRA_32, a_isA_20, ok_4, ok_5, ok_6, ok_7, ok_9, ok_20, ok_21, ok_30, ok_50, ok_180, ok_192, ok_200]
  exact hl
theorem le_suits_3 (hT0 : cT C K L I R) (hc : cpP C K L I R Y) {a : Nat} {i : Int32} (ap : aaP C K I Y i a) {b s : Int32} (hb : 0 ≤ b ∧ b < Y 0 6) (hs : 0 ≤ s ∧ s ≤ 199) {V : Bool} (hP : ∀ J, dC C K L R I J → P (some (.int (if V = true then 1 else 0))) (n, t, K, L, J, R)) : ∀ x : Int32, x ≤ 4 → ∀ J y, dC C K L R I J → y = s + x → 0 ≤ x → x ≤ Y 10 i.toNatClampNeg → suI Y i b s ((Y 10 i.toNatClampNeg).toNatClampNeg - x.toNatClampNeg) x = V → a_at (d + 3) (a_xm a_m135) 3 [some (a_rf (C + 14)), some (a_rf a), some (.int b), some (.int s), some (.int y)] [] (n, t, K, L, J, R) P := by
  have y10 := hc.2.2.2.2.2.1 i.toNatClampNeg
  have y41 := hc.2.2.2.2.1
  refine up_ind 4 (fun x x4 ih => ?_)
  intro J y hJ ey h0 h1 hV
  have hT := hJ.1
  have hcJ := cpP_C hT0 hc hJ
  have apJ := aaP_C hT0 ap hJ
  have hS := hT.s
  obtain ⟨ai, ⟨ha, an0, a4n⟩, am, al⟩ := id apJ
  have a0 : (a = 0) = False := eq_false an0
  have e2 : J a 2 = Y 10 i.toNatClampNeg := al.1.2.2.1
  generalize ez : Y 10 i.toNatClampNeg = z at y10 h1 hV ih e2
  have hexit : ¬ y < s + z → P (some (.int 1)) (n, t, K, L, J, R) := fun q => by
    have q' : ¬ x < z := fun w => q (by rw [ey]; clear ih hP hV; grind)
    rw [(lp_end h1 q').1] at hV
    have hp := hP J hJ
    rw [show V = true from hV.symm, if_pos rfl] at hp
    exact hp
  have hgo : y < s + z → a_at (d + 3) (a_xm a_m135) 14 [some (a_rf (C + 14)), some (a_rf a), some (.int b), some (.int s), some (.int y)] [] (n, t, K, L, J, R) P := fun q => by
    have q' : x < z := by rw [ey] at q; clear ih hP hV hexit; grind
    obtain ⟨t1, t2, t3, t4⟩ := lp_st h0 q'
    have hx4 : x < 4 := Int32.lt_of_lt_of_le q' y10.2
    rw [t1] at hV
    have hno : ¬ (fxY Y i b (s + x) = 0 ∧ ¬ 0 ≤ wtA Y 66 i b (s + x) ∧ ¬ (Y 7 i.toNatClampNeg = 2 ∧ ¬ (Y 16 i.toNatClampNeg ≤ (s + x) ∧ (s + x) ≤ Y 17 i.toNatClampNeg))) → ∀ J, dC C K L R I J → P (some (.int 0)) (n, t, K, L, J, R) := fun e J hJ => by
      unfold suI at hV
      rw [if_neg e] at hV
      have hp := hP J hJ
      rw [← hV, if_neg Bool.false_ne_true] at hp
      exact hp
    have hyes : (fxY Y i b (s + x) = 0 ∧ ¬ 0 ≤ wtA Y 66 i b (s + x) ∧ ¬ (Y 7 i.toNatClampNeg = 2 ∧ ¬ (Y 16 i.toNatClampNeg ≤ (s + x) ∧ (s + x) ≤ Y 17 i.toNatClampNeg))) → ∀ J, dC C K L R I J → a_at (d + 3) (a_xm a_m135) 3 [some (a_rf (C + 14)), some (a_rf a), some (.int b), some (.int s), some (.int (s + x + 1))] [] (n, t, K, L, J, R) P := fun e J hJ => by
      unfold suI at hV
      rw [if_pos e] at hV
      exact ih hx4 J _ hJ (by rw [Int32.add_assoc]) t2 t3 hV
    have hs0 : 0 ≤ s + x := by clear ih hP hV hexit hno hyes; grind
    clear hP hV hexit ih
    subst ey
    simp only [q135_14, q135_15, q135_16, q135_17, q135_19, k_14 hS, z_14, as_nil, as_i, as_r, Nat.reduceAdd, Nat.reduceLeDiff, z_eq0, z_eq1, z_or, z_em, Classical.not_not, not_false_eq_true, not_true_eq_false, true_and, and_true, false_and, and_false, and_self, true_implies, false_implies, implies_true, Option.toList_some, Option.toList_none, List.cons_append, List.nil_append, Nat.add_eq_zero_iff, a_nl_i, a_nl_r, a_nl_n, true_or, or_true, eq_self, a_isRA_22, a_isRA_24, a_isRA_32, a_isA_20, ok_4, ok_5, ok_6, ok_7, ok_9, ok_20, ok_21, ok_30, ok_50, ok_180, ok_192, ok_200]
    try simp only [true_and, and_true, true_implies, false_implies, implies_true, not_true_eq_false, not_false_eq_true]
    refine ce_fixedBar (d := d + 1) hT hcJ apJ hb hs0 (fun v hv => ?_)
    have n10 : ¬ (1 : Int32) = 0 := by decide
    by_cases c1 : v = 0
    · have f0 : fxY Y i b (s + x) = 0 := by rw [← hv]; exact c1
      have s199 : 0 ≤ s + x ∧ s + x ≤ 199 := ⟨hs0, fx_lt f0⟩
      rw [c1]
      simp only [q135_22, q135_25, q135_26, q135_29, q135_31, q135_32, q135_33, q135_35, k_14 hS, z_14, r_14_1 hS, k_7 hS, z_7, as_nil, as_i, as_r, Nat.reduceAdd, Nat.reduceLeDiff, z_eq0, z_eq1, z_or, z_em, Classical.not_not, not_false_eq_true, not_true_eq_false, true_and, and_true, false_and, and_false, and_self, true_implies, false_implies, implies_true, Option.toList_some, Option.toList_none, List.cons_append, List.nil_append, Nat.add_eq_zero_iff, a_nl_i, a_nl_r, a_nl_n, true_or, or_true, eq_self, a_isRA_22, a_isRA_24, a_isRA_32, a_isA_20, ok_4, ok_5, ok_6, ok_7, ok_9, ok_20, ok_21, ok_30, ok_50, ok_180, ok_192, ok_200]
      try simp only [true_and, and_true, true_implies, false_implies, implies_true, not_true_eq_false, not_false_eq_true]
      refine ce_leastA (d := d) hT hcJ apJ s199 (fun J2 c2 => ?_)
      have hS2 := c2.1.s
      have hJ2 := dC_C hJ c2
      have hcJ2 := cpP_C hT0 hc hJ2
      have apJ2 := aaP_C hT0 ap hJ2
      by_cases c3 : 0 ≤ wtA Y 66 i b (s + x)
      · have c3' : ¬ wtA Y 66 i b (s + x) = -9 := by rw [wtA_rng y41]; exact fun q => q c3
        have hn := hno (fun e => e.2.1 c3) J2 hJ2
        clear hno hyes hc ap hcJ apJ al am hcJ2 apJ2
        simp only [q135_38, q135_40, q135_53, q135_54, as_nil, as_i, as_r, Nat.reduceAdd, Nat.reduceLeDiff, z_eq0, z_eq1, z_or, z_em, Classical.not_not, not_false_eq_true, not_true_eq_false, true_and, and_true, false_and, and_false, and_self, true_implies, false_implies, implies_true, Option.toList_some, Option.toList_none, List.cons_append, List.nil_append, Nat.add_eq_zero_iff, a_nl_i, a_nl_r, a_nl_n, true_or, or_true, eq_self, a_isRA_22, a_isRA_24, a_isRA_32, a_isA_20, ok_4, ok_5, ok_6, ok_7, ok_9, ok_20, ok_21, ok_30, ok_50, ok_180, ok_192, ok_200, c3']
        try simp only [true_and, and_true, true_implies, false_implies, implies_true, not_true_eq_false, not_false_eq_true]
        first
          | exact hn
          | grind
      · have c3' : wtA Y 66 i b (s + x) = -9 := by rw [wtA_rng y41]; exact c3
        simp only [q135_38, q135_40, q135_43, q135_44, q135_45, q135_47, k_14 hS, z_14, as_nil, as_i, as_r, Nat.reduceAdd, Nat.reduceLeDiff, z_eq0, z_eq1, z_or, z_em, Classical.not_not, not_false_eq_true, not_true_eq_false, true_and, and_true, false_and, and_false, and_self, true_implies, false_implies, implies_true, Option.toList_some, Option.toList_none, List.cons_append, List.nil_append, Nat.add_eq_zero_iff, a_nl_i, a_nl_r, a_nl_n, true_or, or_true, eq_self, a_isRA_22, a_isRA_24, a_isRA_32, a_isA_20, ok_4, ok_5, ok_6, ok_7, ok_9, ok_20, ok_21, ok_30, ok_50, ok_180, ok_192, ok_200, c3']
        try simp only [true_and, and_true, true_implies, false_implies, implies_true, not_true_eq_false, not_false_eq_true]
        refine ce_isBeyondDays (d := d + 2) c2.1 apJ2 (fun e => ?_) (fun e => ?_)
        · have hyy := hyes ⟨f0, c3, e⟩ J2 hJ2
          clear hno hyes hc ap hcJ apJ al am hcJ2 apJ2
          simp only [q135_50, q135_55, q135_58, as_nil, as_i, as_r, Nat.reduceAdd, Nat.reduceLeDiff, z_eq0, z_eq1, z_or, z_em, Classical.not_not, not_false_eq_true, not_true_eq_false, true_and, and_true, false_and, and_false, and_self, true_implies, false_implies, implies_true, Option.toList_some, Option.toList_none, List.cons_append, List.nil_append, Nat.add_eq_zero_iff, a_nl_i, a_nl_r, a_nl_n, true_or, or_true, eq_self, a_isRA_22, a_isRA_24, a_isRA_32, a_isA_20, ok_4, ok_5, ok_6, ok_7, ok_9, ok_20, ok_21, ok_30, ok_50, ok_180, ok_192, ok_200]
          try simp only [true_and, and_true, true_implies, false_implies, implies_true, not_true_eq_false, not_false_eq_true]
          first
            | exact hyy
            | grind
        · have hn := hno (fun q => q.2.2 e) J2 hJ2
          clear hno hyes hc ap hcJ apJ al am hcJ2 apJ2
          simp only [q135_50, q135_53, q135_54, as_nil, as_i, as_r, Nat.reduceAdd, Nat.reduceLeDiff, z_eq0, z_eq1, z_or, z_em, Classical.not_not, not_false_eq_true, not_true_eq_false, true_and, and_true, false_and, and_false, and_self, true_implies, false_implies, implies_true, Option.toList_some, Option.toList_none, List.cons_append, List.nil_append, Nat.add_eq_zero_iff, a_nl_i, a_nl_r, a_nl_n, true_or, or_true, eq_self, a_isRA_22, a_isRA_24, a_isRA_32, a_isA_20, ok_4, ok_5, ok_6, ok_7, ok_9, ok_20, ok_21, ok_30, ok_50, ok_180, ok_192, ok_200, n10]
          try simp only [true_and, and_true, true_implies, false_implies, implies_true, not_true_eq_false, not_false_eq_true]
          first
            | exact hn
            | grind
    · have hn := hno (fun e => c1 (hv.trans e.1)) J hJ
      clear hno hyes hc ap hcJ apJ al am
      simp only [q135_22, q135_53, q135_54, as_nil, as_i, as_r, Nat.reduceAdd, Nat.reduceLeDiff, z_eq0, z_eq1, z_or, z_em, Classical.not_not, not_false_eq_true, not_true_eq_false, true_and, and_true, false_and, and_false, and_self, true_implies, false_implies, implies_true, Option.toList_some, Option.toList_none, List.cons_append, List.nil_append, Nat.add_eq_zero_iff, a_nl_i, a_nl_r, a_nl_n, true_or, or_true, eq_self, a_isRA_22, a_isRA_24, a_isRA_32, a_isA_20, ok_4, ok_5, ok_6, ok_7, ok_9, ok_20, ok_21, ok_30, ok_50, ok_180, ok_192, ok_200, c1]
      try simp only [true_and, and_true, true_implies, false_implies, implies_true, not_true_eq_false, not_false_eq_true]
      first
        | exact hn
        | grind
  clear ih hP hV hc ap hcJ apJ al am
  rw [q135_3]
  repeat' first
    | with_reducible apply And.intro
    | with_reducible assumption
    | with_reducible intro _
    | refine hexit ?_
    | refine hgo ?_
    | simp only [q135_5, q135_6, q135_7, q135_10, q135_11, q135_61, q135_62, k_14 hS, z_14, as_nil, as_i, as_r, Nat.reduceAdd, Nat.reduceLeDiff, z_eq0, z_eq1, z_or, z_em, Classical.not_not, not_false_eq_true, not_true_eq_false, true_and, and_true, false_and, and_false, and_self, true_implies, false_implies, implies_true, Option.toList_some, Option.toList_none, List.cons_append, List.nil_append, Nat.add_eq_zero_iff, a_nl_i, a_nl_r, a_nl_n, true_or, or_true, eq_self, a_isRA_22, a_isRA_24, a_isRA_32, a_isA_20, ok_4, ok_5, ok_6, ok_7, ok_9, ok_20, ok_21, ok_30, ok_50, ok_180, ok_192, ok_200, ha, a0, e2]
  all_goals ((try clear hexit); (try clear hgo); (try clear hS); (try clear hT); (try clear hT0); grind [ui_ap])
theorem ce_suits (hT : cT C K L I R) (hc : cpP C K L I R Y) {a : Nat} {i : Int32} (ap : aaP C K I Y i a) {b s : Int32} (hb : 0 ≤ b ∧ b < Y 0 6) (hs : 0 ≤ s ∧ s ≤ 199) (hP : ∀ J, dC C K L R I J → P (some (.int (if suB Y i b s = true then 1 else 0))) (n, t, K, L, J, R)) : a_does (d + 4) 135 [a_rf (C + 14), a_rf a, .int b, .int s] (n, t, K, L, I, R) P := by
  have hl := le_suits_3 (d := d) (n := n) (t := t) (P := P) hT hc ap hb hs hP 0 (by decide) I s (dC_refl hT) (by rw [Int32.add_zero]) (by decide) (hc.2.2.2.2.2.1 i.toNatClampNeg).1 (by rw [lp_0]; rfl)
  have hS := hT.s
  clear hP hc ap
  rw [a_enter1 (M := a_m135) rfl (a_cat_rf (a_cat_rf (a_cat_int (a_cat_int a_cat_nil)))) (show 4 ≤ 5 by decide)]
  show a_at _ (a_xm a_m135) 0 [some (a_rf (C + 14)), some (a_rf a), some (.int b), some (.int s), none] [] _ _
  simp only [q135_0, q135_1, as_nil, as_i, as_r, Nat.reduceAdd, Nat.reduceLeDiff, z_eq0, z_eq1, z_or, z_em, Classical.not_not, not_false_eq_true, not_true_eq_false, true_and, and_true, false_and, and_false, and_self, true_implies, false_implies, implies_true, Option.toList_some, Option.toList_none, List.cons_append, List.nil_append, Nat.add_eq_zero_iff, a_nl_i, a_nl_r, a_nl_n, true_or, or_true, eq_self, a_isRA_22, a_isRA_24, a_isRA_32, a_isA_20, ok_4, ok_5, ok_6, ok_7, ok_9, ok_20, ok_21, ok_30, ok_50, ok_180, ok_192, ok_200]
  exact hl
end ZQ0
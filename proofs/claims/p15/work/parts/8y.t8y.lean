/-! barred -/
section ZY0
variable {Y Z : Nat → Nat → Int32}
/-- the first text behind one that quarrels with it -/
def quI (Y : Nat → Nat → Int32) (s : Int32) (fc : Nat → Int32) (t : Int32) : Nat → Int32 → Int32
  | 0, _ => -9
  | k + 1, u => if ((wtY Y t.toNatClampNeg 0 = 66 ∧ Y 30 t.toNatClampNeg ≤ s ∧ s < Y 31 t.toNatClampNeg) ∧ (wtY Y u.toNatClampNeg 0 = 66 ∧ Y 30 u.toNatClampNeg ≤ s ∧ s < Y 31 u.toNatClampNeg) ∧ Y 30 t.toNatClampNeg = Y 30 u.toNatClampNeg) ∧ ¬ wvY Y t.toNatClampNeg fc = wvY Y u.toNatClampNeg fc then u else quI Y s fc t k (u + 1)
def quO (Y : Nat → Nat → Int32) (s : Int32) (fc : Nat → Int32) (o : Int32) : Nat → Int32 → Int32
  | 0, _ => -9
  | k + 1, t => if quI Y s fc t k (t + 1) = -9 then quO Y s fc o k (t + 1) else if o = 0 then t else quI Y s fc t k (t + 1)
def quV (Y : Nat → Nat → Int32) (a b s o : Int32) : Int32 := quO Y s (fcA Y a b s 0) o (Y 0 41).toNatClampNeg 0
def baV (Y : Nat → Nat → Int32) (a b s w : Int32) : Int32 := if ¬ ((0 ≤ a ∧ a < Y 0 17) ∧ (0 ≤ b ∧ b < Y 0 6) ∧ (0 ≤ s ∧ s < 200)) then -1 else if ¬ (0 ≤ w ∧ w ≤ 4) then -2 else if w = 0 then (if wtA Y 66 a b s = -9 then 0 else 1) else if w = 1 then (if wtA Y 87 a b s = -9 then 0 else 1) else if w = 2 then wtA Y 66 a b s else if w = 3 then quV Y a b s 0 else quV Y a b s 1
theorem quI_no {s t : Int32} {fc : Nat → Int32} (h : ¬ (wtY Y t.toNatClampNeg 0 = 66 ∧ Y 30 t.toNatClampNeg ≤ s ∧ s < Y 31 t.toNatClampNeg)) : ∀ (k : Nat) (u : Int32), quI Y s fc t k u = -9 := by
  intro k
  induction k with
  | zero => intro u; rfl
  | succ k ih =>
    intro u
    unfold quI
    rw [if_neg (fun q => h q.1.1)]
    exact ih _
theorem wv_q {t : Nat} {x y : Nat → Int32} (h : eq9 x y) : wvY Y t x = wvY Y t y := xT_q _ _ h
theorem quI_q {s t : Int32} {x y : Nat → Int32} (h : eq9 x y) : ∀ (k : Nat) (u : Int32), quI Y s x t k u = quI Y s y t k u := by
  intro k
  induction k with
  | zero => intro u; rfl
  | succ k ih =>
    intro u
    unfold quI
    rw [wv_q h, wv_q h, ih]
theorem quO_q {s o : Int32} {x y : Nat → Int32} (h : eq9 x y) : ∀ (k : Nat) (u : Int32), quO Y s x o k u = quO Y s y o k u := by
  intro k
  induction k with
  | zero => intro u; rfl
  | succ k ih =>
    intro u
    unfold quO
    rw [quI_q h, ih]
theorem quI_b (h : sbE Y Z) {s t : Int32} {fc : Nat → Int32} : ∀ (k : Nat) (u : Int32), quI Z s fc t k u = quI Y s fc t k u := by
  intro k
  induction k with
  | zero => intro u; rfl
  | succ k ih =>
    intro u
    unfold quI
    rw [wt_b h, wt_b h, wv_b h, wv_b h, sbE_r h (k := 30) (by omega), sbE_r h (k := 31) (by omega), ih]
theorem quO_b (h : sbE Y Z) {s o : Int32} {fc : Nat → Int32} : ∀ (k : Nat) (u : Int32), quO Z s fc o k u = quO Y s fc o k u := by
  intro k
  induction k with
  | zero => intro u; rfl
  | succ k ih =>
    intro u
    unfold quO
    rw [quI_b h, ih]
theorem quV_b (h : sbE Y Z) {a b s o : Int32} : quV Z a b s o = quV Y a b s o := by
  unfold quV
  rw [fcA_b h, h 0 41 (by unfold sb; omega), quO_b h]
theorem hg_rng {g s z : Int32} (hz : z ≤ 20) {fc : Nat → Int32} : ∀ (k : Nat) (i : Int32), 0 ≤ i → i ≤ z → z.toNatClampNeg = i.toNatClampNeg + k → hgY Y g s fc k i = -9 ∨ 0 ≤ hgY Y g s fc k i := by
  intro k
  induction k with
  | zero => intro i _ _ _; exact Or.inl rfl
  | succ k ih =>
    intro i h0 h1 hk
    have hi : i < z := cl_lt2 h0 (Int32.le_trans h0 h1) (by omega)
    obtain ⟨-, s2, s3, s4⟩ := lp_st h0 hi
    unfold hgY
    split
    · exact Or.inr h0
    · exact ih _ s2 s3 (by omega)
theorem wt_rng (h : 0 ≤ Y 0 41 ∧ Y 0 41 ≤ 20) {g a b s : Int32} : wtA Y g a b s = -9 ∨ 0 ≤ wtA Y g a b s := hg_rng h.2 _ 0 (by decide) h.1 (by rw [show (0 : Int32).toNatClampNeg = 0 from rfl]; omega)
end ZY0
section ZY1
variable {d n t C : Nat} {K L : Nat → Nat} {I I0 J J0 J1 J2 : Nat → Nat → Int32} {R : Nat → Nat → Nat} {P : Option Value → AH → Prop}
variable {Y : Nat → Nat → Int32}
theorem le_qw_49 (hT0 : cT C K L I R) (hX : txP C K L I R Y) {m s : Int32} (hm : 0 ≤ m ∧ m < Y 0 41) (hs : 0 ≤ s ∧ s ≤ 199) {fc : Nat → Int32} (hq : (wtY Y m.toNatClampNeg 0 = 66 ∧ Y 30 m.toNatClampNeg ≤ s ∧ s < Y 31 m.toNatClampNeg)) {V : Int32} (hP : ∀ J, dC C K L R I J → eq9 (J (C + 9)) fc → P (some (.int V)) (n, t, K, L, J, R)) : ∀ i : Int32, i ≤ 20 → ∀ J u, 0 ≤ i → i ≤ Y 0 41 → dC C K L R I J → eq9 (J (C + 9)) fc → quI Y s fc m ((Y 0 41).toNatClampNeg - i.toNatClampNeg) i = V → a_at (d + 2) (a_xm a_m88) 49 [some (a_rf (C + 7)), some (.int m), some (.int s), some (a_rf (R (C + 8) m.toNatClampNeg)), some (.int (wvY Y m.toNatClampNeg fc)), some (.int i), u] [] (n, t, K, L, J, R) P := by
  refine up_ind 20 (fun i hk ih => ?_)
  intro J u q0 q1 hJ hf hV
  have hT := hJ.1
  have hS := hT.s
  have gX := hT.g_textsR
  have gc := hT.g_texts
  have hXJ := txP_C hT0 hX hJ
  have e41 := hXJ.1
  rw [e41] at gc
  have hexit : ¬ i < Y 0 41 → P (some (.int (-9))) (n, t, K, L, J, R) := fun w => by
    have ei : i = Y 0 41 := by
      ((try clear ih); (try clear hP); (try clear hJ); (try clear hf); (try clear hV); (try clear hXJ); (try clear hX); (try clear e41); (try clear hT); (try clear hT0); (try clear hS); (try clear gX))
      grind
    have hp := hP J hJ hf
    rw [← hV, ← ei, Nat.sub_self] at hp
    exact hp
  have i20 : i < Y 0 41 → 0 ≤ i ∧ i < 20 := fun w => by
    ((try clear ih); (try clear hP); (try clear hJ); (try clear hf); (try clear hV); (try clear hXJ); (try clear hX); (try clear e41); (try clear hT); (try clear hT0); (try clear hS); (try clear gX); (try clear hexit))
    grind
  have hst : i < Y 0 41 → V = (if ((wtY Y m.toNatClampNeg 0 = 66 ∧ Y 30 m.toNatClampNeg ≤ s ∧ s < Y 31 m.toNatClampNeg) ∧ (wtY Y i.toNatClampNeg 0 = 66 ∧ Y 30 i.toNatClampNeg ≤ s ∧ s < Y 31 i.toNatClampNeg) ∧ Y 30 m.toNatClampNeg = Y 30 i.toNatClampNeg) ∧ ¬ wvY Y m.toNatClampNeg fc = wvY Y i.toNatClampNeg fc then i else quI Y s fc m ((Y 0 41).toNatClampNeg - (i + 1).toNatClampNeg) (i + 1)) := fun w => by
    obtain ⟨s1, s2, s3, s4⟩ := lp_st q0 w
    rw [← hV, s1]
    rfl
  have hnx : i < Y 0 41 → ∀ J2 u, dC C K L R I J2 → eq9 (J2 (C + 9)) fc → ¬ (((wtY Y m.toNatClampNeg 0 = 66 ∧ Y 30 m.toNatClampNeg ≤ s ∧ s < Y 31 m.toNatClampNeg) ∧ (wtY Y i.toNatClampNeg 0 = 66 ∧ Y 30 i.toNatClampNeg ≤ s ∧ s < Y 31 i.toNatClampNeg) ∧ Y 30 m.toNatClampNeg = Y 30 i.toNatClampNeg) ∧ ¬ wvY Y m.toNatClampNeg fc = wvY Y i.toNatClampNeg fc) → a_at (d + 2) (a_xm a_m88) 49 [some (a_rf (C + 7)), some (.int m), some (.int s), some (a_rf (R (C + 8) m.toNatClampNeg)), some (.int (wvY Y m.toNatClampNeg fc)), some (.int (i + 1)), u] [] (n, t, K, L, J2, R) P := fun w J2 u m1 m2 q => by
    have hs := hst w
    rw [if_neg q] at hs
    have i2 := i20 w
    obtain ⟨s1, s2, s3, s4⟩ := lp_st q0 w
    exact ih i2.2 J2 u s2 s3 m1 m2 hs.symm
  have h58 : i < Y 0 41 → a_at (d + 2) (a_xm a_m88) 58 [some (a_rf (C + 7)), some (.int m), some (.int s), some (a_rf (R (C + 8) m.toNatClampNeg)), some (.int (wvY Y m.toNatClampNeg fc)), some (.int i), u] [] (n, t, K, L, J, R) P := fun w => by
    have i2 := i20 w
    have hnx := hnx w
    have hst := hst w
    obtain ⟨k1, k2, k3, k4, k5, k6⟩ := hXJ.2 i q0 w
    obtain ⟨n1, n2, n3, n4, n5, n6⟩ := hXJ.2 m hm.1 hm.2
    have k5 := k5 s hs.1 hs.2
    have hc : 0 ≤ i ∧ i < J (C + 7) 3 ∧ i < 20 := ⟨q0, by rw [e41]; exact w, i2.2⟩
    have n10 : ¬ (1 : Int32) = 0 := by decide
    have hcc : (J (R (C + 8) i.toNatClampNeg) 1 ≤ s ∧ s < J (R (C + 8) i.toNatClampNeg) 3) = (Y 30 i.toNatClampNeg ≤ s ∧ s < Y 31 i.toNatClampNeg) := by rw [k4, k5]
    have hgo : (¬ (((wtY Y m.toNatClampNeg 0 = 66 ∧ Y 30 m.toNatClampNeg ≤ s ∧ s < Y 31 m.toNatClampNeg) ∧ (wtY Y i.toNatClampNeg 0 = 66 ∧ Y 30 i.toNatClampNeg ≤ s ∧ s < Y 31 i.toNatClampNeg) ∧ Y 30 m.toNatClampNeg = Y 30 i.toNatClampNeg) ∧ ¬ wvY Y m.toNatClampNeg fc = wvY Y i.toNatClampNeg fc)) → ∀ J2, dC C K L R I J2 → eq9 (J2 (C + 9)) fc → a_at (d + 2) (a_xm a_m88) 123 [some (a_rf (C + 7)), some (.int m), some (.int s), some (a_rf (R (C + 8) m.toNatClampNeg)), some (.int (wvY Y m.toNatClampNeg fc)), some (.int i), some (a_rf (R (C + 8) i.toNatClampNeg))] [] (n, t, K, L, J2, R) P := fun q J2 m1 m2 => by
      have hg := hnx J2 (some (a_rf (R (C + 8) i.toNatClampNeg))) m1 m2 q
      ((try clear ih); (try clear hP); (try clear hJ); (try clear hf); (try clear hV); (try clear hXJ); (try clear hX); (try clear e41); (try clear hT); (try clear hT0); (try clear hS); (try clear gX); (try clear hexit); (try clear hst); (try clear hnx); (try clear hcc); (try clear hq))
      simp only [q88_123, q88_126, as_nil, as_i, as_r, Nat.reduceAdd, Nat.reduceLeDiff, z_eq0, z_eq1, z_or, z_em, Classical.not_not, not_false_eq_true, not_true_eq_false, true_and, and_true, false_and, and_false, and_self, true_implies, false_implies, implies_true, Option.toList_some, Option.toList_none, List.cons_append, List.nil_append, Nat.add_eq_zero_iff, a_nl_i, a_nl_r, a_nl_n, true_or, or_true, eq_self, a_isRA_22, a_isRA_24, a_isRA_32, a_isA_20, ok_4, ok_5, ok_6, ok_7, ok_9, ok_20, ok_21, ok_30, ok_50, ok_180, ok_192, ok_200]
      exact hg
    have hgJ := fun q => hgo q J hJ hf
    simp only [q88_58, q88_59, q88_61, q88_64, q88_66, q88_68, q88_71, q88_73, q88_76, k_7 hS, z_7, sp_textAt hS gX, as_nil, as_i, as_r, Nat.reduceAdd, Nat.reduceLeDiff, z_eq0, z_eq1, z_or, z_em, Classical.not_not, not_false_eq_true, not_true_eq_false, true_and, and_true, false_and, and_false, and_self, true_implies, false_implies, implies_true, Option.toList_some, Option.toList_none, List.cons_append, List.nil_append, Nat.add_eq_zero_iff, a_nl_i, a_nl_r, a_nl_n, true_or, or_true, eq_self, a_isRA_22, a_isRA_24, a_isRA_32, a_isA_20, ok_4, ok_5, ok_6, ok_7, ok_9, ok_20, ok_21, ok_30, ok_50, ok_180, ok_192, ok_200, hc, k1, k2, k3]
    try simp only [true_and, and_true, true_implies, false_implies, implies_true, not_true_eq_false, not_false_eq_true]
    by_cases c1 : wtY Y i.toNatClampNeg 0 = 66
    · by_cases c2 : Y 30 i.toNatClampNeg ≤ s ∧ s < Y 31 i.toNatClampNeg
      · by_cases c3 : Y 30 m.toNatClampNeg = Y 30 i.toNatClampNeg
        · have h102 : a_at (d + 2) (a_xm a_m88) 102 [some (a_rf (C + 7)), some (.int m), some (.int s), some (a_rf (R (C + 8) m.toNatClampNeg)), some (.int (wvY Y m.toNatClampNeg fc)), some (.int i), some (a_rf (R (C + 8) i.toNatClampNeg))] [] (n, t, K, L, J, R) P := by
            simp only [q88_102, q88_104, q88_105, q88_108, q88_109, q88_112, k_7 hS, z_7, r_7_1 hS, k_9 hS, l_9 hS, z_9, r_7_2 hS, k_10 hS, l_10 hS, z_10, as_nil, as_i, as_r, Nat.reduceAdd, Nat.reduceLeDiff, z_eq0, z_eq1, z_or, z_em, Classical.not_not, not_false_eq_true, not_true_eq_false, true_and, and_true, false_and, and_false, and_self, true_implies, false_implies, implies_true, Option.toList_some, Option.toList_none, List.cons_append, List.nil_append, Nat.add_eq_zero_iff, a_nl_i, a_nl_r, a_nl_n, true_or, or_true, eq_self, a_isRA_22, a_isRA_24, a_isRA_32, a_isA_20, ok_4, ok_5, ok_6, ok_7, ok_9, ok_20, ok_21, ok_30, ok_50, ok_180, ok_192, ok_200, k1, k2]
            try simp only [true_and, and_true, true_implies, false_implies, implies_true, not_true_eq_false, not_false_eq_true]
            refine ck_value k1 hT (fun J2 m1 m2 => ?_)
            rw [k6, show wvY Y i.toNatClampNeg (J (C + 9)) = wvY Y i.toNatClampNeg fc from wv_q hf]
            show a_at (d + 2) (a_xm a_m88) 115 [some (a_rf (C + 7)), some (.int m), some (.int s), some (a_rf (R (C + 8) m.toNatClampNeg)), some (.int (wvY Y m.toNatClampNeg fc)), some (.int i), some (a_rf (R (C + 8) i.toNatClampNeg))] [.int (wvY Y i.toNatClampNeg fc)] (n, t, K, L, J2, R) P
            have hf2 : eq9 (J2 (C + 9)) fc := by rw [m2]; exact hf
            by_cases c4 : wvY Y m.toNatClampNeg fc = wvY Y i.toNatClampNeg fc
            · have hg := hgo (fun q => q.2 c4) J2 (dC_C hJ m1) hf2
              ((try clear ih); (try clear hP); (try clear hJ); (try clear hf); (try clear hV); (try clear hXJ); (try clear hX); (try clear e41); (try clear hT); (try clear hT0); (try clear hS); (try clear gX); (try clear hexit); (try clear hst); (try clear hnx); (try clear hcc); (try clear hq); (try clear hgo); (try clear hgJ))
              simp only [q88_115, q88_117, as_nil, as_i, as_r, Nat.reduceAdd, Nat.reduceLeDiff, z_eq0, z_eq1, z_or, z_em, Classical.not_not, not_false_eq_true, not_true_eq_false, true_and, and_true, false_and, and_false, and_self, true_implies, false_implies, implies_true, Option.toList_some, Option.toList_none, List.cons_append, List.nil_append, Nat.add_eq_zero_iff, a_nl_i, a_nl_r, a_nl_n, true_or, or_true, eq_self, a_isRA_22, a_isRA_24, a_isRA_32, a_isA_20, ok_4, ok_5, ok_6, ok_7, ok_9, ok_20, ok_21, ok_30, ok_50, ok_180, ok_192, ok_200, c4]
              first
                | exact hg
                | grind
            · rw [if_pos ⟨⟨hq, ⟨c1, c2⟩, c3⟩, c4⟩] at hst
              have hp := hP J2 (dC_C hJ m1) hf2
              rw [hst] at hp
              have c4' : ¬ wvY Y i.toNatClampNeg fc = wvY Y m.toNatClampNeg fc := fun q => c4 q.symm
              ((try clear ih); (try clear hP); (try clear hJ); (try clear hf); (try clear hV); (try clear hXJ); (try clear hX); (try clear e41); (try clear hT); (try clear hT0); (try clear hS); (try clear gX); (try clear hexit); (try clear hst); (try clear hnx); (try clear hcc); (try clear hq); (try clear hgo); (try clear hgJ))
              simp only [q88_115, q88_117, q88_120, q88_122, as_nil, as_i, as_r, Nat.reduceAdd, Nat.reduceLeDiff, z_eq0, z_eq1, z_or, z_em, Classical.not_not, not_false_eq_true, not_true_eq_false, true_and, and_true, false_and, and_false, and_self, true_implies, false_implies, implies_true, Option.toList_some, Option.toList_none, List.cons_append, List.nil_append, Nat.add_eq_zero_iff, a_nl_i, a_nl_r, a_nl_n, true_or, or_true, eq_self, a_isRA_22, a_isRA_24, a_isRA_32, a_isA_20, ok_4, ok_5, ok_6, ok_7, ok_9, ok_20, ok_21, ok_30, ok_50, ok_180, ok_192, ok_200, c4']
              first
                | exact hp
                | grind
          have c3' : (J (R (C + 8) i.toNatClampNeg) 1 = J (R (C + 8) m.toNatClampNeg) 1) = True := eq_true (by rw [k4, n4]; exact c3.symm)
          ((try clear ih); (try clear hP); (try clear hJ); (try clear hf); (try clear hV); (try clear hXJ); (try clear hX); (try clear e41); (try clear hT0); (try clear gX); (try clear hexit); (try clear hst); (try clear hnx); (try clear hq); (try clear hgo); (try clear hgJ))
          simp only [q88_78, q88_81, q88_83, q88_84, q88_87, q88_90, q88_92, q88_95, q88_96, q88_99, k_7 hS, z_7, sp_inForce, as_nil, as_i, as_r, Nat.reduceAdd, Nat.reduceLeDiff, z_eq0, z_eq1, z_or, z_em, Classical.not_not, not_false_eq_true, not_true_eq_false, true_and, and_true, false_and, and_false, and_self, true_implies, false_implies, implies_true, Option.toList_some, Option.toList_none, List.cons_append, List.nil_append, Nat.add_eq_zero_iff, a_nl_i, a_nl_r, a_nl_n, true_or, or_true, eq_self, a_isRA_22, a_isRA_24, a_isRA_32, a_isA_20, ok_4, ok_5, ok_6, ok_7, ok_9, ok_20, ok_21, ok_30, ok_50, ok_180, ok_192, ok_200, c1, hcc, c2, c3', k1, k2, n1, n2, n10, if_true]
          try simp only [true_and, and_true, true_implies, false_implies, implies_true, not_true_eq_false, not_false_eq_true]
          first
            | exact h102
            | grind
        · have hg := hgJ (fun q => c3 q.1.2.2)
          have c3' : (J (R (C + 8) i.toNatClampNeg) 1 = J (R (C + 8) m.toNatClampNeg) 1) = False := eq_false (by rw [k4, n4]; exact fun q => c3 q.symm)
          ((try clear ih); (try clear hP); (try clear hJ); (try clear hf); (try clear hV); (try clear hXJ); (try clear hX); (try clear e41); (try clear hT0); (try clear gX); (try clear hexit); (try clear hst); (try clear hnx); (try clear hq); (try clear hgo); (try clear hgJ))
          simp only [q88_78, q88_81, q88_83, q88_84, q88_87, q88_90, q88_92, q88_95, q88_96, q88_99, k_7 hS, z_7, sp_inForce, as_nil, as_i, as_r, Nat.reduceAdd, Nat.reduceLeDiff, z_eq0, z_eq1, z_or, z_em, Classical.not_not, not_false_eq_true, not_true_eq_false, true_and, and_true, false_and, and_false, and_self, true_implies, false_implies, implies_true, Option.toList_some, Option.toList_none, List.cons_append, List.nil_append, Nat.add_eq_zero_iff, a_nl_i, a_nl_r, a_nl_n, true_or, or_true, eq_self, a_isRA_22, a_isRA_24, a_isRA_32, a_isA_20, ok_4, ok_5, ok_6, ok_7, ok_9, ok_20, ok_21, ok_30, ok_50, ok_180, ok_192, ok_200, c1, hcc, c2, c3', k1, k2, n1, n2, n10, if_true]
          try simp only [true_and, and_true, true_implies, false_implies, implies_true, not_true_eq_false, not_false_eq_true]
          first
            | exact hg
            | grind
      · have hg := hgJ (fun q => c2 q.1.2.1.2)
        ((try clear ih); (try clear hP); (try clear hJ); (try clear hf); (try clear hV); (try clear hXJ); (try clear hX); (try clear e41); (try clear hT0); (try clear gX); (try clear hexit); (try clear hst); (try clear hnx); (try clear hq); (try clear hgo); (try clear hgJ))
        simp only [q88_78, q88_81, q88_83, q88_84, q88_87, k_7 hS, z_7, sp_inForce, as_nil, as_i, as_r, Nat.reduceAdd, Nat.reduceLeDiff, z_eq0, z_eq1, z_or, z_em, Classical.not_not, not_false_eq_true, not_true_eq_false, true_and, and_true, false_and, and_false, and_self, true_implies, false_implies, implies_true, Option.toList_some, Option.toList_none, List.cons_append, List.nil_append, Nat.add_eq_zero_iff, a_nl_i, a_nl_r, a_nl_n, true_or, or_true, eq_self, a_isRA_22, a_isRA_24, a_isRA_32, a_isA_20, ok_4, ok_5, ok_6, ok_7, ok_9, ok_20, ok_21, ok_30, ok_50, ok_180, ok_192, ok_200, c1, hcc, c2, k1, k2, n10, if_false]
        try simp only [true_and, and_true, true_implies, false_implies, implies_true, not_true_eq_false, not_false_eq_true]
        first
          | exact hg
          | grind
    · have hg := hgJ (fun q => c1 q.1.2.1.1)
      ((try clear ih); (try clear hP); (try clear hJ); (try clear hf); (try clear hV); (try clear hXJ); (try clear hX); (try clear e41); (try clear hT0); (try clear gX); (try clear hexit); (try clear hst); (try clear hnx); (try clear hq); (try clear hgo); (try clear hgJ))
      simp only [q88_78, as_nil, as_i, as_r, Nat.reduceAdd, Nat.reduceLeDiff, z_eq0, z_eq1, z_or, z_em, Classical.not_not, not_false_eq_true, not_true_eq_false, true_and, and_true, false_and, and_false, and_self, true_implies, false_implies, implies_true, Option.toList_some, Option.toList_none, List.cons_append, List.nil_append, Nat.add_eq_zero_iff, a_nl_i, a_nl_r, a_nl_n, true_or, or_true, eq_self, a_isRA_22, a_isRA_24, a_isRA_32, a_isA_20, ok_4, ok_5, ok_6, ok_7, ok_9, ok_20, ok_21, ok_30, ok_50, ok_180, ok_192, ok_200, c1]
      try simp only [true_and, and_true, true_implies, false_implies, implies_true, not_true_eq_false, not_false_eq_true]
      first
        | exact hg
        | grind
  ((try clear ih); (try clear hP); (try clear hJ); (try clear hf); (try clear hV); (try clear hst); (try clear hnx); (try clear hXJ); (try clear hX); (try clear hT0); (try clear hq))
  rw [q88_49]
  simp only [q88_51, q88_52, q88_55, q88_129, q88_131, k_7 hS, z_7, as_nil, as_i, as_r, Nat.reduceAdd, Nat.reduceLeDiff, z_eq0, z_eq1, z_or, z_em, Classical.not_not, not_false_eq_true, not_true_eq_false, true_and, and_true, false_and, and_false, and_self, true_implies, false_implies, implies_true, Option.toList_some, Option.toList_none, List.cons_append, List.nil_append, Nat.add_eq_zero_iff, a_nl_i, a_nl_r, a_nl_n, true_or, or_true, eq_self, a_isRA_22, a_isRA_24, a_isRA_32, a_isA_20, ok_4, ok_5, ok_6, ok_7, ok_9, ok_20, ok_21, ok_30, ok_50, ok_180, ok_192, ok_200, e41]
  ((try clear hT); (try clear hS); (try clear gX); (try clear e41))
  grind
theorem ce_quarrelsWith (hT : cT C K L I R) (hX : txP C K L I R Y) {m s : Int32} (hm : 0 ≤ m ∧ m < Y 0 41) (hs : 0 ≤ s ∧ s ≤ 199) {fc : Nat → Int32} (hf : eq9 (I (C + 9)) fc) (hP : ∀ J, dC C K L R I J → eq9 (J (C + 9)) fc → P (some (.int (quI Y s fc m ((Y 0 41).toNatClampNeg - (m + 1).toNatClampNeg) (m + 1)))) (n, t, K, L, J, R)) : a_does (d + 3) 88 [a_rf (C + 7), .int m, .int s] (n, t, K, L, I, R) P := by
  have hS := hT.s
  have gX := hT.g_textsR
  have gc := hT.g_texts
  rw [hX.1] at gc
  obtain ⟨s1, s2, s3, s4⟩ := lp_st hm.1 hm.2
  have m20 : m < 20 := Int32.lt_of_lt_of_le hm.2 gc.2
  obtain ⟨n1, n2, n3, n4, n5, n6⟩ := hX.2 m hm.1 hm.2
  have n5 := n5 s hs.1 hs.2
  have hc : 0 ≤ m ∧ m < I (C + 7) 3 ∧ m < 20 := ⟨hm.1, by rw [hX.1]; exact hm.2, m20⟩
  have n10 : ¬ (1 : Int32) = 0 := by decide
  have hcc : (I (R (C + 8) m.toNatClampNeg) 1 ≤ s ∧ s < I (R (C + 8) m.toNatClampNeg) 3) = (Y 30 m.toNatClampNeg ≤ s ∧ s < Y 31 m.toNatClampNeg) := by rw [n4, n5]
  have hno : ¬ (wtY Y m.toNatClampNeg 0 = 66 ∧ Y 30 m.toNatClampNeg ≤ s ∧ s < Y 31 m.toNatClampNeg) → P (some (.int (-9))) (n, t, K, L, I, R) := fun q => by
    have hp := hP I ⟨hT, fun _ _ _ _ => rfl⟩ hf
    rw [quI_no q] at hp
    exact hp
  have h30 : (wtY Y m.toNatClampNeg 0 = 66 ∧ Y 30 m.toNatClampNeg ≤ s ∧ s < Y 31 m.toNatClampNeg) → a_at (d + 2) (a_xm a_m88) 30 [some (a_rf (C + 7)), some (.int m), some (.int s), some (a_rf (R (C + 8) m.toNatClampNeg)), none, none, none] [] (n, t, K, L, I, R) P := fun hq => by
    simp only [q88_30, q88_31, q88_32, q88_35, q88_36, q88_39, k_7 hS, z_7, r_7_1 hS, k_9 hS, l_9 hS, z_9, r_7_2 hS, k_10 hS, l_10 hS, z_10, as_nil, as_i, as_r, Nat.reduceAdd, Nat.reduceLeDiff, z_eq0, z_eq1, z_or, z_em, Classical.not_not, not_false_eq_true, not_true_eq_false, true_and, and_true, false_and, and_false, and_self, true_implies, false_implies, implies_true, Option.toList_some, Option.toList_none, List.cons_append, List.nil_append, Nat.add_eq_zero_iff, a_nl_i, a_nl_r, a_nl_n, true_or, or_true, eq_self, a_isRA_22, a_isRA_24, a_isRA_32, a_isA_20, ok_4, ok_5, ok_6, ok_7, ok_9, ok_20, ok_21, ok_30, ok_50, ok_180, ok_192, ok_200, n1, n2]
    try simp only [true_and, and_true, true_implies, false_implies, implies_true, not_true_eq_false, not_false_eq_true]
    refine ck_value n1 hT (fun J2 m1 m2 => ?_)
    rw [n6, show wvY Y m.toNatClampNeg (I (C + 9)) = wvY Y m.toNatClampNeg fc from wv_q hf]
    show a_at (d + 2) (a_xm a_m88) 42 [some (a_rf (C + 7)), some (.int m), some (.int s), some (a_rf (R (C + 8) m.toNatClampNeg)), none, none, none] [.int (wvY Y m.toNatClampNeg fc)] (n, t, K, L, J2, R) P
    have hlp := le_qw_49 (d := d) (n := n) (t := t) (P := P) hT hX hm hs (fc := fc) hq hP (m + 1) (Int32.le_trans s3 gc.2) J2 none s2 s3 m1 (by rw [m2]; exact hf) rfl
    ((try clear hP); (try clear hX); (try clear hT); (try clear hf); (try clear m1); (try clear m2); (try clear hno))
    simp only [q88_42, q88_44, q88_45, q88_46, q88_47, as_nil, as_i, as_r, Nat.reduceAdd, Nat.reduceLeDiff, z_eq0, z_eq1, z_or, z_em, Classical.not_not, not_false_eq_true, not_true_eq_false, true_and, and_true, false_and, and_false, and_self, true_implies, false_implies, implies_true, Option.toList_some, Option.toList_none, List.cons_append, List.nil_append, Nat.add_eq_zero_iff, a_nl_i, a_nl_r, a_nl_n, true_or, or_true, eq_self, a_isRA_22, a_isRA_24, a_isRA_32, a_isA_20, ok_4, ok_5, ok_6, ok_7, ok_9, ok_20, ok_21, ok_30, ok_50, ok_180, ok_192, ok_200]
    exact hlp
  ((try clear hP); (try clear hX); (try clear hf))
  rw [a_enter1 (M := a_m88) rfl (a_cat_rf (a_cat_int (a_cat_int a_cat_nil))) (show 3 ≤ 7 by decide)]
  show a_at _ (a_xm a_m88) 0 [some (a_rf (C + 7)), some (.int m), some (.int s), none, none, none, none] [] _ _
  simp only [q88_0, q88_1, q88_2, q88_5, q88_6, q88_7, q88_10, q88_11, q88_14, k_7 hS, z_7, sp_textAt hS gX, as_nil, as_i, as_r, Nat.reduceAdd, Nat.reduceLeDiff, z_eq0, z_eq1, z_or, z_em, Classical.not_not, not_false_eq_true, not_true_eq_false, true_and, and_true, false_and, and_false, and_self, true_implies, false_implies, implies_true, Option.toList_some, Option.toList_none, List.cons_append, List.nil_append, Nat.add_eq_zero_iff, a_nl_i, a_nl_r, a_nl_n, true_or, or_true, eq_self, a_isRA_22, a_isRA_24, a_isRA_32, a_isA_20, ok_4, ok_5, ok_6, ok_7, ok_9, ok_20, ok_21, ok_30, ok_50, ok_180, ok_192, ok_200, hc, n1, n2, n3]
  try simp only [true_and, and_true, true_implies, false_implies, implies_true, not_true_eq_false, not_false_eq_true]
  by_cases c1 : wtY Y m.toNatClampNeg 0 = 66
  · by_cases c2 : Y 30 m.toNatClampNeg ≤ s ∧ s < Y 31 m.toNatClampNeg
    · have hh := h30 ⟨c1, c2⟩
      ((try clear hno); (try clear h30); (try clear hT); (try clear gX))
      simp only [q88_16, q88_19, q88_20, q88_21, q88_24, k_7 hS, z_7, sp_inForce, as_nil, as_i, as_r, Nat.reduceAdd, Nat.reduceLeDiff, z_eq0, z_eq1, z_or, z_em, Classical.not_not, not_false_eq_true, not_true_eq_false, true_and, and_true, false_and, and_false, and_self, true_implies, false_implies, implies_true, Option.toList_some, Option.toList_none, List.cons_append, List.nil_append, Nat.add_eq_zero_iff, a_nl_i, a_nl_r, a_nl_n, true_or, or_true, eq_self, a_isRA_22, a_isRA_24, a_isRA_32, a_isA_20, ok_4, ok_5, ok_6, ok_7, ok_9, ok_20, ok_21, ok_30, ok_50, ok_180, ok_192, ok_200, c1, hcc, c2, n1, n2, n10, if_true]
      try simp only [true_and, and_true, true_implies, false_implies, implies_true, not_true_eq_false, not_false_eq_true]
      first
        | exact hh
        | grind
    · have hh := hno (fun q => c2 q.2)
      ((try clear hno); (try clear h30); (try clear hT); (try clear gX))
      simp only [q88_16, q88_19, q88_20, q88_21, q88_24, q88_27, q88_29, k_7 hS, z_7, sp_inForce, as_nil, as_i, as_r, Nat.reduceAdd, Nat.reduceLeDiff, z_eq0, z_eq1, z_or, z_em, Classical.not_not, not_false_eq_true, not_true_eq_false, true_and, and_true, false_and, and_false, and_self, true_implies, false_implies, implies_true, Option.toList_some, Option.toList_none, List.cons_append, List.nil_append, Nat.add_eq_zero_iff, a_nl_i, a_nl_r, a_nl_n, true_or, or_true, eq_self, a_isRA_22, a_isRA_24, a_isRA_32, a_isA_20, ok_4, ok_5, ok_6, ok_7, ok_9, ok_20, ok_21, ok_30, ok_50, ok_180, ok_192, ok_200, c1, hcc, c2, n1, n2, n10, if_false]
      try simp only [true_and, and_true, true_implies, false_implies, implies_true, not_true_eq_false, not_false_eq_true]
      first
        | exact hh
        | grind
  · have hh := hno (fun q => c1 q.1)
    ((try clear hno); (try clear h30); (try clear hT); (try clear gX))
    simp only [q88_16, q88_27, q88_29, as_nil, as_i, as_r, Nat.reduceAdd, Nat.reduceLeDiff, z_eq0, z_eq1, z_or, z_em, Classical.not_not, not_false_eq_true, not_true_eq_false, true_and, and_true, false_and, and_false, and_self, true_implies, false_implies, implies_true, Option.toList_some, Option.toList_none, List.cons_append, List.nil_append, Nat.add_eq_zero_iff, a_nl_i, a_nl_r, a_nl_n, true_or, or_true, eq_self, a_isRA_22, a_isRA_24, a_isRA_32, a_isA_20, ok_4, ok_5, ok_6, ok_7, ok_9, ok_20, ok_21, ok_30, ok_50, ok_180, ok_192, ok_200, c1]
    try simp only [true_and, and_true, true_implies, false_implies, implies_true, not_true_eq_false, not_false_eq_true]
    first
      | exact hh
      | grind
theorem le_quarrel_11 (hT0 : cT C K L I R) (hX : txP C K L I R Y) {a : Nat} {b s o : Int32} (ho : o = 0 ∨ o = 1) (hs : 0 ≤ s ∧ s ≤ 199) {fc : Nat → Int32} {V : Int32} (hP : ∀ J, dC C K L R I J → P (some (.int V)) (n, t, K, L, J, R)) : ∀ i : Int32, i ≤ 20 → ∀ J u, 0 ≤ i → i ≤ Y 0 41 → dC C K L R I J → eq9 (J (C + 9)) fc → quO Y s fc o ((Y 0 41).toNatClampNeg - i.toNatClampNeg) i = V → a_at (d + 3) (a_xm a_m87) 11 [some (a_rf (C + 7)), some (a_rf a), some (.int b), some (.int s), some (.int o), some (.int i), u] [] (n, t, K, L, J, R) P := by
  refine up_ind 20 (fun i hk ih => ?_)
  intro J u q0 q1 hJ hf hV
  have hT := hJ.1
  have hS := hT.s
  have gc := hT.g_texts
  have hXJ := txP_C hT0 hX hJ
  have e41 := hXJ.1
  rw [e41] at gc
  have hexit : ¬ i < Y 0 41 → P (some (.int (-9))) (n, t, K, L, J, R) := fun w => by
    have hp := hP J hJ
    rw [← hV, (lp_end q1 w).1] at hp
    exact hp
  have h20 : i < Y 0 41 → a_at (d + 3) (a_xm a_m87) 20 [some (a_rf (C + 7)), some (a_rf a), some (.int b), some (.int s), some (.int o), some (.int i), u] [] (n, t, K, L, J, R) P := fun w => by
    obtain ⟨s1, s2, s3, s4⟩ := lp_st q0 w
    rw [s1] at hV
    have i20 : i < 20 := Int32.lt_of_lt_of_le w gc.2
    simp only [q87_20, q87_21, q87_23, q87_24, k_7 hS, z_7, as_nil, as_i, as_r, Nat.reduceAdd, Nat.reduceLeDiff, z_eq0, z_eq1, z_or, z_em, Classical.not_not, not_false_eq_true, not_true_eq_false, true_and, and_true, false_and, and_false, and_self, true_implies, false_implies, implies_true, Option.toList_some, Option.toList_none, List.cons_append, List.nil_append, Nat.add_eq_zero_iff, a_nl_i, a_nl_r, a_nl_n, true_or, or_true, eq_self, a_isRA_22, a_isRA_24, a_isRA_32, a_isA_20, ok_4, ok_5, ok_6, ok_7, ok_9, ok_20, ok_21, ok_30, ok_50, ok_180, ok_192, ok_200]
    refine ce_quarrelsWith (d := d) hT hXJ ⟨q0, w⟩ hs hf (fun J2 m1 m2 => ?_)
    have hT2 := m1.1
    have hS2 := hT2.s
    have hJ2 := dC_C hJ m1
    show a_at (d + 3) (a_xm a_m87) 27 [some (a_rf (C + 7)), some (a_rf a), some (.int b), some (.int s), some (.int o), some (.int i), u] [.int (quI Y s fc i ((Y 0 41).toNatClampNeg - (i + 1).toNatClampNeg) (i + 1))] (n, t, K, L, J2, R) P
    have hV2 : V = (if quI Y s fc i ((Y 0 41).toNatClampNeg - (i + 1).toNatClampNeg) (i + 1) = -9 then quO Y s fc o ((Y 0 41).toNatClampNeg - (i + 1).toNatClampNeg) (i + 1) else if o = 0 then i else quI Y s fc i ((Y 0 41).toNatClampNeg - (i + 1).toNatClampNeg) (i + 1)) := by
      rw [← hV]
      rfl
    generalize hq : quI Y s fc i ((Y 0 41).toNatClampNeg - (i + 1).toNatClampNeg) (i + 1) = q at hV2 ⊢
    by_cases c : q = -9
    · rw [if_pos c] at hV2
      have hg := ih i20 J2 (some (.int q)) s2 s3 hJ2 m2 hV2.symm
      ((try clear ih); (try clear hP); (try clear hJ); (try clear hf); (try clear hV); (try clear hXJ); (try clear hX); (try clear e41); (try clear hT); (try clear hT0); (try clear hS); (try clear hexit); (try clear hq); (try clear hV2); (try clear m1); (try clear m2); (try clear hJ2); (try clear hT2))
      simp only [q87_27, q87_29, q87_31, q87_33, q87_49, q87_52, as_nil, as_i, as_r, Nat.reduceAdd, Nat.reduceLeDiff, z_eq0, z_eq1, z_or, z_em, Classical.not_not, not_false_eq_true, not_true_eq_false, true_and, and_true, false_and, and_false, and_self, true_implies, false_implies, implies_true, Option.toList_some, Option.toList_none, List.cons_append, List.nil_append, Nat.add_eq_zero_iff, a_nl_i, a_nl_r, a_nl_n, true_or, or_true, eq_self, a_isRA_22, a_isRA_24, a_isRA_32, a_isA_20, ok_4, ok_5, ok_6, ok_7, ok_9, ok_20, ok_21, ok_30, ok_50, ok_180, ok_192, ok_200, c]
      try simp only [true_and, and_true, true_implies, false_implies, implies_true, not_true_eq_false, not_false_eq_true]
      rw [c] at hg
      first
        | exact hg
        | grind
    · rw [if_neg c] at hV2
      have hp := hP J2 hJ2
      rw [hV2] at hp
      ((try clear ih); (try clear hP); (try clear hJ); (try clear hf); (try clear hV); (try clear hXJ); (try clear hX); (try clear e41); (try clear hT); (try clear hT0); (try clear hS); (try clear hexit); (try clear hq); (try clear hV2); (try clear m1); (try clear m2); (try clear hJ2); (try clear hT2))
      rcases ho with e | e
      · subst e
        rw [if_pos rfl] at hp
        simp only [q87_27, q87_29, q87_31, q87_33, q87_36, q87_38, q87_41, q87_43, q87_46, q87_48, as_nil, as_i, as_r, Nat.reduceAdd, Nat.reduceLeDiff, z_eq0, z_eq1, z_or, z_em, Classical.not_not, not_false_eq_true, not_true_eq_false, true_and, and_true, false_and, and_false, and_self, true_implies, false_implies, implies_true, Option.toList_some, Option.toList_none, List.cons_append, List.nil_append, Nat.add_eq_zero_iff, a_nl_i, a_nl_r, a_nl_n, true_or, or_true, eq_self, a_isRA_22, a_isRA_24, a_isRA_32, a_isA_20, ok_4, ok_5, ok_6, ok_7, ok_9, ok_20, ok_21, ok_30, ok_50, ok_180, ok_192, ok_200, c]
        try simp only [true_and, and_true, true_implies, false_implies, implies_true, not_true_eq_false, not_false_eq_true]
        first
          | exact hp
          | grind
      · subst e
        rw [if_neg (by decide)] at hp
        have n10 : ¬ (1 : Int32) = 0 := by decide
        simp only [q87_27, q87_29, q87_31, q87_33, q87_36, q87_38, q87_41, q87_43, q87_46, q87_48, as_nil, as_i, as_r, Nat.reduceAdd, Nat.reduceLeDiff, z_eq0, z_eq1, z_or, z_em, Classical.not_not, not_false_eq_true, not_true_eq_false, true_and, and_true, false_and, and_false, and_self, true_implies, false_implies, implies_true, Option.toList_some, Option.toList_none, List.cons_append, List.nil_append, Nat.add_eq_zero_iff, a_nl_i, a_nl_r, a_nl_n, true_or, or_true, eq_self, a_isRA_22, a_isRA_24, a_isRA_32, a_isA_20, ok_4, ok_5, ok_6, ok_7, ok_9, ok_20, ok_21, ok_30, ok_50, ok_180, ok_192, ok_200, c, n10]
        try simp only [true_and, and_true, true_implies, false_implies, implies_true, not_true_eq_false, not_false_eq_true]
        first
          | exact hp
          | grind
  ((try clear ih); (try clear hP); (try clear hJ); (try clear hf); (try clear hV); (try clear hXJ); (try clear hX); (try clear hT0))
  rw [q87_11]
  simp only [q87_13, q87_14, q87_17, q87_55, q87_57, k_7 hS, z_7, as_nil, as_i, as_r, Nat.reduceAdd, Nat.reduceLeDiff, z_eq0, z_eq1, z_or, z_em, Classical.not_not, not_false_eq_true, not_true_eq_false, true_and, and_true, false_and, and_false, and_self, true_implies, false_implies, implies_true, Option.toList_some, Option.toList_none, List.cons_append, List.nil_append, Nat.add_eq_zero_iff, a_nl_i, a_nl_r, a_nl_n, true_or, or_true, eq_self, a_isRA_22, a_isRA_24, a_isRA_32, a_isA_20, ok_4, ok_5, ok_6, ok_7, ok_9, ok_20, ok_21, ok_30, ok_50, ok_180, ok_192, ok_200, e41]
  ((try clear hT); (try clear hS); (try clear e41))
  grind
theorem ce_quarrel (hT : cT C K L I R) (hX : txP C K L I R Y) {a : Nat} (ha : K a = 1) {b s o : Int32} (ho : o = 0 ∨ o = 1) (hs : 0 ≤ s ∧ s ≤ 199) {fc : Nat → Int32} (hf : eq9 (lq I a b s 0) fc) (hP : ∀ J, dC C K L R I J → P (some (.int (quO Y s fc o (Y 0 41).toNatClampNeg 0))) (n, t, K, L, J, R)) : a_does (d + 4) 87 [a_rf (C + 7), a_rf a, .int b, .int s, .int o] (n, t, K, L, I, R) P := by
  have hS := hT.s
  obtain ⟨a1, a2, a4, a3⟩ := hT.g_ask a ha
  have a0 : (a = 0) = False := eq_false (by omega)
  have gc := hT.g_texts
  rw [hX.1] at gc
  rw [a_enter1 (M := a_m87) rfl (a_cat_rf (a_cat_rf (a_cat_int (a_cat_int (a_cat_int a_cat_nil))))) (show 5 ≤ 7 by decide)]
  show a_at _ (a_xm a_m87) 0 [some (a_rf (C + 7)), some (a_rf a), some (.int b), some (.int s), some (.int o), none, none] [] _ _
  simp only [q87_0, q87_1, q87_2, q87_3, q87_4, q87_5, k_7 hS, z_7, as_nil, as_i, as_r, Nat.reduceAdd, Nat.reduceLeDiff, z_eq0, z_eq1, z_or, z_em, Classical.not_not, not_false_eq_true, not_true_eq_false, true_and, and_true, false_and, and_false, and_self, true_implies, false_implies, implies_true, Option.toList_some, Option.toList_none, List.cons_append, List.nil_append, Nat.add_eq_zero_iff, a_nl_i, a_nl_r, a_nl_n, true_or, or_true, eq_self, a_isRA_22, a_isRA_24, a_isRA_32, a_isA_20, ok_4, ok_5, ok_6, ok_7, ok_9, ok_20, ok_21, ok_30, ok_50, ok_180, ok_192, ok_200, ha, a0]
  try simp only [true_and, and_true, true_implies, false_implies, implies_true, not_true_eq_false, not_false_eq_true]
  refine ck_learn ha hT (fun J m1 m2 => ?_)
  have hlp := le_quarrel_11 (d := d) (n := n) (t := t) (P := P) (a := a) hT hX (b := b) (s := s) ho hs (fc := fc) hP 0 (by decide) J none (by decide) gc.1 m1 (fun j hj => by rw [m2 j hj, hf j hj]) (by rw [show (0 : Int32).toNatClampNeg = 0 from rfl, Nat.sub_zero])
  ((try clear hP); (try clear hX); (try clear hT); (try clear hf); (try clear m1); (try clear m2))
  simp only [q87_8, q87_9, as_nil, as_i, as_r, Nat.reduceAdd, Nat.reduceLeDiff, z_eq0, z_eq1, z_or, z_em, Classical.not_not, not_false_eq_true, not_true_eq_false, true_and, and_true, false_and, and_false, and_self, true_implies, false_implies, implies_true, Option.toList_some, Option.toList_none, List.cons_append, List.nil_append, Nat.add_eq_zero_iff, a_nl_i, a_nl_r, a_nl_n, true_or, or_true, eq_self, a_isRA_22, a_isRA_24, a_isRA_32, a_isA_20, ok_4, ok_5, ok_6, ok_7, ok_9, ok_20, ok_21, ok_30, ok_50, ok_180, ok_192, ok_200]
  exact hlp
end ZY1
section ZY2
variable {d n t C c : Nat} {K L : Nat → Nat} {I I0 J J0 J1 J2 : Nat → Nat → Int32} {R : Nat → Nat → Nat} {P : Option Value → AH → Prop}
variable {Y Z W : Nat → Nat → Int32}
theorem ba_1 {a b s w : Int32} (c : ¬ ((0 ≤ a ∧ a < Y 0 17) ∧ (0 ≤ b ∧ b < Y 0 6) ∧ (0 ≤ s ∧ s < 200))) : baV Y a b s w = -1 := by
  unfold baV
  rw [if_pos c]
theorem ba_2 {a b s w : Int32} (c : (0 ≤ a ∧ a < Y 0 17) ∧ (0 ≤ b ∧ b < Y 0 6) ∧ (0 ≤ s ∧ s < 200)) (c2 : ¬ (0 ≤ w ∧ w ≤ 4)) : baV Y a b s w = -2 := by
  unfold baV
  rw [if_neg (fun q => q c), if_pos c2]
theorem ba_v0 {a b s : Int32} (c : (0 ≤ a ∧ a < Y 0 17) ∧ (0 ≤ b ∧ b < Y 0 6) ∧ (0 ≤ s ∧ s < 200)) : baV Y a b s 0 = (if wtA Y 66 a b s = -9 then 0 else 1) := by
  unfold baV
  rw [if_neg (fun q => q c)]
  rfl
theorem ba_v1 {a b s : Int32} (c : (0 ≤ a ∧ a < Y 0 17) ∧ (0 ≤ b ∧ b < Y 0 6) ∧ (0 ≤ s ∧ s < 200)) : baV Y a b s 1 = (if wtA Y 87 a b s = -9 then 0 else 1) := by
  unfold baV
  rw [if_neg (fun q => q c)]
  rfl
theorem ba_v2 {a b s : Int32} (c : (0 ≤ a ∧ a < Y 0 17) ∧ (0 ≤ b ∧ b < Y 0 6) ∧ (0 ≤ s ∧ s < 200)) : baV Y a b s 2 = wtA Y 66 a b s := by
  unfold baV
  rw [if_neg (fun q => q c)]
  rfl
theorem ba_v3 {a b s : Int32} (c : (0 ≤ a ∧ a < Y 0 17) ∧ (0 ≤ b ∧ b < Y 0 6) ∧ (0 ≤ s ∧ s < 200)) : baV Y a b s 3 = quV Y a b s 0 := by
  unfold baV
  rw [if_neg (fun q => q c)]
  rfl
theorem ba_v4 {a b s : Int32} (c : (0 ≤ a ∧ a < Y 0 17) ∧ (0 ≤ b ∧ b < Y 0 6) ∧ (0 ≤ s ∧ s < 200)) : baV Y a b s 4 = quV Y a b s 1 := by
  unfold baV
  rw [if_neg (fun q => q c)]
  rfl
theorem w5 {w : Int32} (e : 0 ≤ w ∧ w ≤ 4) : w = 0 ∨ w = 1 ∨ w = 2 ∨ w = 3 ∨ w = 4 := by
  have c0 : (0 : Int32).toInt = 0 := rfl
  have c4 : (4 : Int32).toInt = 4 := rfl
  have q0 := Int32.le_iff_toInt_le.mp e.1
  have q1 := Int32.le_iff_toInt_le.mp e.2
  rw [c0] at q0
  rw [c4] at q1
  have h : w.toInt = 0 ∨ w.toInt = 1 ∨ w.toInt = 2 ∨ w.toInt = 3 ∨ w.toInt = 4 := by omega
  rcases h with h | h | h | h | h
  · exact Or.inl (Int32.toInt_inj.mp h)
  · exact Or.inr (Or.inl (Int32.toInt_inj.mp h))
  · exact Or.inr (Or.inr (Or.inl (Int32.toInt_inj.mp h)))
  · exact Or.inr (Or.inr (Or.inr (Or.inl (Int32.toInt_inj.mp h))))
  · exact Or.inr (Or.inr (Or.inr (Or.inr (Int32.toInt_inj.mp h))))

theorem cv_barred (hH : cH C c (n + 1) t K L I R) (hu : cuP C K L I R Y) {a b s w : Int32} (hP : ∀ J, P (some (.int (baV Y a b s w))) (n + 1, t, K, L, J, R)) : a_does (d + 70) 85 [a_rf C, .int a, .int b, .int s, .int w] (n + 1, t, K, L, I, R) P := by
  have hT := hH.1
  have hS := hT.s
  have gA := hT.g_asksR
  have gB := hT.g_benchesR
  have gX := hT.g_textsR
  have hc := hu.1
  have h17 := hc.2.2.2.2.2.2.2.2.1
  have e4 : I (C + 14) 4 = Y 0 17 := hc.2.2.1.1
  have h6 := hc.2.2.2.2.2.2.2.2.2.1
  have e5 : I (C + 14) 5 = Y 0 6 := hc.2.1.1
  have hr : ¬ ((0 ≤ a ∧ a < Y 0 17) ∧ (0 ≤ b ∧ b < Y 0 6) ∧ (0 ≤ s ∧ s < 200)) → ∀ x, a_does (d + 69) 10 [a_rf C, .int (-1)] (n + 1, t, K, L, I, R) (fun r h' => a_at (d + 69) (a_xm a_m85) 38 [some (a_rf C), some (.int a), some (.int b), some (.int s), some (.int w), x] (r.toList ++ []) h' P) := fun q x => by
    rw [ba_1 q] at hP
    refine cr_refuse (d := d + 68) hH (fun J _ => ?_)
    have hp := hP J
    ((try clear hP); (try clear hc); (try clear hu))
    simp only [q85_38, as_nil, as_i, as_r, Nat.reduceAdd, Nat.reduceLeDiff, z_eq0, z_eq1, z_or, z_em, Classical.not_not, not_false_eq_true, not_true_eq_false, true_and, and_true, false_and, and_false, and_self, true_implies, false_implies, implies_true, Option.toList_some, Option.toList_none, List.cons_append, List.nil_append, Nat.add_eq_zero_iff, a_nl_i, a_nl_r, a_nl_n, true_or, or_true, eq_self, a_isRA_22, a_isRA_24, a_isRA_32, a_isA_20, ok_4, ok_5, ok_6, ok_7, ok_9, ok_20, ok_21, ok_30, ok_50, ok_180, ok_192, ok_200]
    exact hp
  by_cases c1 : 0 ≤ a ∧ a < Y 0 17
  · have hac : 0 ≤ a ∧ a < I (C + 14) 4 ∧ a < 30 := ⟨c1.1, by rw [e4]; exact c1.2, Int32.lt_of_lt_of_le c1.2 h17.2⟩
    have ap := aa_of hc c1.1 c1.2
    obtain ⟨-, ⟨ha, an0, a4n⟩, am, al⟩ := id ap
    have a0 : ((R (C + 15) a.toNatClampNeg) = 0) = False := eq_false an0
    by_cases c2 : 0 ≤ b ∧ b < Y 0 6
    · have hbc : 0 ≤ b ∧ b < I (C + 14) 5 ∧ b < 6 := ⟨c2.1, by rw [e5]; exact c2.2, Int32.lt_of_lt_of_le c2.2 h6.2⟩
      obtain ⟨kb, kb0, -⟩ := hc.2.1.2.2.1 b c2.1 c2.2
      have b0 : (R (C + 16) b.toNatClampNeg = 0) = False := eq_false kb0
      by_cases c3 : 0 ≤ s ∧ s < 200
      · ((try clear hr))
        have cc : (0 ≤ a ∧ a < Y 0 17) ∧ (0 ≤ b ∧ b < Y 0 6) ∧ (0 ≤ s ∧ s < 200) := ⟨c1, c2, c3⟩
        have s9 : 0 ≤ s ∧ s ≤ 199 := ⟨c3.1, by rw [le_199]; exact c3.2⟩
        by_cases c4 : 0 ≤ w ∧ w ≤ 4
        · rcases w5 c4 with e | e | e | e | e
          · subst e
            rw [ba_v0 cc] at hP
            have hlp : a_does (d + 69) 86 [a_rf (C + 7), .int 66, a_rf (R (C + 15) a.toNatClampNeg), .int b, .int s] (n + 1, t, K, L, I, R) (fun r h' => a_at (d + 69) (a_xm a_m85) 89 [some (a_rf C), some (.int a), some (.int b), some (.int s), some (.int 0), some (a_rf (R (C + 15) a.toNatClampNeg))] (r.toList ++ []) h' P) := by
              refine ce_leastA (d := d + 66) hT hc ap s9 (fun J hJ => ?_)
              have hS2 := hJ.1.s
              have hp := hP J
              ((try clear hP); (try clear hc); (try clear hu); (try clear ap); (try clear al); (try clear am))
              generalize wtA Y 66 a b s = z at hp ⊢
              by_cases c9 : z = -9
              · rw [if_pos c9] at hp
                simp only [q85_89, q85_91, q85_94, q85_95, q85_98, q85_99, as_nil, as_i, as_r, Nat.reduceAdd, Nat.reduceLeDiff, z_eq0, z_eq1, z_or, z_em, Classical.not_not, not_false_eq_true, not_true_eq_false, true_and, and_true, false_and, and_false, and_self, true_implies, false_implies, implies_true, Option.toList_some, Option.toList_none, List.cons_append, List.nil_append, Nat.add_eq_zero_iff, a_nl_i, a_nl_r, a_nl_n, true_or, or_true, eq_self, a_isRA_22, a_isRA_24, a_isRA_32, a_isA_20, ok_4, ok_5, ok_6, ok_7, ok_9, ok_20, ok_21, ok_30, ok_50, ok_180, ok_192, ok_200, c9]
                try simp only [true_and, and_true, true_implies, false_implies, implies_true, not_true_eq_false, not_false_eq_true]
                first
                  | exact hp
                  | grind
              · rw [if_neg c9] at hp
                simp only [q85_89, q85_91, q85_94, q85_95, q85_98, q85_99, as_nil, as_i, as_r, Nat.reduceAdd, Nat.reduceLeDiff, z_eq0, z_eq1, z_or, z_em, Classical.not_not, not_false_eq_true, not_true_eq_false, true_and, and_true, false_and, and_false, and_self, true_implies, false_implies, implies_true, Option.toList_some, Option.toList_none, List.cons_append, List.nil_append, Nat.add_eq_zero_iff, a_nl_i, a_nl_r, a_nl_n, true_or, or_true, eq_self, a_isRA_22, a_isRA_24, a_isRA_32, a_isA_20, ok_4, ok_5, ok_6, ok_7, ok_9, ok_20, ok_21, ok_30, ok_50, ok_180, ok_192, ok_200, c9]
                try simp only [true_and, and_true, true_implies, false_implies, implies_true, not_true_eq_false, not_false_eq_true]
                first
                  | exact hp
                  | grind
            ((try clear hP); (try clear hc); (try clear hu); (try clear ap); (try clear al); (try clear am))
            rw [a_enter1 (M := a_m85) rfl (a_cat_rf (a_cat_int (a_cat_int (a_cat_int (a_cat_int a_cat_nil))))) (show 5 ≤ 6 by decide)]
            show a_at _ (a_xm a_m85) 0 [some (a_rf C), some (.int a), some (.int b), some (.int s), some (.int 0), none] [] _ _
            simp only [q85_0, q85_1, q85_4, q85_5, q85_8, q85_10, q85_12, q85_15, q85_16, q85_19, q85_20, q85_23, q85_26, q85_27, q85_30, q85_39, q85_41, q85_76, q85_77, q85_80, q85_82, q85_84, q85_85, q85_86, k_0 hS, z_C hS, r_0_4 hS, k_14 hS, z_14, r_0_1 hS, k_7 hS, z_7, sp_askAt hS gA, sp_benchAt hS gB, sp_isShiftC, as_nil, as_i, as_r, Nat.reduceAdd, Nat.reduceLeDiff, z_eq0, z_eq1, z_or, z_em, Classical.not_not, not_false_eq_true, not_true_eq_false, true_and, and_true, false_and, and_false, and_self, true_implies, false_implies, implies_true, Option.toList_some, Option.toList_none, List.cons_append, List.nil_append, Nat.add_eq_zero_iff, a_nl_i, a_nl_r, a_nl_n, true_or, or_true, eq_self, a_isRA_22, a_isRA_24, a_isRA_32, a_isA_20, ok_4, ok_5, ok_6, ok_7, ok_9, ok_20, ok_21, ok_30, ok_50, ok_180, ok_192, ok_200, a_sw, ti_0, ti_1, ti_2, ti_3, ti_4, ti_5, ti_6, ti_7, ti_8, ti_9, ti_10, ti_11, ti_12, ti_13, ti_14, ti_15, ti_16, ti_17, ti_18, ti_19, ti_98, ti_99, ti_100, ti_101, ti_102, ti_103, ti_104, ti_105, ti_106, ti_107, ti_108, ti_109, ti_110, ti_111, ti_112, ti_113, ti_114, ti_115, ti_116, hac, hbc, c3, ha, a0, b0]
            try simp only [true_and, and_true, true_implies, false_implies, implies_true, not_true_eq_false, not_false_eq_true]
            first
              | exact hlp
              | grind
          · subst e
            rw [ba_v1 cc] at hP
            have hlp : a_does (d + 69) 86 [a_rf (C + 7), .int 87, a_rf (R (C + 15) a.toNatClampNeg), .int b, .int s] (n + 1, t, K, L, I, R) (fun r h' => a_at (d + 69) (a_xm a_m85) 113 [some (a_rf C), some (.int a), some (.int b), some (.int s), some (.int 1), some (a_rf (R (C + 15) a.toNatClampNeg))] (r.toList ++ []) h' P) := by
              refine ce_leastA (d := d + 66) hT hc ap s9 (fun J hJ => ?_)
              have hS2 := hJ.1.s
              have hp := hP J
              ((try clear hP); (try clear hc); (try clear hu); (try clear ap); (try clear al); (try clear am))
              generalize wtA Y 87 a b s = z at hp ⊢
              by_cases c9 : z = -9
              · rw [if_pos c9] at hp
                simp only [q85_113, q85_115, q85_118, q85_119, q85_122, q85_123, as_nil, as_i, as_r, Nat.reduceAdd, Nat.reduceLeDiff, z_eq0, z_eq1, z_or, z_em, Classical.not_not, not_false_eq_true, not_true_eq_false, true_and, and_true, false_and, and_false, and_self, true_implies, false_implies, implies_true, Option.toList_some, Option.toList_none, List.cons_append, List.nil_append, Nat.add_eq_zero_iff, a_nl_i, a_nl_r, a_nl_n, true_or, or_true, eq_self, a_isRA_22, a_isRA_24, a_isRA_32, a_isA_20, ok_4, ok_5, ok_6, ok_7, ok_9, ok_20, ok_21, ok_30, ok_50, ok_180, ok_192, ok_200, c9]
                try simp only [true_and, and_true, true_implies, false_implies, implies_true, not_true_eq_false, not_false_eq_true]
                first
                  | exact hp
                  | grind
              · rw [if_neg c9] at hp
                simp only [q85_113, q85_115, q85_118, q85_119, q85_122, q85_123, as_nil, as_i, as_r, Nat.reduceAdd, Nat.reduceLeDiff, z_eq0, z_eq1, z_or, z_em, Classical.not_not, not_false_eq_true, not_true_eq_false, true_and, and_true, false_and, and_false, and_self, true_implies, false_implies, implies_true, Option.toList_some, Option.toList_none, List.cons_append, List.nil_append, Nat.add_eq_zero_iff, a_nl_i, a_nl_r, a_nl_n, true_or, or_true, eq_self, a_isRA_22, a_isRA_24, a_isRA_32, a_isA_20, ok_4, ok_5, ok_6, ok_7, ok_9, ok_20, ok_21, ok_30, ok_50, ok_180, ok_192, ok_200, c9]
                try simp only [true_and, and_true, true_implies, false_implies, implies_true, not_true_eq_false, not_false_eq_true]
                first
                  | exact hp
                  | grind
            ((try clear hP); (try clear hc); (try clear hu); (try clear ap); (try clear al); (try clear am))
            rw [a_enter1 (M := a_m85) rfl (a_cat_rf (a_cat_int (a_cat_int (a_cat_int (a_cat_int a_cat_nil))))) (show 5 ≤ 6 by decide)]
            show a_at _ (a_xm a_m85) 0 [some (a_rf C), some (.int a), some (.int b), some (.int s), some (.int 1), none] [] _ _
            simp only [q85_0, q85_1, q85_4, q85_5, q85_8, q85_10, q85_12, q85_15, q85_16, q85_19, q85_20, q85_23, q85_26, q85_27, q85_30, q85_39, q85_41, q85_76, q85_77, q85_80, q85_82, q85_84, q85_85, q85_86, q85_89, q85_91, q85_94, q85_95, q85_98, q85_99, q85_100, q85_101, q85_104, q85_106, q85_108, q85_109, q85_110, k_0 hS, z_C hS, r_0_4 hS, k_14 hS, z_14, r_0_1 hS, k_7 hS, z_7, sp_askAt hS gA, sp_benchAt hS gB, sp_isShiftC, as_nil, as_i, as_r, Nat.reduceAdd, Nat.reduceLeDiff, z_eq0, z_eq1, z_or, z_em, Classical.not_not, not_false_eq_true, not_true_eq_false, true_and, and_true, false_and, and_false, and_self, true_implies, false_implies, implies_true, Option.toList_some, Option.toList_none, List.cons_append, List.nil_append, Nat.add_eq_zero_iff, a_nl_i, a_nl_r, a_nl_n, true_or, or_true, eq_self, a_isRA_22, a_isRA_24, a_isRA_32, a_isA_20, ok_4, ok_5, ok_6, ok_7, ok_9, ok_20, ok_21, ok_30, ok_50, ok_180, ok_192, ok_200, a_sw, ti_0, ti_1, ti_2, ti_3, ti_4, ti_5, ti_6, ti_7, ti_8, ti_9, ti_10, ti_11, ti_12, ti_13, ti_14, ti_15, ti_16, ti_17, ti_18, ti_19, ti_98, ti_99, ti_100, ti_101, ti_102, ti_103, ti_104, ti_105, ti_106, ti_107, ti_108, ti_109, ti_110, ti_111, ti_112, ti_113, ti_114, ti_115, ti_116, hac, hbc, c3, ha, a0, b0]
            try simp only [true_and, and_true, true_implies, false_implies, implies_true, not_true_eq_false, not_false_eq_true]
            first
              | exact hlp
              | grind
          · subst e
            rw [ba_v2 cc] at hP
            have hlp : a_does (d + 69) 86 [a_rf (C + 7), .int 66, a_rf (R (C + 15) a.toNatClampNeg), .int b, .int s] (n + 1, t, K, L, I, R) (fun r h' => a_at (d + 69) (a_xm a_m85) 137 [some (a_rf C), some (.int a), some (.int b), some (.int s), some (.int 2), some (a_rf (R (C + 15) a.toNatClampNeg))] (r.toList ++ []) h' P) := by
              refine ce_leastA (d := d + 66) hT hc ap s9 (fun J hJ => ?_)
              have hS2 := hJ.1.s
              have hp := hP J
              ((try clear hP); (try clear hc); (try clear hu); (try clear ap); (try clear al); (try clear am))
              simp only [q85_137, as_nil, as_i, as_r, Nat.reduceAdd, Nat.reduceLeDiff, z_eq0, z_eq1, z_or, z_em, Classical.not_not, not_false_eq_true, not_true_eq_false, true_and, and_true, false_and, and_false, and_self, true_implies, false_implies, implies_true, Option.toList_some, Option.toList_none, List.cons_append, List.nil_append, Nat.add_eq_zero_iff, a_nl_i, a_nl_r, a_nl_n, true_or, or_true, eq_self, a_isRA_22, a_isRA_24, a_isRA_32, a_isA_20, ok_4, ok_5, ok_6, ok_7, ok_9, ok_20, ok_21, ok_30, ok_50, ok_180, ok_192, ok_200]
              exact hp
            ((try clear hP); (try clear hc); (try clear hu); (try clear ap); (try clear al); (try clear am))
            rw [a_enter1 (M := a_m85) rfl (a_cat_rf (a_cat_int (a_cat_int (a_cat_int (a_cat_int a_cat_nil))))) (show 5 ≤ 6 by decide)]
            show a_at _ (a_xm a_m85) 0 [some (a_rf C), some (.int a), some (.int b), some (.int s), some (.int 2), none] [] _ _
            simp only [q85_0, q85_1, q85_4, q85_5, q85_8, q85_10, q85_12, q85_15, q85_16, q85_19, q85_20, q85_23, q85_26, q85_27, q85_30, q85_39, q85_41, q85_76, q85_77, q85_80, q85_82, q85_84, q85_85, q85_86, q85_89, q85_91, q85_94, q85_95, q85_98, q85_99, q85_100, q85_101, q85_104, q85_106, q85_108, q85_109, q85_110, q85_113, q85_115, q85_118, q85_119, q85_122, q85_123, q85_124, q85_125, q85_128, q85_130, q85_132, q85_133, q85_134, k_0 hS, z_C hS, r_0_4 hS, k_14 hS, z_14, r_0_1 hS, k_7 hS, z_7, sp_askAt hS gA, sp_benchAt hS gB, sp_isShiftC, as_nil, as_i, as_r, Nat.reduceAdd, Nat.reduceLeDiff, z_eq0, z_eq1, z_or, z_em, Classical.not_not, not_false_eq_true, not_true_eq_false, true_and, and_true, false_and, and_false, and_self, true_implies, false_implies, implies_true, Option.toList_some, Option.toList_none, List.cons_append, List.nil_append, Nat.add_eq_zero_iff, a_nl_i, a_nl_r, a_nl_n, true_or, or_true, eq_self, a_isRA_22, a_isRA_24, a_isRA_32, a_isA_20, ok_4, ok_5, ok_6, ok_7, ok_9, ok_20, ok_21, ok_30, ok_50, ok_180, ok_192, ok_200, a_sw, ti_0, ti_1, ti_2, ti_3, ti_4, ti_5, ti_6, ti_7, ti_8, ti_9, ti_10, ti_11, ti_12, ti_13, ti_14, ti_15, ti_16, ti_17, ti_18, ti_19, ti_98, ti_99, ti_100, ti_101, ti_102, ti_103, ti_104, ti_105, ti_106, ti_107, ti_108, ti_109, ti_110, ti_111, ti_112, ti_113, ti_114, ti_115, ti_116, hac, hbc, c3, ha, a0, b0]
            try simp only [true_and, and_true, true_implies, false_implies, implies_true, not_true_eq_false, not_false_eq_true]
            first
              | exact hlp
              | grind
          · subst e
            rw [ba_v3 cc] at hP
            have hlp : a_does (d + 69) 87 [a_rf (C + 7), a_rf (R (C + 15) a.toNatClampNeg), .int b, .int s, .int 0] (n + 1, t, K, L, I, R) (fun r h' => a_at (d + 69) (a_xm a_m85) 150 [some (a_rf C), some (.int a), some (.int b), some (.int s), some (.int 3), some (a_rf (R (C + 15) a.toNatClampNeg))] (r.toList ++ []) h' P) := by
              refine ce_quarrel (d := d + 65) hT hc.2.2.2.1 ha (by decide) s9 (lq_fc al am) (fun J hJ => ?_)
              have hS2 := hJ.1.s
              have hp := hP J
              unfold quV at hp
              ((try clear hP); (try clear hc); (try clear hu); (try clear ap); (try clear al); (try clear am))
              simp only [q85_150, as_nil, as_i, as_r, Nat.reduceAdd, Nat.reduceLeDiff, z_eq0, z_eq1, z_or, z_em, Classical.not_not, not_false_eq_true, not_true_eq_false, true_and, and_true, false_and, and_false, and_self, true_implies, false_implies, implies_true, Option.toList_some, Option.toList_none, List.cons_append, List.nil_append, Nat.add_eq_zero_iff, a_nl_i, a_nl_r, a_nl_n, true_or, or_true, eq_self, a_isRA_22, a_isRA_24, a_isRA_32, a_isA_20, ok_4, ok_5, ok_6, ok_7, ok_9, ok_20, ok_21, ok_30, ok_50, ok_180, ok_192, ok_200]
              exact hp
            ((try clear hP); (try clear hc); (try clear hu); (try clear ap); (try clear al); (try clear am))
            rw [a_enter1 (M := a_m85) rfl (a_cat_rf (a_cat_int (a_cat_int (a_cat_int (a_cat_int a_cat_nil))))) (show 5 ≤ 6 by decide)]
            show a_at _ (a_xm a_m85) 0 [some (a_rf C), some (.int a), some (.int b), some (.int s), some (.int 3), none] [] _ _
            simp only [q85_0, q85_1, q85_4, q85_5, q85_8, q85_10, q85_12, q85_15, q85_16, q85_19, q85_20, q85_23, q85_26, q85_27, q85_30, q85_39, q85_41, q85_76, q85_77, q85_80, q85_82, q85_84, q85_85, q85_86, q85_89, q85_91, q85_94, q85_95, q85_98, q85_99, q85_100, q85_101, q85_104, q85_106, q85_108, q85_109, q85_110, q85_113, q85_115, q85_118, q85_119, q85_122, q85_123, q85_124, q85_125, q85_128, q85_130, q85_132, q85_133, q85_134, q85_137, q85_138, q85_139, q85_142, q85_144, q85_145, q85_146, q85_147, k_0 hS, z_C hS, r_0_4 hS, k_14 hS, z_14, r_0_1 hS, k_7 hS, z_7, sp_askAt hS gA, sp_benchAt hS gB, sp_isShiftC, as_nil, as_i, as_r, Nat.reduceAdd, Nat.reduceLeDiff, z_eq0, z_eq1, z_or, z_em, Classical.not_not, not_false_eq_true, not_true_eq_false, true_and, and_true, false_and, and_false, and_self, true_implies, false_implies, implies_true, Option.toList_some, Option.toList_none, List.cons_append, List.nil_append, Nat.add_eq_zero_iff, a_nl_i, a_nl_r, a_nl_n, true_or, or_true, eq_self, a_isRA_22, a_isRA_24, a_isRA_32, a_isA_20, ok_4, ok_5, ok_6, ok_7, ok_9, ok_20, ok_21, ok_30, ok_50, ok_180, ok_192, ok_200, a_sw, ti_0, ti_1, ti_2, ti_3, ti_4, ti_5, ti_6, ti_7, ti_8, ti_9, ti_10, ti_11, ti_12, ti_13, ti_14, ti_15, ti_16, ti_17, ti_18, ti_19, ti_98, ti_99, ti_100, ti_101, ti_102, ti_103, ti_104, ti_105, ti_106, ti_107, ti_108, ti_109, ti_110, ti_111, ti_112, ti_113, ti_114, ti_115, ti_116, hac, hbc, c3, ha, a0, b0]
            try simp only [true_and, and_true, true_implies, false_implies, implies_true, not_true_eq_false, not_false_eq_true]
            first
              | exact hlp
              | grind
          · subst e
            rw [ba_v4 cc] at hP
            have hlp : a_does (d + 69) 87 [a_rf (C + 7), a_rf (R (C + 15) a.toNatClampNeg), .int b, .int s, .int 1] (n + 1, t, K, L, I, R) (fun r h' => a_at (d + 69) (a_xm a_m85) 163 [some (a_rf C), some (.int a), some (.int b), some (.int s), some (.int 4), some (a_rf (R (C + 15) a.toNatClampNeg))] (r.toList ++ []) h' P) := by
              refine ce_quarrel (d := d + 65) hT hc.2.2.2.1 ha (by decide) s9 (lq_fc al am) (fun J hJ => ?_)
              have hS2 := hJ.1.s
              have hp := hP J
              unfold quV at hp
              ((try clear hP); (try clear hc); (try clear hu); (try clear ap); (try clear al); (try clear am))
              simp only [q85_163, as_nil, as_i, as_r, Nat.reduceAdd, Nat.reduceLeDiff, z_eq0, z_eq1, z_or, z_em, Classical.not_not, not_false_eq_true, not_true_eq_false, true_and, and_true, false_and, and_false, and_self, true_implies, false_implies, implies_true, Option.toList_some, Option.toList_none, List.cons_append, List.nil_append, Nat.add_eq_zero_iff, a_nl_i, a_nl_r, a_nl_n, true_or, or_true, eq_self, a_isRA_22, a_isRA_24, a_isRA_32, a_isA_20, ok_4, ok_5, ok_6, ok_7, ok_9, ok_20, ok_21, ok_30, ok_50, ok_180, ok_192, ok_200]
              exact hp
            ((try clear hP); (try clear hc); (try clear hu); (try clear ap); (try clear al); (try clear am))
            rw [a_enter1 (M := a_m85) rfl (a_cat_rf (a_cat_int (a_cat_int (a_cat_int (a_cat_int a_cat_nil))))) (show 5 ≤ 6 by decide)]
            show a_at _ (a_xm a_m85) 0 [some (a_rf C), some (.int a), some (.int b), some (.int s), some (.int 4), none] [] _ _
            simp only [q85_0, q85_1, q85_4, q85_5, q85_8, q85_10, q85_12, q85_15, q85_16, q85_19, q85_20, q85_23, q85_26, q85_27, q85_30, q85_39, q85_41, q85_76, q85_77, q85_80, q85_82, q85_84, q85_85, q85_86, q85_89, q85_91, q85_94, q85_95, q85_98, q85_99, q85_100, q85_101, q85_104, q85_106, q85_108, q85_109, q85_110, q85_113, q85_115, q85_118, q85_119, q85_122, q85_123, q85_124, q85_125, q85_128, q85_130, q85_132, q85_133, q85_134, q85_137, q85_138, q85_139, q85_142, q85_144, q85_145, q85_146, q85_147, q85_150, q85_151, q85_152, q85_155, q85_157, q85_158, q85_159, q85_160, k_0 hS, z_C hS, r_0_4 hS, k_14 hS, z_14, r_0_1 hS, k_7 hS, z_7, sp_askAt hS gA, sp_benchAt hS gB, sp_isShiftC, as_nil, as_i, as_r, Nat.reduceAdd, Nat.reduceLeDiff, z_eq0, z_eq1, z_or, z_em, Classical.not_not, not_false_eq_true, not_true_eq_false, true_and, and_true, false_and, and_false, and_self, true_implies, false_implies, implies_true, Option.toList_some, Option.toList_none, List.cons_append, List.nil_append, Nat.add_eq_zero_iff, a_nl_i, a_nl_r, a_nl_n, true_or, or_true, eq_self, a_isRA_22, a_isRA_24, a_isRA_32, a_isA_20, ok_4, ok_5, ok_6, ok_7, ok_9, ok_20, ok_21, ok_30, ok_50, ok_180, ok_192, ok_200, a_sw, ti_0, ti_1, ti_2, ti_3, ti_4, ti_5, ti_6, ti_7, ti_8, ti_9, ti_10, ti_11, ti_12, ti_13, ti_14, ti_15, ti_16, ti_17, ti_18, ti_19, ti_98, ti_99, ti_100, ti_101, ti_102, ti_103, ti_104, ti_105, ti_106, ti_107, ti_108, ti_109, ti_110, ti_111, ti_112, ti_113, ti_114, ti_115, ti_116, hac, hbc, c3, ha, a0, b0]
            try simp only [true_and, and_true, true_implies, false_implies, implies_true, not_true_eq_false, not_false_eq_true]
            first
              | exact hlp
              | grind

        · rw [ba_2 cc c4] at hP
          have hr : a_does (d + 69) 10 [a_rf C, .int (-2)] (n + 1, t, K, L, I, R) (fun r h' => a_at (d + 69) (a_xm a_m85) 170 [some (a_rf C), some (.int a), some (.int b), some (.int s), some (.int w), some (a_rf (R (C + 15) a.toNatClampNeg))] (r.toList ++ []) h' P) := by
            refine cr_refuse (d := d + 68) hH (fun J _ => ?_)
            have hp := hP J
            ((try clear hP); (try clear hc); (try clear hu); (try clear ap); (try clear al); (try clear am))
            simp only [q85_170, as_nil, as_i, as_r, Nat.reduceAdd, Nat.reduceLeDiff, z_eq0, z_eq1, z_or, z_em, Classical.not_not, not_false_eq_true, not_true_eq_false, true_and, and_true, false_and, and_false, and_self, true_implies, false_implies, implies_true, Option.toList_some, Option.toList_none, List.cons_append, List.nil_append, Nat.add_eq_zero_iff, a_nl_i, a_nl_r, a_nl_n, true_or, or_true, eq_self, a_isRA_22, a_isRA_24, a_isRA_32, a_isA_20, ok_4, ok_5, ok_6, ok_7, ok_9, ok_20, ok_21, ok_30, ok_50, ok_180, ok_192, ok_200]
            exact hp
          have nw : ¬ w = 0 ∧ ¬ w = 1 ∧ ¬ w = 2 ∧ ¬ w = 3 ∧ ¬ w = 4 := ⟨fun e => c4 (by rw [e]; decide), fun e => c4 (by rw [e]; decide), fun e => c4 (by rw [e]; decide), fun e => c4 (by rw [e]; decide), fun e => c4 (by rw [e]; decide)⟩
          ((try clear hP); (try clear hc); (try clear hu); (try clear ap); (try clear al); (try clear am))
          rw [a_enter1 (M := a_m85) rfl (a_cat_rf (a_cat_int (a_cat_int (a_cat_int (a_cat_int a_cat_nil))))) (show 5 ≤ 6 by decide)]
          show a_at _ (a_xm a_m85) 0 [some (a_rf C), some (.int a), some (.int b), some (.int s), some (.int w), none] [] _ _
          simp only [q85_0, q85_1, q85_4, q85_5, q85_8, q85_10, q85_12, q85_15, q85_16, q85_19, q85_20, q85_23, q85_26, q85_27, q85_30, q85_39, q85_41, q85_164, q85_165, q85_167, k_0 hS, z_C hS, r_0_4 hS, k_14 hS, z_14, sp_askAt hS gA, sp_benchAt hS gB, sp_isShiftC, as_nil, as_i, as_r, Nat.reduceAdd, Nat.reduceLeDiff, z_eq0, z_eq1, z_or, z_em, Classical.not_not, not_false_eq_true, not_true_eq_false, true_and, and_true, false_and, and_false, and_self, true_implies, false_implies, implies_true, Option.toList_some, Option.toList_none, List.cons_append, List.nil_append, Nat.add_eq_zero_iff, a_nl_i, a_nl_r, a_nl_n, true_or, or_true, eq_self, a_isRA_22, a_isRA_24, a_isRA_32, a_isA_20, ok_4, ok_5, ok_6, ok_7, ok_9, ok_20, ok_21, ok_30, ok_50, ok_180, ok_192, ok_200, a_sw, ti_0, ti_1, ti_2, ti_3, ti_4, ti_5, ti_6, ti_7, ti_8, ti_9, ti_10, ti_11, ti_12, ti_13, ti_14, ti_15, ti_16, ti_17, ti_18, ti_19, ti_98, ti_99, ti_100, ti_101, ti_102, ti_103, ti_104, ti_105, ti_106, ti_107, ti_108, ti_109, ti_110, ti_111, ti_112, ti_113, ti_114, ti_115, ti_116, hac, hbc, c3, ha, a0, b0, nw]
          try simp only [true_and, and_true, true_implies, false_implies, implies_true, not_true_eq_false, not_false_eq_true]
          first
            | exact hr
            | grind
      · have hr := hr (fun q => c3 q.2.2)
        ((try clear ap); (try clear al); (try clear am))
        ((try clear hP); (try clear hc); (try clear hu))
        rw [a_enter1 (M := a_m85) rfl (a_cat_rf (a_cat_int (a_cat_int (a_cat_int (a_cat_int a_cat_nil))))) (show 5 ≤ 6 by decide)]
        show a_at _ (a_xm a_m85) 0 [some (a_rf C), some (.int a), some (.int b), some (.int s), some (.int w), none] [] _ _
        simp only [q85_0, q85_1, q85_4, q85_5, q85_8, q85_10, q85_12, q85_15, q85_16, q85_19, q85_20, q85_23, q85_26, q85_27, q85_30, q85_33, q85_34, q85_35, k_0 hS, z_C hS, r_0_4 hS, k_14 hS, z_14, sp_askAt hS gA, sp_benchAt hS gB, sp_isShiftC, as_nil, as_i, as_r, Nat.reduceAdd, Nat.reduceLeDiff, z_eq0, z_eq1, z_or, z_em, Classical.not_not, not_false_eq_true, not_true_eq_false, true_and, and_true, false_and, and_false, and_self, true_implies, false_implies, implies_true, Option.toList_some, Option.toList_none, List.cons_append, List.nil_append, Nat.add_eq_zero_iff, a_nl_i, a_nl_r, a_nl_n, true_or, or_true, eq_self, a_isRA_22, a_isRA_24, a_isRA_32, a_isA_20, ok_4, ok_5, ok_6, ok_7, ok_9, ok_20, ok_21, ok_30, ok_50, ok_180, ok_192, ok_200, hac, hbc, c3, ha, a0, b0]
        try simp only [true_and, and_true, true_implies, false_implies, implies_true, not_true_eq_false, not_false_eq_true]
        first
          | exact hr _
          | grind
    · have hbc : ¬ (0 ≤ b ∧ b < I (C + 14) 5 ∧ b < 6) := fun q => c2 ⟨q.1, by rw [← e5]; exact q.2.1⟩
      have hr := hr (fun q => c2 q.2.1)
      ((try clear ap); (try clear al); (try clear am))
      ((try clear hP); (try clear hc); (try clear hu))
      rw [a_enter1 (M := a_m85) rfl (a_cat_rf (a_cat_int (a_cat_int (a_cat_int (a_cat_int a_cat_nil))))) (show 5 ≤ 6 by decide)]
      show a_at _ (a_xm a_m85) 0 [some (a_rf C), some (.int a), some (.int b), some (.int s), some (.int w), none] [] _ _
      simp only [q85_0, q85_1, q85_4, q85_5, q85_8, q85_10, q85_12, q85_15, q85_16, q85_19, q85_20, q85_23, q85_26, q85_27, q85_30, q85_33, q85_34, q85_35, k_0 hS, z_C hS, r_0_4 hS, k_14 hS, z_14, sp_askAt hS gA, sp_benchAt hS gB, sp_isShiftC, as_nil, as_i, as_r, Nat.reduceAdd, Nat.reduceLeDiff, z_eq0, z_eq1, z_or, z_em, Classical.not_not, not_false_eq_true, not_true_eq_false, true_and, and_true, false_and, and_false, and_self, true_implies, false_implies, implies_true, Option.toList_some, Option.toList_none, List.cons_append, List.nil_append, Nat.add_eq_zero_iff, a_nl_i, a_nl_r, a_nl_n, true_or, or_true, eq_self, a_isRA_22, a_isRA_24, a_isRA_32, a_isA_20, ok_4, ok_5, ok_6, ok_7, ok_9, ok_20, ok_21, ok_30, ok_50, ok_180, ok_192, ok_200, hac, hbc, ha, a0]
      try simp only [true_and, and_true, true_implies, false_implies, implies_true, not_true_eq_false, not_false_eq_true]
      first
        | exact hr _
        | grind
  · have hac : ¬ (0 ≤ a ∧ a < I (C + 14) 4 ∧ a < 30) := fun q => c1 ⟨q.1, by rw [← e4]; exact q.2.1⟩
    have hr := hr (fun q => c1 q.1)
    ((try clear hP); (try clear hc); (try clear hu))
    rw [a_enter1 (M := a_m85) rfl (a_cat_rf (a_cat_int (a_cat_int (a_cat_int (a_cat_int a_cat_nil))))) (show 5 ≤ 6 by decide)]
    show a_at _ (a_xm a_m85) 0 [some (a_rf C), some (.int a), some (.int b), some (.int s), some (.int w), none] [] _ _
    simp only [q85_0, q85_1, q85_4, q85_5, q85_8, q85_10, q85_12, q85_15, q85_16, q85_19, q85_20, q85_23, q85_26, q85_27, q85_30, q85_33, q85_34, q85_35, k_0 hS, z_C hS, r_0_4 hS, k_14 hS, z_14, sp_askAt hS gA, sp_benchAt hS gB, sp_isShiftC, as_nil, as_i, as_r, Nat.reduceAdd, Nat.reduceLeDiff, z_eq0, z_eq1, z_or, z_em, Classical.not_not, not_false_eq_true, not_true_eq_false, true_and, and_true, false_and, and_false, and_self, true_implies, false_implies, implies_true, Option.toList_some, Option.toList_none, List.cons_append, List.nil_append, Nat.add_eq_zero_iff, a_nl_i, a_nl_r, a_nl_n, true_or, or_true, eq_self, a_isRA_22, a_isRA_24, a_isRA_32, a_isA_20, ok_4, ok_5, ok_6, ok_7, ok_9, ok_20, ok_21, ok_30, ok_50, ok_180, ok_192, ok_200, hac]
    try simp only [true_and, and_true, true_implies, false_implies, implies_true, not_true_eq_false, not_false_eq_true]
    first
      | exact hr _
      | grind
end ZY2
section ZY3
variable {d n t M : Nat} {K L : Nat → Nat} {I I0 J J0 J1 J2 : Nat → Nat → Int32} {R : Nat → Nat → Nat} {P : Option Value → AH → Prop} {f : Nat → Int32} {e : Int32}
variable {Y Z W : Nat → Nat → Int32}
theorem xt_quarrel_26 (hS : m_S M K L R) (hts : tsY (yv M I0)) {a b s o m : Int32} (ho : o = 0 ∨ o = 1) (hm : 0 ≤ m ∧ m < (yv M I0) 0 41) {fc : Nat → Int32} {V : Int32} (hF : ∀ J, mC M I0 J → ¬ V = -9 → P (some (.int (if o = 0 then m else V))) (n, t, K, L, J, R)) (hN : ∀ J u, mC M I0 J → (∀ j, J (M + 32) j = fc j) → V = -9 → a_at (d + 6) (a_xm a_m212) 110 [some (a_rf M), some (.int a), some (.int b), some (.int s), some (.int o), some (.int m), u] [] (n, t, K, L, J, R) P) : ∀ i : Int32, i ≤ 20 → ∀ J, 0 ≤ i → i ≤ (yv M I0) 0 41 → mC M I0 J → (∀ j, J (M + 32) j = fc j) → quI (yv M I0) s fc m (((yv M I0) 0 41).toNatClampNeg - i.toNatClampNeg) i = V → a_at (d + 6) (a_xm a_m212) 26 [some (a_rf M), some (.int a), some (.int b), some (.int s), some (.int o), some (.int m), some (.int i)] [] (n, t, K, L, J, R) P := by
  refine up_ind 20 (fun i hi ih => ?_)
  intro J h0 h1 hC hf hV
  have et : J M 41 = (yv M I0) 0 41 := hC.2 _ _ (by unfold sC; omega)
  have ew : ∀ j, J (M + 28) j = (yv M I0) 28 j := fun j => hC.2 _ _ (by unfold sC; omega)
  have e30 : ∀ j, J (M + 30) j = (yv M I0) 30 j := fun j => hC.2 _ _ (by unfold sC; omega)
  have e31 : ∀ j, J (M + 31) j = (yv M I0) 31 j := fun j => hC.2 _ _ (by unfold sC; omega)
  have gt := rg_texts hC.1
  rw [et] at gt
  have hexit : ¬ i < (yv M I0) 0 41 → a_at (d + 6) (a_xm a_m212) 110 [some (a_rf M), some (.int a), some (.int b), some (.int s), some (.int o), some (.int m), some (.int i)] [] (n, t, K, L, J, R) P := fun w => by
    refine hN J (some (.int i)) hC hf ?_
    rw [← hV, (lp_end h1 w).1]
    rfl
  have hst : i < (yv M I0) 0 41 → V = (if ((wtY (yv M I0) m.toNatClampNeg 0 = 66 ∧ (yv M I0) 30 m.toNatClampNeg ≤ s ∧ s < (yv M I0) 31 m.toNatClampNeg) ∧ (wtY (yv M I0) i.toNatClampNeg 0 = 66 ∧ (yv M I0) 30 i.toNatClampNeg ≤ s ∧ s < (yv M I0) 31 i.toNatClampNeg) ∧ (yv M I0) 30 m.toNatClampNeg = (yv M I0) 30 i.toNatClampNeg) ∧ ¬ wvY (yv M I0) m.toNatClampNeg fc = wvY (yv M I0) i.toNatClampNeg fc then i else quI (yv M I0) s fc m (((yv M I0) 0 41).toNatClampNeg - (i + 1).toNatClampNeg) (i + 1)) := fun w => by
    obtain ⟨s1, s2, s3, s4⟩ := lp_st h0 w
    rw [← hV, s1]
    rfl
  have i20 : ∀ x : Int32, 0 ≤ x → x < (yv M I0) 0 41 → 0 ≤ x ∧ x < 20 := fun x x0 w => ⟨x0, Int32.lt_of_lt_of_le w gt.2⟩
  have hnx : i < (yv M I0) 0 41 → ∀ J2, mC M I0 J2 → (∀ j, J2 (M + 32) j = fc j) → ¬ (((wtY (yv M I0) m.toNatClampNeg 0 = 66 ∧ (yv M I0) 30 m.toNatClampNeg ≤ s ∧ s < (yv M I0) 31 m.toNatClampNeg) ∧ (wtY (yv M I0) i.toNatClampNeg 0 = 66 ∧ (yv M I0) 30 i.toNatClampNeg ≤ s ∧ s < (yv M I0) 31 i.toNatClampNeg) ∧ (yv M I0) 30 m.toNatClampNeg = (yv M I0) 30 i.toNatClampNeg) ∧ ¬ wvY (yv M I0) m.toNatClampNeg fc = wvY (yv M I0) i.toNatClampNeg fc) → a_at (d + 6) (a_xm a_m212) 104 [some (a_rf M), some (.int a), some (.int b), some (.int s), some (.int o), some (.int m), some (.int i)] [] (n, t, K, L, J2, R) P := fun w J2 m1 m2 q => by
    have hs := hst w
    rw [if_neg q] at hs
    obtain ⟨s1, s2, s3, s4⟩ := lp_st h0 w
    have hg := ih (i20 i h0 w).2 J2 s2 s3 m1 m2 hs.symm
    ((try clear ih); (try clear hF); (try clear hN); (try clear hC); (try clear hf); (try clear hV); (try clear et); (try clear ew); (try clear e30); (try clear e31); (try clear hexit); (try clear hst); (try clear hs); (try clear hts); (try clear q); (try clear m1); (try clear m2))
    simp only [q212_104, q212_107, as_nil, as_i, as_r, Nat.reduceAdd, Nat.reduceLeDiff, z_eq0, z_eq1, z_or, z_em, Classical.not_not, not_false_eq_true, not_true_eq_false, true_and, and_true, false_and, and_false, and_self, true_implies, false_implies, implies_true, Option.toList_some, Option.toList_none, List.cons_append, List.nil_append, Nat.add_eq_zero_iff, a_nl_i, a_nl_r, a_nl_n, true_or, or_true, eq_self, ok_4, ok_5, ok_6, ok_7, ok_9, ok_10, ok_20, ok_21, ok_24, ok_30, ok_48, ok_50, ok_60, ok_80, ok_120, ok_180, ok_192, ok_200, ok_900, ok_1000, ok_84000]
    exact hg
  have n10 : ¬ (1 : Int32) = 0 := by decide
  have fx : ∀ x : Int32, 0 ≤ x ∧ x < 20 → J (M + 28) (50 * x).toNatClampNeg = wtY (yv M I0) x.toNatClampNeg 0 ∧ (0 ≤ 50 * x ∧ 50 * x < 1000) := fun x x2 => by
    obtain ⟨n1, n2, n3, n4⟩ := n50 x2 (i := 0) ⟨by decide, by decide⟩
    refine ⟨by rw [n2, ew]; rfl, n3, ?_⟩
    ((try clear ih); (try clear hF); (try clear hN); (try clear hC); (try clear hf); (try clear hV); (try clear et); (try clear ew); (try clear e30); (try clear e31); (try clear hexit); (try clear hst); (try clear hnx); (try clear hts))
    grind
  have h35 : i < (yv M I0) 0 41 → a_at (d + 6) (a_xm a_m212) 35 [some (a_rf M), some (.int a), some (.int b), some (.int s), some (.int o), some (.int m), some (.int i)] [] (n, t, K, L, J, R) P := fun w => by
    have i2 := i20 i h0 w
    have m2 := i20 m hm.1 hm.2
    have hnx := hnx w
    have hst := hst w
    have hnJ := hnx J hC hf
    obtain ⟨em, em2⟩ := fx m m2
    obtain ⟨ei, ei2⟩ := fx i i2
    simp only [q212_35, q212_36, q212_38, q212_40, q212_41, m_0 hS, m_K hS, sp_isInForce hS, as_nil, as_i, as_r, Nat.reduceAdd, Nat.reduceLeDiff, z_eq0, z_eq1, z_or, z_em, Classical.not_not, not_false_eq_true, not_true_eq_false, true_and, and_true, false_and, and_false, and_self, true_implies, false_implies, implies_true, Option.toList_some, Option.toList_none, List.cons_append, List.nil_append, Nat.add_eq_zero_iff, a_nl_i, a_nl_r, a_nl_n, true_or, or_true, eq_self, ok_4, ok_5, ok_6, ok_7, ok_9, ok_10, ok_20, ok_21, ok_24, ok_30, ok_48, ok_50, ok_60, ok_80, ok_120, ok_180, ok_192, ok_200, ok_900, ok_1000, ok_84000, em, e30, e31]
    by_cases c0 : (wtY (yv M I0) m.toNatClampNeg 0 = 66 ∧ (yv M I0) 30 m.toNatClampNeg ≤ s ∧ s < (yv M I0) 31 m.toNatClampNeg)
    · rw [if_pos c0]
      refine ⟨em2, fun _ => m2, ?_⟩
      simp only [q212_44, q212_47, q212_48, q212_50, q212_52, q212_53, m_0 hS, m_K hS, sp_isInForce hS, as_nil, as_i, as_r, Nat.reduceAdd, Nat.reduceLeDiff, z_eq0, z_eq1, z_or, z_em, Classical.not_not, not_false_eq_true, not_true_eq_false, true_and, and_true, false_and, and_false, and_self, true_implies, false_implies, implies_true, Option.toList_some, Option.toList_none, List.cons_append, List.nil_append, Nat.add_eq_zero_iff, a_nl_i, a_nl_r, a_nl_n, true_or, or_true, eq_self, ok_4, ok_5, ok_6, ok_7, ok_9, ok_10, ok_20, ok_21, ok_24, ok_30, ok_48, ok_50, ok_60, ok_80, ok_120, ok_180, ok_192, ok_200, ok_900, ok_1000, ok_84000, n10, ei, e30, e31]
      try simp only [true_and, and_true, true_implies, false_implies, implies_true, not_true_eq_false, not_false_eq_true]
      by_cases c1 : (wtY (yv M I0) i.toNatClampNeg 0 = 66 ∧ (yv M I0) 30 i.toNatClampNeg ≤ s ∧ s < (yv M I0) 31 i.toNatClampNeg)
      · rw [if_pos c1]
        refine ⟨ei2, fun _ => i2, ?_⟩
        by_cases c2 : (yv M I0) 30 m.toNatClampNeg = (yv M I0) 30 i.toNatClampNeg
        · have h76 : a_at (d + 6) (a_xm a_m212) 76 [some (a_rf M), some (.int a), some (.int b), some (.int s), some (.int o), some (.int m), some (.int i)] [] (n, t, K, L, J, R) P := by
            simp only [q212_76, q212_77, q212_79, m_0 hS, m_K hS, as_nil, as_i, as_r, Nat.reduceAdd, Nat.reduceLeDiff, z_eq0, z_eq1, z_or, z_em, Classical.not_not, not_false_eq_true, not_true_eq_false, true_and, and_true, false_and, and_false, and_self, true_implies, false_implies, implies_true, Option.toList_some, Option.toList_none, List.cons_append, List.nil_append, Nat.add_eq_zero_iff, a_nl_i, a_nl_r, a_nl_n, true_or, or_true, eq_self, ok_4, ok_5, ok_6, ok_7, ok_9, ok_10, ok_20, ok_21, ok_24, ok_30, ok_48, ok_50, ok_60, ok_80, ok_120, ok_180, ok_192, ok_200, ok_900, ok_1000, ok_84000]
            refine xt_doesHold (d := d) hS hC m2 (hts _ (cl_lt hm.1 hm.2)).1 (by rw [c0.1]; decide) hf (fun J2 p1 p2 => ?_)
            show a_at (d + 6) (a_xm a_m212) 82 [some (a_rf M), some (.int a), some (.int b), some (.int s), some (.int o), some (.int m), some (.int i)] [.int (wvY (yv M I0) m.toNatClampNeg fc)] (n, t, K, L, J2, R) P
            simp only [q212_82, q212_83, q212_85, m_0 hS, m_K hS, as_nil, as_i, as_r, Nat.reduceAdd, Nat.reduceLeDiff, z_eq0, z_eq1, z_or, z_em, Classical.not_not, not_false_eq_true, not_true_eq_false, true_and, and_true, false_and, and_false, and_self, true_implies, false_implies, implies_true, Option.toList_some, Option.toList_none, List.cons_append, List.nil_append, Nat.add_eq_zero_iff, a_nl_i, a_nl_r, a_nl_n, true_or, or_true, eq_self, ok_4, ok_5, ok_6, ok_7, ok_9, ok_10, ok_20, ok_21, ok_24, ok_30, ok_48, ok_50, ok_60, ok_80, ok_120, ok_180, ok_192, ok_200, ok_900, ok_1000, ok_84000]
            refine xt_doesHold (d := d) hS p1 i2 (hts _ (cl_lt h0 w)).1 (by rw [c1.1]; decide) p2 (fun J3 p3 p4 => ?_)
            show a_at (d + 6) (a_xm a_m212) 88 [some (a_rf M), some (.int a), some (.int b), some (.int s), some (.int o), some (.int m), some (.int i)] [.int (wvY (yv M I0) i.toNatClampNeg fc), .int (wvY (yv M I0) m.toNatClampNeg fc)] (n, t, K, L, J3, R) P
            by_cases c3 : wvY (yv M I0) m.toNatClampNeg fc = wvY (yv M I0) i.toNatClampNeg fc
            · have hg := hnx J3 p3 p4 (fun q => q.2 c3)
              ((try clear ih); (try clear hF); (try clear hN); (try clear hC); (try clear hf); (try clear hV); (try clear et); (try clear ew); (try clear e30); (try clear e31); (try clear hexit); (try clear hst); (try clear hnx); (try clear hnJ); (try clear hts); (try clear p1); (try clear p2); (try clear p3); (try clear p4); (try clear fx); (try clear em); (try clear ei); (try clear c0); (try clear c1))
              simp only [q212_88, as_nil, as_i, as_r, Nat.reduceAdd, Nat.reduceLeDiff, z_eq0, z_eq1, z_or, z_em, Classical.not_not, not_false_eq_true, not_true_eq_false, true_and, and_true, false_and, and_false, and_self, true_implies, false_implies, implies_true, Option.toList_some, Option.toList_none, List.cons_append, List.nil_append, Nat.add_eq_zero_iff, a_nl_i, a_nl_r, a_nl_n, true_or, or_true, eq_self, ok_4, ok_5, ok_6, ok_7, ok_9, ok_10, ok_20, ok_21, ok_24, ok_30, ok_48, ok_50, ok_60, ok_80, ok_120, ok_180, ok_192, ok_200, ok_900, ok_1000, ok_84000, c3]
              try simp only [true_and, and_true, true_implies, false_implies, implies_true, not_true_eq_false, not_false_eq_true]
              first
                | exact hg
                | grind
            · rw [if_pos ⟨⟨c0, c1, c2⟩, c3⟩] at hst
              have hp := hF J3 p3 (by rw [hst]; ((try clear ih); (try clear hF); (try clear hN); (try clear hC); (try clear hf); (try clear hV); (try clear et); (try clear ew); (try clear e30); (try clear e31); (try clear hexit); (try clear hst); (try clear hnx); (try clear hnJ); (try clear hts); (try clear p1); (try clear p2); (try clear p3); (try clear p4); (try clear fx); (try clear em); (try clear ei); (try clear c0); (try clear c1)); grind)
              rw [hst] at hp
              ((try clear ih); (try clear hF); (try clear hN); (try clear hC); (try clear hf); (try clear hV); (try clear et); (try clear ew); (try clear e30); (try clear e31); (try clear hexit); (try clear hst); (try clear hnx); (try clear hnJ); (try clear hts); (try clear p1); (try clear p2); (try clear p3); (try clear p4); (try clear fx); (try clear em); (try clear ei); (try clear c0); (try clear c1))
              rcases ho with e | e
              · subst e
                rw [if_pos rfl] at hp
                simp only [q212_88, q212_91, q212_93, q212_96, q212_98, q212_101, q212_103, as_nil, as_i, as_r, Nat.reduceAdd, Nat.reduceLeDiff, z_eq0, z_eq1, z_or, z_em, Classical.not_not, not_false_eq_true, not_true_eq_false, true_and, and_true, false_and, and_false, and_self, true_implies, false_implies, implies_true, Option.toList_some, Option.toList_none, List.cons_append, List.nil_append, Nat.add_eq_zero_iff, a_nl_i, a_nl_r, a_nl_n, true_or, or_true, eq_self, ok_4, ok_5, ok_6, ok_7, ok_9, ok_10, ok_20, ok_21, ok_24, ok_30, ok_48, ok_50, ok_60, ok_80, ok_120, ok_180, ok_192, ok_200, ok_900, ok_1000, ok_84000, c3]
                try simp only [true_and, and_true, true_implies, false_implies, implies_true, not_true_eq_false, not_false_eq_true]
                first
                  | exact hp
                  | grind
              · subst e
                rw [if_neg (by decide)] at hp
                simp only [q212_88, q212_91, q212_93, q212_96, q212_98, q212_101, q212_103, as_nil, as_i, as_r, Nat.reduceAdd, Nat.reduceLeDiff, z_eq0, z_eq1, z_or, z_em, Classical.not_not, not_false_eq_true, not_true_eq_false, true_and, and_true, false_and, and_false, and_self, true_implies, false_implies, implies_true, Option.toList_some, Option.toList_none, List.cons_append, List.nil_append, Nat.add_eq_zero_iff, a_nl_i, a_nl_r, a_nl_n, true_or, or_true, eq_self, ok_4, ok_5, ok_6, ok_7, ok_9, ok_10, ok_20, ok_21, ok_24, ok_30, ok_48, ok_50, ok_60, ok_80, ok_120, ok_180, ok_192, ok_200, ok_900, ok_1000, ok_84000, c3, n10]
                try simp only [true_and, and_true, true_implies, false_implies, implies_true, not_true_eq_false, not_false_eq_true]
                first
                  | exact hp
                  | grind
          ((try clear ih); (try clear hF); (try clear hN); (try clear hC); (try clear hf); (try clear hV); (try clear et); (try clear ew); (try clear hexit); (try clear hst); (try clear hnx); (try clear hnJ); (try clear hts); (try clear fx); (try clear em); (try clear ei); (try clear c0); (try clear c1))
          simp only [q212_56, q212_59, q212_60, q212_63, q212_65, q212_66, q212_67, q212_70, q212_72, q212_73, m_0 hS, m_K hS, mR_textFrom hS, mK_textFrom hS, mL_textFrom hS, as_nil, as_i, as_r, Nat.reduceAdd, Nat.reduceLeDiff, z_eq0, z_eq1, z_or, z_em, Classical.not_not, not_false_eq_true, not_true_eq_false, true_and, and_true, false_and, and_false, and_self, true_implies, false_implies, implies_true, Option.toList_some, Option.toList_none, List.cons_append, List.nil_append, Nat.add_eq_zero_iff, a_nl_i, a_nl_r, a_nl_n, true_or, or_true, eq_self, ok_4, ok_5, ok_6, ok_7, ok_9, ok_10, ok_20, ok_21, ok_24, ok_30, ok_48, ok_50, ok_60, ok_80, ok_120, ok_180, ok_192, ok_200, ok_900, ok_1000, ok_84000, n10, e30, c2, m2, i2]
          try simp only [true_and, and_true, true_implies, false_implies, implies_true, not_true_eq_false, not_false_eq_true]
          first
            | exact h76
            | grind
        · have hg := hnJ (fun q => c2 q.1.2.2)
          ((try clear ih); (try clear hF); (try clear hN); (try clear hC); (try clear hf); (try clear hV); (try clear et); (try clear ew); (try clear hexit); (try clear hst); (try clear hnx); (try clear hnJ); (try clear hts); (try clear fx); (try clear em); (try clear ei); (try clear c0); (try clear c1))
          simp only [q212_56, q212_59, q212_60, q212_63, q212_65, q212_66, q212_67, q212_70, q212_72, q212_73, m_0 hS, m_K hS, mR_textFrom hS, mK_textFrom hS, mL_textFrom hS, as_nil, as_i, as_r, Nat.reduceAdd, Nat.reduceLeDiff, z_eq0, z_eq1, z_or, z_em, Classical.not_not, not_false_eq_true, not_true_eq_false, true_and, and_true, false_and, and_false, and_self, true_implies, false_implies, implies_true, Option.toList_some, Option.toList_none, List.cons_append, List.nil_append, Nat.add_eq_zero_iff, a_nl_i, a_nl_r, a_nl_n, true_or, or_true, eq_self, ok_4, ok_5, ok_6, ok_7, ok_9, ok_10, ok_20, ok_21, ok_24, ok_30, ok_48, ok_50, ok_60, ok_80, ok_120, ok_180, ok_192, ok_200, ok_900, ok_1000, ok_84000, n10, e30, c2, m2, i2]
          try simp only [true_and, and_true, true_implies, false_implies, implies_true, not_true_eq_false, not_false_eq_true]
          first
            | exact hg
            | grind
      · rw [if_neg c1]
        have hg := hnJ (fun q => c1 q.1.2.1)
        refine ⟨ei2, fun _ => i2, ?_⟩
        ((try clear ih); (try clear hF); (try clear hN); (try clear hC); (try clear hf); (try clear hV); (try clear et); (try clear ew); (try clear e30); (try clear e31); (try clear hexit); (try clear hst); (try clear hnx); (try clear hnJ); (try clear hts); (try clear fx); (try clear em); (try clear ei); (try clear c0); (try clear c1))
        simp only [q212_56, as_nil, as_i, as_r, Nat.reduceAdd, Nat.reduceLeDiff, z_eq0, z_eq1, z_or, z_em, Classical.not_not, not_false_eq_true, not_true_eq_false, true_and, and_true, false_and, and_false, and_self, true_implies, false_implies, implies_true, Option.toList_some, Option.toList_none, List.cons_append, List.nil_append, Nat.add_eq_zero_iff, a_nl_i, a_nl_r, a_nl_n, true_or, or_true, eq_self, ok_4, ok_5, ok_6, ok_7, ok_9, ok_10, ok_20, ok_21, ok_24, ok_30, ok_48, ok_50, ok_60, ok_80, ok_120, ok_180, ok_192, ok_200, ok_900, ok_1000, ok_84000]
        try simp only [true_and, and_true, true_implies, false_implies, implies_true, not_true_eq_false, not_false_eq_true]
        first
          | exact hg
          | grind
    · rw [if_neg c0]
      have hg := hnJ (fun q => c0 q.1.1)
      refine ⟨em2, fun _ => m2, ?_⟩
      ((try clear ih); (try clear hF); (try clear hN); (try clear hC); (try clear hf); (try clear hV); (try clear et); (try clear ew); (try clear e30); (try clear e31); (try clear hexit); (try clear hst); (try clear hnx); (try clear hnJ); (try clear hts); (try clear fx); (try clear em); (try clear ei); (try clear c0))
      simp only [q212_44, as_nil, as_i, as_r, Nat.reduceAdd, Nat.reduceLeDiff, z_eq0, z_eq1, z_or, z_em, Classical.not_not, not_false_eq_true, not_true_eq_false, true_and, and_true, false_and, and_false, and_self, true_implies, false_implies, implies_true, Option.toList_some, Option.toList_none, List.cons_append, List.nil_append, Nat.add_eq_zero_iff, a_nl_i, a_nl_r, a_nl_n, true_or, or_true, eq_self, ok_4, ok_5, ok_6, ok_7, ok_9, ok_10, ok_20, ok_21, ok_24, ok_30, ok_48, ok_50, ok_60, ok_80, ok_120, ok_180, ok_192, ok_200, ok_900, ok_1000, ok_84000]
      try simp only [true_and, and_true, true_implies, false_implies, implies_true, not_true_eq_false, not_false_eq_true]
      first
        | exact hg
        | grind
  ((try clear ih); (try clear hF); (try clear hN); (try clear hf); (try clear hV); (try clear hst); (try clear hnx); (try clear hts); (try clear fx); (try clear ew); (try clear e30); (try clear e31); (try clear hC))
  rw [q212_26]
  simp only [q212_28, q212_29, q212_32, m_0 hS, m_K hS, as_nil, as_i, as_r, Nat.reduceAdd, Nat.reduceLeDiff, z_eq0, z_eq1, z_or, z_em, Classical.not_not, not_false_eq_true, not_true_eq_false, true_and, and_true, false_and, and_false, and_self, true_implies, false_implies, implies_true, Option.toList_some, Option.toList_none, List.cons_append, List.nil_append, Nat.add_eq_zero_iff, a_nl_i, a_nl_r, a_nl_n, true_or, or_true, eq_self, ok_4, ok_5, ok_6, ok_7, ok_9, ok_10, ok_20, ok_21, ok_24, ok_30, ok_48, ok_50, ok_60, ok_80, ok_120, ok_180, ok_192, ok_200, ok_900, ok_1000, ok_84000, et]
  generalize (yv M I0) 0 41 = z at hexit h35 ⊢
  ((try clear et); (try clear gt))
  grind
theorem xt_quarrel_11 (hS : m_S M K L R) (hts : tsY (yv M I0)) {a b s o : Int32} (ho : o = 0 ∨ o = 1) {fc : Nat → Int32} {V : Int32} (hP : ∀ J, mC M I0 J → P (some (.int V)) (n, t, K, L, J, R)) : ∀ i : Int32, i ≤ 20 → ∀ J u, 0 ≤ i → i ≤ (yv M I0) 0 41 → mC M I0 J → (∀ j, J (M + 32) j = fc j) → quO (yv M I0) s fc o (((yv M I0) 0 41).toNatClampNeg - i.toNatClampNeg) i = V → a_at (d + 6) (a_xm a_m212) 11 [some (a_rf M), some (.int a), some (.int b), some (.int s), some (.int o), some (.int i), u] [] (n, t, K, L, J, R) P := by
  refine up_ind 20 (fun i hi ih => ?_)
  intro J u h0 h1 hC hf hV
  have et : J M 41 = (yv M I0) 0 41 := hC.2 _ _ (by unfold sC; omega)
  have gt := rg_texts hC.1
  rw [et] at gt
  have hexit : ¬ i < (yv M I0) 0 41 → P (some (.int (-9))) (n, t, K, L, J, R) := fun w => by
    have hp := hP J hC
    rw [← hV, (lp_end h1 w).1] at hp
    exact hp
  have h20 : i < (yv M I0) 0 41 → a_at (d + 6) (a_xm a_m212) 26 [some (a_rf M), some (.int a), some (.int b), some (.int s), some (.int o), some (.int i), some (.int (i + 1))] [] (n, t, K, L, J, R) P := fun w => by
    obtain ⟨s1, s2, s3, s4⟩ := lp_st h0 w
    rw [s1] at hV
    have i20 : i < 20 := Int32.lt_of_lt_of_le w gt.2
    refine xt_quarrel_26 (d := d) hS hts ho ⟨h0, w⟩ (fc := fc) (V := quI (yv M I0) s fc i (((yv M I0) 0 41).toNatClampNeg - (i + 1).toNatClampNeg) (i + 1)) (fun J2 m1 hne => ?_) (fun J2 u m1 m2 he => ?_) (i + 1) (Int32.le_trans s3 gt.2) J s2 s3 hC hf rfl
    · have hp := hP J2 m1
      rw [← hV] at hp
      unfold quO at hp
      rw [if_neg hne] at hp
      exact hp
    · have hV2 : quO (yv M I0) s fc o (((yv M I0) 0 41).toNatClampNeg - (i + 1).toNatClampNeg) (i + 1) = V := by
        rw [← hV]
        conv => rhs; unfold quO
        rw [if_pos he]
      have hg := ih i20 J2 u s2 s3 m1 m2 hV2
      ((try clear ih); (try clear hP); (try clear hC); (try clear hf); (try clear hV); (try clear et); (try clear hexit); (try clear hV2); (try clear hts); (try clear m1); (try clear m2); (try clear he))
      simp only [q212_110, q212_113, as_nil, as_i, as_r, Nat.reduceAdd, Nat.reduceLeDiff, z_eq0, z_eq1, z_or, z_em, Classical.not_not, not_false_eq_true, not_true_eq_false, true_and, and_true, false_and, and_false, and_self, true_implies, false_implies, implies_true, Option.toList_some, Option.toList_none, List.cons_append, List.nil_append, Nat.add_eq_zero_iff, a_nl_i, a_nl_r, a_nl_n, true_or, or_true, eq_self, ok_4, ok_5, ok_6, ok_7, ok_9, ok_10, ok_20, ok_21, ok_24, ok_30, ok_48, ok_50, ok_60, ok_80, ok_120, ok_180, ok_192, ok_200, ok_900, ok_1000, ok_84000]
      exact hg
  ((try clear ih); (try clear hP); (try clear hf); (try clear hV); (try clear hts); (try clear hC))
  rw [q212_11]
  simp only [q212_13, q212_14, q212_17, q212_20, q212_22, q212_23, q212_24, q212_116, q212_118, m_0 hS, m_K hS, as_nil, as_i, as_r, Nat.reduceAdd, Nat.reduceLeDiff, z_eq0, z_eq1, z_or, z_em, Classical.not_not, not_false_eq_true, not_true_eq_false, true_and, and_true, false_and, and_false, and_self, true_implies, false_implies, implies_true, Option.toList_some, Option.toList_none, List.cons_append, List.nil_append, Nat.add_eq_zero_iff, a_nl_i, a_nl_r, a_nl_n, true_or, or_true, eq_self, ok_4, ok_5, ok_6, ok_7, ok_9, ok_10, ok_20, ok_21, ok_24, ok_30, ok_48, ok_50, ok_60, ok_80, ok_120, ok_180, ok_192, ok_200, ok_900, ok_1000, ok_84000, et]
  generalize (yv M I0) 0 41 = z at hexit h20 ⊢
  ((try clear et); (try clear gt))
  grind
theorem xt_quarrel (hS : m_S M K L R) (hC : mC M I0 I) (hm : mkP (yv M I0)) (hts : tsY (yv M I0)) {a b s o : Int32} (ho : o = 0 ∨ o = 1) (ha : 0 ≤ a ∧ a < 30) (hP : ∀ J, mC M I0 J → P (some (.int (quV (yv M I0) a b s o))) (n, t, K, L, J, R)) : a_does (d + 7) 212 [a_rf M, .int a, .int b, .int s, .int o] (n, t, K, L, I, R) P := by
  have gt := rg_texts hC.1
  have et : I M 41 = (yv M I0) 0 41 := hC.2 _ _ (by unfold sC; omega)
  rw [et] at gt
  rw [a_enter1 (M := a_m212) rfl (a_cat_rf (a_cat_int (a_cat_int (a_cat_int (a_cat_int a_cat_nil))))) (show 5 ≤ 7 by decide)]
  show a_at _ (a_xm a_m212) 0 [some (a_rf M), some (.int a), some (.int b), some (.int s), some (.int o), none, none] [] _ _
  simp only [q212_0, q212_1, q212_2, q212_3, q212_4, q212_5, m_0 hS, m_K hS, as_nil, as_i, as_r, Nat.reduceAdd, Nat.reduceLeDiff, z_eq0, z_eq1, z_or, z_em, Classical.not_not, not_false_eq_true, not_true_eq_false, true_and, and_true, false_and, and_false, and_self, true_implies, false_implies, implies_true, Option.toList_some, Option.toList_none, List.cons_append, List.nil_append, Nat.add_eq_zero_iff, a_nl_i, a_nl_r, a_nl_n, true_or, or_true, eq_self, ok_4, ok_5, ok_6, ok_7, ok_9, ok_10, ok_20, ok_21, ok_24, ok_30, ok_48, ok_50, ok_60, ok_80, ok_120, ok_180, ok_192, ok_200, ok_900, ok_1000, ok_84000]
  refine xt_findFacts (d := d + 3) hS hC hm ha (fun J m1 m2 => ?_)
  have hv : quO (yv M I0) s (J (M + 32)) o ((yv M I0) 0 41).toNatClampNeg 0 = quV (yv M I0) a b s o := quO_q m2 _ _
  have hlp := xt_quarrel_11 (d := d) (n := n) (t := t) (P := P) (a := a) (b := b) (s := s) hS hts ho (fc := J (M + 32)) (fun J2 q => hP J2 q) 0 (by decide) J none (by decide) gt.1 m1 (fun _ => rfl) (by rw [show (0 : Int32).toNatClampNeg = 0 from rfl, Nat.sub_zero, hv])
  ((try clear hP); (try clear m1); (try clear m2); (try clear hv); (try clear hts); (try clear hm))
  simp only [q212_8, q212_9, as_nil, as_i, as_r, Nat.reduceAdd, Nat.reduceLeDiff, z_eq0, z_eq1, z_or, z_em, Classical.not_not, not_false_eq_true, not_true_eq_false, true_and, and_true, false_and, and_false, and_self, true_implies, false_implies, implies_true, Option.toList_some, Option.toList_none, List.cons_append, List.nil_append, Nat.add_eq_zero_iff, a_nl_i, a_nl_r, a_nl_n, true_or, or_true, eq_self, ok_4, ok_5, ok_6, ok_7, ok_9, ok_10, ok_20, ok_21, ok_24, ok_30, ok_48, ok_50, ok_60, ok_80, ok_120, ok_180, ok_192, ok_200, ok_900, ok_1000, ok_84000]
  exact hlp

theorem xv_barred (hS : m_S M K L R) (hm : okY Y) (hg : gs M I0 I Y) {a b s w : Int32} (hP : ∀ J, P (some (.int (baV Y a b s w))) (n, t, K, L, J, R)) : a_does (d + 16) 208 [a_rf M, .int a, .int b, .int s, .int w] (n, t, K, L, I, R) P := by
  have hy := hm.1
  have hR := hg.1
  have h17 := hy.2.2.2.2.1
  have h10 := hy.2.1
  have h6 := hy.2.2.2.2.2.1
  have hl := hy.2.2.1
  have e17 : I M 17 = Y 0 17 := hg.2.2.1 0 17 (by unfold ps1; omega)
  have e6 : I M 6 = Y 0 6 := hg.2.2.1 0 6 (by unfold ps1; omega)
  have e0 : I M 0 = Y 0 0 := hg.2.2.1 0 0 (by unfold ps1; omega)
  have m17 : ∀ x : Int32, (x ≤ Y 0 17 - 1) = (x < Y 0 17) := fun x => le_m1 h17
  have m6 : ∀ x : Int32, (x ≤ Y 0 6 - 1) = (x < Y 0 6) := fun x => le_m1 ⟨h6.1, Int32.le_trans h6.2 (by decide)⟩
  have m199 : ∀ x : Int32, (x ≤ 199) = (x < 200) := le_199
  obtain ⟨-, mk0, ts0, -⟩ := moP_of hg.1 hm.2.1 hg.2.2
  by_cases c : (0 ≤ a ∧ a < Y 0 17) ∧ (0 ≤ b ∧ b < Y 0 6) ∧ (0 ≤ s ∧ s < 200)
  · have ha : 0 ≤ a ∧ a < 30 := ⟨c.1.1, Int32.lt_of_lt_of_le c.1.2 h17.2⟩
    by_cases c4 : 0 ≤ w ∧ w ≤ 4
    · rcases w5 c4 with e | e | e | e | e
      · subst e
        rw [ba_v0 c] at hP
        have hlp : a_does (d + 15) 210 [a_rf M, .int 66, .int a, .int b, .int s] (n, t, K, L, I, R) (fun r h' => a_at (d + 15) (a_xm a_m208) 85 [some (a_rf M), some (.int a), some (.int b), some (.int s), some (.int 0)] (r.toList ++ []) h' P) := by
          refine xt_holding (d := d + 8) (I0 := I) hS (mC_refl hR) mk0 ts0 (by decide) ha (fun J hJ => ?_)
          have hw : wtA (yv M I) 66 a b s = wtA Y 66 a b s := wtA_b (psE_b hg.2.2)
          show a_at (d + 15) (a_xm a_m208) 85 [some (a_rf M), some (.int a), some (.int b), some (.int s), some (.int 0)] [.int (wtA (yv M I) 66 a b s)] (n, t, K, L, J, R) P
          rw [hw]
          have hp := hP J
          have hrn := wt_rng hy.1 (g := 66) (a := a) (b := b) (s := s)
          ((try clear hP); (try clear hm); (try clear hy); (try clear hl); (try clear hg); (try clear mk0); (try clear ts0); (try clear hw))
          generalize wtA Y 66 a b s = z at hp hrn ⊢
          by_cases c9 : z = -9
          · rw [if_pos c9] at hp
            subst c9
            have n9 : (-9 : Int32) < 0 := by decide
            simp only [q208_85, q208_88, q208_89, q208_92, q208_93, as_nil, as_i, as_r, Nat.reduceAdd, Nat.reduceLeDiff, z_eq0, z_eq1, z_or, z_em, Classical.not_not, not_false_eq_true, not_true_eq_false, true_and, and_true, false_and, and_false, and_self, true_implies, false_implies, implies_true, Option.toList_some, Option.toList_none, List.cons_append, List.nil_append, Nat.add_eq_zero_iff, a_nl_i, a_nl_r, a_nl_n, true_or, or_true, eq_self, ok_4, ok_5, ok_6, ok_7, ok_9, ok_10, ok_20, ok_21, ok_24, ok_30, ok_48, ok_50, ok_60, ok_80, ok_120, ok_180, ok_192, ok_200, ok_900, ok_1000, ok_84000, n9]
            try simp only [true_and, and_true, true_implies, false_implies, implies_true, not_true_eq_false, not_false_eq_true]
            first
              | exact hp
              | grind
          · rw [if_neg c9] at hp
            have n9 : ¬ z < 0 := Int32.not_lt.mpr (hrn.resolve_left c9)
            simp only [q208_85, q208_88, q208_89, q208_92, q208_93, as_nil, as_i, as_r, Nat.reduceAdd, Nat.reduceLeDiff, z_eq0, z_eq1, z_or, z_em, Classical.not_not, not_false_eq_true, not_true_eq_false, true_and, and_true, false_and, and_false, and_self, true_implies, false_implies, implies_true, Option.toList_some, Option.toList_none, List.cons_append, List.nil_append, Nat.add_eq_zero_iff, a_nl_i, a_nl_r, a_nl_n, true_or, or_true, eq_self, ok_4, ok_5, ok_6, ok_7, ok_9, ok_10, ok_20, ok_21, ok_24, ok_30, ok_48, ok_50, ok_60, ok_80, ok_120, ok_180, ok_192, ok_200, ok_900, ok_1000, ok_84000, n9]
            try simp only [true_and, and_true, true_implies, false_implies, implies_true, not_true_eq_false, not_false_eq_true]
            first
              | exact hp
              | grind
        ((try clear hP); (try clear hm); (try clear hy); (try clear hl); (try clear hg); (try clear mk0); (try clear ts0))
        rw [a_enter1 (M := a_m208) rfl (a_cat_rf (a_cat_int (a_cat_int (a_cat_int (a_cat_int a_cat_nil))))) (show 5 ≤ 5 by decide)]
        show a_at _ (a_xm a_m208) 0 [some (a_rf M), some (.int a), some (.int b), some (.int s), some (.int 0)] [] _ _
        simp only [q208_0, q208_1, q208_2, q208_5, q208_8, q208_9, q208_10, q208_13, q208_16, q208_17, q208_20, q208_29, q208_31, q208_32, q208_33, q208_36, q208_39, q208_40, q208_42, q208_45, q208_46, q208_48, q208_76, q208_77, q208_79, q208_80, q208_81, q208_82, m_0 hS, m_K hS, sp_isAsk hS, sp_isBench hS, sp_isShift, sp_in, sp_refuse_1 hS, sp_refuse_2 hS, sp_refuse_3 hS, sp_refuse_4 hS, sp_refuse_5 hS, sp_refuse_6 hS, as_nil, as_i, as_r, Nat.reduceAdd, Nat.reduceLeDiff, z_eq0, z_eq1, z_or, z_em, Classical.not_not, not_false_eq_true, not_true_eq_false, true_and, and_true, false_and, and_false, and_self, true_implies, false_implies, implies_true, Option.toList_some, Option.toList_none, List.cons_append, List.nil_append, Nat.add_eq_zero_iff, a_nl_i, a_nl_r, a_nl_n, true_or, or_true, eq_self, ok_4, ok_5, ok_6, ok_7, ok_9, ok_10, ok_20, ok_21, ok_24, ok_30, ok_48, ok_50, ok_60, ok_80, ok_120, ok_180, ok_192, ok_200, ok_900, ok_1000, ok_84000, a_sw, ti_0, ti_1, ti_2, ti_3, ti_4, ti_5, ti_6, ti_7, ti_8, ti_9, ti_10, ti_11, ti_12, ti_13, ti_14, ti_15, ti_16, ti_17, ti_18, ti_19, ti_98, ti_99, ti_100, ti_101, ti_102, ti_103, ti_104, ti_105, ti_106, ti_107, ti_108, ti_109, ti_110, ti_111, ti_112, ti_113, ti_114, ti_115, ti_116, e17, m17, e6, m6, m199, c, ha]
        try simp only [true_and, and_true, true_implies, false_implies, implies_true, not_true_eq_false, not_false_eq_true]
        first
          | exact hlp
          | grind
      · subst e
        rw [ba_v1 c] at hP
        have hlp : a_does (d + 15) 210 [a_rf M, .int 87, .int a, .int b, .int s] (n, t, K, L, I, R) (fun r h' => a_at (d + 15) (a_xm a_m208) 103 [some (a_rf M), some (.int a), some (.int b), some (.int s), some (.int 1)] (r.toList ++ []) h' P) := by
          refine xt_holding (d := d + 8) (I0 := I) hS (mC_refl hR) mk0 ts0 (by decide) ha (fun J hJ => ?_)
          have hw : wtA (yv M I) 87 a b s = wtA Y 87 a b s := wtA_b (psE_b hg.2.2)
          show a_at (d + 15) (a_xm a_m208) 103 [some (a_rf M), some (.int a), some (.int b), some (.int s), some (.int 1)] [.int (wtA (yv M I) 87 a b s)] (n, t, K, L, J, R) P
          rw [hw]
          have hp := hP J
          have hrn := wt_rng hy.1 (g := 87) (a := a) (b := b) (s := s)
          ((try clear hP); (try clear hm); (try clear hy); (try clear hl); (try clear hg); (try clear mk0); (try clear ts0); (try clear hw))
          generalize wtA Y 87 a b s = z at hp hrn ⊢
          by_cases c9 : z = -9
          · rw [if_pos c9] at hp
            subst c9
            have n9 : (-9 : Int32) < 0 := by decide
            simp only [q208_103, q208_106, q208_107, q208_110, q208_111, as_nil, as_i, as_r, Nat.reduceAdd, Nat.reduceLeDiff, z_eq0, z_eq1, z_or, z_em, Classical.not_not, not_false_eq_true, not_true_eq_false, true_and, and_true, false_and, and_false, and_self, true_implies, false_implies, implies_true, Option.toList_some, Option.toList_none, List.cons_append, List.nil_append, Nat.add_eq_zero_iff, a_nl_i, a_nl_r, a_nl_n, true_or, or_true, eq_self, ok_4, ok_5, ok_6, ok_7, ok_9, ok_10, ok_20, ok_21, ok_24, ok_30, ok_48, ok_50, ok_60, ok_80, ok_120, ok_180, ok_192, ok_200, ok_900, ok_1000, ok_84000, n9]
            try simp only [true_and, and_true, true_implies, false_implies, implies_true, not_true_eq_false, not_false_eq_true]
            first
              | exact hp
              | grind
          · rw [if_neg c9] at hp
            have n9 : ¬ z < 0 := Int32.not_lt.mpr (hrn.resolve_left c9)
            simp only [q208_103, q208_106, q208_107, q208_110, q208_111, as_nil, as_i, as_r, Nat.reduceAdd, Nat.reduceLeDiff, z_eq0, z_eq1, z_or, z_em, Classical.not_not, not_false_eq_true, not_true_eq_false, true_and, and_true, false_and, and_false, and_self, true_implies, false_implies, implies_true, Option.toList_some, Option.toList_none, List.cons_append, List.nil_append, Nat.add_eq_zero_iff, a_nl_i, a_nl_r, a_nl_n, true_or, or_true, eq_self, ok_4, ok_5, ok_6, ok_7, ok_9, ok_10, ok_20, ok_21, ok_24, ok_30, ok_48, ok_50, ok_60, ok_80, ok_120, ok_180, ok_192, ok_200, ok_900, ok_1000, ok_84000, n9]
            try simp only [true_and, and_true, true_implies, false_implies, implies_true, not_true_eq_false, not_false_eq_true]
            first
              | exact hp
              | grind
        ((try clear hP); (try clear hm); (try clear hy); (try clear hl); (try clear hg); (try clear mk0); (try clear ts0))
        rw [a_enter1 (M := a_m208) rfl (a_cat_rf (a_cat_int (a_cat_int (a_cat_int (a_cat_int a_cat_nil))))) (show 5 ≤ 5 by decide)]
        show a_at _ (a_xm a_m208) 0 [some (a_rf M), some (.int a), some (.int b), some (.int s), some (.int 1)] [] _ _
        simp only [q208_0, q208_1, q208_2, q208_5, q208_8, q208_9, q208_10, q208_13, q208_16, q208_17, q208_20, q208_29, q208_31, q208_32, q208_33, q208_36, q208_39, q208_40, q208_42, q208_45, q208_46, q208_48, q208_76, q208_77, q208_79, q208_80, q208_81, q208_82, q208_85, q208_88, q208_89, q208_92, q208_93, q208_94, q208_95, q208_97, q208_98, q208_99, q208_100, m_0 hS, m_K hS, sp_isAsk hS, sp_isBench hS, sp_isShift, sp_in, sp_refuse_1 hS, sp_refuse_2 hS, sp_refuse_3 hS, sp_refuse_4 hS, sp_refuse_5 hS, sp_refuse_6 hS, as_nil, as_i, as_r, Nat.reduceAdd, Nat.reduceLeDiff, z_eq0, z_eq1, z_or, z_em, Classical.not_not, not_false_eq_true, not_true_eq_false, true_and, and_true, false_and, and_false, and_self, true_implies, false_implies, implies_true, Option.toList_some, Option.toList_none, List.cons_append, List.nil_append, Nat.add_eq_zero_iff, a_nl_i, a_nl_r, a_nl_n, true_or, or_true, eq_self, ok_4, ok_5, ok_6, ok_7, ok_9, ok_10, ok_20, ok_21, ok_24, ok_30, ok_48, ok_50, ok_60, ok_80, ok_120, ok_180, ok_192, ok_200, ok_900, ok_1000, ok_84000, a_sw, ti_0, ti_1, ti_2, ti_3, ti_4, ti_5, ti_6, ti_7, ti_8, ti_9, ti_10, ti_11, ti_12, ti_13, ti_14, ti_15, ti_16, ti_17, ti_18, ti_19, ti_98, ti_99, ti_100, ti_101, ti_102, ti_103, ti_104, ti_105, ti_106, ti_107, ti_108, ti_109, ti_110, ti_111, ti_112, ti_113, ti_114, ti_115, ti_116, e17, m17, e6, m6, m199, c, ha]
        try simp only [true_and, and_true, true_implies, false_implies, implies_true, not_true_eq_false, not_false_eq_true]
        first
          | exact hlp
          | grind
      · subst e
        rw [ba_v2 c] at hP
        have hlp : a_does (d + 15) 210 [a_rf M, .int 66, .int a, .int b, .int s] (n, t, K, L, I, R) (fun r h' => a_at (d + 15) (a_xm a_m208) 121 [some (a_rf M), some (.int a), some (.int b), some (.int s), some (.int 2)] (r.toList ++ []) h' P) := by
          refine xt_holding (d := d + 8) (I0 := I) hS (mC_refl hR) mk0 ts0 (by decide) ha (fun J hJ => ?_)
          have hw : wtA (yv M I) 66 a b s = wtA Y 66 a b s := wtA_b (psE_b hg.2.2)
          show a_at (d + 15) (a_xm a_m208) 121 [some (a_rf M), some (.int a), some (.int b), some (.int s), some (.int 2)] [.int (wtA (yv M I) 66 a b s)] (n, t, K, L, J, R) P
          rw [hw]
          have hp := hP J
          have hrn := wt_rng hy.1 (g := 66) (a := a) (b := b) (s := s)
          ((try clear hP); (try clear hm); (try clear hy); (try clear hl); (try clear hg); (try clear mk0); (try clear ts0); (try clear hw))
          simp only [q208_121, as_nil, as_i, as_r, Nat.reduceAdd, Nat.reduceLeDiff, z_eq0, z_eq1, z_or, z_em, Classical.not_not, not_false_eq_true, not_true_eq_false, true_and, and_true, false_and, and_false, and_self, true_implies, false_implies, implies_true, Option.toList_some, Option.toList_none, List.cons_append, List.nil_append, Nat.add_eq_zero_iff, a_nl_i, a_nl_r, a_nl_n, true_or, or_true, eq_self, ok_4, ok_5, ok_6, ok_7, ok_9, ok_10, ok_20, ok_21, ok_24, ok_30, ok_48, ok_50, ok_60, ok_80, ok_120, ok_180, ok_192, ok_200, ok_900, ok_1000, ok_84000]
          exact hp
        ((try clear hP); (try clear hm); (try clear hy); (try clear hl); (try clear hg); (try clear mk0); (try clear ts0))
        rw [a_enter1 (M := a_m208) rfl (a_cat_rf (a_cat_int (a_cat_int (a_cat_int (a_cat_int a_cat_nil))))) (show 5 ≤ 5 by decide)]
        show a_at _ (a_xm a_m208) 0 [some (a_rf M), some (.int a), some (.int b), some (.int s), some (.int 2)] [] _ _
        simp only [q208_0, q208_1, q208_2, q208_5, q208_8, q208_9, q208_10, q208_13, q208_16, q208_17, q208_20, q208_29, q208_31, q208_32, q208_33, q208_36, q208_39, q208_40, q208_42, q208_45, q208_46, q208_48, q208_76, q208_77, q208_79, q208_80, q208_81, q208_82, q208_85, q208_88, q208_89, q208_92, q208_93, q208_94, q208_95, q208_97, q208_98, q208_99, q208_100, q208_103, q208_106, q208_107, q208_110, q208_111, q208_112, q208_113, q208_115, q208_116, q208_117, q208_118, m_0 hS, m_K hS, sp_isAsk hS, sp_isBench hS, sp_isShift, sp_in, sp_refuse_1 hS, sp_refuse_2 hS, sp_refuse_3 hS, sp_refuse_4 hS, sp_refuse_5 hS, sp_refuse_6 hS, as_nil, as_i, as_r, Nat.reduceAdd, Nat.reduceLeDiff, z_eq0, z_eq1, z_or, z_em, Classical.not_not, not_false_eq_true, not_true_eq_false, true_and, and_true, false_and, and_false, and_self, true_implies, false_implies, implies_true, Option.toList_some, Option.toList_none, List.cons_append, List.nil_append, Nat.add_eq_zero_iff, a_nl_i, a_nl_r, a_nl_n, true_or, or_true, eq_self, ok_4, ok_5, ok_6, ok_7, ok_9, ok_10, ok_20, ok_21, ok_24, ok_30, ok_48, ok_50, ok_60, ok_80, ok_120, ok_180, ok_192, ok_200, ok_900, ok_1000, ok_84000, a_sw, ti_0, ti_1, ti_2, ti_3, ti_4, ti_5, ti_6, ti_7, ti_8, ti_9, ti_10, ti_11, ti_12, ti_13, ti_14, ti_15, ti_16, ti_17, ti_18, ti_19, ti_98, ti_99, ti_100, ti_101, ti_102, ti_103, ti_104, ti_105, ti_106, ti_107, ti_108, ti_109, ti_110, ti_111, ti_112, ti_113, ti_114, ti_115, ti_116, e17, m17, e6, m6, m199, c, ha]
        try simp only [true_and, and_true, true_implies, false_implies, implies_true, not_true_eq_false, not_false_eq_true]
        first
          | exact hlp
          | grind
      · subst e
        rw [ba_v3 c] at hP
        have hlp : a_does (d + 15) 212 [a_rf M, .int a, .int b, .int s, .int 0] (n, t, K, L, I, R) (fun r h' => a_at (d + 15) (a_xm a_m208) 140 [some (a_rf M), some (.int a), some (.int b), some (.int s), some (.int 3)] (r.toList ++ []) h' P) := by
          refine xt_quarrel (d := d + 8) (I0 := I) hS (mC_refl hR) mk0 ts0 (by decide) ha (fun J hJ => ?_)
          rw [quV_b (psE_b hg.2.2)]
          have hp := hP J
          ((try clear hP); (try clear hm); (try clear hy); (try clear hl); (try clear hg); (try clear mk0); (try clear ts0))
          simp only [q208_140, as_nil, as_i, as_r, Nat.reduceAdd, Nat.reduceLeDiff, z_eq0, z_eq1, z_or, z_em, Classical.not_not, not_false_eq_true, not_true_eq_false, true_and, and_true, false_and, and_false, and_self, true_implies, false_implies, implies_true, Option.toList_some, Option.toList_none, List.cons_append, List.nil_append, Nat.add_eq_zero_iff, a_nl_i, a_nl_r, a_nl_n, true_or, or_true, eq_self, ok_4, ok_5, ok_6, ok_7, ok_9, ok_10, ok_20, ok_21, ok_24, ok_30, ok_48, ok_50, ok_60, ok_80, ok_120, ok_180, ok_192, ok_200, ok_900, ok_1000, ok_84000]
          exact hp
        ((try clear hP); (try clear hm); (try clear hy); (try clear hl); (try clear hg); (try clear mk0); (try clear ts0))
        rw [a_enter1 (M := a_m208) rfl (a_cat_rf (a_cat_int (a_cat_int (a_cat_int (a_cat_int a_cat_nil))))) (show 5 ≤ 5 by decide)]
        show a_at _ (a_xm a_m208) 0 [some (a_rf M), some (.int a), some (.int b), some (.int s), some (.int 3)] [] _ _
        simp only [q208_0, q208_1, q208_2, q208_5, q208_8, q208_9, q208_10, q208_13, q208_16, q208_17, q208_20, q208_29, q208_31, q208_32, q208_33, q208_36, q208_39, q208_40, q208_42, q208_45, q208_46, q208_48, q208_76, q208_77, q208_79, q208_80, q208_81, q208_82, q208_85, q208_88, q208_89, q208_92, q208_93, q208_94, q208_95, q208_97, q208_98, q208_99, q208_100, q208_103, q208_106, q208_107, q208_110, q208_111, q208_112, q208_113, q208_115, q208_116, q208_117, q208_118, q208_121, q208_122, q208_123, q208_124, q208_125, q208_126, q208_128, q208_129, q208_132, q208_133, q208_136, q208_137, m_0 hS, m_K hS, sp_isAsk hS, sp_isBench hS, sp_isShift, sp_in, sp_refuse_1 hS, sp_refuse_2 hS, sp_refuse_3 hS, sp_refuse_4 hS, sp_refuse_5 hS, sp_refuse_6 hS, as_nil, as_i, as_r, Nat.reduceAdd, Nat.reduceLeDiff, z_eq0, z_eq1, z_or, z_em, Classical.not_not, not_false_eq_true, not_true_eq_false, true_and, and_true, false_and, and_false, and_self, true_implies, false_implies, implies_true, Option.toList_some, Option.toList_none, List.cons_append, List.nil_append, Nat.add_eq_zero_iff, a_nl_i, a_nl_r, a_nl_n, true_or, or_true, eq_self, ok_4, ok_5, ok_6, ok_7, ok_9, ok_10, ok_20, ok_21, ok_24, ok_30, ok_48, ok_50, ok_60, ok_80, ok_120, ok_180, ok_192, ok_200, ok_900, ok_1000, ok_84000, a_sw, ti_0, ti_1, ti_2, ti_3, ti_4, ti_5, ti_6, ti_7, ti_8, ti_9, ti_10, ti_11, ti_12, ti_13, ti_14, ti_15, ti_16, ti_17, ti_18, ti_19, ti_98, ti_99, ti_100, ti_101, ti_102, ti_103, ti_104, ti_105, ti_106, ti_107, ti_108, ti_109, ti_110, ti_111, ti_112, ti_113, ti_114, ti_115, ti_116, e17, m17, e6, m6, m199, c, ha]
        try simp only [true_and, and_true, true_implies, false_implies, implies_true, not_true_eq_false, not_false_eq_true]
        first
          | exact hlp
          | grind
      · subst e
        rw [ba_v4 c] at hP
        have hlp : a_does (d + 15) 212 [a_rf M, .int a, .int b, .int s, .int 1] (n, t, K, L, I, R) (fun r h' => a_at (d + 15) (a_xm a_m208) 140 [some (a_rf M), some (.int a), some (.int b), some (.int s), some (.int 4)] (r.toList ++ []) h' P) := by
          refine xt_quarrel (d := d + 8) (I0 := I) hS (mC_refl hR) mk0 ts0 (by decide) ha (fun J hJ => ?_)
          rw [quV_b (psE_b hg.2.2)]
          have hp := hP J
          ((try clear hP); (try clear hm); (try clear hy); (try clear hl); (try clear hg); (try clear mk0); (try clear ts0))
          simp only [q208_140, as_nil, as_i, as_r, Nat.reduceAdd, Nat.reduceLeDiff, z_eq0, z_eq1, z_or, z_em, Classical.not_not, not_false_eq_true, not_true_eq_false, true_and, and_true, false_and, and_false, and_self, true_implies, false_implies, implies_true, Option.toList_some, Option.toList_none, List.cons_append, List.nil_append, Nat.add_eq_zero_iff, a_nl_i, a_nl_r, a_nl_n, true_or, or_true, eq_self, ok_4, ok_5, ok_6, ok_7, ok_9, ok_10, ok_20, ok_21, ok_24, ok_30, ok_48, ok_50, ok_60, ok_80, ok_120, ok_180, ok_192, ok_200, ok_900, ok_1000, ok_84000]
          exact hp
        ((try clear hP); (try clear hm); (try clear hy); (try clear hl); (try clear hg); (try clear mk0); (try clear ts0))
        rw [a_enter1 (M := a_m208) rfl (a_cat_rf (a_cat_int (a_cat_int (a_cat_int (a_cat_int a_cat_nil))))) (show 5 ≤ 5 by decide)]
        show a_at _ (a_xm a_m208) 0 [some (a_rf M), some (.int a), some (.int b), some (.int s), some (.int 4)] [] _ _
        simp only [q208_0, q208_1, q208_2, q208_5, q208_8, q208_9, q208_10, q208_13, q208_16, q208_17, q208_20, q208_29, q208_31, q208_32, q208_33, q208_36, q208_39, q208_40, q208_42, q208_45, q208_46, q208_48, q208_76, q208_77, q208_79, q208_80, q208_81, q208_82, q208_85, q208_88, q208_89, q208_92, q208_93, q208_94, q208_95, q208_97, q208_98, q208_99, q208_100, q208_103, q208_106, q208_107, q208_110, q208_111, q208_112, q208_113, q208_115, q208_116, q208_117, q208_118, q208_121, q208_122, q208_123, q208_124, q208_125, q208_126, q208_128, q208_129, q208_132, q208_133, q208_136, q208_137, m_0 hS, m_K hS, sp_isAsk hS, sp_isBench hS, sp_isShift, sp_in, sp_refuse_1 hS, sp_refuse_2 hS, sp_refuse_3 hS, sp_refuse_4 hS, sp_refuse_5 hS, sp_refuse_6 hS, as_nil, as_i, as_r, Nat.reduceAdd, Nat.reduceLeDiff, z_eq0, z_eq1, z_or, z_em, Classical.not_not, not_false_eq_true, not_true_eq_false, true_and, and_true, false_and, and_false, and_self, true_implies, false_implies, implies_true, Option.toList_some, Option.toList_none, List.cons_append, List.nil_append, Nat.add_eq_zero_iff, a_nl_i, a_nl_r, a_nl_n, true_or, or_true, eq_self, ok_4, ok_5, ok_6, ok_7, ok_9, ok_10, ok_20, ok_21, ok_24, ok_30, ok_48, ok_50, ok_60, ok_80, ok_120, ok_180, ok_192, ok_200, ok_900, ok_1000, ok_84000, a_sw, ti_0, ti_1, ti_2, ti_3, ti_4, ti_5, ti_6, ti_7, ti_8, ti_9, ti_10, ti_11, ti_12, ti_13, ti_14, ti_15, ti_16, ti_17, ti_18, ti_19, ti_98, ti_99, ti_100, ti_101, ti_102, ti_103, ti_104, ti_105, ti_106, ti_107, ti_108, ti_109, ti_110, ti_111, ti_112, ti_113, ti_114, ti_115, ti_116, e17, m17, e6, m6, m199, c, ha]
        try simp only [true_and, and_true, true_implies, false_implies, implies_true, not_true_eq_false, not_false_eq_true]
        first
          | exact hlp
          | grind
    · rw [ba_2 c c4] at hP
      have hr := hP (a_ui I (M + 23) 2 (I (M + 23) 2 + 1))
      ((try clear hP); (try clear hm); (try clear hy); (try clear hl); (try clear hg); (try clear mk0); (try clear ts0))
      rw [a_enter1 (M := a_m208) rfl (a_cat_rf (a_cat_int (a_cat_int (a_cat_int (a_cat_int a_cat_nil))))) (show 5 ≤ 5 by decide)]
      show a_at _ (a_xm a_m208) 0 [some (a_rf M), some (.int a), some (.int b), some (.int s), some (.int w)] [] _ _
      simp only [q208_0, q208_1, q208_2, q208_5, q208_8, q208_9, q208_10, q208_13, q208_16, q208_17, q208_20, q208_29, q208_31, q208_32, q208_33, q208_36, q208_39, q208_40, q208_42, q208_45, m_0 hS, m_K hS, sp_isAsk hS, sp_isBench hS, sp_isShift, sp_in, sp_refuse_1 hS, sp_refuse_2 hS, sp_refuse_3 hS, sp_refuse_4 hS, sp_refuse_5 hS, sp_refuse_6 hS, as_nil, as_i, as_r, Nat.reduceAdd, Nat.reduceLeDiff, z_eq0, z_eq1, z_or, z_em, Classical.not_not, not_false_eq_true, not_true_eq_false, true_and, and_true, false_and, and_false, and_self, true_implies, false_implies, implies_true, Option.toList_some, Option.toList_none, List.cons_append, List.nil_append, Nat.add_eq_zero_iff, a_nl_i, a_nl_r, a_nl_n, true_or, or_true, eq_self, ok_4, ok_5, ok_6, ok_7, ok_9, ok_10, ok_20, ok_21, ok_24, ok_30, ok_48, ok_50, ok_60, ok_80, ok_120, ok_180, ok_192, ok_200, ok_900, ok_1000, ok_84000, e17, m17, e6, m6, m199, c, c4]
      try simp only [true_and, and_true, true_implies, false_implies, implies_true, not_true_eq_false, not_false_eq_true]
      first
        | exact hr
        | grind
  · rw [ba_1 c] at hP
    have hr := hP (a_ui I (M + 23) 1 (I (M + 23) 1 + 1))
    ((try clear hP); (try clear hm); (try clear hy); (try clear hl); (try clear hg); (try clear mk0); (try clear ts0))
    rw [a_enter1 (M := a_m208) rfl (a_cat_rf (a_cat_int (a_cat_int (a_cat_int (a_cat_int a_cat_nil))))) (show 5 ≤ 5 by decide)]
    show a_at _ (a_xm a_m208) 0 [some (a_rf M), some (.int a), some (.int b), some (.int s), some (.int w)] [] _ _
    simp only [q208_0, q208_1, q208_2, q208_5, q208_8, q208_9, q208_10, q208_13, q208_16, q208_17, q208_20, q208_23, q208_24, q208_25, q208_28, m_0 hS, m_K hS, sp_isAsk hS, sp_isBench hS, sp_isShift, sp_refuse_1 hS, sp_refuse_2 hS, sp_refuse_3 hS, sp_refuse_4 hS, sp_refuse_5 hS, sp_refuse_6 hS, as_nil, as_i, as_r, Nat.reduceAdd, Nat.reduceLeDiff, z_eq0, z_eq1, z_or, z_em, Classical.not_not, not_false_eq_true, not_true_eq_false, true_and, and_true, false_and, and_false, and_self, true_implies, false_implies, implies_true, Option.toList_some, Option.toList_none, List.cons_append, List.nil_append, Nat.add_eq_zero_iff, a_nl_i, a_nl_r, a_nl_n, true_or, or_true, eq_self, ok_4, ok_5, ok_6, ok_7, ok_9, ok_10, ok_20, ok_21, ok_24, ok_30, ok_48, ok_50, ok_60, ok_80, ok_120, ok_180, ok_192, ok_200, ok_900, ok_1000, ok_84000, e17, m17, e6, m6, m199]
    try simp only [true_and, and_true, true_implies, false_implies, implies_true, not_true_eq_false, not_false_eq_true]
    by_cases q1 : 0 ≤ a ∧ a < Y 0 17
    · by_cases q2 : 0 ≤ b ∧ b < Y 0 6
      · have q3 : ¬ (0 ≤ s ∧ s < 200) := fun q => c ⟨q1, q2, q⟩
        simp only [q1, q2, q3]
        try simp only [true_and, and_true, true_implies, false_implies, implies_true, not_true_eq_false, not_false_eq_true]
        first
          | exact hr
          | grind
      · simp only [q1, q2]
        try simp only [true_and, and_true, true_implies, false_implies, implies_true, not_true_eq_false, not_false_eq_true]
        first
          | exact hr
          | grind
    · simp only [q1]
      try simp only [true_and, and_true, true_implies, false_implies, implies_true, not_true_eq_false, not_false_eq_true]
      first
        | exact hr
        | grind
end ZY3
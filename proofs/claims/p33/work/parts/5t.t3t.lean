/-! the reference: what bars, FIT -/
section YT
variable {d n t M : Nat} {K L : Nat → Nat} {I I0 J J0 J1 J2 : Nat → Nat → Int32} {R : Nat → Nat → Nat} {P : Option Value → AH → Prop} {f : Nat → Int32} {e : Int32}
theorem xt_lostNow (hS : m_S M K L R) (hm : moP M I0) (hC : mC M I0 I) {s : Int32} (hs : 0 ≤ s ∧ s ≤ 199) (hP : P (some (.int (liY (yv M I0) s))) (n, t, K, L, I, R)) : a_does (d + 1) 177 [a_rf M, .int s, .int ((yv M I0) 0 0)] (n, t, K, L, I, R) P := by
  have e0 : (yv M I0) 0 0 = I M 0 := (hC.2 _ _ (by unfold sC; omega)).symm
  have hmI := moP_C hm hC
  have e : liY (yv M I0) s = liY (yv M I) s := by
    rw [liY_b (mC_sb hC)]
  rw [e] at hP
  rw [e0]
  exact ce_lostIn hS hmI.1 hmI.2.2.2.1 hs hP
theorem xt_barIn_241 (hS : m_S M K L R) (hm : moP M I0) (hC : mC M I0 I) {a b s f : Int32} (ha : 0 ≤ a ∧ a < 30) (hb : 0 ≤ b ∧ b ≤ 5) {V : Int32} (hV : V = (if 0 ≤ wtA (yv M I0) 66 a b s then 8 else if bcf (fhY (yv M I0) a b s) < (if 0 ≤ wtA (yv M I0) 87 a b s then 2 else 1) then 9 else if (yv M I0) 7 a.toNatClampNeg = 1 ∧ (¬ 0 ≤ (yv M I0) 20 ((yv M I0) 16 a.toNatClampNeg).toNatClampNeg ∨ f - ((yv M I0) 21 ((yv M I0) 16 a.toNatClampNeg).toNatClampNeg + (yv M I0) 10 ((yv M I0) 16 a.toNatClampNeg).toNatClampNeg - 1) - 1 < (yv M I0) 17 a.toNatClampNeg) then 10 else if (yv M I0) 7 a.toNatClampNeg = 2 ∧ ¬ ((yv M I0) 16 a.toNatClampNeg ≤ s ∧ s ≤ (yv M I0) 17 a.toNatClampNeg) then 11 else 0)) (hP : ∀ J, mC M I0 J → P (some (.int V)) (n, t, K, L, J, R)) {g o : Int32} {u : Option Value} : a_at (d + 8) (a_xm a_m222) 241 [some (a_rf M), some (.int a), some (.int b), some (.int s), some (.int f), some (.int g), some (.int o), u] [] (n, t, K, L, I, R) P := by
  simp only [q222_241, q222_242, q222_244, q222_245, q222_246, q222_247, m_0 hS, m_K hS, as_nil, as_i, as_r, Nat.reduceAdd, Nat.reduceLeDiff, z_eq0, z_eq1, z_or, z_em, Classical.not_not, not_false_eq_true, not_true_eq_false, true_and, and_true, false_and, and_false, and_self, true_implies, false_implies, implies_true, Option.toList_some, Option.toList_none, List.cons_append, List.nil_append, Nat.add_eq_zero_iff, a_nl_i, a_nl_r, a_nl_n, true_or, or_true, eq_self, ok_4, ok_5, ok_6, ok_7, ok_9, ok_10, ok_20, ok_21, ok_24, ok_30, ok_48, ok_50, ok_60, ok_80, ok_120, ok_180, ok_192, ok_200, ok_900, ok_1000, ok_84000]
  refine xt_holding (d := d + 1) hS hC hm.2.1 hm.2.2.1 (g := 66) (by decide) ha (fun J c => ?_)
  rw [show hgY (yv M I0) 66 s (fcY (yv M I0) a.toNatClampNeg (mkY (cmY (yv M I0)) (hsY (yv M I0)) a) b s 0) ((yv M I0) 0 41).toNatClampNeg 0 = wtA (yv M I0) 66 a b s from rfl]
  by_cases w8 : 0 ≤ wtA (yv M I0) 66 a b s
  · rw [if_pos w8] at hV
    have hp := hP J c
    rw [hV] at hp
    clear hV hP hm hC c
    simp only [q222_250, q222_253, q222_255, as_nil, as_i, as_r, Nat.reduceAdd, Nat.reduceLeDiff, z_eq0, z_eq1, z_or, z_em, Classical.not_not, not_false_eq_true, not_true_eq_false, true_and, and_true, false_and, and_false, and_self, true_implies, false_implies, implies_true, Option.toList_some, Option.toList_none, List.cons_append, List.nil_append, Nat.add_eq_zero_iff, a_nl_i, a_nl_r, a_nl_n, true_or, or_true, eq_self, ok_4, ok_5, ok_6, ok_7, ok_9, ok_10, ok_20, ok_21, ok_24, ok_30, ok_48, ok_50, ok_60, ok_80, ok_120, ok_180, ok_192, ok_200, ok_900, ok_1000, ok_84000, w8]
    first
      | exact hp
      | grind
  · rw [if_neg w8] at hV
    have h256 : a_at (d + 8) (a_xm a_m222) 256 [some (a_rf M), some (.int a), some (.int b), some (.int s), some (.int f), some (.int g), some (.int o), u] [] (n, t, K, L, J, R) P := by
      simp only [q222_256, q222_257, q222_258, q222_259, q222_260, m_0 hS, m_K hS, as_nil, as_i, as_r, Nat.reduceAdd, Nat.reduceLeDiff, z_eq0, z_eq1, z_or, z_em, Classical.not_not, not_false_eq_true, not_true_eq_false, true_and, and_true, false_and, and_false, and_self, true_implies, false_implies, implies_true, Option.toList_some, Option.toList_none, List.cons_append, List.nil_append, Nat.add_eq_zero_iff, a_nl_i, a_nl_r, a_nl_n, true_or, or_true, eq_self, ok_4, ok_5, ok_6, ok_7, ok_9, ok_10, ok_20, ok_21, ok_24, ok_30, ok_48, ok_50, ok_60, ok_80, ok_120, ok_180, ok_192, ok_200, ok_900, ok_1000, ok_84000]
      refine xt_freeHostsC (d := d + 6) hS c hb ?_
      simp only [q222_263, as_nil, as_i, as_r, Nat.reduceAdd, Nat.reduceLeDiff, z_eq0, z_eq1, z_or, z_em, Classical.not_not, not_false_eq_true, not_true_eq_false, true_and, and_true, false_and, and_false, and_self, true_implies, false_implies, implies_true, Option.toList_some, Option.toList_none, List.cons_append, List.nil_append, Nat.add_eq_zero_iff, a_nl_i, a_nl_r, a_nl_n, true_or, or_true, eq_self, ok_4, ok_5, ok_6, ok_7, ok_9, ok_10, ok_20, ok_21, ok_24, ok_30, ok_48, ok_50, ok_60, ok_80, ok_120, ok_180, ok_192, ok_200, ok_900, ok_1000, ok_84000]
      refine xt_ones (d := d + 7) (fhY_8 hm.2.2.2.2.2) ?_
      simp only [q222_266, q222_267, q222_268, q222_269, q222_270, m_0 hS, m_K hS, as_nil, as_i, as_r, Nat.reduceAdd, Nat.reduceLeDiff, z_eq0, z_eq1, z_or, z_em, Classical.not_not, not_false_eq_true, not_true_eq_false, true_and, and_true, false_and, and_false, and_self, true_implies, false_implies, implies_true, Option.toList_some, Option.toList_none, List.cons_append, List.nil_append, Nat.add_eq_zero_iff, a_nl_i, a_nl_r, a_nl_n, true_or, or_true, eq_self, ok_4, ok_5, ok_6, ok_7, ok_9, ok_10, ok_20, ok_21, ok_24, ok_30, ok_48, ok_50, ok_60, ok_80, ok_120, ok_180, ok_192, ok_200, ok_900, ok_1000, ok_84000]
      refine xt_isWatched (d := d) hS hm c ha (fun J2 c2 => ?_)
      have h287 : ¬ bcf (fhY (yv M I0) a b s) < (if 0 ≤ wtA (yv M I0) 87 a b s then 2 else 1) → a_at (d + 8) (a_xm a_m222) 287 [some (a_rf M), some (.int a), some (.int b), some (.int s), some (.int f), some (.int g), some (.int o), u] [] (n, t, K, L, J2, R) P := fun w9 => by
        rw [if_neg w9] at hV
        have e7 : J2 (M + 7) a.toNatClampNeg = (yv M I0) 7 a.toNatClampNeg := c2.2 _ _ (by unfold sC; omega)
        have e16 : J2 (M + 16) a.toNatClampNeg = (yv M I0) 16 a.toNatClampNeg := c2.2 _ _ (by unfold sC; omega)
        have e17 : J2 (M + 17) a.toNatClampNeg = (yv M I0) 17 a.toNatClampNeg := c2.2 _ _ (by unfold sC; omega)
        simp only [q222_287, q222_288, q222_289, q222_291, m_0 hS, m_K hS, as_nil, as_i, as_r, Nat.reduceAdd, Nat.reduceLeDiff, z_eq0, z_eq1, z_or, z_em, Classical.not_not, not_false_eq_true, not_true_eq_false, true_and, and_true, false_and, and_false, and_self, true_implies, false_implies, implies_true, Option.toList_some, Option.toList_none, List.cons_append, List.nil_append, Nat.add_eq_zero_iff, a_nl_i, a_nl_r, a_nl_n, true_or, or_true, eq_self, ok_4, ok_5, ok_6, ok_7, ok_9, ok_10, ok_20, ok_21, ok_24, ok_30, ok_48, ok_50, ok_60, ok_80, ok_120, ok_180, ok_192, ok_200, ok_900, ok_1000, ok_84000]
        refine xt_isTooNear (d := d + 6) hS c2 ha (fun w10 => ?_) (fun w10 => ?_)
        · unfold tnY at w10
          rw [if_neg w10] at hV
          have hp := hP J2 c2
          rw [hV] at hp
          clear hV hP hm hC c c2
          simp only [q222_294, q222_300, q222_301, q222_304, q222_305, q222_306, q222_307, q222_310, q222_311, q222_312, q222_315, q222_316, q222_317, q222_318, q222_321, q222_322, q222_323, q222_326, q222_329, q222_331, q222_334, q222_335, m_0 hS, m_K hS, mR_kind hS, mK_kind hS, mL_kind hS, mR_xOf hS, mK_xOf hS, mL_xOf hS, mR_yOf hS, mK_yOf hS, mL_yOf hS, sp_in, as_nil, as_i, as_r, Nat.reduceAdd, Nat.reduceLeDiff, z_eq0, z_eq1, z_or, z_em, Classical.not_not, not_false_eq_true, not_true_eq_false, true_and, and_true, false_and, and_false, and_self, true_implies, false_implies, implies_true, Option.toList_some, Option.toList_none, List.cons_append, List.nil_append, Nat.add_eq_zero_iff, a_nl_i, a_nl_r, a_nl_n, true_or, or_true, eq_self, ok_4, ok_5, ok_6, ok_7, ok_9, ok_10, ok_20, ok_21, ok_24, ok_30, ok_48, ok_50, ok_60, ok_80, ok_120, ok_180, ok_192, ok_200, ok_900, ok_1000, ok_84000, e7, e16, e17]
          generalize (yv M I0) 7 a.toNatClampNeg = y7 at hp ⊢
          generalize (yv M I0) 16 a.toNatClampNeg = y16 at hp ⊢
          generalize (yv M I0) 17 a.toNatClampNeg = y17 at hp ⊢
          clear e7 e16 e17 w10 w9
          grind
        · have w10' : (yv M I0) 7 a.toNatClampNeg = 1 ∧ (¬ 0 ≤ (yv M I0) 20 ((yv M I0) 16 a.toNatClampNeg).toNatClampNeg ∨ f - ((yv M I0) 21 ((yv M I0) 16 a.toNatClampNeg).toNatClampNeg + (yv M I0) 10 ((yv M I0) 16 a.toNatClampNeg).toNatClampNeg - 1) - 1 < (yv M I0) 17 a.toNatClampNeg) := w10
          rw [if_pos w10'] at hV
          have hp := hP J2 c2
          rw [hV] at hp
          have n10 : ¬ (1 : Int32) = 0 := by decide
          clear hV hP hm hC c c2
          simp only [q222_294, q222_297, q222_299, as_nil, as_i, as_r, Nat.reduceAdd, Nat.reduceLeDiff, z_eq0, z_eq1, z_or, z_em, Classical.not_not, not_false_eq_true, not_true_eq_false, true_and, and_true, false_and, and_false, and_self, true_implies, false_implies, implies_true, Option.toList_some, Option.toList_none, List.cons_append, List.nil_append, Nat.add_eq_zero_iff, a_nl_i, a_nl_r, a_nl_n, true_or, or_true, eq_self, ok_4, ok_5, ok_6, ok_7, ok_9, ok_10, ok_20, ok_21, ok_24, ok_30, ok_48, ok_50, ok_60, ok_80, ok_120, ok_180, ok_192, ok_200, ok_900, ok_1000, ok_84000, n10]
          first
            | exact hp
            | grind
      have h9 : bcf (fhY (yv M I0) a b s) < (if 0 ≤ wtA (yv M I0) 87 a b s then 2 else 1) → P (some (.int 9)) (n, t, K, L, J2, R) := fun w9 => by
        rw [if_pos w9] at hV
        have hp := hP J2 c2
        rw [hV] at hp
        exact hp
      generalize bcf (fhY (yv M I0) a b s) = q at h287 h9 ⊢
      by_cases w : 0 ≤ wtA (yv M I0) 87 a b s
      · rw [if_pos w] at h287 h9 ⊢
        have n10 : ¬ (1 : Int32) = 0 := by decide
        clear hV hP hm hC c c2
        simp only [q222_273, q222_276, q222_277, q222_280, q222_281, q222_284, q222_286, as_nil, as_i, as_r, Nat.reduceAdd, Nat.reduceLeDiff, z_eq0, z_eq1, z_or, z_em, Classical.not_not, not_false_eq_true, not_true_eq_false, true_and, and_true, false_and, and_false, and_self, true_implies, false_implies, implies_true, Option.toList_some, Option.toList_none, List.cons_append, List.nil_append, Nat.add_eq_zero_iff, a_nl_i, a_nl_r, a_nl_n, true_or, or_true, eq_self, ok_4, ok_5, ok_6, ok_7, ok_9, ok_10, ok_20, ok_21, ok_24, ok_30, ok_48, ok_50, ok_60, ok_80, ok_120, ok_180, ok_192, ok_200, ok_900, ok_1000, ok_84000, n10]
        grind
      · rw [if_neg w] at h287 h9 ⊢
        clear hV hP hm hC c c2
        simp only [q222_273, q222_276, q222_277, q222_280, q222_281, q222_284, q222_286, as_nil, as_i, as_r, Nat.reduceAdd, Nat.reduceLeDiff, z_eq0, z_eq1, z_or, z_em, Classical.not_not, not_false_eq_true, not_true_eq_false, true_and, and_true, false_and, and_false, and_self, true_implies, false_implies, implies_true, Option.toList_some, Option.toList_none, List.cons_append, List.nil_append, Nat.add_eq_zero_iff, a_nl_i, a_nl_r, a_nl_n, true_or, or_true, eq_self, ok_4, ok_5, ok_6, ok_7, ok_9, ok_10, ok_20, ok_21, ok_24, ok_30, ok_48, ok_50, ok_60, ok_80, ok_120, ok_180, ok_192, ok_200, ok_900, ok_1000, ok_84000]
        grind
    clear hV hP hm hC c
    simp only [q222_250, as_nil, as_i, as_r, Nat.reduceAdd, Nat.reduceLeDiff, z_eq0, z_eq1, z_or, z_em, Classical.not_not, not_false_eq_true, not_true_eq_false, true_and, and_true, false_and, and_false, and_self, true_implies, false_implies, implies_true, Option.toList_some, Option.toList_none, List.cons_append, List.nil_append, Nat.add_eq_zero_iff, a_nl_i, a_nl_r, a_nl_n, true_or, or_true, eq_self, ok_4, ok_5, ok_6, ok_7, ok_9, ok_10, ok_20, ok_21, ok_24, ok_30, ok_48, ok_50, ok_60, ok_80, ok_120, ok_180, ok_192, ok_200, ok_900, ok_1000, ok_84000, w8]
    first
      | exact h256
      | grind
theorem xt_barIn (hS : m_S M K L R) (hm : moP M I0) (hC : mC M I0 I) {a b s f : Int32} (ha : 0 ≤ a ∧ a < 30) (hb : 0 ≤ b ∧ b ≤ 5) (hs : 0 ≤ s) (hP : ∀ J, mC M I0 J → P (some (.int (brY (yv M I0) a b s f))) (n, t, K, L, J, R)) : a_does (d + 9) 222 [a_rf M, .int a, .int b, .int s, .int f] (n, t, K, L, I, R) P := by
  have e0 : I M 0 = (yv M I0) 0 0 := hC.2 _ _ (by unfold sC; omega)
  have e12 : I (M + 12) a.toNatClampNeg = (yv M I0) 12 a.toNatClampNeg := hC.2 _ _ (by unfold sC; omega)
  have e5 : I (M + 5) b.toNatClampNeg = (yv M I0) 5 b.toNatClampNeg := hC.2 _ _ (by unfold sC; omega)
  have e11 : I (M + 11) a.toNatClampNeg = (yv M I0) 11 a.toNatClampNeg := hC.2 _ _ (by unfold sC; omega)
  have e1 : I (M + 1) s.toNatClampNeg = (yv M I0) 1 s.toNatClampNeg := hC.2 _ _ (by unfold sC; omega)
  have e13 : I (M + 13) a.toNatClampNeg = (yv M I0) 13 a.toNatClampNeg := hC.2 _ _ (by unfold sC; omega)
  have ga := rg_asks hC.1
  have ea : I M 17 = (yv M I0) 0 17 := hC.2 _ _ (by unfold sC; omega)
  rw [ea] at ga
  unfold brY at hP
  have hfx : ∀ v, ¬ v = 0 → v = fxY (yv M I0) a b s → P (some (.int v)) (n, t, K, L, I, R) := fun v v0 e => by
    have hp := hP I hC
    rw [← e, if_pos v0] at hp
    exact hp
  have h98 : fxY (yv M I0) a b s = 0 → a_at (d + 8) (a_xm a_m222) 98 [some (a_rf M), some (.int a), some (.int b), some (.int s), some (.int f), none, none, none] [] (n, t, K, L, I, R) P := fun z => by
    rw [if_neg (fun q => q z)] at hP
    have hl := xt_barIn_104 (d := d) (n := n) (t := t) (P := P) (a := a) (b := b) (s := s) (f := f) hS hC ha (V := (hgI (yv M I0) a b s ((yv M I0) 0 17).toNatClampNeg 0 0)) (fun e6 => by
      have hp := hP I hC
      rw [e6, if_pos (by decide)] at hp
      exact hp) (fun g o u hg e => by
      by_cases c : g = 0
      · rw [if_pos c] at e
        have h241 := xt_barIn_241 (d := d) (n := n) (t := t) (P := P) (s := s) (f := f) (g := g) (o := o) (u := u) hS hm hC ha hb rfl (fun J cJ => by
          have hp := hP J cJ
          rw [e, if_neg (fun q => q rfl)] at hp
          exact hp)
        clear hP hm hC e hfx
        simp only [q222_233, q222_235, as_nil, as_i, as_r, Nat.reduceAdd, Nat.reduceLeDiff, z_eq0, z_eq1, z_or, z_em, Classical.not_not, not_false_eq_true, not_true_eq_false, true_and, and_true, false_and, and_false, and_self, true_implies, false_implies, implies_true, Option.toList_some, Option.toList_none, List.cons_append, List.nil_append, Nat.add_eq_zero_iff, a_nl_i, a_nl_r, a_nl_n, true_or, or_true, eq_self, ok_4, ok_5, ok_6, ok_7, ok_9, ok_10, ok_20, ok_21, ok_24, ok_30, ok_48, ok_50, ok_60, ok_80, ok_120, ok_180, ok_192, ok_200, ok_900, ok_1000, ok_84000, c]
        first
          | exact h241
          | (rw [c] at h241; exact h241)
          | grind
      · rw [if_neg c] at e
        have hp := hP I hC
        rw [e, if_pos (by decide)] at hp
        clear hP hm hC e hfx
        simp only [q222_233, q222_235, q222_238, q222_240, as_nil, as_i, as_r, Nat.reduceAdd, Nat.reduceLeDiff, z_eq0, z_eq1, z_or, z_em, Classical.not_not, not_false_eq_true, not_true_eq_false, true_and, and_true, false_and, and_false, and_self, true_implies, false_implies, implies_true, Option.toList_some, Option.toList_none, List.cons_append, List.nil_append, Nat.add_eq_zero_iff, a_nl_i, a_nl_r, a_nl_n, true_or, or_true, eq_self, ok_4, ok_5, ok_6, ok_7, ok_9, ok_10, ok_20, ok_21, ok_24, ok_30, ok_48, ok_50, ok_60, ok_80, ok_120, ok_180, ok_192, ok_200, ok_900, ok_1000, ok_84000, c]
        first
          | exact hp
          | grind) 0 (by decide) 0 none (Or.inl rfl) (by decide) ga.1 (by rw [lp_0])
    clear hP hm hC hfx
    simp only [q222_98, q222_99, q222_101, q222_102, as_nil, as_i, as_r, Nat.reduceAdd, Nat.reduceLeDiff, z_eq0, z_eq1, z_or, z_em, Classical.not_not, not_false_eq_true, not_true_eq_false, true_and, and_true, false_and, and_false, and_self, true_implies, false_implies, implies_true, Option.toList_some, Option.toList_none, List.cons_append, List.nil_append, Nat.add_eq_zero_iff, a_nl_i, a_nl_r, a_nl_n, true_or, or_true, eq_self, ok_4, ok_5, ok_6, ok_7, ok_9, ok_10, ok_20, ok_21, ok_24, ok_30, ok_48, ok_50, ok_60, ok_80, ok_120, ok_180, ok_192, ok_200, ok_900, ok_1000, ok_84000]
    exact hl
  have hlost := fun Q => xt_lostNow (d := d + 7) (s := s) (P := Q) (n := n) (t := t) hS hm hC
  have hX : fxY (yv M I0) a b s = fxY (yv M I0) a b s := rfl
  conv at hX => rhs; unfold fxY
  generalize fxY (yv M I0) a b s = F at h98 hfx hX
  clear hP hC hm ea
  rw [a_enter1 (M := a_m222) rfl (a_cat_rf (a_cat_int (a_cat_int (a_cat_int (a_cat_int a_cat_nil))))) (show 5 ≤ 8 by decide)]
  show a_at _ (a_xm a_m222) 0 [some (a_rf M), some (.int a), some (.int b), some (.int s), some (.int f), none, none, none] [] _ _
  repeat' first
    | with_reducible apply And.intro
    | with_reducible assumption
    | with_reducible intro _
    | refine h98 ?_
    | refine hfx _ ?_ ?_
    | refine hlost _ ?_ ?_
    | simp only [q222_0, q222_1, q222_4, q222_5, q222_6, q222_7, q222_8, q222_9, q222_10, q222_13, q222_14, q222_15, q222_16, q222_19, q222_20, q222_21, q222_22, q222_25, q222_26, q222_27, q222_28, q222_29, q222_30, q222_33, q222_34, q222_35, q222_36, q222_39, q222_42, q222_43, q222_44, q222_47, q222_50, q222_51, q222_52, q222_53, q222_56, q222_57, q222_58, q222_59, q222_62, q222_63, q222_64, q222_65, q222_68, q222_71, q222_73, q222_76, q222_77, q222_78, q222_79, q222_82, q222_83, q222_84, q222_85, q222_88, q222_89, q222_90, q222_91, q222_92, q222_93, q222_96, q222_97, m_0 hS, m_K hS, mR_benchSet hS, mK_benchSet hS, mL_benchSet hS, mR_can hS, mK_can hS, mL_can hS, mR_wants hS, mK_wants hS, mL_wants hS, mR_modes hS, mK_modes hS, mL_modes hS, mR_modeSet hS, mK_modeSet hS, mL_modeSet hS, sp_isBegun hS, as_nil, as_i, as_r, Nat.reduceAdd, Nat.reduceLeDiff, z_eq0, z_eq1, z_or, z_em, Classical.not_not, not_false_eq_true, not_true_eq_false, true_and, and_true, false_and, and_false, and_self, true_implies, false_implies, implies_true, Option.toList_some, Option.toList_none, List.cons_append, List.nil_append, Nat.add_eq_zero_iff, a_nl_i, a_nl_r, a_nl_n, true_or, or_true, eq_self, ok_4, ok_5, ok_6, ok_7, ok_9, ok_10, ok_20, ok_21, ok_24, ok_30, ok_48, ok_50, ok_60, ok_80, ok_120, ok_180, ok_192, ok_200, ok_900, ok_1000, ok_84000, e0, e12, e5, e11, e1, e13]
  all_goals ((try clear h98); (try clear hfx); (try clear hlost); (try clear hS); (try clear e0); (try clear e12); (try clear e5); (try clear e11); (try clear e1); (try clear e13); grind [ui_ap])
theorem xt_fitOf_3 (hS : m_S M K L R) (hm : moP M I0) {a b f : Int32} (ha : 0 ≤ a ∧ a < 30) (hb : 0 ≤ b ∧ b ≤ 5) (hf : 0 ≤ f ∧ f ≤ 199) {V : Int32} (hP : ∀ J, mC M I0 J → P (some (.int V)) (n, t, K, L, J, R)) : ∀ i : Int32, i ≤ 4 → ∀ J u, mC M I0 J → 0 ≤ i → i ≤ (yv M I0) 10 a.toNatClampNeg → ftI (yv M I0) a b f (((yv M I0) 10 a.toNatClampNeg).toNatClampNeg - i.toNatClampNeg) i = V → a_at (d + 9) (a_xm a_m221) 3 [some (a_rf M), some (.int a), some (.int b), some (.int f), some (.int i), u] [] (n, t, K, L, J, R) P := by
  have gl := rg_length hm.1 a.toNatClampNeg
  replace gl : 0 ≤ (yv M I0) 10 a.toNatClampNeg ∧ (yv M I0) 10 a.toNatClampNeg ≤ 4 := gl
  refine up_ind 4 (fun i i4 ih => ?_)
  intro J u hJ h0 h1 hV
  have e10 : J (M + 10) a.toNatClampNeg = (yv M I0) 10 a.toNatClampNeg := hJ.2 _ _ (by unfold sC; omega)
  generalize ez : (yv M I0) 10 a.toNatClampNeg = z at gl h1 hV e10 ih
  have hexit : ¬ i < z → P (some (.int 0)) (n, t, K, L, J, R) := fun w => by
    rw [(lp_end h1 w).1] at hV
    rw [show 0 = V from hV]
    exact hP J hJ
  have hV2 : i < z → (if 0 < brY (yv M I0) a b (f + i) f then brY (yv M I0) a b (f + i) f else ftI (yv M I0) a b f (z.toNatClampNeg - (i + 1).toNatClampNeg) (i + 1)) = V := fun w => by
    rw [(lp_st h0 w).1] at hV
    exact hV
  have hcall : i < z → a_does (d + 9) 222 [a_rf M, .int a, .int b, .int (f + i), .int f] (n, t, K, L, J, R) (fun r h' => a_at (d + 9) (a_xm a_m221) 25 [some (a_rf M), some (.int a), some (.int b), some (.int f), some (.int i), u] (r.toList ++ []) h' P) := fun w => by
    have hV := hV2 w
    obtain ⟨s1, s2, s3, s4⟩ := lp_st h0 w
    refine xt_barIn (d := d) hS hm hJ ha hb (by clear ih hV hV2 hP hexit; grind) (fun J2 c2 => ?_)
    generalize brY (yv M I0) a b (f + i) f = v at hV ⊢
    by_cases q : 0 < v
    · rw [if_pos q] at hV
      have hp := hP J2 c2
      rw [← hV] at hp
      clear ih hV hV2 hP hexit hm hJ
      simp only [q221_25, q221_27, q221_29, q221_32, q221_34, as_nil, as_i, as_r, Nat.reduceAdd, Nat.reduceLeDiff, z_eq0, z_eq1, z_or, z_em, Classical.not_not, not_false_eq_true, not_true_eq_false, true_and, and_true, false_and, and_false, and_self, true_implies, false_implies, implies_true, Option.toList_some, Option.toList_none, List.cons_append, List.nil_append, Nat.add_eq_zero_iff, a_nl_i, a_nl_r, a_nl_n, true_or, or_true, eq_self, ok_4, ok_5, ok_6, ok_7, ok_9, ok_10, ok_20, ok_21, ok_24, ok_30, ok_48, ok_50, ok_60, ok_80, ok_120, ok_180, ok_192, ok_200, ok_900, ok_1000, ok_84000, q]
      grind
    · rw [if_neg q] at hV
      have hg := ih (by clear ih hV hV2 hP hexit; grind) J2 (some (.int v)) c2 s2 s3 hV
      clear ih hV hV2 hP hexit hm hJ
      simp only [q221_25, q221_27, q221_29, q221_35, q221_38, as_nil, as_i, as_r, Nat.reduceAdd, Nat.reduceLeDiff, z_eq0, z_eq1, z_or, z_em, Classical.not_not, not_false_eq_true, not_true_eq_false, true_and, and_true, false_and, and_false, and_self, true_implies, false_implies, implies_true, Option.toList_some, Option.toList_none, List.cons_append, List.nil_append, Nat.add_eq_zero_iff, a_nl_i, a_nl_r, a_nl_n, true_or, or_true, eq_self, ok_4, ok_5, ok_6, ok_7, ok_9, ok_10, ok_20, ok_21, ok_24, ok_30, ok_48, ok_50, ok_60, ok_80, ok_120, ok_180, ok_192, ok_200, ok_900, ok_1000, ok_84000, q]
      grind
  clear ih hV hV2 hP hm hJ
  rw [q221_3]
  repeat' first
    | with_reducible apply And.intro
    | with_reducible assumption
    | with_reducible intro _
    | refine hexit ?_
    | refine hcall ?_
    | simp only [q221_5, q221_6, q221_9, q221_10, q221_11, q221_14, q221_15, q221_16, q221_17, q221_18, q221_20, q221_21, q221_22, q221_41, q221_42, m_0 hS, m_K hS, mR_length hS, mK_length hS, mL_length hS, as_nil, as_i, as_r, Nat.reduceAdd, Nat.reduceLeDiff, z_eq0, z_eq1, z_or, z_em, Classical.not_not, not_false_eq_true, not_true_eq_false, true_and, and_true, false_and, and_false, and_self, true_implies, false_implies, implies_true, Option.toList_some, Option.toList_none, List.cons_append, List.nil_append, Nat.add_eq_zero_iff, a_nl_i, a_nl_r, a_nl_n, true_or, or_true, eq_self, ok_4, ok_5, ok_6, ok_7, ok_9, ok_10, ok_20, ok_21, ok_24, ok_30, ok_48, ok_50, ok_60, ok_80, ok_120, ok_180, ok_192, ok_200, ok_900, ok_1000, ok_84000, e10]
  all_goals ((try clear hexit); (try clear hcall); (try clear hS); grind [ui_ap])
theorem xt_fitOf (hS : m_S M K L R) (hm : moP M I0) (hC : mC M I0 I) {a b f : Int32} (ha : 0 ≤ a ∧ a < 30) (hb : 0 ≤ b ∧ b ≤ 5) (hf : 0 ≤ f ∧ f ≤ 199) (hP : ∀ J, mC M I0 J → P (some (.int (ftY (yv M I0) a b f))) (n, t, K, L, J, R)) : a_does (d + 10) 221 [a_rf M, .int a, .int b, .int f] (n, t, K, L, I, R) P := by
  have gl := rg_length hm.1 a.toNatClampNeg
  replace gl : 0 ≤ (yv M I0) 10 a.toNatClampNeg ∧ (yv M I0) 10 a.toNatClampNeg ≤ 4 := gl
  have hl := xt_fitOf_3 (d := d) (n := n) (t := t) (P := P) hS hm ha hb hf hP 0 (by decide) I none hC (by decide) gl.1 (by rw [lp_0]; rfl)
  clear hP hC hm
  rw [a_enter1 (M := a_m221) rfl (a_cat_rf (a_cat_int (a_cat_int (a_cat_int a_cat_nil)))) (show 4 ≤ 6 by decide)]
  show a_at _ (a_xm a_m221) 0 [some (a_rf M), some (.int a), some (.int b), some (.int f), none, none] [] _ _
  simp only [q221_0, q221_1, as_nil, as_i, as_r, Nat.reduceAdd, Nat.reduceLeDiff, z_eq0, z_eq1, z_or, z_em, Classical.not_not, not_false_eq_true, not_true_eq_false, true_and, and_true, false_and, and_false, and_self, true_implies, false_implies, implies_true, Option.toList_some, Option.toList_none, List.cons_append, List.nil_append, Nat.add_eq_zero_iff, a_nl_i, a_nl_r, a_nl_n, true_or, or_true, eq_self, ok_4, ok_5, ok_6, ok_7, ok_9, ok_10, ok_20, ok_21, ok_24, ok_30, ok_48, ok_50, ok_60, ok_80, ok_120, ok_180, ok_192, ok_200, ok_900, ok_1000, ok_84000]
  exact hl
end YT
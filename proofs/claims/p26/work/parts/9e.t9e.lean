/-! the reference's best: its value -/
section Z9E
variable {d n t M : Nat} {K L : Nat → Nat} {I I0 J J0 J1 J2 : Nat → Nat → Int32} {R : Nat → Nat → Nat} {P : Option Value → AH → Prop} {f : Nat → Int32} {e : Int32}
variable {Y Z W : Nat → Nat → Int32} {g : Nat → Int32} {f e : Int32} {pl m : Nat}
theorem pl_I (h6 : 0 ≤ Y 0 6 ∧ Y 0 6 ≤ 6) (hfe : f ≤ e ∧ e - f ≤ 7) (hf : 0 ≤ f) (he : e ≤ 199) : (e - f + 1) * Y 0 6 = Int32.ofNat (plN Y f e) := by
  have x0 : 0 ≤ e - f := by ((try clear h6)); grind
  have fin : ∀ x : Fin 8, ∀ y : Fin 7, (Int32.ofNat x.val + 1) * Int32.ofNat y.val = Int32.ofNat ((x.val + 1) * y.val) := by decide +kernel
  have xn : (e - f).toNatClampNeg < 8 := by
    have := cl_le0 x0 hfe.2
    rw [show (7 : Int32).toNatClampNeg = 7 from rfl] at this
    omega
  have yn : (Y 0 6).toNatClampNeg < 7 := by
    have := cl_le0 h6.1 h6.2
    rw [show (6 : Int32).toNatClampNeg = 6 from rfl] at this
    omega
  have key := fin ⟨(e - f).toNatClampNeg, xn⟩ ⟨(Y 0 6).toNatClampNeg, yn⟩
  have k2 : (Int32.ofNat (e - f).toNatClampNeg + 1) * Int32.ofNat (Y 0 6).toNatClampNeg = Int32.ofNat (((e - f).toNatClampNeg + 1) * (Y 0 6).toNatClampNeg) := key
  rw [← on_cl x0, ← on_cl h6.1] at k2
  rw [k2]
  unfold plN
  have e1 : e + 1 - f = e - f + 1 := by ((try clear h6); (try clear key); (try clear k2); (try clear xn); (try clear yn)); grind
  have x8 : e - f < 100 := Int32.lt_of_le_of_lt hfe.2 (by decide)
  rw [e1, (lp_st x0 x8).2.2.2]
theorem bsH_0 {St : Type} {fit : St → Nat → Nat → Bool} {put : St → Nat → Nat → St} {wt : Nat → Int32} {pl m : Nat} {X : St} {B : bB} : bsH fit put wt pl m X (fun _ => -1) 0 B = bsR fit put wt pl m 0 X 0 (fun _ => 0) B := by
  have hw : wcut 0 (fun _ => (-1 : Int32)) = fun _ => 0 := by
    funext j
    unfold wcut
    rw [if_neg (Nat.not_lt_zero j)]
  unfold bsH
  cases m with
  | zero =>
    rw [if_pos rfl, hw]
    rfl
  | succ m =>
    rw [if_neg (by omega)]
    unfold bsC
    rw [hw]
    rfl
theorem xv_findBest (hS : m_S M K L R) (hy : okY Y) (hpr : plR Y f e (plN Y f e)) (hfe : f ≤ e ∧ e - f ≤ 7) (hgk : gOK Y Y g m) (hg : gs M I0 I Y) (hfm : I M 66 = Int32.ofNat m ∧ ∀ k, k < m → I (M + 41) k = g k) (hP : xend d n t M K L R Y g m (bsR (bfi Y f e g) (bpu Y f g) (bwt Y g) (plN Y f e) m 0 Y 0 (fun _ => 0) (-1, fun _ => 0)) P) : a_does (d + 11) 243 [a_rf M, .int f, .int e] (n, t, K, L, I, R) P := by
  have hR := hg.1
  have h6 := hpr.2.1
  have e6 : I M 6 = Y 0 6 := hg.2.2.1 0 6 (by unfold ps1; omega)
  have epl := pl_I h6 hfe hpr.2.2.1.1 hpr.2.2.2.1
  have hm4 := hgk.1
  have hr0 : mR M (a_ui (a_ui I (M + 43) (Int32.toNatClampNeg 0) 0) (M + 42) (Int32.toNatClampNeg 0) (-1)) := sR_way (sR_sumTo hR)
  have hV : bsR (bfi Y f e g) (bpu Y f g) (bwt Y g) (plN Y f e) m 0 Y 0 (fun _ => 0) (-1, I (M + 44)) = bsR (bfi Y f e g) (bpu Y f g) (bwt Y g) (plN Y f e) m 0 Y 0 (fun _ => 0) (-1, fun _ => 0) := bsR_j (fun _ => bwt_rng) m 0 Y 0 (fun _ => 0) (by decide) (by
    have c0 : (0 : Int32).toInt = 0 := rfl
    rw [c0]
    omega)
  have hx := fun k p u v => xb_31 (d := d) (n := n) (t := t) (I := I0) (f := f) (e := e) (pl := plN Y f e) hS hy hpr hgk hP _ (a_ui (a_ui I (M + 43) (Int32.toNatClampNeg 0) 0) (M + 42) (Int32.toNatClampNeg 0) (-1)) (fun _ => -1) 0 (-1, I (M + 44)) k p u v (Nat.lt_succ_self _) (Nat.zero_le _) ⟨fun k hk => absurd hk (Nat.not_lt_zero k), Or.inl rfl⟩ (by
    have ec : cW Y f g (plN Y f e) m Y (fun _ => -1) 0 = Y := by
      unfold cW
      rw [if_neg (fun q => q.2.1 rfl)]
      rfl
    rw [ec]
    refine ⟨gs_ui (gs_ui hg (sR_sumTo hR) (by omega) ⟨by unfold ps1; omega, by omega⟩) hr0 (by omega) ⟨by unfold ps1; omega, by omega⟩, ⟨by rw [ui_ap, if_neg (by omega), ui_ap, if_neg (by omega)]; exact hfm.1, fun k hk => by rw [ui_ap, if_neg (by omega), ui_ap, if_neg (by omega)]; exact hfm.2 k hk⟩, fun k hk => ?_, fun k hk => ?_, fun k hk => by rw [ui_ap, if_neg (by omega), ui_ap, if_neg (by omega)]⟩
    · have ek : k = 0 := by omega
      subst ek
      rw [ui_ap, if_pos ⟨rfl, rfl⟩]
    · have ek : k = 0 := by omega
      subst ek
      rw [ui_ap, if_neg (by omega), ui_ap, if_pos ⟨rfl, rfl⟩]
      rfl) (bsH_0.trans hV)
  ((try clear hP); (try clear hg); (try clear hgk); (try clear hy); (try clear hpr); (try clear hV))
  rw [a_enter1 (M := a_m243) rfl (a_cat_rf (a_cat_int (a_cat_int a_cat_nil))) (show 3 ≤ 10 by decide)]
  show a_at _ (a_xm a_m243) 0 [some (a_rf M), some (.int f), some (.int e), none, none, none, none, none, none, none] [] _ _
  simp only [q243_0, q243_1, q243_2, q243_3, q243_4, q243_5, q243_6, q243_9, q243_10, q243_11, q243_12, q243_14, q243_15, q243_17, q243_18, q243_21, q243_22, q243_23, q243_24, q243_25, q243_28, q243_29, q243_30, m_0 hS, m_K hS, mR_sumTo hS, mK_sumTo hS, mL_sumTo hS, mR_way hS, mK_way hS, mL_way hS, as_nil, as_i, as_r, Nat.reduceAdd, Nat.reduceLeDiff, z_eq0, z_eq1, z_or, z_em, Classical.not_not, not_false_eq_true, not_true_eq_false, true_and, and_true, false_and, and_false, and_self, true_implies, false_implies, implies_true, Option.toList_some, Option.toList_none, List.cons_append, List.nil_append, Nat.add_eq_zero_iff, a_nl_i, a_nl_r, a_nl_n, true_or, or_true, eq_self, ok_4, ok_5, ok_6, ok_7, ok_9, ok_10, ok_20, ok_21, ok_24, ok_30, ok_48, ok_50, ok_60, ok_80, ok_120, ok_180, ok_192, ok_200, ok_900, ok_1000, ok_84000, e6, epl]
  try simp only [true_and, and_true, true_implies, false_implies, implies_true, not_true_eq_false, not_false_eq_true]
  have ok5 := io_k (n := 0) (k := 5) (by omega) (by omega)
  repeat' first
    | exact hx _ _ _ _
    | with_reducible apply And.intro
    | exact ok5.1
    | exact ok5.2
    | decide
    | with_reducible intro _
    | grind
/-- who is among the few -/
theorem xv_best_99 (hS : m_S M K L R) (hg0 : okY Y) {s x y w : Int32} (hs : 0 ≤ s) (hX : afB Y s (Y 0 17).toNatClampNeg 0 = false → ∀ J, P (some (.int (-3))) (n, t, K, L, J, R)) {V : Bool} (hVV : afB Y s (Y 0 17).toNatClampNeg 0 = V) (h4 : (meB s (Y 0 17).toNatClampNeg).2 ≤ 4) (hN : V = true → ∀ J k, gs M I0 J Y → J M 66 = Int32.ofNat (meB s (Y 0 17).toNatClampNeg).2 → (∀ j, j < (meB s (Y 0 17).toNatClampNeg).2 → J (M + 41) j = (meB s (Y 0 17).toNatClampNeg).1 j) → a_at (d + 11) (a_xm a_m242) 171 [some (a_rf M), some (.int x), some (.int y), some (.int s), some (.int w), some (.int k), none, none, none] [] (n, t, K, L, J, R) P) : ∀ k : Int32, k ≤ 30 → ∀ J, 0 ≤ k → k ≤ Y 0 17 → gs M I0 J Y → afB Y s ((Y 0 17).toNatClampNeg - k.toNatClampNeg) k = V → J M 66 = Int32.ofNat (meB s k.toNatClampNeg).2 → (∀ j, j < (meB s k.toNatClampNeg).2 → J (M + 41) j = (meB s k.toNatClampNeg).1 j) → a_at (d + 11) (a_xm a_m242) 99 [some (a_rf M), some (.int x), some (.int y), some (.int s), some (.int w), some (.int k), none, none, none] [] (n, t, K, L, J, R) P := by
  have y17 := hg0.1.2.2.2.2.1
  have n30 : (Y 0 17).toNatClampNeg ≤ 30 := cl_le0 y17.1 y17.2
  refine up_ind 30 (fun k hk ih => ?_)
  intro J h0 h1 hg hV hfm hfw
  have hR := hg.1
  have e17 : J M 17 = Y 0 17 := hg.2.2.1 0 17 (by unfold ps1; omega)
  rw [q242_99]
  by_cases ci : k < Y 0 17
  · obtain ⟨t1, t2, t3, t4⟩ := lp_st h0 ci
    have hk30 : 0 ≤ k ∧ k < 30 := ⟨h0, Int32.lt_of_lt_of_le ci y17.2⟩
    have k29 : 0 ≤ k ∧ k ≤ 29 := ⟨h0, by ((try clear ih); (try clear hN); (try clear hX); (try clear hfw)); grind⟩
    have kn := cl_lt h0 ci
    have nc : ¬ Y 0 17 ≤ k := Int32.not_le.mpr ci
    have e20 : J (M + 20) k.toNatClampNeg = Y 20 k.toNatClampNeg := hg.2.2.1 20 _ (by unfold ps1; omega)
    have e18 : J (M + 18) k.toNatClampNeg = Y 18 k.toNatClampNeg := hg.2.2.1 18 _ (by unfold ps1; omega)
    have hb := bq_vi h0 (by omega) s
    have hmo1 := me_mono (r := s) (a := k.toNatClampNeg + 1) ((Y 0 17).toNatClampNeg - (k.toNatClampNeg + 1))
    rw [show k.toNatClampNeg + 1 + ((Y 0 17).toNatClampNeg - (k.toNatClampNeg + 1)) = (Y 0 17).toNatClampNeg by omega] at hmo1
    rw [t1] at hV
    unfold afB at hV
    have hnext : ∀ J, gs M I0 J Y → afB Y s ((Y 0 17).toNatClampNeg - (k + 1).toNatClampNeg) (k + 1) = V → J M 66 = Int32.ofNat (meB s (k.toNatClampNeg + 1)).2 → (∀ j, j < (meB s (k.toNatClampNeg + 1)).2 → J (M + 41) j = (meB s (k.toNatClampNeg + 1)).1 j) → a_at (d + 11) (a_xm a_m242) 165 [some (a_rf M), some (.int x), some (.int y), some (.int s), some (.int w), some (.int k), none, none, none] [] (n, t, K, L, J, R) P := fun J g v a b => by
      have hgo := ih hk30.2 J t2 t3 g v (by rw [t4]; exact a) (by rw [t4]; exact b)
      ((try clear ih); (try clear hN); (try clear hX); (try clear hfw); (try clear hg))
      simp only [q242_165, q242_168, as_nil, as_i, as_r, Nat.reduceAdd, Nat.reduceLeDiff, z_eq0, z_eq1, z_or, z_em, Classical.not_not, not_false_eq_true, not_true_eq_false, true_and, and_true, false_and, and_false, and_self, true_implies, false_implies, implies_true, Option.toList_some, Option.toList_none, List.cons_append, List.nil_append, Nat.add_eq_zero_iff, a_nl_i, a_nl_r, a_nl_n, true_or, or_true, eq_self, ok_4, ok_5, ok_6, ok_7, ok_9, ok_10, ok_20, ok_21, ok_24, ok_30, ok_48, ok_50, ok_60, ok_80, ok_120, ok_180, ok_192, ok_200, ok_900, ok_1000, ok_84000]
      exact hgo
    by_cases cb : bq s k.toNatClampNeg = true
    · rw [if_pos cb] at hb
      by_cases cf : 0 ≤ Y 20 k.toNatClampNeg ∨ ¬ Y 18 k.toNatClampNeg = 0
      · rw [if_pos ⟨cb, cf⟩] at hV
        have hx := hX (by rw [hVV, ← hV])
        by_cases cp : 0 ≤ Y 20 k.toNatClampNeg
        · ((try clear ih); (try clear hN); (try clear hX); (try clear hfw); (try clear hg); (try clear hnext); (try clear hfm); (try clear hV))
          simp only [q242_101, q242_102, q242_105, q242_108, q242_109, q242_111, q242_112, q242_113, q242_114, q242_115, q242_118, q242_119, q242_121, q242_124, q242_127, q242_128, q242_131, q242_133, q242_134, q242_137, q242_138, q242_140, q242_143, m_0 hS, m_K hS, mR_isGone hS, mK_isGone hS, mL_isGone hS, sp_hasPlace hS, sp_refuse_1 hS, sp_refuse_2 hS, sp_refuse_3 hS, sp_refuse_4 hS, sp_refuse_5 hS, sp_refuse_6 hS, as_nil, as_i, as_r, Nat.reduceAdd, Nat.reduceLeDiff, z_eq0, z_eq1, z_or, z_em, Classical.not_not, not_false_eq_true, not_true_eq_false, true_and, and_true, false_and, and_false, and_self, true_implies, false_implies, implies_true, Option.toList_some, Option.toList_none, List.cons_append, List.nil_append, Nat.add_eq_zero_iff, a_nl_i, a_nl_r, a_nl_n, true_or, or_true, eq_self, ok_4, ok_5, ok_6, ok_7, ok_9, ok_10, ok_20, ok_21, ok_24, ok_30, ok_48, ok_50, ok_60, ok_80, ok_120, ok_180, ok_192, ok_200, ok_900, ok_1000, ok_84000, e17, nc, hb, e20, cp]
          try simp only [true_and, and_true, true_implies, false_implies, implies_true, not_true_eq_false, not_false_eq_true]
          repeat' first
            | exact hx _
            | exact hk30
            | with_reducible apply And.intro
            | exact hk30.1
            | exact hk30.2
            | with_reducible intro _
            | grind
        · have cg := cf.resolve_left cp
          ((try clear ih); (try clear hN); (try clear hX); (try clear hfw); (try clear hg); (try clear hnext); (try clear hfm); (try clear hV))
          simp only [q242_101, q242_102, q242_105, q242_108, q242_109, q242_111, q242_112, q242_113, q242_114, q242_115, q242_118, q242_119, q242_121, q242_124, q242_127, q242_128, q242_131, q242_133, q242_134, q242_137, q242_138, q242_140, q242_143, m_0 hS, m_K hS, mR_isGone hS, mK_isGone hS, mL_isGone hS, sp_hasPlace hS, sp_refuse_1 hS, sp_refuse_2 hS, sp_refuse_3 hS, sp_refuse_4 hS, sp_refuse_5 hS, sp_refuse_6 hS, as_nil, as_i, as_r, Nat.reduceAdd, Nat.reduceLeDiff, z_eq0, z_eq1, z_or, z_em, Classical.not_not, not_false_eq_true, not_true_eq_false, true_and, and_true, false_and, and_false, and_self, true_implies, false_implies, implies_true, Option.toList_some, Option.toList_none, List.cons_append, List.nil_append, Nat.add_eq_zero_iff, a_nl_i, a_nl_r, a_nl_n, true_or, or_true, eq_self, ok_4, ok_5, ok_6, ok_7, ok_9, ok_10, ok_20, ok_21, ok_24, ok_30, ok_48, ok_50, ok_60, ok_80, ok_120, ok_180, ok_192, ok_200, ok_900, ok_1000, ok_84000, e17, nc, hb, e20, cp, e18, cg]
          try simp only [true_and, and_true, true_implies, false_implies, implies_true, not_true_eq_false, not_false_eq_true]
          repeat' first
            | exact hx _
            | exact hk30
            | with_reducible apply And.intro
            | exact hk30.1
            | exact hk30.2
            | with_reducible intro _
            | grind
      · rw [if_neg (fun q => cf q.2)] at hV
        have cp : ¬ 0 ≤ Y 20 k.toNatClampNeg := fun q => cf (Or.inl q)
        have cg : Y 18 k.toNatClampNeg = 0 := Classical.not_not.mp (fun q => cf (Or.inr q))
        have em : meB s (k.toNatClampNeg + 1) = (up1 (meB s k.toNatClampNeg).1 (meB s k.toNatClampNeg).2 (Int32.ofNat k.toNatClampNeg), (meB s k.toNatClampNeg).2 + 1) := if_pos cb
        have em2 : (meB s (k.toNatClampNeg + 1)).2 = (meB s k.toNatClampNeg).2 + 1 := by rw [em]
        have c3 : (meB s k.toNatClampNeg).2 < 4 := by omega
        have szn := (io (n := (meB s k.toNatClampNeg).2) (by omega)).2
        have sz4 := io_k (n := (meB s k.toNatClampNeg).2) (k := 4) c3 (by omega)
        have ss := io_s (n := (meB s k.toNatClampNeg).2) (by omega)
        have hgo := hnext (a_ui (a_ui J (M + 41) (meB s k.toNatClampNeg).2 k) M 66 (Int32.ofNat ((meB s k.toNatClampNeg).2 + 1))) (gs_u0 (gs_ui hg (sR_few hR k29) (by omega) ⟨by unfold ps1; omega, by omega⟩) (sR_fewMany (sR_few hR k29)) (by unfold ps1; omega)) hV (by rw [ui_ap, if_pos ⟨rfl, rfl⟩, em2]) (fun j hj => by
          rw [em2] at hj
          rw [em]
          show _ = up1 (meB s k.toNatClampNeg).1 (meB s k.toNatClampNeg).2 (Int32.ofNat k.toNatClampNeg) j
          unfold up1
          rw [ui_ap, if_neg (by omega), ui_ap]
          by_cases c : j = (meB s k.toNatClampNeg).2
          · rw [if_pos ⟨rfl, c⟩, if_pos c]
            exact on_cl h0
          · rw [if_neg (fun q => c q.2), if_neg c]
            exact hfw j (by omega))
        have e66 : a_ui J (M + 41) (meB s k.toNatClampNeg).2 k M 66 = Int32.ofNat (meB s k.toNatClampNeg).2 := by
          rw [ui_ap, if_neg (by omega)]
          exact hfm
        ((try clear ih); (try clear hN); (try clear hX); (try clear hfw); (try clear hg); (try clear hnext); (try clear hV); (try clear em); (try clear em2))
        simp only [q242_101, q242_102, q242_105, q242_108, q242_109, q242_111, q242_112, q242_113, q242_114, q242_115, q242_118, q242_119, q242_121, q242_124, q242_127, q242_128, q242_131, q242_133, q242_134, q242_137, q242_138, q242_140, q242_143, q242_144, q242_145, q242_148, q242_149, q242_152, q242_154, q242_155, q242_156, q242_157, q242_160, q242_161, q242_162, m_0 hS, m_K hS, mR_isGone hS, mK_isGone hS, mL_isGone hS, mR_few hS, mK_few hS, mL_few hS, sp_hasPlace hS, sp_refuse_1 hS, sp_refuse_2 hS, sp_refuse_3 hS, sp_refuse_4 hS, sp_refuse_5 hS, sp_refuse_6 hS, as_nil, as_i, as_r, Nat.reduceAdd, Nat.reduceLeDiff, z_eq0, z_eq1, z_or, z_em, Classical.not_not, not_false_eq_true, not_true_eq_false, true_and, and_true, false_and, and_false, and_self, true_implies, false_implies, implies_true, Option.toList_some, Option.toList_none, List.cons_append, List.nil_append, Nat.add_eq_zero_iff, a_nl_i, a_nl_r, a_nl_n, true_or, or_true, eq_self, ok_4, ok_5, ok_6, ok_7, ok_9, ok_10, ok_20, ok_21, ok_24, ok_30, ok_48, ok_50, ok_60, ok_80, ok_120, ok_180, ok_192, ok_200, ok_900, ok_1000, ok_84000, e17, nc, hb, e20, cp, e18, cg, hfm, szn, ss, e66]
        try simp only [true_and, and_true, true_implies, false_implies, implies_true, not_true_eq_false, not_false_eq_true]
        repeat' first
          | exact hgo
          | exact hk30
          | exact sz4
          | with_reducible apply And.intro
          | exact hk30.1
          | exact hk30.2
          | exact sz4.1
          | exact sz4.2
          | with_reducible intro _
          | grind
    · rw [if_neg cb] at hb
      rw [if_neg (fun q => cb q.1)] at hV
      have em : meB s (k.toNatClampNeg + 1) = meB s k.toNatClampNeg := if_neg cb
      have hgo := hnext J hg hV (by rw [em]; exact hfm) (by rw [em]; exact hfw)
      ((try clear ih); (try clear hN); (try clear hX); (try clear hfw); (try clear hg); (try clear hnext); (try clear hV); (try clear em))
      simp only [q242_101, q242_102, q242_105, q242_108, q242_109, q242_111, q242_112, q242_113, q242_114, q242_115, m_0 hS, m_K hS, as_nil, as_i, as_r, Nat.reduceAdd, Nat.reduceLeDiff, z_eq0, z_eq1, z_or, z_em, Classical.not_not, not_false_eq_true, not_true_eq_false, true_and, and_true, false_and, and_false, and_self, true_implies, false_implies, implies_true, Option.toList_some, Option.toList_none, List.cons_append, List.nil_append, Nat.add_eq_zero_iff, a_nl_i, a_nl_r, a_nl_n, true_or, or_true, eq_self, ok_4, ok_5, ok_6, ok_7, ok_9, ok_10, ok_20, ok_21, ok_24, ok_30, ok_48, ok_50, ok_60, ok_80, ok_120, ok_180, ok_192, ok_200, ok_900, ok_1000, ok_84000, e17, nc, hb]
      try simp only [true_and, and_true, true_implies, false_implies, implies_true, not_true_eq_false, not_false_eq_true]
      first
        | exact hgo
        | grind
  · obtain ⟨ez, ek⟩ := lp_end h1 ci
    subst ek
    rw [ez] at hV
    have hV2 : true = V := hV
    have hgo := hN hV2.symm J (Y 0 17) hg hfm hfw
    have nc : Y 0 17 ≤ Y 0 17 := Int32.not_lt.mp ci
    ((try clear ih); (try clear hN); (try clear hX); (try clear hfw); (try clear hg))
    simp only [q242_101, q242_102, q242_105, m_0 hS, m_K hS, as_nil, as_i, as_r, Nat.reduceAdd, Nat.reduceLeDiff, z_eq0, z_eq1, z_or, z_em, Classical.not_not, not_false_eq_true, not_true_eq_false, true_and, and_true, false_and, and_false, and_self, true_implies, false_implies, implies_true, Option.toList_some, Option.toList_none, List.cons_append, List.nil_append, Nat.add_eq_zero_iff, a_nl_i, a_nl_r, a_nl_n, true_or, or_true, eq_self, ok_4, ok_5, ok_6, ok_7, ok_9, ok_10, ok_20, ok_21, ok_24, ok_30, ok_48, ok_50, ok_60, ok_80, ok_120, ok_180, ok_192, ok_200, ok_900, ok_1000, ok_84000, e17, nc]
    try simp only [true_and, and_true, true_implies, false_implies, implies_true, not_true_eq_false, not_false_eq_true]
    first
      | exact hgo
      | grind
/-- where one stands -/
theorem xv_best_195 (hS : m_S M K L R) (hR : mR M I) (hpr : plR Y f e (plN Y f e)) (hfe : f ≤ e ∧ e - f ≤ 7) (e6 : I M 6 = Y 0 6) {g w : Nat → Int32} (hm4 : m ≤ 4) (hfm : I M 66 = Int32.ofNat m) (hfw : ∀ k, k < m → I (M + 41) k = g k) (hbw : ∀ k, k < m → I (M + 44) k = w k) (hw : ∀ k, k < m → 0 ≤ w k) (hd : ∀ k j, k < j → j < m → ¬ g k = g j) {s x z : Int32} {V : Int32} (hP : P (some (.int V)) (n, t, K, L, I, R)) : ∀ (q i : Nat) (y : Int32) (u : Option Value), i + q = m → ((y = -9 ∧ soI g (fun k => enB Y f (plN Y f e) (w k)) x q i = V) ∨ (y = V ∧ ∀ j, i ≤ j → j < m → ¬ g j = x)) → a_at d (a_xm a_m242) 195 [some (a_rf M), some (.int f), some (.int e), some (.int s), some (.int x), some (.int z), some (.int y), some (.int (Int32.ofNat i)), u] [] (n, t, K, L, I, R) P := by
  have epl := pl_I hpr.2.1 hfe hpr.2.2.1.1 hpr.2.2.2.1
  have h48 := hpr.1
  intro q
  induction q with
  | zero =>
    intro i y u hi hV
    have ei : i = m := by omega
    subst ei
    have ey : y = V := hV.elim (fun q => q.1.trans q.2) (fun q => q.1)
    rw [← ey] at hP
    have le : (Int32.ofNat i ≤ Int32.ofNat i) = True := eq_true (Int32.le_refl _)
    ((try clear hfw); (try clear hbw); (try clear hw); (try clear hd); (try clear hV))
    rw [q242_195]
    simp only [q242_197, q242_198, q242_201, q242_291, q242_293, m_0 hS, m_K hS, as_nil, as_i, as_r, Nat.reduceAdd, Nat.reduceLeDiff, z_eq0, z_eq1, z_or, z_em, Classical.not_not, not_false_eq_true, not_true_eq_false, true_and, and_true, false_and, and_false, and_self, true_implies, false_implies, implies_true, Option.toList_some, Option.toList_none, List.cons_append, List.nil_append, Nat.add_eq_zero_iff, a_nl_i, a_nl_r, a_nl_n, true_or, or_true, eq_self, ok_4, ok_5, ok_6, ok_7, ok_9, ok_10, ok_20, ok_21, ok_24, ok_30, ok_48, ok_50, ok_60, ok_80, ok_120, ok_180, ok_192, ok_200, ok_900, ok_1000, ok_84000, hfm, le]
    try simp only [true_and, and_true, true_implies, false_implies, implies_true, not_true_eq_false, not_false_eq_true]
    first
      | exact hP
      | grind
  | succ q ih =>
    intro i y u hi hV
    have hlt : i < m := by omega
    have hle : (Int32.ofNat m ≤ Int32.ofNat i) = False := by rw [io_le (by omega) (by omega)]; exact eq_false (by omega)
    have i4 := io_k (n := i) (k := 4) (by omega) (by omega)
    have ni := (io (n := i) (by omega)).2
    have ef := hfw i hlt
    have eb := hbw i hlt
    have w0 := hw i hlt
    have hnext : ∀ y2 (u2 : Option Value), ((y2 = -9 ∧ soI g (fun k => enB Y f (plN Y f e) (w k)) x q (i + 1) = V) ∨ (y2 = V ∧ ∀ j, i + 1 ≤ j → j < m → ¬ g j = x)) → a_at d (a_xm a_m242) 285 [some (a_rf M), some (.int f), some (.int e), some (.int s), some (.int x), some (.int z), some (.int y2), some (.int (Int32.ofNat i)), u2] [] (n, t, K, L, I, R) P := fun y2 u2 h => by
      have hg := ih (i + 1) y2 u2 (by omega) h
      rw [← io_s (by omega)] at hg
      ((try clear ih); (try clear hfw); (try clear hbw); (try clear hw); (try clear hd); (try clear hV); (try clear h))
      simp only [q242_285, q242_288, as_nil, as_i, as_r, Nat.reduceAdd, Nat.reduceLeDiff, z_eq0, z_eq1, z_or, z_em, Classical.not_not, not_false_eq_true, not_true_eq_false, true_and, and_true, false_and, and_false, and_self, true_implies, false_implies, implies_true, Option.toList_some, Option.toList_none, List.cons_append, List.nil_append, Nat.add_eq_zero_iff, a_nl_i, a_nl_r, a_nl_n, true_or, or_true, eq_self, ok_4, ok_5, ok_6, ok_7, ok_9, ok_10, ok_20, ok_21, ok_24, ok_30, ok_48, ok_50, ok_60, ok_80, ok_120, ok_180, ok_192, ok_200, ok_900, ok_1000, ok_84000]
      exact hg
    by_cases c : g i = x
    · have hV1 : y = -9 ∧ soI g (fun k => enB Y f (plN Y f e) (w k)) x (q + 1) i = V := hV.resolve_right (fun h => h.2 i (Nat.le_refl _) hlt c)
      obtain ⟨y9, hso⟩ := hV1
      unfold soI at hso
      rw [if_pos c] at hso
      have hno : ∀ j, i + 1 ≤ j → j < m → ¬ g j = x := fun j j0 j1 hx => hd i j (by omega) j1 (c.trans hx.symm)
      by_cases cw : (w i).toNatClampNeg < plN Y f e
      · have hv : 8 * (f + w i / Y 0 6) + (w i - w i / Y 0 6 * Y 0 6) = V := by
          rw [← hso]
          unfold enB
          rw [if_pos cw, ← on_cl w0]
        have hgo := hnext V (some (.int 1)) (Or.inr ⟨rfl, hno⟩)
        rw [← hv] at hgo
        have clt : ¬ Int32.ofNat (plN Y f e) ≤ w i := fun q => by
          have := cl_le0 (io_0 (by omega)) q
          rw [(io (by omega)).2] at this
          omega
        have n0 : ¬ Y 0 6 = 0 := (pl_rng hpr cw).2.2
        ((try clear ih); (try clear hfw); (try clear hbw); (try clear hw); (try clear hd); (try clear hV); (try clear hnext); (try clear hno); (try clear hso); (try clear hv))
        rw [q242_195]
        simp only [q242_197, q242_198, q242_201, q242_204, q242_205, q242_208, q242_210, q242_211, q242_213, q242_216, q242_217, q242_220, q242_222, q242_223, q242_224, q242_225, q242_226, q242_227, q242_228, q242_229, q242_232, q242_233, q242_236, q242_237, q242_240, q242_241, q242_243, q242_245, q242_248, q242_250, q242_251, q242_252, q242_255, q242_257, q242_258, q242_259, q242_262, q242_263, q242_264, q242_265, q242_266, q242_269, q242_271, q242_272, q242_273, q242_276, q242_277, q242_278, q242_281, q242_283, m_0 hS, m_K hS, mR_few hS, mK_few hS, mL_few hS, mR_bestWay hS, mK_bestWay hS, mL_bestWay hS, as_nil, as_i, as_r, Nat.reduceAdd, Nat.reduceLeDiff, z_eq0, z_eq1, z_or, z_em, Classical.not_not, not_false_eq_true, not_true_eq_false, true_and, and_true, false_and, and_false, and_self, true_implies, false_implies, implies_true, Option.toList_some, Option.toList_none, List.cons_append, List.nil_append, Nat.add_eq_zero_iff, a_nl_i, a_nl_r, a_nl_n, true_or, or_true, eq_self, ok_4, ok_5, ok_6, ok_7, ok_9, ok_10, ok_20, ok_21, ok_24, ok_30, ok_48, ok_50, ok_60, ok_80, ok_120, ok_180, ok_192, ok_200, ok_900, ok_1000, ok_84000, hfm, hle, i4, ni, ef, eb, c, e6, epl, clt, n0]
        try simp only [true_and, and_true, true_implies, false_implies, implies_true, not_true_eq_false, not_false_eq_true]
        repeat' first
          | exact hgo
          | exact i4
          | with_reducible apply And.intro
          | exact i4.1
          | exact i4.2
          | with_reducible intro _
          | grind
      · have hv : -9 = V := by
          rw [← hso]
          unfold enB
          rw [if_neg cw]
        have hgo := hnext (-9) (some (.int 0)) (Or.inr ⟨hv, hno⟩)
        have clt : Int32.ofNat (plN Y f e) ≤ w i := Int32.not_lt.mp (fun q => by
          have := cl_lt w0 q
          rw [(io (by omega)).2] at this
          omega)
        ((try clear ih); (try clear hfw); (try clear hbw); (try clear hw); (try clear hd); (try clear hV); (try clear hnext); (try clear hno); (try clear hso); (try clear hv))
        subst y9
        rw [q242_195]
        simp only [q242_197, q242_198, q242_201, q242_204, q242_205, q242_208, q242_210, q242_211, q242_213, q242_216, q242_217, q242_220, q242_222, q242_223, q242_224, q242_225, q242_226, q242_227, q242_228, q242_229, q242_232, q242_233, q242_236, q242_237, q242_240, q242_241, q242_243, q242_245, q242_248, q242_250, q242_251, q242_252, q242_255, q242_257, q242_258, q242_259, q242_262, q242_263, q242_264, q242_265, q242_266, q242_269, q242_271, q242_272, q242_273, q242_276, q242_277, q242_278, q242_281, q242_283, m_0 hS, m_K hS, mR_few hS, mK_few hS, mL_few hS, mR_bestWay hS, mK_bestWay hS, mL_bestWay hS, as_nil, as_i, as_r, Nat.reduceAdd, Nat.reduceLeDiff, z_eq0, z_eq1, z_or, z_em, Classical.not_not, not_false_eq_true, not_true_eq_false, true_and, and_true, false_and, and_false, and_self, true_implies, false_implies, implies_true, Option.toList_some, Option.toList_none, List.cons_append, List.nil_append, Nat.add_eq_zero_iff, a_nl_i, a_nl_r, a_nl_n, true_or, or_true, eq_self, ok_4, ok_5, ok_6, ok_7, ok_9, ok_10, ok_20, ok_21, ok_24, ok_30, ok_48, ok_50, ok_60, ok_80, ok_120, ok_180, ok_192, ok_200, ok_900, ok_1000, ok_84000, hfm, hle, i4, ni, ef, eb, c, e6, epl, clt]
        try simp only [true_and, and_true, true_implies, false_implies, implies_true, not_true_eq_false, not_false_eq_true]
        repeat' first
          | exact hgo
          | exact i4
          | with_reducible apply And.intro
          | exact i4.1
          | exact i4.2
          | with_reducible intro _
          | grind
    · have hgo := hnext y (some (.int 0)) (hV.imp (fun h => ⟨h.1, by
        have h2 := h.2
        unfold soI at h2
        rw [if_neg c] at h2
        exact h2⟩) (fun h => ⟨h.1, fun j j0 j1 => h.2 j (by omega) j1⟩))
      ((try clear ih); (try clear hfw); (try clear hbw); (try clear hw); (try clear hd); (try clear hV); (try clear hnext))
      rw [q242_195]
      simp only [q242_197, q242_198, q242_201, q242_204, q242_205, q242_208, q242_210, q242_211, q242_213, q242_216, q242_217, q242_220, q242_222, q242_223, q242_224, q242_225, q242_226, q242_227, q242_228, q242_229, q242_232, q242_233, q242_236, q242_237, q242_240, q242_241, q242_243, q242_245, q242_281, q242_283, m_0 hS, m_K hS, mR_few hS, mK_few hS, mL_few hS, mR_bestWay hS, mK_bestWay hS, mL_bestWay hS, as_nil, as_i, as_r, Nat.reduceAdd, Nat.reduceLeDiff, z_eq0, z_eq1, z_or, z_em, Classical.not_not, not_false_eq_true, not_true_eq_false, true_and, and_true, false_and, and_false, and_self, true_implies, false_implies, implies_true, Option.toList_some, Option.toList_none, List.cons_append, List.nil_append, Nat.add_eq_zero_iff, a_nl_i, a_nl_r, a_nl_n, true_or, or_true, eq_self, ok_4, ok_5, ok_6, ok_7, ok_9, ok_10, ok_20, ok_21, ok_24, ok_30, ok_48, ok_50, ok_60, ok_80, ok_120, ok_180, ok_192, ok_200, ok_900, ok_1000, ok_84000, hfm, hle, i4, ni, ef, c]
      try simp only [true_and, and_true, true_implies, false_implies, implies_true, not_true_eq_false, not_false_eq_true]
      repeat' first
        | exact hgo
        | exact i4
        | with_reducible apply And.intro
        | exact i4.1
        | exact i4.2
        | with_reducible intro _
        | grind
end Z9E
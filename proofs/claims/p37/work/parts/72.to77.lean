section
/-! mark of the class -/
section ZF0
variable {d n t C c : Nat} {K L : Nat → Nat} {I I0 J J0 J1 J2 : Nat → Nat → Int32} {R : Nat → Nat → Nat} {P : Option Value → AH → Prop}
variable {Y Z W : Nat → Nat → Int32} {R' R1 : Nat → Nat → Nat} {K' L' : Nat → Nat}
theorem cu_tell0 {m : Nat} (hH : cH C c m t K L I R) (hu : cuP C K L I R Y) {r a v : Int32} (hr : 0 ≤ r ∧ r < 6) (c1 : 0 ≤ a ∧ a < Y 0 17) (h3 : ¬ sm (fun x => if Y 37 (30 * x + a.toNatClampNeg) = 0 then 0 else 1) 6 = 3) (h37 : Y 37 (30 * r.toNatClampNeg + a.toNatClampNeg) = 0) (hv : 0 ≤ v ∧ v ≤ 100) (hg : ¬ Y 35 (10 * r.toNatClampNeg + (Y 8 a.toNatClampNeg).toNatClampNeg) = 0) : cuP C K L (a_ui I (C + 19) r.toNatClampNeg (I (C + 19) r.toNatClampNeg ||| ((1 : Int32) <<< (a &&& 31)))) R (mrW Y r a v) := by
  have hT := hH.1
  have h17 := hu.1.2.2.2.2.2.2.2.2.1
  obtain ⟨-, -, r6, a30⟩ := ix_180 (r := r) (a := a) hr ⟨c1.1, Int32.lt_of_lt_of_le c1.2 h17.2⟩
  obtain ⟨b1, b2, b3⟩ := mw_at (Y := Y) (r := r) (a := a) (v := v)
  rw [if_neg hg] at b3
  have hs := hu.2.2.1.2.2.2
  have y38 : Y 38 (30 * r.toNatClampNeg + a.toNatClampNeg) = 0 := Classical.byContradiction (fun w => hs.1 _ w h37)
  obtain ⟨⟨m1, m2⟩, m3, m4, m5, m6⟩ := hu.2.2.1.1
  have hJ : ∀ k j, ¬ k = 19 → (a_ui I (C + 19) r.toNatClampNeg (I (C + 19) r.toNatClampNeg ||| ((1 : Int32) <<< (a &&& 31)))) (C + k) j = I (C + k) j := fun k j hk => by rw [ui_ap, if_neg (by omega)]
  have hX : ∀ x j, C + 43 < x → (a_ui I (C + 19) r.toNatClampNeg (I (C + 19) r.toNatClampNeg ||| ((1 : Int32) <<< (a &&& 31)))) x j = I x j := fun x j hx => by rw [ui_ap, if_neg (by omega)]
  have hz : ∀ k j, ¬ (36 ≤ k ∧ k ≤ 38) → mrW Y r a v k j = Y k j := fun k j hk => mw_no (by omega)
  have ec : cmY (mrW Y r a v) = cmY Y := by
    funext x y
    unfold cmY
    by_cases e : (30 * x + y).toNatClampNeg = (30 * r.toNatClampNeg + a.toNatClampNeg)
    · rw [e, b3, y38, if_pos rfl, if_pos rfl]
    · rw [mw_no (by omega), mw_no (by omega)]
  have eh : hsY (mrW Y r a v) = hsY Y := by
    funext x
    unfold hsY
    rw [hz 0 11 (by omega), hz 0 17 (by omega), ec]
  have told5 : ∀ x y : Nat, x < 6 → y < 30 → (bq ((a_ui I (C + 19) r.toNatClampNeg (I (C + 19) r.toNatClampNeg ||| ((1 : Int32) <<< (a &&& 31)))) (C + 19) x) y = true ↔ ¬ mrW Y r a v 37 (30 * x + y) = 0) := fun x y hx hy => by
    by_cases e : x = r.toNatClampNeg
    · rw [e, ui_ap, if_pos ⟨rfl, rfl⟩]
      have q := bq_set (k := a.toNatClampNeg) (i := y) (by omega) (by omega) (I (C + 19) r.toNatClampNeg)
      rw [← on_cl c1.1] at q
      rw [q]
      by_cases e2 : y = a.toNatClampNeg
      · rw [e2, b1, decide_eq_true rfl, Bool.or_true]
        exact ⟨fun _ => by decide, fun _ => rfl⟩
      · rw [mw_no (by omega), decide_eq_false e2, Bool.or_false]
        exact m5 _ _ r6 hy
    · rw [ui_ap, if_neg (fun q => e q.2), mw_no (by omega)]
      exact m5 x y hx hy
  refine cu_gen hT hu ⟨fun k hk => funext (fun j => hz k j (by omega)), fun j hj => hz 0 j (by omega)⟩ (fE_of hH hX ⟨hJ 14 4 (by omega), hJ 14 5 (by omega)⟩ (hJ 7 3 (by omega))) (by rw [hJ 1 6 (by omega), hz 0 0 (by omega)]; exact hu.1.1.1) (fun j => by rw [hJ 2 j (by omega), hz 1 j (by omega)]; exact hu.1.1.2.1 j) (lsP_e hu.1.1.2.2 (fun j => hJ 3 j (by omega)) (fun k j hk => hz k j (by unfold kL at hk; omega))) ⟨by rw [hJ 14 6 (by omega), hz 0 9 (by omega)]; exact hu.1.2.1.2.1, by rw [hz 0 9 (by omega)]; exact hu.1.2.2.2.2.2.2.2.1⟩ (fun i i0 i1 => ?_) (mk_mw hu.1.2.2.2.2.2.2.2.2.2.2.2.1 hv) ?_ (siT_e hu.2.2.1.2.1 (fun k j hk => hJ k j (by omega)) (fun k j hk => hz k j (by unfold kT at hk; omega))) (sy_mw hs hr c1 h17 h3 h37) (fun e => hX _ _ (by have := (hT.g_ask _ (hu.2.2.1.2.2.1.2 e).1).1; omega))
  · rw [hz 0 17 (by omega)] at i1
    rw [hX _ _ (by have := (hT.g_ask _ (hu.1.2.2.1.2.1 i i0 i1).1).1; omega), ec, eh]
    exact hu.1.2.2.1.2.2.1 i i0 i1
  · refine ⟨⟨by rw [hJ _ _ (by omega), hz _ _ (by omega)]; exact m1, by rw [hJ _ _ (by omega), hz _ _ (by omega)]; exact m2⟩, fun k hk => ?_, fun x y hx hy => by rw [hJ _ _ (by omega), hz 35 _ (by omega)]; exact m4 x y hx hy, told5, fun x y hx hy => by rw [hJ _ _ (by omega), hz 47 _ (by omega)]; exact m6 x y hx hy⟩
    rw [hJ _ _ (by omega), m3 k hk]
    by_cases e : k = (30 * r.toNatClampNeg + a.toNatClampNeg)
    · rw [e, b3, y38, if_pos rfl, if_pos rfl]
    · rw [mw_no (by omega), mw_no (by omega)]
theorem mk_I2 (hs : siM C I Y) {r a v : Int32} (hg : Y 35 (10 * r.toNatClampNeg + (Y 8 a.toNatClampNeg).toNatClampNeg) = 0) : ∀ k, k < 180 → (a_ui (a_ui I (C + 19) r.toNatClampNeg (I (C + 19) r.toNatClampNeg ||| ((1 : Int32) <<< (a &&& 31)))) (C + 20) (30 * r.toNatClampNeg + a.toNatClampNeg) v) (C + 20) k = if mrW Y r a v 38 k = 0 then -9 else mrW Y r a v 36 k := fun k hk => by
  obtain ⟨b1, b2, b3⟩ := mw_at (Y := Y) (r := r) (a := a) (v := v)
  rw [if_pos hg] at b3
  rw [ui_ap]
  by_cases e : k = (30 * r.toNatClampNeg + a.toNatClampNeg)
  · rw [if_pos ⟨rfl, e⟩, e, b3, if_neg (by decide), b2]
  · rw [if_neg (fun q => e q.2), ui_ap, if_neg (by omega), mw_no (by omega), mw_no (by omega)]
    exact hs.2.1 k hk
theorem cu_tell1 {m : Nat} (hH : cH C c m t K L I R) (hu : cuP C K L I R Y) {r a v : Int32} (hr : 0 ≤ r ∧ r < 6) (c1 : 0 ≤ a ∧ a < Y 0 17) (h3 : ¬ sm (fun x => if Y 37 (30 * x + a.toNatClampNeg) = 0 then 0 else 1) 6 = 3) (h37 : Y 37 (30 * r.toNatClampNeg + a.toNatClampNeg) = 0) (hv : 0 ≤ v ∧ v ≤ 100) (hg : Y 35 (10 * r.toNatClampNeg + (Y 8 a.toNatClampNeg).toNatClampNeg) = 0) (hTJ : cT C K L J R) (hF : frM C K R (mrW Y r a v) (a_ui (a_ui I (C + 19) r.toNatClampNeg (I (C + 19) r.toNatClampNeg ||| ((1 : Int32) <<< (a &&& 31)))) (C + 20) (30 * r.toNatClampNeg + a.toNatClampNeg) v) J) (hmr : mrP C J R (mrW Y r a v)) : cuP C K L J R (mrW Y r a v) := by
  have hT := hH.1
  have h17 := hu.1.2.2.2.2.2.2.2.2.1
  obtain ⟨-, -, r6, a30⟩ := ix_180 (r := r) (a := a) hr ⟨c1.1, Int32.lt_of_lt_of_le c1.2 h17.2⟩
  obtain ⟨b1, b2, b3⟩ := mw_at (Y := Y) (r := r) (a := a) (v := v)
  have hs := hu.2.2.1.2.2.2
  have hz : ∀ k j, ¬ (36 ≤ k ∧ k ≤ 38) → mrW Y r a v k j = Y k j := fun k j hk => mw_no (by omega)
  obtain ⟨f1, f2, f3, f4⟩ := cu_mks (Y := Y) hH hu hTJ (I1 := (a_ui (a_ui I (C + 19) r.toNatClampNeg (I (C + 19) r.toNatClampNeg ||| ((1 : Int32) <<< (a &&& 31)))) (C + 20) (30 * r.toNatClampNeg + a.toNatClampNeg) v)) (fun x j p1 p2 => hF x j p1 (fun w => p2 ⟨w.1, by obtain ⟨i, i0, i1, e⟩ := w.2; exact ⟨i, i0, by rw [hz 0 17 (by omega)] at i1; exact i1, e⟩⟩)) (fun x j hx => by rw [ui_ap, if_neg (by omega), ui_ap, if_neg (by omega)])
  have hJ : ∀ k j, k ≤ 43 ∧ ¬ (19 ≤ k ∧ k ≤ 21) → J (C + k) j = I (C + k) j := fun k j hk => by
    rw [f3 k j hk.1 (by omega), ui_ap, if_neg (by omega), ui_ap, if_neg (by omega)]
  have hmk := mk_I2 hu.2.2.1.1 (r := r) (a := a) (v := v) hg
  obtain ⟨⟨m1, m2⟩, m3, m4, m5, m6⟩ := hu.2.2.1.1
  have told5 : ∀ x y : Nat, x < 6 → y < 30 → (bq ((a_ui I (C + 19) r.toNatClampNeg (I (C + 19) r.toNatClampNeg ||| ((1 : Int32) <<< (a &&& 31)))) (C + 19) x) y = true ↔ ¬ mrW Y r a v 37 (30 * x + y) = 0) := fun x y hx hy => by
    by_cases e : x = r.toNatClampNeg
    · rw [e, ui_ap, if_pos ⟨rfl, rfl⟩]
      have q := bq_set (k := a.toNatClampNeg) (i := y) (by omega) (by omega) (I (C + 19) r.toNatClampNeg)
      rw [← on_cl c1.1] at q
      rw [q]
      by_cases e2 : y = a.toNatClampNeg
      · rw [e2, b1, decide_eq_true rfl, Bool.or_true]
        exact ⟨fun _ => by decide, fun _ => rfl⟩
      · rw [mw_no (by omega), decide_eq_false e2, Bool.or_false]
        exact m5 _ _ r6 hy
    · rw [ui_ap, if_neg (fun q => e q.2), mw_no (by omega)]
      exact m5 x y hx hy
  refine cu_gen hT hu ⟨fun k hk => funext (fun j => hz k j (by omega)), fun j hj => hz 0 j (by omega)⟩ ⟨f1, f2, hJ 14 4 (by omega), hJ 14 5 (by omega), hJ 7 3 (by omega)⟩ (by rw [hJ 1 6 (by omega), hz 0 0 (by omega)]; exact hu.1.1.1) (fun j => by rw [hJ 2 j (by omega), hz 1 j (by omega)]; exact hu.1.1.2.1 j) (lsP_e hu.1.1.2.2 (fun j => hJ 3 j (by omega)) (fun k j hk => hz k j (by unfold kL at hk; omega))) ⟨by rw [hJ 14 6 (by omega), hz 0 9 (by omega)]; exact hu.1.2.1.2.1, by rw [hz 0 9 (by omega)]; exact hu.1.2.2.2.2.2.2.2.1⟩ hmr (mk_mw hu.1.2.2.2.2.2.2.2.2.2.2.2.1 hv) ?_ (siT_e hu.2.2.1.2.1 (fun k j hk => hJ k j (by omega)) (fun k j hk => hz k j (by unfold kT at hk; omega))) (sy_mw hs hr c1 h17 h3 h37) f4
  refine ⟨⟨by rw [hJ _ _ (by omega), hz _ _ (by omega)]; exact m1, by rw [hJ _ _ (by omega), hz _ _ (by omega)]; exact m2⟩, fun k hk => ?_, fun x y hx hy => by rw [hJ _ _ (by omega), hz 35 _ (by omega)]; exact m4 x y hx hy, fun x y hx hy => ?_, fun x y hx hy => by rw [hJ _ _ (by omega), hz 47 _ (by omega)]; exact m6 x y hx hy⟩
  · rw [f3 _ _ (by omega) (by omega)]
    exact hmk k hk
  · rw [f3 _ _ (by omega) (by omega), ui_ap, if_neg (by omega)]
    exact told5 x y hx hy
theorem ge_mark (hH : cH C c (n + 1) t K L I R) (hu : cuP C K L I R Y) (hgr : ∀ j, 0 ≤ Y 8 j ∧ Y 8 j ≤ 9) {r a v : Int32} (hP : ∀ n' t' K' L' J R', cH C c (n' + 1) t' K' L' J R' → cuP C K' L' J R' (mrY Y r a v).2 → P (some (.int (mrY Y r a v).1)) (n' + 1, t', K', L', J, R')) : a_does (d + 70) 92 [a_rf C, .int r, .int a, .int v] (n + 1, t, K, L, I, R) P := by
  have hT := hH.1
  have hS := hT.s
  have gA := hT.g_asksR
  have gB := hT.g_benchesR
  have gX := hT.g_textsR
  have hc := hu.1
  have h17 := hc.2.2.2.2.2.2.2.2.1
  have e4 : I (C + 14) 4 = Y 0 17 := hc.2.2.1.1
  unfold mrY at hP
  have hr3 : (∀ J, cH C c (n + 1) t K L J R → cuP C K L J R Y → P (some (.int (-3))) (n + 1, t, K, L, J, R)) → a_does (d + 69) 10 [a_rf C, .int (-3)] (n + 1, t, K, L, I, R) (fun q h' => a_at (d + 69) (a_xm a_m92) 58 [some (a_rf C), some (.int r), some (.int a), some (.int v), some (a_rf (R (C + 15) a.toNatClampNeg))] (q.toList ++ []) h' P) := fun hq => by
    refine ge_refuse (d := d + 68) hH hu (fun J z1 z2 => ?_)
    have hp := hq J z1 z2
    clear hq hP hc hu
    simp only [q92_58, as_nil, as_i, as_r, Nat.reduceAdd, Nat.reduceLeDiff, z_eq0, z_eq1, z_or, z_em, Classical.not_not, not_false_eq_true, not_true_eq_false, true_and, and_true, false_and, and_false, and_self, true_implies, false_implies, implies_true, Option.toList_some, Option.toList_none, List.cons_append, List.nil_append, Nat.add_eq_zero_iff, a_nl_i, a_nl_r, a_nl_n, true_or, or_true, eq_self, a_isRA_22, a_isRA_24, a_isRA_32, a_isA_20, ok_4, ok_5, ok_6, ok_7, ok_9, ok_20, ok_21, ok_30, ok_50, ok_180, ok_192, ok_200]
    exact hp
  have hr4 : (∀ J, cH C c (n + 1) t K L J R → cuP C K L J R Y → P (some (.int (-4))) (n + 1, t, K, L, J, R)) → a_does (d + 69) 10 [a_rf C, .int (-4)] (n + 1, t, K, L, I, R) (fun q h' => a_at (d + 69) (a_xm a_m92) 69 [some (a_rf C), some (.int r), some (.int a), some (.int v), some (a_rf (R (C + 15) a.toNatClampNeg))] (q.toList ++ []) h' P) := fun hq => by
    refine ge_refuse (d := d + 68) hH hu (fun J z1 z2 => ?_)
    have hp := hq J z1 z2
    clear hq hP hc hu
    simp only [q92_69, as_nil, as_i, as_r, Nat.reduceAdd, Nat.reduceLeDiff, z_eq0, z_eq1, z_or, z_em, Classical.not_not, not_false_eq_true, not_true_eq_false, true_and, and_true, false_and, and_false, and_self, true_implies, false_implies, implies_true, Option.toList_some, Option.toList_none, List.cons_append, List.nil_append, Nat.add_eq_zero_iff, a_nl_i, a_nl_r, a_nl_n, true_or, or_true, eq_self, a_isRA_22, a_isRA_24, a_isRA_32, a_isA_20, ok_4, ok_5, ok_6, ok_7, ok_9, ok_20, ok_21, ok_30, ok_50, ok_180, ok_192, ok_200]
    exact hp
  have hr6 : (∀ J, cH C c (n + 1) t K L J R → cuP C K L J R Y → P (some (.int (-6))) (n + 1, t, K, L, J, R)) → a_does (d + 69) 10 [a_rf C, .int (-6)] (n + 1, t, K, L, I, R) (fun q h' => a_at (d + 69) (a_xm a_m92) 82 [some (a_rf C), some (.int r), some (.int a), some (.int v), some (a_rf (R (C + 15) a.toNatClampNeg))] (q.toList ++ []) h' P) := fun hq => by
    refine ge_refuse (d := d + 68) hH hu (fun J z1 z2 => ?_)
    have hp := hq J z1 z2
    clear hq hP hc hu
    simp only [q92_82, as_nil, as_i, as_r, Nat.reduceAdd, Nat.reduceLeDiff, z_eq0, z_eq1, z_or, z_em, Classical.not_not, not_false_eq_true, not_true_eq_false, true_and, and_true, false_and, and_false, and_self, true_implies, false_implies, implies_true, Option.toList_some, Option.toList_none, List.cons_append, List.nil_append, Nat.add_eq_zero_iff, a_nl_i, a_nl_r, a_nl_n, true_or, or_true, eq_self, a_isRA_22, a_isRA_24, a_isRA_32, a_isA_20, ok_4, ok_5, ok_6, ok_7, ok_9, ok_20, ok_21, ok_30, ok_50, ok_180, ok_192, ok_200]
    exact hp
  by_cases c0 : (0 ≤ r ∧ r < 6) ∧ (0 ≤ a ∧ a < Y 0 17)
  · rw [if_neg (fun q => q c0)] at hP
    obtain ⟨cr, c1⟩ := c0
    have hac : 0 ≤ a ∧ a < I (C + 14) 4 ∧ a < 30 := ⟨c1.1, by rw [e4]; exact c1.2, Int32.lt_of_lt_of_le c1.2 h17.2⟩
    have ap := aa_of hc c1.1 c1.2
    obtain ⟨-, ⟨ha, an0, a4n⟩, am, al⟩ := id ap
    have a0 : ((R (C + 15) a.toNatClampNeg) = 0) = False := eq_false an0
    have aC := (hT.g_ask _ ha).1
    have gasks := hT.g_asks
    have e13 : I (R (C + 15) a.toNatClampNeg) 13 = Y 20 a.toNatClampNeg := al.2.2.2.1.1
    have e15 : (I (R (C + 15) a.toNatClampNeg) 15 = 0) = (Y 18 a.toNatClampNeg = 0) := propext al.2.2.2.2.1
    have a3 : 0 ≤ a ∧ a < 30 := ⟨hac.1, hac.2.2⟩
    have a30 : a.toNatClampNeg < 30 := a_lt30 a3
    have r6 : r.toNatClampNeg < 6 := show _ < (6 : Int32).toNatClampNeg from cl_lt cr.1 cr.2
    have e0 : I (R (C + 15) a.toNatClampNeg) 0 = (Y 8 a.toNatClampNeg) := al.1.1
    have hsM := hu.2.2.1.1
    have hs := hu.2.2.1.2.2.2
    have h37 := hsM.2.2.2.1 r.toNatClampNeg a.toNatClampNeg r6 a30
    have hsum := hs.2.2.1 a.toNatClampNeg a30
    have g8 := hgr a.toNatClampNeg
    have g10 : (Y 8 a.toNatClampNeg).toNatClampNeg < 10 := by
      have := cl_le0 g8.1 g8.2
      rw [show (9 : Int32).toNatClampNeg = 9 from rfl] at this
      omega
    have hkc : (I (C + 18) r.toNatClampNeg >>> ((Y 8 a.toNatClampNeg) &&& 31)) &&& 1 = 0 ↔ Y 35 (10 * r.toNatClampNeg + (Y 8 a.toNatClampNeg).toNatClampNeg) = 0 := by
      have q := hsM.2.2.1 r.toNatClampNeg (Y 8 a.toNatClampNeg).toNatClampNeg r6 g10
      have w := bq_vi g8.1 (by omega) (I (C + 18) r.toNatClampNeg)
      rw [w]
      by_cases e : bq (I (C + 18) r.toNatClampNeg) (Y 8 a.toNatClampNeg).toNatClampNeg = true
      · rw [if_pos e]
        exact ⟨fun z => absurd z (by decide), fun z => absurd z (q.mp e)⟩
      · rw [if_neg e]
        exact ⟨fun _ => Classical.byContradiction (fun z => e (q.mpr z)), fun _ => rfl⟩
    have n10 : ¬ (1 : Int32) = 0 := by decide
    by_cases c3 : Y 37 (30 * r.toNatClampNeg + a.toNatClampNeg) = 0
    · have nb : ¬ bq (I (C + 19) r.toNatClampNeg) a.toNatClampNeg = true := fun w => h37.mp w c3
      have htl : a_does (d + 69) 94 [a_rf (C + 17), .int a] (n + 1, t, K, L, I, R) (fun q h' => a_at (d + 69) (a_xm a_m92) 48 [some (a_rf C), some (.int r), some (.int a), some (.int v), some (a_rf (R (C + 15) a.toNatClampNeg))] (q.toList ++ []) h' P) := by
        refine ce_toldOf (d := d + 68) hS a3 ?_
        rw [told_eq hsM a30]
        by_cases c4 : sm (fun x => if Y 37 (30 * x + a.toNatClampNeg) = 0 then 0 else 1) 6 = 3
        · rw [if_pos (Or.inr c4)] at hP
          have hr := hr3 (fun J z1 z2 => hP n t K L J R z1 z2)
          have n33 : ¬ Int32.ofNat 3 < 3 := by decide
          clear hP hc ap al am hu hs hsM hsum hr3 hr4 hr6
          rw [c4]
          simp only [q92_48, q92_49, q92_52, q92_53, q92_55, k_0 hS, z_C hS, as_nil, as_i, as_r, Nat.reduceAdd, Nat.reduceLeDiff, z_eq0, z_eq1, z_or, z_em, Classical.not_not, not_false_eq_true, not_true_eq_false, true_and, and_true, false_and, and_false, and_self, true_implies, false_implies, implies_true, Option.toList_some, Option.toList_none, List.cons_append, List.nil_append, Nat.add_eq_zero_iff, a_nl_i, a_nl_r, a_nl_n, true_or, or_true, eq_self, a_isRA_22, a_isRA_24, a_isRA_32, a_isA_20, ok_4, ok_5, ok_6, ok_7, ok_9, ok_20, ok_21, ok_30, ok_50, ok_180, ok_192, ok_200, n33]
          try simp only [true_and, and_true, true_implies, false_implies, implies_true, not_true_eq_false, not_false_eq_true]
          first
            | exact hr
            | grind
        · rw [if_neg (fun w => w.elim (fun w => w c3) c4)] at hP
          have hlt : Int32.ofNat (sm (fun x => if Y 37 (30 * x + a.toNatClampNeg) = 0 then 0 else 1) 6) < 3 := by
            generalize sm (fun x => if Y 37 (30 * x + a.toNatClampNeg) = 0 then 0 else 1) 6 = z at hsum c4
            have h3 : z = 0 ∨ z = 1 ∨ z = 2 := by omega
            rcases h3 with h3 | h3 | h3 <;> rw [h3] <;> decide
          by_cases c5 : v < 0
          · rw [if_pos c5] at hP
            have hr := hr4 (fun J z1 z2 => hP n t K L J R z1 z2)
            have c5' : ¬ 0 ≤ v := Int32.not_le.mpr c5
            clear hP hc ap al am hu hs hsM hsum hr3 hr4 hr6
            simp only [q92_48, q92_49, q92_59, q92_60, q92_63, q92_64, q92_66, k_0 hS, z_C hS, as_nil, as_i, as_r, Nat.reduceAdd, Nat.reduceLeDiff, z_eq0, z_eq1, z_or, z_em, Classical.not_not, not_false_eq_true, not_true_eq_false, true_and, and_true, false_and, and_false, and_self, true_implies, false_implies, implies_true, Option.toList_some, Option.toList_none, List.cons_append, List.nil_append, Nat.add_eq_zero_iff, a_nl_i, a_nl_r, a_nl_n, true_or, or_true, eq_self, a_isRA_22, a_isRA_24, a_isRA_32, a_isA_20, ok_4, ok_5, ok_6, ok_7, ok_9, ok_20, ok_21, ok_30, ok_50, ok_180, ok_192, ok_200, hlt, c5, c5']
            try simp only [true_and, and_true, true_implies, false_implies, implies_true, not_true_eq_false, not_false_eq_true]
            first
              | exact hr
              | grind
          · rw [if_neg c5] at hP
            have c5' : 0 ≤ v := Int32.not_lt.mp c5
            by_cases c6 : 100 < v
            · rw [if_pos c6] at hP
              have hr := hr6 (fun J z1 z2 => hP n t K L J R z1 z2)
              have c6' : ¬ v ≤ 100 := Int32.not_le.mpr c6
              clear hP hc ap al am hu hs hsM hsum hr3 hr4 hr6
              simp only [q92_48, q92_49, q92_59, q92_60, q92_70, q92_71, q92_73, q92_76, q92_77, q92_79, k_0 hS, z_C hS, as_nil, as_i, as_r, Nat.reduceAdd, Nat.reduceLeDiff, z_eq0, z_eq1, z_or, z_em, Classical.not_not, not_false_eq_true, not_true_eq_false, true_and, and_true, false_and, and_false, and_self, true_implies, false_implies, implies_true, Option.toList_some, Option.toList_none, List.cons_append, List.nil_append, Nat.add_eq_zero_iff, a_nl_i, a_nl_r, a_nl_n, true_or, or_true, eq_self, a_isRA_22, a_isRA_24, a_isRA_32, a_isA_20, ok_4, ok_5, ok_6, ok_7, ok_9, ok_20, ok_21, ok_30, ok_50, ok_180, ok_192, ok_200, hlt, c5, c5', c6, c6']
              try simp only [true_and, and_true, true_implies, false_implies, implies_true, not_true_eq_false, not_false_eq_true]
              first
                | exact hr
                | grind
            · rw [if_neg c6] at hP
              have c6' : v ≤ 100 := Int32.not_lt.mp c6
              have hcl : a_does (d + 69) 95 [a_rf (C + 17), .int r, a_rf (R (C + 15) a.toNatClampNeg), .int v] (n + 1, t, K, L, I, R) (fun q h' => a_at (d + 69) (a_xm a_m92) 94 [some (a_rf C), some (.int r), some (.int a), some (.int v), some (a_rf (R (C + 15) a.toNatClampNeg))] (q.toList ++ []) h' P) := by
                by_cases cg : Y 35 (10 * r.toNatClampNeg + (Y 8 a.toNatClampNeg).toNatClampNeg) = 0
                · rw [if_pos cg] at hP
                  refine ce_tell1 (d := d + 64) (Z := mrW Y r a v) hT ha an0 cr a3 a4n e0 (hkc.mpr cg) (fun i i0 i1 => hc.2.2.1.2.1 i i0 (by rw [mw_no (by omega)] at i1; exact i1)) ⟨mk_I2 hsM cg, by rw [ui_ap, if_neg (by omega), ui_ap, if_neg (by omega), mw_no (by omega)]; exact e4⟩ (mk_mw hc.2.2.2.2.2.2.2.2.2.2.2.1 ⟨c5', c6'⟩) (by rw [mw_no (by omega)]; exact hsM.1.2) (fun J g1 g2 g3 => ?_)
                  have hp := hP n t K L J R (cH_J hH g1) (cu_tell1 hH hu cr c1 c4 c3 ⟨c5', c6'⟩ cg g1 g2 g3)
                  clear hP hc ap al am hu hs hsM hsum hr3 hr4 hr6 g2 g3
                  simp only [q92_94, q92_97, q92_98, q92_101, q92_102, as_nil, as_i, as_r, Nat.reduceAdd, Nat.reduceLeDiff, z_eq0, z_eq1, z_or, z_em, Classical.not_not, not_false_eq_true, not_true_eq_false, true_and, and_true, false_and, and_false, and_self, true_implies, false_implies, implies_true, Option.toList_some, Option.toList_none, List.cons_append, List.nil_append, Nat.add_eq_zero_iff, a_nl_i, a_nl_r, a_nl_n, true_or, or_true, eq_self, a_isRA_22, a_isRA_24, a_isRA_32, a_isA_20, ok_4, ok_5, ok_6, ok_7, ok_9, ok_20, ok_21, ok_30, ok_50, ok_180, ok_192, ok_200, n10]
                  try simp only [true_and, and_true, true_implies, false_implies, implies_true, not_true_eq_false, not_false_eq_true]
                  first
                    | exact hp
                    | grind
                · rw [if_neg cg] at hP
                  refine ce_tell0 (d := d + 64) hT ha an0 cr a3 a4n e0 (fun w => cg (hkc.mp w)) (fun g1 => ?_)
                  have hp := hP n t K L _ R (cH_J hH g1) (cu_tell0 hH hu cr c1 c4 c3 ⟨c5', c6'⟩ cg)
                  clear hP hc ap al am hu hs hsM hsum hr3 hr4 hr6
                  simp only [q92_94, q92_97, q92_98, q92_101, q92_102, as_nil, as_i, as_r, Nat.reduceAdd, Nat.reduceLeDiff, z_eq0, z_eq1, z_or, z_em, Classical.not_not, not_false_eq_true, not_true_eq_false, true_and, and_true, false_and, and_false, and_self, true_implies, false_implies, implies_true, Option.toList_some, Option.toList_none, List.cons_append, List.nil_append, Nat.add_eq_zero_iff, a_nl_i, a_nl_r, a_nl_n, true_or, or_true, eq_self, a_isRA_22, a_isRA_24, a_isRA_32, a_isA_20, ok_4, ok_5, ok_6, ok_7, ok_9, ok_20, ok_21, ok_30, ok_50, ok_180, ok_192, ok_200]
                  try simp only [true_and, and_true, true_implies, false_implies, implies_true, not_true_eq_false, not_false_eq_true]
                  first
                    | exact hp
                    | grind
              clear hP hc ap al am hu hs hsM hsum hr3 hr4 hr6
              simp only [q92_48, q92_49, q92_59, q92_60, q92_70, q92_71, q92_73, q92_83, q92_84, q92_87, q92_88, q92_90, q92_91, k_0 hS, z_C hS, r_0_3 hS, k_17 hS, z_17, as_nil, as_i, as_r, Nat.reduceAdd, Nat.reduceLeDiff, z_eq0, z_eq1, z_or, z_em, Classical.not_not, not_false_eq_true, not_true_eq_false, true_and, and_true, false_and, and_false, and_self, true_implies, false_implies, implies_true, Option.toList_some, Option.toList_none, List.cons_append, List.nil_append, Nat.add_eq_zero_iff, a_nl_i, a_nl_r, a_nl_n, true_or, or_true, eq_self, a_isRA_22, a_isRA_24, a_isRA_32, a_isA_20, ok_4, ok_5, ok_6, ok_7, ok_9, ok_20, ok_21, ok_30, ok_50, ok_180, ok_192, ok_200, hlt, c5, c5', c6, c6']
              try simp only [true_and, and_true, true_implies, false_implies, implies_true, not_true_eq_false, not_false_eq_true]
              first
                | exact hcl
                | grind
      have hit : a_does (d + 69) 93 [a_rf (C + 17), .int r, .int a] (n + 1, t, K, L, I, R) (fun q h' => a_at (d + 69) (a_xm a_m92) 37 [some (a_rf C), some (.int r), some (.int a), some (.int v), some (a_rf (R (C + 15) a.toNatClampNeg))] (q.toList ++ []) h' P) := by
        refine ce_isTold (d := d + 68) hS cr a3 ?_
        rw [if_neg nb]
        clear hP hc ap al am hu hs hsM hsum hr3 hr4 hr6
        simp only [q92_37, q92_40, q92_41, q92_44, q92_45, k_0 hS, z_C hS, r_0_3 hS, k_17 hS, z_17, as_nil, as_i, as_r, Nat.reduceAdd, Nat.reduceLeDiff, z_eq0, z_eq1, z_or, z_em, Classical.not_not, not_false_eq_true, not_true_eq_false, true_and, and_true, false_and, and_false, and_self, true_implies, false_implies, implies_true, Option.toList_some, Option.toList_none, List.cons_append, List.nil_append, Nat.add_eq_zero_iff, a_nl_i, a_nl_r, a_nl_n, true_or, or_true, eq_self, a_isRA_22, a_isRA_24, a_isRA_32, a_isA_20, ok_4, ok_5, ok_6, ok_7, ok_9, ok_20, ok_21, ok_30, ok_50, ok_180, ok_192, ok_200]
        try simp only [true_and, and_true, true_implies, false_implies, implies_true, not_true_eq_false, not_false_eq_true]
        first
          | exact htl
          | grind
      clear hP hc ap al am hu hs hsM hsum hr3 hr4 hr6
      rw [a_enter1 (M := a_m92) rfl (a_cat_rf (a_cat_int (a_cat_int (a_cat_int a_cat_nil)))) (show 4 ≤ 5 by decide)]
      show a_at _ (a_xm a_m92) 0 [some (a_rf C), some (.int r), some (.int a), some (.int v), none] [] _ _
      simp only [q92_0, q92_1, q92_4, q92_5, q92_8, q92_10, q92_11, q92_14, q92_17, q92_19, q92_22, q92_23, q92_24, q92_27, q92_28, q92_29, q92_32, q92_33, q92_34, k_0 hS, z_C hS, r_0_4 hS, k_14 hS, z_14, r_0_3 hS, k_17 hS, z_17, sp_askAt hS gA, sp_isReaderC, as_nil, as_i, as_r, Nat.reduceAdd, Nat.reduceLeDiff, z_eq0, z_eq1, z_or, z_em, Classical.not_not, not_false_eq_true, not_true_eq_false, true_and, and_true, false_and, and_false, and_self, true_implies, false_implies, implies_true, Option.toList_some, Option.toList_none, List.cons_append, List.nil_append, Nat.add_eq_zero_iff, a_nl_i, a_nl_r, a_nl_n, true_or, or_true, eq_self, a_isRA_22, a_isRA_24, a_isRA_32, a_isA_20, ok_4, ok_5, ok_6, ok_7, ok_9, ok_20, ok_21, ok_30, ok_50, ok_180, ok_192, ok_200, cr, hac, ha, a0]
      try simp only [true_and, and_true, true_implies, false_implies, implies_true, not_true_eq_false, not_false_eq_true]
      first
        | exact hit
        | grind
    · rw [if_pos (Or.inl c3)] at hP
      have hr := hr3 (fun J z1 z2 => hP n t K L J R z1 z2)
      have hit : a_does (d + 69) 93 [a_rf (C + 17), .int r, .int a] (n + 1, t, K, L, I, R) (fun q h' => a_at (d + 69) (a_xm a_m92) 37 [some (a_rf C), some (.int r), some (.int a), some (.int v), some (a_rf (R (C + 15) a.toNatClampNeg))] (q.toList ++ []) h' P) := by
        refine ce_isTold (d := d + 68) hS cr a3 ?_
        rw [if_pos (h37.mpr c3)]
        clear hP hc ap al am hu hs hsM hsum hr3 hr4 hr6
        simp only [q92_37, q92_52, q92_53, q92_55, k_0 hS, z_C hS, as_nil, as_i, as_r, Nat.reduceAdd, Nat.reduceLeDiff, z_eq0, z_eq1, z_or, z_em, Classical.not_not, not_false_eq_true, not_true_eq_false, true_and, and_true, false_and, and_false, and_self, true_implies, false_implies, implies_true, Option.toList_some, Option.toList_none, List.cons_append, List.nil_append, Nat.add_eq_zero_iff, a_nl_i, a_nl_r, a_nl_n, true_or, or_true, eq_self, a_isRA_22, a_isRA_24, a_isRA_32, a_isA_20, ok_4, ok_5, ok_6, ok_7, ok_9, ok_20, ok_21, ok_30, ok_50, ok_180, ok_192, ok_200, n10]
        try simp only [true_and, and_true, true_implies, false_implies, implies_true, not_true_eq_false, not_false_eq_true]
        first
          | exact hr
          | grind
      clear hP hc ap al am hu hs hsM hsum hr3 hr4 hr6 hr
      rw [a_enter1 (M := a_m92) rfl (a_cat_rf (a_cat_int (a_cat_int (a_cat_int a_cat_nil)))) (show 4 ≤ 5 by decide)]
      show a_at _ (a_xm a_m92) 0 [some (a_rf C), some (.int r), some (.int a), some (.int v), none] [] _ _
      simp only [q92_0, q92_1, q92_4, q92_5, q92_8, q92_10, q92_11, q92_14, q92_17, q92_19, q92_22, q92_23, q92_24, q92_27, q92_28, q92_29, q92_32, q92_33, q92_34, k_0 hS, z_C hS, r_0_4 hS, k_14 hS, z_14, r_0_3 hS, k_17 hS, z_17, sp_askAt hS gA, sp_isReaderC, as_nil, as_i, as_r, Nat.reduceAdd, Nat.reduceLeDiff, z_eq0, z_eq1, z_or, z_em, Classical.not_not, not_false_eq_true, not_true_eq_false, true_and, and_true, false_and, and_false, and_self, true_implies, false_implies, implies_true, Option.toList_some, Option.toList_none, List.cons_append, List.nil_append, Nat.add_eq_zero_iff, a_nl_i, a_nl_r, a_nl_n, true_or, or_true, eq_self, a_isRA_22, a_isRA_24, a_isRA_32, a_isA_20, ok_4, ok_5, ok_6, ok_7, ok_9, ok_20, ok_21, ok_30, ok_50, ok_180, ok_192, ok_200, cr, hac, ha, a0]
      try simp only [true_and, and_true, true_implies, false_implies, implies_true, not_true_eq_false, not_false_eq_true]
      first
        | exact hit
        | grind
  · rw [if_pos c0] at hP
    have hr1 : ∀ x, a_does (d + 69) 10 [a_rf C, .int (-1)] (n + 1, t, K, L, I, R) (fun q h' => a_at (d + 69) (a_xm a_m92) 27 [some (a_rf C), some (.int r), some (.int a), some (.int v), x] (q.toList ++ []) h' P) := fun x => by
      refine ge_refuse (d := d + 68) hH hu (fun J z1 z2 => ?_)
      have hp := hP n t K L J R z1 z2
      clear hP hc hu hr3 hr4 hr6
      simp only [q92_27, as_nil, as_i, as_r, Nat.reduceAdd, Nat.reduceLeDiff, z_eq0, z_eq1, z_or, z_em, Classical.not_not, not_false_eq_true, not_true_eq_false, true_and, and_true, false_and, and_false, and_self, true_implies, false_implies, implies_true, Option.toList_some, Option.toList_none, List.cons_append, List.nil_append, Nat.add_eq_zero_iff, a_nl_i, a_nl_r, a_nl_n, true_or, or_true, eq_self, a_isRA_22, a_isRA_24, a_isRA_32, a_isA_20, ok_4, ok_5, ok_6, ok_7, ok_9, ok_20, ok_21, ok_30, ok_50, ok_180, ok_192, ok_200]
      exact hp
    have hac : (0 ≤ a ∧ a < I (C + 14) 4 ∧ a < 30) ↔ (0 ≤ a ∧ a < Y 0 17) := by
      rw [e4]
      exact ⟨fun q => ⟨q.1, q.2.1⟩, fun q => ⟨q.1, q.2, Int32.lt_of_lt_of_le q.2 h17.2⟩⟩
    clear hP hc hu hr3 hr4 hr6
    rw [a_enter1 (M := a_m92) rfl (a_cat_rf (a_cat_int (a_cat_int (a_cat_int a_cat_nil)))) (show 4 ≤ 5 by decide)]
    show a_at _ (a_xm a_m92) 0 [some (a_rf C), some (.int r), some (.int a), some (.int v), none] [] _ _
    simp only [q92_0, q92_1, q92_4, q92_5, q92_8, q92_10, q92_11, q92_14, q92_17, q92_19, q92_22, q92_23, q92_24, k_0 hS, z_C hS, r_0_4 hS, k_14 hS, z_14, sp_askAt hS gA, sp_isReaderC, as_nil, as_i, as_r, Nat.reduceAdd, Nat.reduceLeDiff, z_eq0, z_eq1, z_or, z_em, Classical.not_not, not_false_eq_true, not_true_eq_false, true_and, and_true, false_and, and_false, and_self, true_implies, false_implies, implies_true, Option.toList_some, Option.toList_none, List.cons_append, List.nil_append, Nat.add_eq_zero_iff, a_nl_i, a_nl_r, a_nl_n, true_or, or_true, eq_self, a_isRA_22, a_isRA_24, a_isRA_32, a_isA_20, ok_4, ok_5, ok_6, ok_7, ok_9, ok_20, ok_21, ok_30, ok_50, ok_180, ok_192, ok_200, hac]
    try simp only [true_and, and_true, true_implies, false_implies, implies_true, not_true_eq_false, not_false_eq_true]
    by_cases q1 : 0 ≤ r ∧ r < 6
    · have q2 : ¬ (0 ≤ a ∧ a < Y 0 17) := fun q => c0 ⟨q1, q⟩
      simp only [q1, q2]
      try simp only [true_and, and_true, true_implies, false_implies, implies_true, not_true_eq_false, not_false_eq_true]
      first
        | exact hr1 _
        | grind
    · by_cases q2 : 0 ≤ a ∧ a < Y 0 17
      · have gi := hT.g_asksR a.toNatClampNeg
        simp only [q1, q2]
        try simp only [true_and, and_true, true_implies, false_implies, implies_true, not_true_eq_false, not_false_eq_true]
        first
          | exact hr1 _
          | exact ⟨gi, hr1 _⟩
          | grind
      · simp only [q1, q2]
        try simp only [true_and, and_true, true_implies, false_implies, implies_true, not_true_eq_false, not_false_eq_true]
        first
          | exact hr1 _
          | grind
end ZF0
section ZF1
variable {d n t M : Nat} {K L : Nat → Nat} {I I0 J J0 J1 J2 : Nat → Nat → Int32} {R : Nat → Nat → Nat} {P : Option Value → AH → Prop} {f : Nat → Int32} {e : Int32}
variable {Y Z W : Nat → Nat → Int32}
theorem xt_mark_27 (hS : m_S M K L R) {r a v : Int32} (ha : 0 ≤ a ∧ a < 30) (hP : ∀ i, a_at d (a_xm a_m215) 65 [some (a_rf M), some (.int r), some (.int a), some (.int v), some (.int (Int32.ofNat (sm (fun x => if I (M + 37) (30 * x + a.toNatClampNeg) = 0 then 0 else 1) 6))), some (.int i)] [] (n, t, K, L, I, R) P) : ∀ i : Int32, i ≤ 6 → ∀ o, 0 ≤ i → o = Int32.ofNat (sm (fun x => if I (M + 37) (30 * x + a.toNatClampNeg) = 0 then 0 else 1) i.toNatClampNeg) → a_at d (a_xm a_m215) 27 [some (a_rf M), some (.int r), some (.int a), some (.int v), some (.int o), some (.int i)] [] (n, t, K, L, I, R) P := by
  refine up_ind 6 (fun i hk ih => ?_)
  intro o q0 eo
  have hend : ¬ i < 6 → a_at d (a_xm a_m215) 65 [some (a_rf M), some (.int r), some (.int a), some (.int v), some (.int o), some (.int i)] [] (n, t, K, L, I, R) P := fun e => by
    have : i = 6 := by clear ih hP eo; grind
    subst this
    rw [eo]
    exact hP 6
  by_cases e : i < 6
  · obtain ⟨ex, hx, -⟩ := ix_180 (r := i) (a := a) ⟨q0, e⟩ ha
    have e6 : ¬ 6 ≤ i := Int32.not_le.mpr e
    obtain ⟨-, s2, -, s4⟩ := lp_st q0 e
    have hgo : ∀ w, w = o + (if I (M + 37) (30 * i.toNatClampNeg + a.toNatClampNeg) = 0 then 0 else 1) → a_at d (a_xm a_m215) 27 [some (a_rf M), some (.int r), some (.int a), some (.int v), some (.int w), some (.int (i + 1))] [] (n, t, K, L, I, R) P := fun w ew => by
      refine ih e _ s2 ?_
      rw [s4, ew, eo]
      show _ = Int32.ofNat (sm (fun x => if I (M + 37) (30 * x + a.toNatClampNeg) = 0 then 0 else 1) i.toNatClampNeg + if I (M + 37) (30 * i.toNatClampNeg + a.toNatClampNeg) = 0 then 0 else 1)
      rw [Int32.ofNat_add]
      congr 1
      split
      · rfl
      · rfl
    clear ih hP eo hend
    rw [q215_27]
    by_cases c : I (M + 37) (30 * i.toNatClampNeg + a.toNatClampNeg) = 0
    · have hg := hgo (o + 0) (by rw [if_pos c])
      simp only [q215_29, q215_31, q215_34, q215_36, q215_37, q215_40, q215_42, q215_44, q215_45, q215_46, q215_47, q215_48, q215_51, q215_52, q215_55, q215_56, q215_57, q215_59, q215_62, m_0 hS, m_K hS, mR_isMarked hS, mK_isMarked hS, mL_isMarked hS, as_nil, as_i, as_r, Nat.reduceAdd, Nat.reduceLeDiff, z_eq0, z_eq1, z_or, z_em, Classical.not_not, not_false_eq_true, not_true_eq_false, true_and, and_true, false_and, and_false, and_self, true_implies, false_implies, implies_true, Option.toList_some, Option.toList_none, List.cons_append, List.nil_append, Nat.add_eq_zero_iff, a_nl_i, a_nl_r, a_nl_n, true_or, or_true, eq_self, ok_4, ok_5, ok_6, ok_7, ok_9, ok_10, ok_20, ok_21, ok_24, ok_30, ok_48, ok_50, ok_60, ok_80, ok_120, ok_180, ok_192, ok_200, ok_900, ok_1000, ok_84000, e, e6, ex, hx, c]
      try simp only [true_and, and_true, true_implies, false_implies, implies_true, not_true_eq_false, not_false_eq_true]
      first
        | exact hg
        | grind
    · have hg := hgo (o + 1) (by rw [if_neg c])
      simp only [q215_29, q215_31, q215_34, q215_36, q215_37, q215_40, q215_42, q215_44, q215_45, q215_46, q215_47, q215_48, q215_51, q215_52, q215_55, q215_56, q215_57, q215_59, q215_62, m_0 hS, m_K hS, mR_isMarked hS, mK_isMarked hS, mL_isMarked hS, as_nil, as_i, as_r, Nat.reduceAdd, Nat.reduceLeDiff, z_eq0, z_eq1, z_or, z_em, Classical.not_not, not_false_eq_true, not_true_eq_false, true_and, and_true, false_and, and_false, and_self, true_implies, false_implies, implies_true, Option.toList_some, Option.toList_none, List.cons_append, List.nil_append, Nat.add_eq_zero_iff, a_nl_i, a_nl_r, a_nl_n, true_or, or_true, eq_self, ok_4, ok_5, ok_6, ok_7, ok_9, ok_10, ok_20, ok_21, ok_24, ok_30, ok_48, ok_50, ok_60, ok_80, ok_120, ok_180, ok_192, ok_200, ok_900, ok_1000, ok_84000, e, e6, ex, hx, c]
      try simp only [true_and, and_true, true_implies, false_implies, implies_true, not_true_eq_false, not_false_eq_true]
      first
        | exact hg
        | grind
  · have hend := hend e
    have e6 : 6 ≤ i := Int32.not_lt.mp e
    clear ih hP eo
    rw [q215_27]
    simp only [q215_29, q215_31, as_nil, as_i, as_r, Nat.reduceAdd, Nat.reduceLeDiff, z_eq0, z_eq1, z_or, z_em, Classical.not_not, not_false_eq_true, not_true_eq_false, true_and, and_true, false_and, and_false, and_self, true_implies, false_implies, implies_true, Option.toList_some, Option.toList_none, List.cons_append, List.nil_append, Nat.add_eq_zero_iff, a_nl_i, a_nl_r, a_nl_n, true_or, or_true, eq_self, ok_4, ok_5, ok_6, ok_7, ok_9, ok_10, ok_20, ok_21, ok_24, ok_30, ok_48, ok_50, ok_60, ok_80, ok_120, ok_180, ok_192, ok_200, ok_900, ok_1000, ok_84000, e, e6]
    try simp only [true_and, and_true, true_implies, false_implies, implies_true, not_true_eq_false, not_false_eq_true]
    first
      | exact hend
      | grind
theorem xp_mark (hS : m_S M K L R) {I1 : Nat → Nat → Int32} (hm : okY Y) {c : Nat} (hc : c + 130 ≤ 84000) (hF : mF M c I1 I) (hg : gs M I0 I Y) {r a v : Int32} (hP : ∀ J, mF M (c + 120) I1 J → gs M I0 J (mrY Y r a v).2 → P (some (.int (mrY Y r a v).1)) (n, t, K, L, J, R)) : a_does (d + 13) 215 [a_rf M, .int r, .int a, .int v] (n, t, K, L, I, R) P := by
  have hy := hm.1
  have h17 := hy.2.2.2.2.1
  have h10 := hy.2.1
  have h6 := hy.2.2.2.2.2.1
  have hl := hy.2.2.1
  have hrf : ∀ k : Nat, mF M (c + 120) I1 (a_ui I (M + 23) k (I (M + 23) k + 1)) ∧ gs M I0 (a_ui I (M + 23) k (I (M + 23) k + 1)) Y := fun k => ⟨mF_le (sF_refused hF) (by omega), gs_ui hg (sR_refused hg.1) (by omega) ⟨by unfold ps1; omega, by omega⟩⟩
  have e17 : I M 17 = Y 0 17 := hg.2.2.1 0 17 (by unfold ps1; omega)
  have e6 : I M 6 = Y 0 6 := hg.2.2.1 0 6 (by unfold ps1; omega)
  have e0 : I M 0 = Y 0 0 := hg.2.2.1 0 0 (by unfold ps1; omega)
  have m17 : ∀ x : Int32, (x ≤ Y 0 17 - 1) = (x < Y 0 17) := fun x => le_m1 h17
  have m6 : ∀ x : Int32, (x ≤ Y 0 6 - 1) = (x < Y 0 6) := fun x => le_m1 ⟨h6.1, Int32.le_trans h6.2 (by decide)⟩
  have m199 : ∀ x : Int32, (x ≤ 199) = (x < 200) := fun x => propext ⟨fun q => Int32.lt_of_le_of_lt q (by decide), fun q => by clear hP hrf hm hg hF; grind⟩
  unfold mrY at hP
  by_cases c0 : (0 ≤ r ∧ r < 6) ∧ (0 ≤ a ∧ a < Y 0 17)
  · obtain ⟨cr, c1⟩ := c0
    rw [if_neg (fun q => q ⟨cr, c1⟩)] at hP
    have ha : 0 ≤ a ∧ a < 30 := ⟨c1.1, Int32.lt_of_lt_of_le c1.2 h17.2⟩
    have r5 : 0 ≤ r ∧ r ≤ 5 := ⟨cr.1, by clear hP hrf hm hy hl hg hF; grind⟩
    obtain ⟨ex, hx, r6, a30⟩ := ix_180 (r := r) (a := a) cr ha
    have e37 : ∀ j, I (M + 37) j = Y 37 j := fun j => hg.2.2.1 37 _ (by unfold ps1; omega)
    have e8 : I (M + 8) a.toNatClampNeg = (Y 8 a.toNatClampNeg) := hg.2.2.1 8 _ (by unfold ps1; omega)
    have g8 := rg_group hg.1 a.toNatClampNeg
    rw [e8] at g8
    have g9 : 0 ≤ (Y 8 a.toNatClampNeg) ∧ (Y 8 a.toNatClampNeg) < 10 := ⟨g8.1, by clear hP hrf hm hy hl hg hF; grind⟩
    obtain ⟨ez, hz, -⟩ := ix_60 (r := r) (g := (Y 8 a.toNatClampNeg)) cr g9
    have e35 : I (M + 35) (10 * r.toNatClampNeg + (Y 8 a.toNatClampNeg).toNatClampNeg) = Y 35 (10 * r.toNatClampNeg + (Y 8 a.toNatClampNeg).toNatClampNeg) := hg.2.2.1 35 _ (by unfold ps1; omega)
    have hmf : sm (fun x => if I (M + 37) (30 * x + a.toNatClampNeg) = 0 then 0 else 1) 6 = sm (fun x => if Y 37 (30 * x + a.toNatClampNeg) = 0 then 0 else 1) 6 := sm_eq (fun x _ => by
      show (if I (M + 37) (30 * x + a.toNatClampNeg) = 0 then 0 else 1) = if Y 37 (30 * x + a.toNatClampNeg) = 0 then 0 else 1
      rw [e37])
    have e37x := e37 (30 * r.toNatClampNeg + a.toNatClampNeg)
    have n10 : ¬ (1 : Int32) = 0 := by decide
    have a11 : (1 : Int32) &&& 1 = 1 := by decide
    have a00 : (0 : Int32) &&& 1 = 0 := by decide
    have hz3 : (Int32.ofNat (sm (fun x => if Y 37 (30 * x + a.toNatClampNeg) = 0 then 0 else 1) 6) = 3) = (sm (fun x => if Y 37 (30 * x + a.toNatClampNeg) = 0 then 0 else 1) 6 = 3) := by
      have h6 : sm (fun x => if Y 37 (30 * x + a.toNatClampNeg) = 0 then 0 else 1) 6 ≤ 6 := by
        show 0 + _ + _ + _ + _ + _ + _ ≤ 6
        have hb : ∀ x, (if Y 37 (30 * x + a.toNatClampNeg) = 0 then 0 else 1) ≤ 1 := fun x => by split <;> omega
        have q0 := hb 0
        have q1 := hb 1
        have q2 := hb 2
        have q3 := hb 3
        have q4 := hb 4
        have q5 := hb 5
        dsimp only
        omega
      generalize sm (fun x => if Y 37 (30 * x + a.toNatClampNeg) = 0 then 0 else 1) 6 = z at h6
      have : z = 0 ∨ z = 1 ∨ z = 2 ∨ z = 3 ∨ z = 4 ∨ z = 5 ∨ z = 6 := by omega
      rcases this with q | q | q | q | q | q | q <;> rw [q] <;> decide
    have hl2 := xt_mark_27 (d := d + 12) (n := n) (t := t) (P := P) (r := r) (v := v) hS ha (fun i => by
      rw [hmf]
      by_cases c3 : Y 37 (30 * r.toNatClampNeg + a.toNatClampNeg) = 0
      · by_cases c4 : sm (fun x => if Y 37 (30 * x + a.toNatClampNeg) = 0 then 0 else 1) 6 = 3
        · rw [if_pos (Or.inr c4)] at hP
          have hr := hP _ (hrf 3).1 (hrf 3).2
          clear hP hrf hm hy hl hg hF e37
          simp only [q215_65, q215_66, q215_69, q215_71, q215_72, q215_73, q215_74, q215_75, q215_76, q215_79, q215_81, q215_82, q215_85, q215_86, q215_88, q215_91, m_0 hS, m_K hS, mR_isMarked hS, mK_isMarked hS, mL_isMarked hS, sp_refuse_1 hS, sp_refuse_2 hS, sp_refuse_3 hS, sp_refuse_4 hS, sp_refuse_5 hS, sp_refuse_6 hS, as_nil, as_i, as_r, Nat.reduceAdd, Nat.reduceLeDiff, z_eq0, z_eq1, z_or, z_em, Classical.not_not, not_false_eq_true, not_true_eq_false, true_and, and_true, false_and, and_false, and_self, true_implies, false_implies, implies_true, Option.toList_some, Option.toList_none, List.cons_append, List.nil_append, Nat.add_eq_zero_iff, a_nl_i, a_nl_r, a_nl_n, true_or, or_true, eq_self, ok_4, ok_5, ok_6, ok_7, ok_9, ok_10, ok_20, ok_21, ok_24, ok_30, ok_48, ok_50, ok_60, ok_80, ok_120, ok_180, ok_192, ok_200, ok_900, ok_1000, ok_84000, ex, hx, e37x, c3, hz3, c4]
          try simp only [true_and, and_true, true_implies, false_implies, implies_true, not_true_eq_false, not_false_eq_true]
          first
            | exact hr
            | grind
        · rw [if_neg (fun w => w.elim (fun w => w c3) c4)] at hP
          by_cases c5 : v < 0
          · rw [if_pos c5] at hP
            have c5' : ¬ 0 ≤ v := Int32.not_le.mpr c5
            have hr := hP _ (hrf 4).1 (hrf 4).2
            clear hP hrf hm hy hl hg hF e37
            simp only [q215_65, q215_66, q215_69, q215_71, q215_72, q215_73, q215_74, q215_75, q215_76, q215_79, q215_81, q215_82, q215_92, q215_93, q215_96, q215_97, q215_99, q215_102, m_0 hS, m_K hS, mR_isMarked hS, mK_isMarked hS, mL_isMarked hS, sp_refuse_1 hS, sp_refuse_2 hS, sp_refuse_3 hS, sp_refuse_4 hS, sp_refuse_5 hS, sp_refuse_6 hS, as_nil, as_i, as_r, Nat.reduceAdd, Nat.reduceLeDiff, z_eq0, z_eq1, z_or, z_em, Classical.not_not, not_false_eq_true, not_true_eq_false, true_and, and_true, false_and, and_false, and_self, true_implies, false_implies, implies_true, Option.toList_some, Option.toList_none, List.cons_append, List.nil_append, Nat.add_eq_zero_iff, a_nl_i, a_nl_r, a_nl_n, true_or, or_true, eq_self, ok_4, ok_5, ok_6, ok_7, ok_9, ok_10, ok_20, ok_21, ok_24, ok_30, ok_48, ok_50, ok_60, ok_80, ok_120, ok_180, ok_192, ok_200, ok_900, ok_1000, ok_84000, ex, hx, e37x, c3, hz3, c4, c5, c5']
            try simp only [true_and, and_true, true_implies, false_implies, implies_true, not_true_eq_false, not_false_eq_true]
            first
              | exact hr
              | grind
          · rw [if_neg c5] at hP
            have c5' : 0 ≤ v := Int32.not_lt.mp c5
            by_cases c6 : 100 < v
            · rw [if_pos c6] at hP
              have c6' : ¬ v ≤ 100 := Int32.not_le.mpr c6
              have hr := hP _ (hrf 6).1 (hrf 6).2
              clear hP hrf hm hy hl hg hF e37
              simp only [q215_65, q215_66, q215_69, q215_71, q215_72, q215_73, q215_74, q215_75, q215_76, q215_79, q215_81, q215_82, q215_92, q215_93, q215_103, q215_104, q215_106, q215_109, q215_110, q215_112, q215_115, m_0 hS, m_K hS, mR_isMarked hS, mK_isMarked hS, mL_isMarked hS, sp_refuse_1 hS, sp_refuse_2 hS, sp_refuse_3 hS, sp_refuse_4 hS, sp_refuse_5 hS, sp_refuse_6 hS, as_nil, as_i, as_r, Nat.reduceAdd, Nat.reduceLeDiff, z_eq0, z_eq1, z_or, z_em, Classical.not_not, not_false_eq_true, not_true_eq_false, true_and, and_true, false_and, and_false, and_self, true_implies, false_implies, implies_true, Option.toList_some, Option.toList_none, List.cons_append, List.nil_append, Nat.add_eq_zero_iff, a_nl_i, a_nl_r, a_nl_n, true_or, or_true, eq_self, ok_4, ok_5, ok_6, ok_7, ok_9, ok_10, ok_20, ok_21, ok_24, ok_30, ok_48, ok_50, ok_60, ok_80, ok_120, ok_180, ok_192, ok_200, ok_900, ok_1000, ok_84000, ex, hx, e37x, c3, hz3, c4, c5, c5', c6, c6']
              try simp only [true_and, and_true, true_implies, false_implies, implies_true, not_true_eq_false, not_false_eq_true]
              first
                | exact hr
                | grind
            · rw [if_neg c6] at hP
              have c6' : v ≤ 100 := Int32.not_lt.mp c6
              have s1 := gs_up2 hg (k := 37) (j := (30 * r.toNatClampNeg + a.toNatClampNeg)) (v := 1) (by omega) (by omega) (sR_isMarked hg.1)
              have s2 := gs_up2 s1 (k := 36) (j := (30 * r.toNatClampNeg + a.toNatClampNeg)) (v := v) (by omega) (by omega) (sR_marks s1.1)
              have s3 := fun w => gs_up2 s2 (k := 38) (j := (30 * r.toNatClampNeg + a.toNatClampNeg)) (v := w) (by omega) (by omega) (sR_doesCount s2.1)
              have F3 := fun w => mF_le (c' := c + 120) (sF_doesCount (k := (30 * r.toNatClampNeg + a.toNatClampNeg)) (v := w) (sF_marks (k := (30 * r.toNatClampNeg + a.toNatClampNeg)) (v := v) (sF_isMarked (k := (30 * r.toNatClampNeg + a.toNatClampNeg)) (v := 1) hF))) (by omega)
              have e8' : ∀ k j w, ¬ k = M + 8 → a_ui I k j w (M + 8) a.toNatClampNeg = (Y 8 a.toNatClampNeg) := fun k j w hk => by rw [ui_ap, if_neg (fun q => hk q.1.symm)]; exact e8
              unfold mrW at hP
              by_cases cg : Y 35 (10 * r.toNatClampNeg + (Y 8 a.toNatClampNeg).toNatClampNeg) = 0
              · rw [if_pos cg] at hP
                have hp := hP _ (F3 1) (s3 1)
                clear hP hrf hm hy hl hg hF e37 s1 s2 s3 F3
                simp only [q215_65, q215_66, q215_69, q215_71, q215_72, q215_73, q215_74, q215_75, q215_76, q215_79, q215_81, q215_82, q215_92, q215_93, q215_103, q215_104, q215_106, q215_116, q215_117, q215_120, q215_122, q215_123, q215_124, q215_125, q215_126, q215_127, q215_128, q215_129, q215_132, q215_134, q215_135, q215_136, q215_137, q215_138, q215_139, q215_140, q215_141, q215_144, q215_146, q215_147, q215_148, q215_149, q215_150, q215_151, q215_154, q215_156, q215_157, q215_158, q215_159, q215_162, q215_163, q215_164, q215_165, q215_166, q215_169, q215_170, q215_173, q215_174, q215_175, q215_176, q215_179, q215_181, q215_182, q215_183, q215_184, q215_185, q215_186, q215_189, q215_190, q215_193, q215_194, m_0 hS, m_K hS, mR_isMarked hS, mK_isMarked hS, mL_isMarked hS, mR_marks hS, mK_marks hS, mL_marks hS, mR_doesCount hS, mK_doesCount hS, mL_doesCount hS, mR_isKin hS, mK_isKin hS, mL_isKin hS, mR_group hS, mK_group hS, mL_group hS, as_nil, as_i, as_r, Nat.reduceAdd, Nat.reduceLeDiff, z_eq0, z_eq1, z_or, z_em, Classical.not_not, not_false_eq_true, not_true_eq_false, true_and, and_true, false_and, and_false, and_self, true_implies, false_implies, implies_true, Option.toList_some, Option.toList_none, List.cons_append, List.nil_append, Nat.add_eq_zero_iff, a_nl_i, a_nl_r, a_nl_n, true_or, or_true, eq_self, ok_4, ok_5, ok_6, ok_7, ok_9, ok_10, ok_20, ok_21, ok_24, ok_30, ok_48, ok_50, ok_60, ok_80, ok_120, ok_180, ok_192, ok_200, ok_900, ok_1000, ok_84000, ui_ap, ne_MM, ne_M0, ne_0M, Nat.reduceEqDiff, reduceIte, if_true, if_false, ex, hx, e37x, c3, hz3, c4, c5, c5', c6, c6', e8, ha, ez, hz, e35, cg, a11, a00, n10]
                try simp only [true_and, and_true, true_implies, false_implies, implies_true, not_true_eq_false, not_false_eq_true]
                first
                  | exact hp
                  | grind
              · rw [if_neg cg] at hP
                have hp := hP _ (F3 0) (s3 0)
                clear hP hrf hm hy hl hg hF e37 s1 s2 s3 F3
                simp only [q215_65, q215_66, q215_69, q215_71, q215_72, q215_73, q215_74, q215_75, q215_76, q215_79, q215_81, q215_82, q215_92, q215_93, q215_103, q215_104, q215_106, q215_116, q215_117, q215_120, q215_122, q215_123, q215_124, q215_125, q215_126, q215_127, q215_128, q215_129, q215_132, q215_134, q215_135, q215_136, q215_137, q215_138, q215_139, q215_140, q215_141, q215_144, q215_146, q215_147, q215_148, q215_149, q215_150, q215_151, q215_154, q215_156, q215_157, q215_158, q215_159, q215_162, q215_163, q215_164, q215_165, q215_166, q215_169, q215_170, q215_173, q215_174, q215_175, q215_176, q215_179, q215_181, q215_182, q215_183, q215_184, q215_185, q215_186, q215_189, q215_190, q215_193, q215_194, m_0 hS, m_K hS, mR_isMarked hS, mK_isMarked hS, mL_isMarked hS, mR_marks hS, mK_marks hS, mL_marks hS, mR_doesCount hS, mK_doesCount hS, mL_doesCount hS, mR_isKin hS, mK_isKin hS, mL_isKin hS, mR_group hS, mK_group hS, mL_group hS, as_nil, as_i, as_r, Nat.reduceAdd, Nat.reduceLeDiff, z_eq0, z_eq1, z_or, z_em, Classical.not_not, not_false_eq_true, not_true_eq_false, true_and, and_true, false_and, and_false, and_self, true_implies, false_implies, implies_true, Option.toList_some, Option.toList_none, List.cons_append, List.nil_append, Nat.add_eq_zero_iff, a_nl_i, a_nl_r, a_nl_n, true_or, or_true, eq_self, ok_4, ok_5, ok_6, ok_7, ok_9, ok_10, ok_20, ok_21, ok_24, ok_30, ok_48, ok_50, ok_60, ok_80, ok_120, ok_180, ok_192, ok_200, ok_900, ok_1000, ok_84000, ui_ap, ne_MM, ne_M0, ne_0M, Nat.reduceEqDiff, reduceIte, if_true, if_false, ex, hx, e37x, c3, hz3, c4, c5, c5', c6, c6', e8, ha, ez, hz, e35, cg, a11, a00, n10]
                try simp only [true_and, and_true, true_implies, false_implies, implies_true, not_true_eq_false, not_false_eq_true]
                first
                  | exact hp
                  | grind
      · rw [if_pos (Or.inl c3)] at hP
        have hr := hP _ (hrf 3).1 (hrf 3).2
        clear hP hrf hm hy hl hg hF e37
        simp only [q215_65, q215_66, q215_69, q215_71, q215_72, q215_73, q215_74, q215_75, q215_76, q215_79, q215_81, q215_82, q215_85, q215_86, q215_88, q215_91, m_0 hS, m_K hS, mR_isMarked hS, mK_isMarked hS, mL_isMarked hS, sp_refuse_1 hS, sp_refuse_2 hS, sp_refuse_3 hS, sp_refuse_4 hS, sp_refuse_5 hS, sp_refuse_6 hS, as_nil, as_i, as_r, Nat.reduceAdd, Nat.reduceLeDiff, z_eq0, z_eq1, z_or, z_em, Classical.not_not, not_false_eq_true, not_true_eq_false, true_and, and_true, false_and, and_false, and_self, true_implies, false_implies, implies_true, Option.toList_some, Option.toList_none, List.cons_append, List.nil_append, Nat.add_eq_zero_iff, a_nl_i, a_nl_r, a_nl_n, true_or, or_true, eq_self, ok_4, ok_5, ok_6, ok_7, ok_9, ok_10, ok_20, ok_21, ok_24, ok_30, ok_48, ok_50, ok_60, ok_80, ok_120, ok_180, ok_192, ok_200, ok_900, ok_1000, ok_84000, ex, hx, e37x, c3]
        try simp only [true_and, and_true, true_implies, false_implies, implies_true, not_true_eq_false, not_false_eq_true]
        first
          | exact hr
          | grind) 0 (by decide) 0 (by decide) rfl
    clear hP hrf hm hy hl hg hF e37
    rw [a_enter1 (M := a_m215) rfl (a_cat_rf (a_cat_int (a_cat_int (a_cat_int a_cat_nil)))) (show 4 ≤ 6 by decide)]
    show a_at _ (a_xm a_m215) 0 [some (a_rf M), some (.int r), some (.int a), some (.int v), none, none] [] _ _
    simp only [q215_0, q215_1, q215_4, q215_7, q215_8, q215_9, q215_12, q215_15, q215_16, q215_17, q215_20, q215_21, q215_22, q215_24, q215_25, m_0 hS, m_K hS, sp_isReader, sp_isAsk hS, sp_refuse_1 hS, sp_refuse_2 hS, sp_refuse_3 hS, sp_refuse_4 hS, sp_refuse_5 hS, sp_refuse_6 hS, as_nil, as_i, as_r, Nat.reduceAdd, Nat.reduceLeDiff, z_eq0, z_eq1, z_or, z_em, Classical.not_not, not_false_eq_true, not_true_eq_false, true_and, and_true, false_and, and_false, and_self, true_implies, false_implies, implies_true, Option.toList_some, Option.toList_none, List.cons_append, List.nil_append, Nat.add_eq_zero_iff, a_nl_i, a_nl_r, a_nl_n, true_or, or_true, eq_self, ok_4, ok_5, ok_6, ok_7, ok_9, ok_10, ok_20, ok_21, ok_24, ok_30, ok_48, ok_50, ok_60, ok_80, ok_120, ok_180, ok_192, ok_200, ok_900, ok_1000, ok_84000, e17, m17, c1, cr, r5]
    try simp only [true_and, and_true, true_implies, false_implies, implies_true, not_true_eq_false, not_false_eq_true]
    first
      | exact hl2
      | grind
  · rw [if_pos c0] at hP
    have hr := hP _ (hrf 1).1 (hrf 1).2
    have r5 : (0 ≤ r ∧ r ≤ 5) = (0 ≤ r ∧ r < 6) := propext (by clear hP hrf hm hy hl hg hF; grind)
    clear hP hrf hm hy hl hg hF
    rw [a_enter1 (M := a_m215) rfl (a_cat_rf (a_cat_int (a_cat_int (a_cat_int a_cat_nil)))) (show 4 ≤ 6 by decide)]
    show a_at _ (a_xm a_m215) 0 [some (a_rf M), some (.int r), some (.int a), some (.int v), none, none] [] _ _
    simp only [q215_0, q215_1, q215_4, q215_7, q215_8, q215_9, q215_12, q215_15, q215_16, q215_17, q215_20, m_0 hS, m_K hS, sp_isReader, sp_isAsk hS, sp_refuse_1 hS, sp_refuse_2 hS, sp_refuse_3 hS, sp_refuse_4 hS, sp_refuse_5 hS, sp_refuse_6 hS, as_nil, as_i, as_r, Nat.reduceAdd, Nat.reduceLeDiff, z_eq0, z_eq1, z_or, z_em, Classical.not_not, not_false_eq_true, not_true_eq_false, true_and, and_true, false_and, and_false, and_self, true_implies, false_implies, implies_true, Option.toList_some, Option.toList_none, List.cons_append, List.nil_append, Nat.add_eq_zero_iff, a_nl_i, a_nl_r, a_nl_n, true_or, or_true, eq_self, ok_4, ok_5, ok_6, ok_7, ok_9, ok_10, ok_20, ok_21, ok_24, ok_30, ok_48, ok_50, ok_60, ok_80, ok_120, ok_180, ok_192, ok_200, ok_900, ok_1000, ok_84000, e17, m17, r5]
    try simp only [true_and, and_true, true_implies, false_implies, implies_true, not_true_eq_false, not_false_eq_true]
    by_cases q1 : 0 ≤ r ∧ r < 6
    · have q2 : ¬ (0 ≤ a ∧ a < Y 0 17) := fun q => c0 ⟨q1, q⟩
      simp only [q1, q2]
      try simp only [true_and, and_true, true_implies, false_implies, implies_true, not_true_eq_false, not_false_eq_true]
      first
        | exact hr
        | grind
    · simp only [q1]
      try simp only [true_and, and_true, true_implies, false_implies, implies_true, not_true_eq_false, not_false_eq_true]
      first
        | exact hr
        | grind
end ZF1
end
section
/-! what is made -/
section ZG0
variable {d n t C c : Nat} {K L : Nat → Nat} {I I0 J J0 J1 J2 : Nat → Nat → Int32} {R : Nat → Nat → Nat} {P : Option Value → AH → Prop}
variable {Y Z W : Nat → Nat → Int32} {R' R1 : Nat → Nat → Nat} {K' L' : Nat → Nat}
theorem cu_grow {m : Nat} (hH : cH C c m t K L I R) (hu : cuP C K L I R Y) (hK : ∀ x, x < m → K' x = K x) (hL : ∀ x, x < m → L' x = L x) (hJ : ∀ x j, x < m → J x j = I x j) (hR : ∀ x j, x < m → R' x j = R x j) : cuP C K' L' J R' Y := by
  have hT := hH.1
  have hC := hH.2.2.1
  have lt : ∀ {x k : Nat}, K x = k → ¬ k = 0 → x < m := fun hk h0 => kn_lt hH.2.1 hk h0
  have hc := hu.1
  have bb : ∀ b : Int32, 0 ≤ b → b < Y 0 6 → (R (C + 16) b.toNatClampNeg) < m := fun b b0 b1 => lt (hc.2.1.2.2.1 b b0 b1).1 (by decide)
  have tt : ∀ k : Int32, 0 ≤ k → k < Y 0 41 → (R (C + 8) k.toNatClampNeg) < m := fun k k0 k1 => lt (hc.2.2.2.1.2 k k0 k1).1 (by decide)
  have R16 : ∀ j, R' (C + 16) j = R (C + 16) j := fun j => hR _ _ (by omega)
  have R15 : ∀ j, R' (C + 15) j = R (C + 15) j := fun j => hR _ _ (by omega)
  have R8 : ∀ j, R' (C + 8) j = R (C + 8) j := fun j => hR _ _ (by omega)
  have R11 : R' C 11 = R C 11 := hR _ _ (by omega)
  have hcp : cpP C K' L' J R' Y := cp_mk hT hc (fun _ _ _ => rfl) hc.2.2.2.2.2.2.2.2.2.2.1 (fun x hx => ⟨hK x (lt rfl hx), hL x (lt rfl hx)⟩) (fun x j hx _ _ _ _ => hR x j (lt rfl hx)) (fun k j hk => hJ _ _ (by omega)) (fun x j kx _ _ => hJ _ _ (lt kx (by decide))) (fun x j kx _ => hJ _ _ (lt kx (by decide))) (fun x j kx => hJ _ _ (lt kx (by decide))) (fun k k0 k1 j => hJ _ _ (lt (hT.g_txt _ (hc.2.2.2.1.2 k k0 k1).1).2.2.1 (by decide))) (fun o o0 o1 => by
    have ao := hc.2.2.1.2.1 o o0 o1
    rw [hJ _ _ (lt ao.1 (by decide)), hJ _ _ (lt ao.1 (by decide))]
    exact (hc.2.2.1.2.2.2 o o0 o1).2.2.2.1) (plP_eq hc.2.1.2.2.2 (fun b b0 b1 => funext (fun j => hJ _ _ (lt (hT.g_bnc _ (hc.2.1.2.2.1 b b0 b1).1).2.1.2.1 (by decide)))) (fun b b0 b1 => funext (fun j => hJ _ _ (lt (hT.g_bnc _ (hc.2.1.2.2.1 b b0 b1).1).2.2.1.2.1 (by decide)))))
  obtain ⟨s1, s2, s3, s4⟩ := hu.2.1
  refine ⟨hcp, ⟨fun b b0 b1 => ?_, fun b c b0 b1 c0 c1 e => ?_, fun k b k0 k1 b0 b1 => ?_, fun b c b0 b1 c0 c1 => ?_⟩, ⟨siM_e hu.2.2.1.1 (fun k j hk => hJ _ _ (by omega)) (fun _ _ _ => rfl), siT_e hu.2.2.1.2.1 (fun k j hk => hJ _ _ (by omega)) (fun _ _ _ => rfl), ?_, hu.2.2.1.2.2.2⟩, hu.2.2.2.1, stP_f hc hu.2.2.2.2 (fun x hx => hJ _ _ (lt hx (by decide))) R8⟩
  · rw [R16, hR _ _ (bb b b0 b1), hR _ _ (bb b b0 b1), hR _ _ (bb b b0 b1)]
    exact s1 b b0 b1
  · rw [R16, R16] at e
    exact s2 b c b0 b1 c0 c1 e
  · rw [R8, R16, hR _ _ (tt k k0 k1), hR _ _ (bb b b0 b1)]
    exact s3 k b k0 k1 b0 b1
  · rw [R16, R16, hR _ _ (bb b b0 b1)]
    exact s4 b c b0 b1 c0 c1
  · obtain ⟨d1, d2⟩ := hu.2.2.1.2.2.1
    unfold siD
    rw [R11]
    refine ⟨d1, fun hd => ?_⟩
    obtain ⟨e1, e2, e3, e4⟩ := d2 hd
    have hl := lt e1 (by decide)
    rw [hK _ hl]
    refine ⟨e1, ?_, ?_, fun i i0 i1 => by rw [R15]; exact e4 i i0 i1⟩
    · rw [hJ _ _ hl, hJ _ _ hl, hJ _ _ hl, hJ _ _ hl]
      exact e2
    · rw [hJ _ _ hl, hJ _ _ hl, hJ _ _ hl, hJ _ _ hl, hJ _ _ hl]
      exact e3
/-- another draft -/
theorem cu_dr (hT : cT C K L I R) (hu : cuP C K L I R Y) {v : Nat} (hz : ∀ k j, ¬ (k = 0 ∧ 12 ≤ j ∧ j ≤ 16) → Z k j = Y k j) (hd : siD C K I (a_ur R C 11 v) Z) : cuP C K L I (a_ur R C 11 v) Z := by
  have hc0 := hT.s.1
  have e16 : a_ur R C 11 v (C + 16) = R (C + 16) := funext (fun j => by rw [ur_ap, if_neg (by omega)])
  have e15 : a_ur R C 11 v (C + 15) = R (C + 15) := funext (fun j => by rw [ur_ap, if_neg (by omega)])
  have e8 : a_ur R C 11 v (C + 8) = R (C + 8) := funext (fun j => by rw [ur_ap, if_neg (by omega)])
  have h2 : ∀ x j, ¬ j = 11 → a_ur R C 11 v x j = R x j := fun x j hj => by rw [ur_ap, if_neg (fun q => hj q.2)]
  have zr : ∀ k, ¬ k = 0 → Z k = Y k := fun k hk => funext (fun j => hz k j (by omega))
  have z0 : ∀ j, ¬ (12 ≤ j ∧ j ≤ 16) → Z 0 j = Y 0 j := fun j hj => hz 0 j (by omega)
  have wh : whC C I (a_ur R C 11 v) = whC C I R := funext (fun b => by unfold whC; rw [e16, h2 _ _ (by decide)])
  have sn : snC C I (a_ur R C 11 v) = snC C I R := funext (fun b => by unfold snC; rw [e16, h2 _ _ (by decide)])
  have wt : ∀ x, wtY Z x = wtY Y x := fun x => by
    unfold wtY
    rw [zr 28 (by omega)]
  have wv : ∀ x, wvY Z x = wvY Y x := fun x => by
    funext fc
    unfold wvY
    rw [wt, zr 29 (by omega)]
  obtain ⟨ec, eh⟩ := cmk_e (Y := Y) (Z := Z) (fun k j hk => hz k j (by unfold kK at hk; omega))
  obtain ⟨⟨⟨p1, p2, p3⟩, ⟨q1, q2, q3, q4⟩, ⟨r1, r2, r3, r4⟩, ⟨x1, x2⟩, hy⟩, hse, ⟨sM, sT, -, sY⟩, hno, hst⟩ := hu
  refine ⟨⟨⟨by rw [z0 0 (by omega)]; exact p1, fun j => by rw [zr 1 (by omega)]; exact p2 j, lsP_e p3 (fun _ => rfl) (fun k j hk => hz k j (by unfold kL at hk; omega))⟩, ⟨by rw [z0 6 (by omega)]; exact q1, by rw [z0 9 (by omega)]; exact q2, fun b b0 b1 => ?_, ?_⟩, ⟨by rw [z0 17 (by omega)]; exact r1, fun o o0 o1 => ?_, fun o o0 o1 => ?_, fun o o0 o1 => ?_⟩, ⟨by rw [z0 41 (by omega)]; exact x1, fun k k0 k1 => ?_⟩, ?_⟩, ?_, ⟨siM_e sM (fun _ _ _ => rfl) (fun k j hk => hz k j (by unfold kM at hk; omega)), siT_e sT (fun _ _ _ => rfl) (fun k j hk => hz k j (by unfold kT at hk; omega)), hd, siY_e sY (fun k j hk => hz k j (by unfold kY at hk; omega))⟩, ?_, ?_⟩
  · rw [z0 6 (by omega)] at b1
    rw [e16, zr 5 (by omega), zr 6 (by omega)]
    exact q3 b b0 b1
  · rw [wh, sn]
    unfold plP at q4 ⊢
    rw [z0 17 (by omega), z0 6 (by omega), zr 20 (by omega), zr 21 (by omega), zr 10 (by omega), zr 22 (by omega)]
    exact q4
  · rw [z0 17 (by omega)] at o1
    rw [e15]
    exact r2 o o0 o1
  · rw [z0 17 (by omega)] at o1
    rw [e15, ec, eh]
    exact r3 o o0 o1
  · rw [z0 17 (by omega)] at o1
    have hl := r4 o o0 o1
    have er : ∀ k, 7 ≤ k ∧ k ≤ 21 → Z k = Y k := fun k hk => zr k (by omega)
    rw [e15]
    unfold alP at hl ⊢
    rw [er 7 (by omega), er 8 (by omega), er 9 (by omega), er 10 (by omega), er 11 (by omega), er 12 (by omega), er 13 (by omega), er 14 (by omega), er 15 (by omega), er 16 (by omega), er 17 (by omega), er 18 (by omega), er 19 (by omega), er 20 (by omega), er 21 (by omega)]
    exact hl
  · rw [z0 41 (by omega)] at k1
    rw [e8, h2 _ 2 (by decide), wt, wv, zr 30 (by omega), zr 31 (by omega)]
    exact x2 k k0 k1
  · obtain ⟨h1, h2, h3, h4, h5, h6, h7, h8, h9, h10⟩ := hy
    refine ⟨by rw [z0 41 (by omega)]; exact h1, by rw [zr 10 (by omega)]; exact h2, by rw [z0 17 (by omega), zr 10 (by omega)]; exact h3, by rw [z0 9 (by omega)]; exact h4, by rw [z0 17 (by omega)]; exact h5, by rw [z0 6 (by omega)]; exact h6, ?_, ?_, ?_, by rw [z0 17 (by omega), zr 7 (by omega), zr 16 (by omega)]; exact h10⟩
    · unfold inP at h7 ⊢
      rw [zr 20 (by omega), zr 21 (by omega), zr 10 (by omega)]
      exact h7
    · unfold mkP at h8 ⊢
      rw [zr 38 (by omega), zr 36 (by omega)]
      exact h8
    · unfold hbP at h9 ⊢
      rw [zr 6 (by omega)]
      exact h9
  · unfold seP at hse ⊢
    simp only [e16, e8, z0 6 (by decide), z0 41 (by decide), h2 _ 2 (by decide), h2 _ 3 (by decide), h2 _ 4 (by decide), h2 _ 5 (by decide)]
    exact hse
  · unfold noP at hno ⊢
    rw [zr 20 (by omega), zr 21 (by omega)]
    exact hno
  · unfold stP at hst ⊢
    rw [e8, zr 31 (by omega), z0 41 (by omega)]
    exact hst
end ZG0
section ZG1
variable {d n t C c n0 n' n'' t' : Nat} {K L K0 L0 K' L' K'' L'' : Nat → Nat} {I I0 J J0 J1 J2 : Nat → Nat → Int32} {R R0 R' R'' : Nat → Nat → Nat} {P : Option Value → AH → Prop}
variable {Y Z : Nat → Nat → Int32}
theorem ce_Ainit (hH : cH C c (n + 1) t K L I R) {g l m w : Int32} (hm : 1 ≤ m ∧ m ≤ 4) (hP : ∀ J, cH C (c + 1) (n + 1 + 1) (t + 17) (a_up K (n + 1) 1) (a_up L (n + 1) 17) J (a_zr R (n + 1)) → (∀ x j, x < n + 1 → J x j = I x j) → (J (n + 1) 0 = g ∧ J (n + 1) 1 = l ∧ J (n + 1) 2 = m ∧ J (n + 1) 3 = w) → (J (n + 1) 12 = -9 ∧ J (n + 1) 13 = -9 ∧ J (n + 1) 14 = -9 ∧ J (n + 1) 15 = 0 ∧ J (n + 1) 16 = 0) → P none (n + 1 + 1, t + 17, a_up K (n + 1) 1, a_up L (n + 1) 17, J, a_zr R (n + 1))) : a_does (d + 1) 37 [a_rf (n + 1), .int g, .int l, .int m, .int w] (n + 1 + 1, t + 17, a_up K (n + 1) 1, a_up L (n + 1) 17, a_zi I (n + 1), a_zr R (n + 1)) P := by
  have hZ := cZ_refl hH
  have fr := hZ.2.1.2.1
  have hC := hZ.2.1.2.2.1
  have f0 : (n + 1 = 0) = False := eq_false (by omega)
  rw [a_enter1 (M := a_m37) rfl (a_cat_rf (a_cat_int (a_cat_int (a_cat_int (a_cat_int a_cat_nil))))) (show 5 ≤ 5 by decide)]
  show a_at _ (a_xm a_m37) 0 [some (a_rf (n+1)), some (.int g), some (.int l), some (.int m), some (.int w)] [] _ _
  simp only [q37_0, as_nil, as_i, as_r, Nat.reduceAdd, Nat.reduceLeDiff, z_eq0, z_eq1, z_or, z_em, Classical.not_not, not_false_eq_true, not_true_eq_false, true_and, and_true, false_and, and_false, and_self, true_implies, false_implies, implies_true, Option.toList_some, Option.toList_none, List.cons_append, List.nil_append, Nat.add_eq_zero_iff, a_nl_i, a_nl_r, a_nl_n, true_or, or_true, eq_self, a_isRA_22, a_isRA_24, a_isRA_32, a_isA_20, ok_4, ok_5, ok_6, ok_7, ok_9, ok_20, ok_21, ok_30, ok_50, ok_180, ok_192, ok_200]
  rw [q37_1 (show ¬ n + 1 = 0 by omega) (show a_sum [] ≤ 8 by decide)]
  simp only [q37_4, q37_5, q37_6, q37_9, q37_10, q37_11, q37_14, q37_15, q37_16, q37_19, q37_20, q37_22, q37_25, q37_26, q37_28, q37_31, q37_32, q37_34, q37_37, q37_38, q37_40, q37_43, as_nil, as_i, as_r, Nat.reduceAdd, Nat.reduceLeDiff, z_eq0, z_eq1, z_or, z_em, Classical.not_not, not_false_eq_true, not_true_eq_false, true_and, and_true, false_and, and_false, and_self, true_implies, false_implies, implies_true, Option.toList_some, Option.toList_none, List.cons_append, List.nil_append, Nat.add_eq_zero_iff, a_nl_i, a_nl_r, a_nl_n, true_or, or_true, eq_self, a_isRA_22, a_isRA_24, a_isRA_32, a_isA_20, ok_4, ok_5, ok_6, ok_7, ok_9, ok_20, ok_21, ok_30, ok_50, ok_180, ok_192, ok_200, up_ap, up_eq, Nat.add_left_cancel_iff, Nat.add_right_cancel_iff, Nat.reduceEqDiff, if_true, if_false, f0]
  generalize hi : a_ui (a_ui (a_ui (a_ui (a_ui (a_ui (a_ui (a_zi I (n + 1)) (n + 1) 0 g) (n + 1) 1 l) (n + 1) 2 m) (n + 1) 3 w) (n + 1) 12 (-9)) (n + 1) 13 (-9)) (n + 1) 14 (-9) = I5
  have i0 : I5 (n + 1) 0 = g ∧ I5 (n + 1) 1 = l ∧ I5 (n + 1) 2 = m ∧ I5 (n + 1) 3 = w := by rw [← hi]; simp [ui_ap]
  have i4 : I5 (n + 1) 4 = 0 := by rw [← hi]; simp [ui_ap, zi_ap]
  have i13 : I5 (n + 1) 12 = -9 ∧ I5 (n + 1) 13 = -9 ∧ I5 (n + 1) 14 = -9 ∧ I5 (n + 1) 15 = 0 ∧ I5 (n + 1) 16 = 0 := by rw [← hi]; simp [ui_ap, zi_ap]
  have ix : ∀ x j, x < n + 1 → I5 x j = I x j := fun x j hx => by
    have e : ¬ x = n + 1 := by omega
    rw [← hi]
    simp [ui_ap, zi_ap, e]
  clear hi
  have hz := cZ_new (m := 1) (s := 17) (K' := a_up K (n + 1) 1) (L' := a_up L (n + 1) 17) (J := I5) (R' := a_zr R (n + 1)) hZ (by decide) (by decide) (fun x hx => up_ne (by omega)) (fun x hx => up_ne (by omega)) ix (fun x j hx => zr_ne (by omega)) (fun x hx => by rw [up_ne (by omega)]; exact fr x (by omega)) (fun a h1 h2 => by
    by_cases e : a = n + 1
    · subst e
      rw [i0.2.2.1, i4, i13.2.1]
      exact ⟨by omega, hm, by decide, fun h => absurd h (by decide)⟩
    · rw [up_ne e, fr a (by omega)] at h2; cases h2) (fun b h1 h2 => by
    by_cases e : b = n + 1
    · subst e
      rw [up_eq] at h2; cases h2
    · rw [up_ne e, fr b (by omega)] at h2; cases h2) (fun x h1 h2 => by
    by_cases e : x = n + 1
    · subst e
      rw [up_eq] at h2; cases h2
    · rw [up_ne e, fr x (by omega)] at h2; cases h2)
  exact hP I5 hz.2.1 ix i0 i13
/-- the words behind a draft -/
def drW (Y : Nat → Nat → Int32) (g l m w : Int32) : Nat → Nat → Int32 := upY (upY (upY (upY (upY Y 0 12 1) 0 13 g) 0 14 l) 0 15 m) 0 16 w
def drY (Y : Nat → Nat → Int32) (g l m w : Int32) : Nat → Nat → Int32 := if dv g l m w = 1 then drW Y g l m w else Y
theorem dr_no {g l m w : Int32} {k j : Nat} (h : ¬ (k = 0 ∧ 12 ≤ j ∧ j ≤ 16)) : drW Y g l m w k j = Y k j := by
  unfold drW
  rw [up_no (by omega), up_no (by omega), up_no (by omega), up_no (by omega), up_no (by omega)]
theorem dr_at {g l m w : Int32} : drW Y g l m w 0 12 = 1 ∧ drW Y g l m w 0 13 = g ∧ drW Y g l m w 0 14 = l ∧ drW Y g l m w 0 15 = m ∧ drW Y g l m w 0 16 = w := by
  unfold drW
  refine ⟨?_, ?_, ?_, ?_, up_at⟩
  · rw [up_no (by omega), up_no (by omega), up_no (by omega), up_no (by omega), up_at]
  · rw [up_no (by omega), up_no (by omega), up_no (by omega), up_at]
  · rw [up_no (by omega), up_no (by omega), up_at]
  · rw [up_no (by omega), up_at]
theorem ge_draft (hH : cH C c (n + 1) t K L I R) (hu : cuP C K L I R Y) {g l m w : Int32} (hP : ∀ v n' t' K' L' J R', cH C (c + 4) (n' + 1) t' K' L' J R' → cuP C K' L' J R' (drY Y g l m w) → P (some (.int v)) (n' + 1, t', K', L', J, R')) : a_does (d + 70) 36 [a_rf C, .int g, .int l, .int m, .int w] (n + 1, t, K, L, I, R) P := by
  have hT := hH.1
  have hS := hT.s
  have hq : ∀ v J, v = dv g l m w → ¬ v = 1 → rfQ C c (n + 1) t K L I R J → P (some (.int v)) (n + 1, t, K, L, J, R) := fun v J e e1 z => hP v n t K L J R (cH_le z.1 (by omega)) (by
    unfold drY
    rw [← e, if_neg e1]
    exact cu_re hH hu z)
  have f0 : (n + 1 = 0) = False := eq_false (by omega)
  have hC := hH.2.2.1
  have nC : (C = n + 1) = False := eq_false (by omega)
  have hgo : ¬ g < 0 → ¬ 10 ≤ g → ¬ l < 0 → l < 5 → ¬ m < 1 → 0 ≤ w → ¬ 4 < m → w ≤ 7 → a_at (d + 69) (a_xm a_m36) 61 [some (a_rf C), some (.int g), some (.int l), some (.int m), some (.int w)] [] (n + 1, t, K, L, I, R) P := fun a1 a2 a3 a4 a5 a6 a7 a8 => by
    have hm : 1 ≤ m ∧ m ≤ 4 := ⟨Int32.not_lt.mp a5, Int32.not_lt.mp a7⟩
    have hv : dv g l m w = 1 := by clear hq hP hu hH hT hS; unfold dv; grind
    unfold drY at hP
    rw [if_pos hv] at hP
    simp only [q36_61, q36_62, q36_65, q36_66, q36_67, q36_68, q36_69, q36_71, as_nil, as_i, as_r, Nat.reduceAdd, Nat.reduceLeDiff, z_eq0, z_eq1, z_or, z_em, Classical.not_not, not_false_eq_true, not_true_eq_false, true_and, and_true, false_and, and_false, and_self, true_implies, false_implies, implies_true, Option.toList_some, Option.toList_none, List.cons_append, List.nil_append, Nat.add_eq_zero_iff, a_nl_i, a_nl_r, a_nl_n, true_or, or_true, eq_self, a_isRA_22, a_isRA_24, a_isRA_32, a_isA_20, ok_4, ok_5, ok_6, ok_7, ok_9, ok_20, ok_21, ok_30, ok_50, ok_180, ok_192, ok_200, f0]
    refine ce_Ainit hH hm (fun J z f1 f2 f3 => ?_)
    have hS := z.1.s
    have k1 : a_up K (n + 1) 1 (n + 1) = 1 := up_eq
    have hu2 := cu_grow (K' := a_up K (n + 1) 1) (L' := a_up L (n + 1) 17) (R' := a_zr R (n + 1)) hH hu (fun x hx => up_ne (by omega)) (fun x hx => up_ne (by omega)) f1 (fun x j hx => zr_ne (by omega))
    obtain ⟨b1, b2, b3, b4, b5⟩ := dr_at (Y := Y) (g := g) (l := l) (m := m) (w := w)
    have rn : a_ur (a_zr R (n + 1)) C 11 (n + 1) C 11 = n + 1 := by rw [ur_ap, if_pos ⟨rfl, rfl⟩]
    have hp := hP 1 (n + 1) (t + 17) _ _ J (a_ur (a_zr R (n + 1)) C 11 (n + 1)) (cH_le (cZ_Rd (cZ_refl z) (Or.inr k1)).2.1 (by omega)) (cu_dr z.1 hu2 (fun k j hk => dr_no hk) (by
      unfold siD
      rw [rn, b1, b2, b3, b4, b5, k1, dr_no (by omega)]
      refine ⟨⟨fun q => absurd q (by omega), fun q => absurd q (by decide)⟩, fun _ => ⟨rfl, f2, f3, fun i i0 i1 => ?_⟩⟩
      rw [ur_ap, if_neg (by omega), zr_ne (by omega)]
      have := kn_lt hH.2.1 (hu.1.2.2.1.2.1 i i0 i1).1 (by decide)
      omega))
    clear hP hq hu hu2
    simp only [q36_74, q36_77, q36_78, k_0 hS, z_C hS, as_nil, as_i, as_r, Nat.reduceAdd, Nat.reduceLeDiff, z_eq0, z_eq1, z_or, z_em, Classical.not_not, not_false_eq_true, not_true_eq_false, true_and, and_true, false_and, and_false, and_self, true_implies, false_implies, implies_true, Option.toList_some, Option.toList_none, List.cons_append, List.nil_append, Nat.add_eq_zero_iff, a_nl_i, a_nl_r, a_nl_n, true_or, or_true, eq_self, a_isRA_22, a_isRA_24, a_isRA_32, a_isA_20, ok_4, ok_5, ok_6, ok_7, ok_9, ok_20, ok_21, ok_30, ok_50, ok_180, ok_192, ok_200, ui_ap, cc_ne, cc_n0, cc_0n, Nat.reduceEqDiff, reduceIte, if_true, if_false]
    try simp only [true_and, and_true, true_implies, false_implies, implies_true, not_true_eq_false, not_false_eq_true]
    first
      | exact hp
      | grind
  clear hP
  rw [a_enter1 (M := a_m36) rfl (a_cat_rf (a_cat_int (a_cat_int (a_cat_int (a_cat_int a_cat_nil))))) (show 5 ≤ 5 by decide)]
  show a_at _ (a_xm a_m36) 0 [some (a_rf C), some (.int g), some (.int l), some (.int m), some (.int w)] [] _ _
  repeat' first
    | with_reducible apply And.intro
    | with_reducible assumption
    | with_reducible intro _
    | refine cr_refuse hH (fun _ _ => ?_)
    | refine hq _ _ ?_ (by decide) (by assumption)
    | exact hgo (by assumption) (by assumption) (by assumption) (by assumption) (by assumption) (by assumption) (by assumption) (by assumption)
    | simp only [q36_0, q36_1, q36_4, q36_5, q36_7, q36_10, q36_11, q36_14, q36_15, q36_16, q36_19, q36_20, q36_21, q36_24, q36_25, q36_26, q36_27, q36_30, q36_32, q36_35, q36_36, q36_38, q36_41, q36_42, q36_43, q36_44, q36_47, q36_49, q36_51, q36_54, q36_55, q36_57, q36_60, k_0 hS, z_C hS, as_nil, as_i, as_r, Nat.reduceAdd, Nat.reduceLeDiff, z_eq0, z_eq1, z_or, z_em, Classical.not_not, not_false_eq_true, not_true_eq_false, true_and, and_true, false_and, and_false, and_self, true_implies, false_implies, implies_true, Option.toList_some, Option.toList_none, List.cons_append, List.nil_append, Nat.add_eq_zero_iff, a_nl_i, a_nl_r, a_nl_n, true_or, or_true, eq_self, a_isRA_22, a_isRA_24, a_isRA_32, a_isA_20, ok_4, ok_5, ok_6, ok_7, ok_9, ok_20, ok_21, ok_30, ok_50, ok_180, ok_192, ok_200]
  all_goals ((try clear hgo); (try clear hq); (try clear hP); (try clear hu); (try clear hH); (try clear hT); (try clear hS); grind [ui_ap, dv])
end ZG1
section ZG2
variable {d n t M : Nat} {K L : Nat → Nat} {I I0 J J0 J1 J2 : Nat → Nat → Int32} {R : Nat → Nat → Nat} {P : Option Value → AH → Prop} {f : Nat → Int32} {e : Int32}
variable {Y Z W : Nat → Nat → Int32}
theorem xp_draft (hS : m_S M K L R) {I1 : Nat → Nat → Int32} (hm : okY Y) {c : Nat} (hc : c + 130 ≤ 84000) (hF : mF M c I1 I) (hg : gs M I0 I Y) {g l m w : Int32} (hP : ∀ v J, J M 35 = I M 35 → gs M I0 J (drY Y g l m w) → P (some (.int v)) (n, t, K, L, J, R)) : a_does (d + 13) 180 [a_rf M, .int g, .int l, .int m, .int w] (n, t, K, L, I, R) P := by
  have hy := hm.1
  have h17 := hy.2.2.2.2.1
  have h10 := hy.2.1
  have h6 := hy.2.2.2.2.2.1
  have hl := hy.2.2.1
  have hrf : ∀ k : Nat, mF M (c + 120) I1 (a_ui I (M + 23) k (I (M + 23) k + 1)) ∧ gs M I0 (a_ui I (M + 23) k (I (M + 23) k + 1)) Y := fun k => ⟨mF_le (sF_refused hF) (by omega), gs_ui hg (sR_refused hg.1) (by omega) ⟨by unfold ps1; omega, by omega⟩⟩
  have e17 : I M 17 = Y 0 17 := hg.2.2.1 0 17 (by unfold ps1; omega)
  have e6 : I M 6 = Y 0 6 := hg.2.2.1 0 6 (by unfold ps1; omega)
  have e0 : I M 0 = Y 0 0 := hg.2.2.1 0 0 (by unfold ps1; omega)
  have m17 : ∀ x : Int32, (x ≤ Y 0 17 - 1) = (x < Y 0 17) := fun x => le_m1 h17
  have m6 : ∀ x : Int32, (x ≤ Y 0 6 - 1) = (x < Y 0 6) := fun x => le_m1 ⟨h6.1, Int32.le_trans h6.2 (by decide)⟩
  have m199 : ∀ x : Int32, (x ≤ 199) = (x < 200) := fun x => propext ⟨fun q => Int32.lt_of_le_of_lt q (by decide), fun q => by clear hP hrf hm hg hF; grind⟩
  have hq : ∀ k : Nat, ∀ v, ¬ dv g l m w = 1 → P (some (.int v)) (n, t, K, L, (a_ui I (M + 23) k (I (M + 23) k + 1)), R) := fun k v e => by
    unfold drY at hP
    rw [if_neg e] at hP
    exact hP v _ (by rw [ui_ap, if_neg (by omega)]) (hrf k).2
  have hn : ∀ x : Int32, (x ≤ 9) = (x < 10) := fun x => propext (by clear hP hrf hm hy hl hg hF hq; grind)
  by_cases c1 : (0 ≤ g ∧ g ≤ 9) ∧ (0 ≤ l ∧ l ≤ 4)
  · by_cases c2 : m < 1 ∨ w < 0
    · have hr := hq 4 (-4) (by unfold dv; rw [if_neg (fun q => q c1), if_pos c2]; decide)
      clear hP hrf hm hy hl hg hF hq hn
      rw [a_enter1 (M := a_m180) rfl (a_cat_rf (a_cat_int (a_cat_int (a_cat_int (a_cat_int a_cat_nil))))) (show 5 ≤ 5 by decide)]
      show a_at _ (a_xm a_m180) 0 [some (a_rf M), some (.int g), some (.int l), some (.int m), some (.int w)] [] _ _
      simp only [q180_0, q180_1, q180_2, q180_4, q180_7, q180_10, q180_11, q180_12, q180_13, q180_16, q180_19, q180_20, q180_21, q180_24, q180_25, q180_26, q180_27, q180_30, q180_32, q180_35, q180_36, q180_38, q180_41, m_0 hS, m_K hS, sp_in, sp_refuse_1 hS, sp_refuse_2 hS, sp_refuse_3 hS, sp_refuse_4 hS, sp_refuse_5 hS, sp_refuse_6 hS, as_nil, as_i, as_r, Nat.reduceAdd, Nat.reduceLeDiff, z_eq0, z_eq1, z_or, z_em, Classical.not_not, not_false_eq_true, not_true_eq_false, true_and, and_true, false_and, and_false, and_self, true_implies, false_implies, implies_true, Option.toList_some, Option.toList_none, List.cons_append, List.nil_append, Nat.add_eq_zero_iff, a_nl_i, a_nl_r, a_nl_n, true_or, or_true, eq_self, ok_4, ok_5, ok_6, ok_7, ok_9, ok_10, ok_20, ok_21, ok_24, ok_30, ok_48, ok_50, ok_60, ok_80, ok_120, ok_180, ok_192, ok_200, ok_900, ok_1000, ok_84000, c1]
      try simp only [true_and, and_true, true_implies, false_implies, implies_true, not_true_eq_false, not_false_eq_true]
      grind
    · by_cases c3 : 4 < m ∨ 7 < w
      · have hr := hq 6 (-6) (by unfold dv; rw [if_neg (fun q => q c1), if_neg c2, if_pos c3]; decide)
        clear hP hrf hm hy hl hg hF hq hn
        rw [a_enter1 (M := a_m180) rfl (a_cat_rf (a_cat_int (a_cat_int (a_cat_int (a_cat_int a_cat_nil))))) (show 5 ≤ 5 by decide)]
        show a_at _ (a_xm a_m180) 0 [some (a_rf M), some (.int g), some (.int l), some (.int m), some (.int w)] [] _ _
        simp only [q180_0, q180_1, q180_2, q180_4, q180_7, q180_10, q180_11, q180_12, q180_13, q180_16, q180_19, q180_20, q180_21, q180_24, q180_25, q180_26, q180_27, q180_30, q180_32, q180_35, q180_36, q180_38, q180_41, q180_42, q180_43, q180_44, q180_47, q180_49, q180_51, q180_54, q180_55, q180_57, q180_60, m_0 hS, m_K hS, sp_in, sp_refuse_1 hS, sp_refuse_2 hS, sp_refuse_3 hS, sp_refuse_4 hS, sp_refuse_5 hS, sp_refuse_6 hS, as_nil, as_i, as_r, Nat.reduceAdd, Nat.reduceLeDiff, z_eq0, z_eq1, z_or, z_em, Classical.not_not, not_false_eq_true, not_true_eq_false, true_and, and_true, false_and, and_false, and_self, true_implies, false_implies, implies_true, Option.toList_some, Option.toList_none, List.cons_append, List.nil_append, Nat.add_eq_zero_iff, a_nl_i, a_nl_r, a_nl_n, true_or, or_true, eq_self, ok_4, ok_5, ok_6, ok_7, ok_9, ok_10, ok_20, ok_21, ok_24, ok_30, ok_48, ok_50, ok_60, ok_80, ok_120, ok_180, ok_192, ok_200, ok_900, ok_1000, ok_84000, c1]
        try simp only [true_and, and_true, true_implies, false_implies, implies_true, not_true_eq_false, not_false_eq_true]
        grind
      · have e1 : dv g l m w = 1 := by unfold dv; rw [if_neg (fun q => q c1), if_neg c2, if_neg c3]
        unfold drY at hP
        rw [if_pos e1] at hP
        have s1 := gs_up2 hg (k := 0) (j := 12) (v := 1) (by omega) (by omega) (sR_hasDraft hg.1)
        have s2 := gs_up2 s1 (k := 0) (j := 13) (v := g) (by omega) (by omega) (sR_draftGroup s1.1 c1.1)
        have s3 := gs_up2 s2 (k := 0) (j := 14) (v := l) (by omega) (by omega) (sR_draftLand s2.1)
        have s4 := gs_up2 s3 (k := 0) (j := 15) (v := m) (by omega) (by omega) (sR_draftLong s3.1 (by clear hP hrf hm hy hl hg hF hq s1 s2 s3 hn; grind))
        have s5 := gs_up2 s4 (k := 0) (j := 16) (v := w) (by omega) (by omega) (sR_draftWants s4.1)
        have hp := hP 1 _ (by rw [ui_ap, if_neg (by omega), ui_ap, if_neg (by omega), ui_ap, if_neg (by omega), ui_ap, if_neg (by omega), ui_ap, if_neg (by omega)]) s5
        have a11 : (1 : Int32) &&& 1 = 1 := by decide
        clear hP hrf hm hy hl hg hF hq s1 s2 s3 s4 s5 hn
        rw [a_enter1 (M := a_m180) rfl (a_cat_rf (a_cat_int (a_cat_int (a_cat_int (a_cat_int a_cat_nil))))) (show 5 ≤ 5 by decide)]
        show a_at _ (a_xm a_m180) 0 [some (a_rf M), some (.int g), some (.int l), some (.int m), some (.int w)] [] _ _
        simp only [q180_0, q180_1, q180_2, q180_4, q180_7, q180_10, q180_11, q180_12, q180_13, q180_16, q180_19, q180_20, q180_21, q180_24, q180_25, q180_26, q180_27, q180_30, q180_32, q180_35, q180_36, q180_38, q180_41, q180_42, q180_43, q180_44, q180_47, q180_49, q180_51, q180_54, q180_55, q180_57, q180_60, q180_61, q180_62, q180_63, q180_66, q180_67, q180_68, q180_71, q180_72, q180_73, q180_76, q180_77, q180_78, q180_81, q180_82, q180_84, q180_87, q180_88, m_0 hS, m_K hS, sp_in, sp_refuse_1 hS, sp_refuse_2 hS, sp_refuse_3 hS, sp_refuse_4 hS, sp_refuse_5 hS, sp_refuse_6 hS, as_nil, as_i, as_r, Nat.reduceAdd, Nat.reduceLeDiff, z_eq0, z_eq1, z_or, z_em, Classical.not_not, not_false_eq_true, not_true_eq_false, true_and, and_true, false_and, and_false, and_self, true_implies, false_implies, implies_true, Option.toList_some, Option.toList_none, List.cons_append, List.nil_append, Nat.add_eq_zero_iff, a_nl_i, a_nl_r, a_nl_n, true_or, or_true, eq_self, ok_4, ok_5, ok_6, ok_7, ok_9, ok_10, ok_20, ok_21, ok_24, ok_30, ok_48, ok_50, ok_60, ok_80, ok_120, ok_180, ok_192, ok_200, ok_900, ok_1000, ok_84000, c1, a11]
        try simp only [true_and, and_true, true_implies, false_implies, implies_true, not_true_eq_false, not_false_eq_true]
        grind
  · have hr := hq 1 (-1) (by unfold dv; rw [if_pos c1]; decide)
    clear hP hrf hm hy hl hg hF hq hn
    rw [a_enter1 (M := a_m180) rfl (a_cat_rf (a_cat_int (a_cat_int (a_cat_int (a_cat_int a_cat_nil))))) (show 5 ≤ 5 by decide)]
    show a_at _ (a_xm a_m180) 0 [some (a_rf M), some (.int g), some (.int l), some (.int m), some (.int w)] [] _ _
    simp only [q180_0, q180_1, q180_2, q180_4, q180_7, q180_10, q180_11, q180_12, q180_13, q180_16, q180_19, q180_20, q180_21, q180_24, m_0 hS, m_K hS, sp_in, sp_refuse_1 hS, sp_refuse_2 hS, sp_refuse_3 hS, sp_refuse_4 hS, sp_refuse_5 hS, sp_refuse_6 hS, as_nil, as_i, as_r, Nat.reduceAdd, Nat.reduceLeDiff, z_eq0, z_eq1, z_or, z_em, Classical.not_not, not_false_eq_true, not_true_eq_false, true_and, and_true, false_and, and_false, and_self, true_implies, false_implies, implies_true, Option.toList_some, Option.toList_none, List.cons_append, List.nil_append, Nat.add_eq_zero_iff, a_nl_i, a_nl_r, a_nl_n, true_or, or_true, eq_self, ok_4, ok_5, ok_6, ok_7, ok_9, ok_10, ok_20, ok_21, ok_24, ok_30, ok_48, ok_50, ok_60, ok_80, ok_120, ok_180, ok_192, ok_200, ok_900, ok_1000, ok_84000]
    try simp only [true_and, and_true, true_implies, false_implies, implies_true, not_true_eq_false, not_false_eq_true]
    grind
end ZG2
end
section
/-! one ASK more -/
section ZH0
theorem fdO_end {α : Type} {g : Int32 → Int32 → Int32} {st : α → Int32 → α} {r : Int32} : ∀ (k : Nat) (a : Int32) (p : α), g r (a + Int32.ofNat k) = -9 → fdO g st r (k + 1) a p = fdO g st r k a p := by
  intro k
  induction k with
  | zero =>
    intro a p h
    rw [show Int32.ofNat 0 = 0 from rfl, Int32.add_zero] at h
    show fdI g st r a 6 0 p = p
    exact fdI_no h _ _ _
  | succ k ih =>
    intro a p h
    show fdO g st r (k + 1) (a + 1) (fdI g st r a 6 0 p) = fdO g st r k (a + 1) (fdI g st r a 6 0 p)
    refine ih _ _ ?_
    rw [← h, Int32.ofNat_add, Int32.add_assoc, Int32.add_comm (Int32.ofNat k)]
    rfl
theorem mfI_c {g : Int32 → Int32 → Int32} {hb hb' : Int32 → Int32} {a : Int32} (h : ∀ r : Int32, 0 ≤ r → r < 6 → hb r = hb' r) : ∀ (k : Nat) (r : Int32) (p : Int32 × Int32), 0 ≤ r → r ≤ 6 → r.toNatClampNeg + k ≤ 6 → mfI g hb a k r p = mfI g hb' a k r p := by
  intro k
  induction k with
  | zero => intro r p _ _ _; rfl
  | succ k ih =>
    intro r p h0 h6 hk
    have w : r < 6 := cl_lt2 h0 (by decide) (by rw [show (6 : Int32).toNatClampNeg = 6 from rfl]; omega)
    obtain ⟨-, s2, s3, s4⟩ := lp_st h0 w
    unfold mfI
    rw [h r h0 w, ih _ _ s2 s3 (by omega)]
theorem mkY_c {g : Int32 → Int32 → Int32} {hb hb' : Int32 → Int32} {a : Int32} (h : ∀ r : Int32, 0 ≤ r → r < 6 → hb r = hb' r) : mkY g hb a = mkY g hb' a := by
  unfold mkY
  rw [mfI_c h 6 0 (0, 0) (by decide) (by decide) (by decide)]
theorem mfI_no {g : Int32 → Int32 → Int32} {hb : Int32 → Int32} {a : Int32} (h : ∀ r : Int32, 0 ≤ r → r < 6 → g r a = -9) : ∀ (k : Nat) (r : Int32) (p : Int32 × Int32), 0 ≤ r → r ≤ 6 → r.toNatClampNeg + k ≤ 6 → mfI g hb a k r p = p := by
  intro k
  induction k with
  | zero => intro r p _ _ _; rfl
  | succ k ih =>
    intro r p h0 h6 hk
    have w : r < 6 := cl_lt2 h0 (by decide) (by rw [show (6 : Int32).toNatClampNeg = 6 from rfl]; omega)
    obtain ⟨-, s2, s3, s4⟩ := lp_st h0 w
    unfold mfI
    rw [if_pos (h r h0 w), ih _ _ s2 s3 (by omega)]
theorem mkY_no {g : Int32 → Int32 → Int32} {hb : Int32 → Int32} {a : Int32} (h : ∀ r : Int32, 0 ≤ r → r < 6 → g r a = -9) : mkY g hb a = -9 := by
  unfold mkY
  rw [mfI_no h 6 0 (0, 0) (by decide) (by decide) (by decide)]
  rfl
end ZH0
section ZH1
variable {d n t C c : Nat} {K L : Nat → Nat} {I I0 J J0 J1 J2 : Nat → Nat → Int32} {R : Nat → Nat → Nat} {P : Option Value → AH → Prop}
variable {Y Z W : Nat → Nat → Int32} {R' R1 : Nat → Nat → Nat} {K' L' : Nat → Nat}
/-- an ASK to come has no marks -/
theorem cm_nw (hs : siY Y) (h17 : 0 ≤ Y 0 17 ∧ Y 0 17 < 30) : ∀ r : Int32, 0 ≤ r → r < 6 → cmY Y r (Y 0 17) = -9 := fun r r0 r1 => by
  obtain ⟨ex, -, r6, a30⟩ := ix_180 (r := r) (a := Y 0 17) ⟨r0, r1⟩ h17
  unfold cmY
  rw [ex, if_pos]
  exact Classical.byContradiction (fun w => hs.1 _ w (hs.2.1 _ _ r6 a30 (Nat.le_refl _)))
theorem hs_nw (hs : siY Y) (h17 : 0 ≤ Y 0 17 ∧ Y 0 17 < 30) (hc : cmY Z = cmY Y) (h11 : Z 0 11 = Y 0 11) (hz : Z 0 17 = Y 0 17 + 1) : ∀ r : Int32, 0 ≤ r → r < 6 → hsY Z r = hsY Y r := fun r r0 r1 => by
  unfold hsY
  rw [h11, hz, hc]
  have e : hbY (cmY Y) (Y 0 17 + 1) r = hbY (cmY Y) (Y 0 17) r := by
    unfold hbY
    rw [(lp_st h17.1 h17.2).2.2.2, fdO_end]
    rw [Int32.zero_add, ← on_cl h17.1]
    exact cm_nw hs h17 r r0 r1
  rw [e]
theorem cu_more (hT : cT C K L I R) (hu : cuP C K L I R Y) (h17 : 0 ≤ Y 0 17 ∧ Y 0 17 < 30) {A : Nat} (kA : K A = 1) (hA : ∀ i : Int32, 0 ≤ i → i < Y 0 17 → ¬ R (C + 15) i.toNatClampNeg = A) (hJ : ∀ x j, ¬ x = A → ¬ (x = C + 14 ∧ j = 4) → J x j = I x j) (j4 : J (C + 14) 4 = Y 0 17 + 1) (hR : ∀ x j, ¬ (x = C + 15 ∧ j = (Y 0 17).toNatClampNeg) → ¬ (x = C ∧ j = 11) → R' x j = R x j) (rA : R' (C + 15) (Y 0 17).toNatClampNeg = A) (hz : ∀ k j, ¬ ((7 ≤ k ∧ k ≤ 21) ∧ j = (Y 0 17).toNatClampNeg) → ¬ (k = 0 ∧ (j = 17 ∨ j = 12)) → Z k j = Y k j) (z17 : Z 0 17 = Y 0 17 + 1) (f4 : J A 4 = Y 0 17) (f12 : J A 12 = -9) (hal : alP J Z (Y 0 17) A) (z20 : Z 20 (Y 0 17).toNatClampNeg = -9 ∧ Z 21 (Y 0 17).toNatClampNeg = -9) (z10 : 1 ≤ Z 10 (Y 0 17).toNatClampNeg ∧ Z 10 (Y 0 17).toNatClampNeg ≤ 4) (z7 : Z 7 (Y 0 17).toNatClampNeg = 1 → 0 ≤ Z 16 (Y 0 17).toNatClampNeg ∧ Z 16 (Y 0 17).toNatClampNeg < Y 0 17) (hd : siD C K J R' Z) : cuP C K L J R' Z := by
  have hS := hT.s
  have a1 := (hT.g_ask A kA).1
  have n30 : (Y 0 17).toNatClampNeg < 30 := a_lt30 h17
  have n1 : (Y 0 17 + 1).toNatClampNeg = (Y 0 17).toNatClampNeg + 1 := (lp_st h17.1 h17.2).2.2.2
  have u17 : 0 ≤ Y 0 17 + 1 ∧ Y 0 17 + 1 ≤ 30 := ⟨(lp_st h17.1 h17.2).2.1, (lp_st h17.1 h17.2).2.2.1⟩
  have hlt : ∀ o : Int32, 0 ≤ o → o < Y 0 17 + 1 → ¬ o = Y 0 17 → o < Y 0 17 := fun o o0 o1 e => by clear hu hal hd hz hR hJ hA; grind
  have zr : ∀ k, (1 ≤ k ∧ k ≤ 6) ∨ 22 ≤ k → Z k = Y k := fun k hk => funext (fun j => hz k j (by omega) (by omega))
  have z0 : ∀ j, ¬ j = 17 → ¬ j = 12 → Z 0 j = Y 0 j := fun j h h' => hz 0 j (by omega) (by omega)
  have zo : ∀ k j, ¬ k = 0 → ¬ j = (Y 0 17).toNatClampNeg → Z k j = Y k j := fun k j h h' => hz k j (by omega) (by omega)
  have no : ∀ o : Int32, 0 ≤ o → o < Y 0 17 → ¬ o.toNatClampNeg = (Y 0 17).toNatClampNeg := fun o o0 o1 => by have := cl_lt o0 o1; omega
  have cin : ∀ k j, k ≤ 43 → ¬ (k = 14 ∧ j = 4) → J (C + k) j = I (C + k) j := fun k j hk h => hJ _ _ (by omega) (by omega)
  have rin : ∀ k j, 1 ≤ k → ¬ (k = 15 ∧ j = (Y 0 17).toNatClampNeg) → R' (C + k) j = R (C + k) j := fun k j hk h => hR _ _ (by omega) (by omega)
  have rob : ∀ x j, C + 96 < x → R' x j = R x j := fun x j hx => hR _ _ (by omega) (by omega)
  have ro : ∀ o : Int32, 0 ≤ o → o < Y 0 17 → R' (C + 15) o.toNatClampNeg = R (C + 15) o.toNatClampNeg := fun o o0 o1 => rin _ _ (by omega) (by have := no o o0 o1; omega)
  have wt : ∀ x, wtY Z x = wtY Y x := fun x => by
    unfold wtY
    rw [zr 28 (by omega)]
  have wv : ∀ x, wvY Z x = wvY Y x := fun x => by
    funext fc
    unfold wvY
    rw [wt, zr 29 (by omega)]
  have hcm : cmY Z = cmY Y := cmY_eq (fun k => by rw [zr 38 (by omega)]) (fun k => by rw [zr 36 (by omega)])
  obtain ⟨⟨⟨p1, p2, p3⟩, ⟨q1, q2, q3, q4⟩, ⟨r1, r2, r3, r4⟩, ⟨x1, x2⟩, hy⟩, hse, ⟨sM, sT, -, sY⟩, hno, hst⟩ := hu
  have hhs := hs_nw sY h17 hcm (z0 11 (by omega) (by omega)) z17
  have kx : ∀ x, ¬ K x = 1 → ¬ x = A := fun x hx e => hx (by rw [e]; exact kA)
  have jx : ∀ x j, C + 96 < x → ¬ K x = 1 → J x j = I x j := fun x j hx hk => hJ _ _ (kx x hk) (by omega)
  have bq1 : ∀ b : Int32, 0 ≤ b → b < Y 0 6 → C + 96 < R (C + 16) b.toNatClampNeg := fun b b0 b1 => (hT.g_bnc _ (q3 b b0 b1).1).1
  have wh : ∀ b : Int32, 0 ≤ b → b < Y 0 6 → whC C J R' b = whC C I R b := fun b b0 b1 => by
    have g := (hT.g_bnc _ (q3 b b0 b1).1).2.1
    unfold whC
    rw [rin _ _ (by omega) (by omega), rob _ _ (bq1 b b0 b1)]
    exact funext (fun j => jx _ _ g.1 (by rw [g.2.1]; decide))
  have sn : ∀ b : Int32, 0 ≤ b → b < Y 0 6 → snC C J R' b = snC C I R b := fun b b0 b1 => by
    have g := (hT.g_bnc _ (q3 b b0 b1).1).2.2.1
    unfold snC
    rw [rin _ _ (by omega) (by omega), rob _ _ (bq1 b b0 b1)]
    exact funext (fun j => jx _ _ g.1 (by rw [g.2.1]; decide))
  refine ⟨⟨⟨by rw [cin _ _ (by omega) (by omega), z0 0 (by omega) (by omega)]; exact p1, fun j => by rw [cin _ _ (by omega) (by omega), zr 1 (by omega)]; exact p2 j, lsP_e p3 (fun j => cin _ _ (by omega) (by omega)) (fun k j hk => hz k j (by unfold kL at hk; omega) (by unfold kL at hk; omega))⟩, ⟨by rw [cin _ _ (by omega) (by omega), z0 6 (by omega) (by omega)]; exact q1, by rw [cin _ _ (by omega) (by omega), z0 9 (by omega) (by omega)]; exact q2, fun b b0 b1 => ?_, ?_⟩, ⟨by rw [j4, z17], fun o o0 o1 => ?_, fun o o0 o1 => ?_, fun o o0 o1 => ?_⟩, ⟨by rw [cin _ _ (by omega) (by omega), z0 41 (by omega) (by omega)]; exact x1, fun k k0 k1 => ?_⟩, ?_⟩, ?_, ⟨siM_e sM (fun k j hk => cin _ _ (by omega) (by omega)) (fun k j hk => hz k j (by unfold kM at hk; omega) (by unfold kM at hk; omega)), siT_e sT (fun k j hk => cin _ _ (by omega) (by omega)) (fun k j hk => hz k j (by unfold kT at hk; omega) (by unfold kT at hk; omega)), hd, ?_⟩, ?_, ?_⟩
  · rw [z0 6 (by omega) (by omega)] at b1
    obtain ⟨k1, k2, k3, k4⟩ := q3 b b0 b1
    rw [rin _ _ (by omega) (by omega), jx _ _ (bq1 b b0 b1) (by rw [k1]; decide), jx _ _ (bq1 b b0 b1) (by rw [k1]; decide), zr 5 (by omega), zr 6 (by omega)]
    exact ⟨k1, k2, k3, k4⟩
  · refine ⟨fun o o0 o1 o2 => ?_, fun b x b0 b1 y0 y1 => ?_⟩
    · rw [z17] at o1
      by_cases e : o = Y 0 17
      · rw [e, z20.1] at o2
        exact absurd o2 (by decide)
      · have ho := hlt o o0 o1 e
        have n := no o o0 ho
        rw [zo 20 _ (by decide) n] at o2 ⊢
        rw [zo 21 _ (by decide) n, zo 10 _ (by decide) n, z0 6 (by omega) (by omega)]
        obtain ⟨s1, s2, s3, s4⟩ := q4.1 o o0 ho o2
        refine ⟨s1, s2, s3, fun y y0 y1 => ?_⟩
        rw [wh _ o2 s1, sn _ o2 s1, zr 22 (by omega)]
        exact s4 y y0 y1
    · rw [z0 6 (by omega) (by omega)] at b1
      rw [wh _ b0 b1, sn _ b0 b1]
      refine (q4.2 b x b0 b1 y0 y1).imp id (fun ⟨o, i, o0, o1, o2, i0, i1, e⟩ => ⟨o, i, o0, ?_, ?_, i0, ?_, ?_⟩)
      · rw [z17]
        clear hal hd hz hR hJ hA hhs hse hst q4 r3 r4 x2 p3 sY sM sT hno hy
        grind
      · rw [zo 20 _ (by decide) (no o o0 o1)]
        exact o2
      · rw [zo 10 _ (by decide) (no o o0 o1)]
        exact i1
      · rw [zo 21 _ (by decide) (no o o0 o1)]
        exact e
  · rw [z17] at o1
    by_cases e : o = Y 0 17
    · rw [e, rA, f4]
      exact ⟨kA, by omega, rfl⟩
    · have ho := hlt o o0 o1 e
      rw [ro o o0 ho, hJ _ _ (hA o o0 ho) (by have := (hT.g_ask _ (r2 o o0 ho).1).1; omega)]
      exact r2 o o0 ho
  · rw [z17] at o1
    by_cases e : o = Y 0 17
    · rw [e, rA, f12, hcm, mkY_no (cm_nw sY h17)]
    · have ho := hlt o o0 o1 e
      rw [ro o o0 ho, hJ _ _ (hA o o0 ho) (by have := (hT.g_ask _ (r2 o o0 ho).1).1; omega), hcm, mkY_c hhs]
      exact r3 o o0 ho
  · rw [z17] at o1
    by_cases e : o = Y 0 17
    · rw [e, rA]
      exact hal
    · have ho := hlt o o0 o1 e
      have n := no o o0 ho
      have hl := r4 o o0 ho
      have ej : ∀ j, J (R (C + 15) o.toNatClampNeg) j = I (R (C + 15) o.toNatClampNeg) j := fun j => hJ _ _ (hA o o0 ho) (by have := (hT.g_ask _ (r2 o o0 ho).1).1; omega)
      have er : ∀ k, ¬ k = 0 → Z k o.toNatClampNeg = Y k o.toNatClampNeg := fun k hk => zo k _ hk n
      rw [ro o o0 ho]
      unfold alP at hl ⊢
      simp only [ej]
      rw [er 7 (by decide), er 8 (by decide), er 9 (by decide), er 10 (by decide), er 11 (by decide), er 12 (by decide), er 13 (by decide), er 14 (by decide), er 15 (by decide), er 16 (by decide), er 17 (by decide), er 18 (by decide), er 19 (by decide), er 20 (by decide), er 21 (by decide)]
      exact hl
  · rw [z0 41 (by omega) (by omega)] at k1
    obtain ⟨k11, k12, k13, k14, k15, k16⟩ := x2 k k0 k1
    have g := hT.g_txt _ k11
    have hcd : J (R (R (C + 8) k.toNatClampNeg) 2) = I (R (R (C + 8) k.toNatClampNeg) 2) := funext (fun m => jx _ _ g.2.1 (by rw [g.2.2.1]; decide))
    rw [rin _ _ (by omega) (by omega), rob _ _ g.1, jx _ _ g.1 (by rw [k11]; decide), jx _ _ g.1 (by rw [k11]; decide), jx _ _ g.1 (by rw [k11]; decide), hcd, wt, wv, zr 30 (by omega), zr 31 (by omega)]
    exact ⟨k11, k12, k13, k14, k15, k16⟩
  · obtain ⟨h1, h2, h3, h4, h5, h6, h7, h8, h9, h10⟩ := hy
    refine ⟨by rw [z0 41 (by omega) (by omega)]; exact h1, fun j => ?_, fun i i0 i1 => ?_, by rw [z0 9 (by omega) (by omega)]; exact h4, by rw [z17]; exact u17, by rw [z0 6 (by omega) (by omega)]; exact h6, fun a ha a0 => ?_, fun k q => ?_, fun b => by rw [zr 6 (by omega)]; exact h9 b, fun i i0 i1 => ?_⟩
    · by_cases e : j = (Y 0 17).toNatClampNeg
      · rw [e]
        exact ⟨Int32.le_trans (by decide) z10.1, z10.2⟩
      · rw [zo 10 _ (by decide) e]
        exact h2 j
    · rw [z17] at i1
      by_cases e : i = Y 0 17
      · rw [e]
        exact z10.1
      · have ho := hlt i i0 i1 e
        rw [zo 10 _ (by decide) (no i i0 ho)]
        exact h3 i i0 ho
    · by_cases e : a = (Y 0 17).toNatClampNeg
      · rw [e, z20.1] at a0
        exact absurd a0 (by decide)
      · rw [zo 20 _ (by decide) e] at a0 ⊢
        rw [zo 21 _ (by decide) e, zo 10 _ (by decide) e]
        exact h7 a ha a0
    · rw [zr 38 (by omega)] at q
      rw [zr 36 (by omega)]
      exact h8 k q
    · rw [z17] at i1 ⊢
      by_cases e : i = Y 0 17
      · rw [e]
        refine fun q => ⟨(z7 q).1, ?_⟩
        have := (z7 q).2
        clear hal hd hz hR hJ hA hhs hse hst q4 r3 r4 x2 p3 sY sM sT hno h10 z7
        grind
      · have ho := hlt i i0 i1 e
        rw [zo 7 _ (by decide) (no i i0 ho), zo 16 _ (by decide) (no i i0 ho)]
        refine fun q => ⟨(h10 i i0 ho q).1, ?_⟩
        have := (h10 i i0 ho q).2
        clear hal hd hz hR hJ hA hhs hse hst q4 r3 r4 x2 p3 sY sM sT hno h10 z7
        grind
  · obtain ⟨s1, s2, s3, s4⟩ := hse
    unfold seP
    rw [z0 6 (by omega) (by omega), z0 41 (by omega) (by omega)]
    refine ⟨fun b b0 b1 => ?_, fun b c b0 b1 c0 c1 e => ?_, fun k b k0 k1 b0 b1 => ?_, fun b c b0 b1 c0 c1 => ?_⟩
    · rw [rin _ _ (by omega) (by omega), rob _ _ (bq1 b b0 b1), rob _ _ (bq1 b b0 b1), rob _ _ (bq1 b b0 b1)]
      exact s1 b b0 b1
    · rw [rin _ _ (by omega) (by omega), rin _ _ (by omega) (by omega)] at e
      exact s2 b c b0 b1 c0 c1 e
    · rw [rin 8 _ (by omega) (by omega), rin 16 _ (by omega) (by omega), rob _ _ (hT.g_txt _ (x2 k k0 k1).1).1, rob _ _ (bq1 b b0 b1)]
      exact s3 k b k0 k1 b0 b1
    · rw [rin _ _ (by omega) (by omega), rin _ _ (by omega) (by omega), rob _ _ (bq1 b b0 b1)]
      exact s4 b c b0 b1 c0 c1
  · obtain ⟨y1, y2, y3, y4, y5, y6, y7, y8⟩ := sY
    unfold siY
    rw [zr 38 (by omega), zr 37 (by omega), zr 47 (by omega), zr 2 (by omega), zr 3 (by omega), zr 4 (by omega), z0 0 (by omega) (by omega), z0 2 (by omega) (by omega), z17, n1]
    refine ⟨y1, fun r a hr ha hle => y2 r a hr ha (by omega), y3, fun a o ha ho hle => y4 a o ha ho (by omega), fun x hx => ?_, y6, y7, y8⟩
    rw [z0 41 (by omega) (by omega)] at hx
    rw [wt, zr 29 (by omega)]
    exact y5 x hx
  · intro a ha hn
    by_cases e : a = (Y 0 17).toNatClampNeg
    · rw [e]
      exact z20
    · rw [zo 20 _ (by decide) e] at hn ⊢
      rw [zo 21 _ (by decide) e]
      exact hno a ha hn
  · unfold stP at hst ⊢
    rw [z0 41 (by omega) (by omega), zr 31 (by omega)]
    refine ⟨fun i i0 i1 => ?_, fun i o i0 i1 o0 o1 e => ?_⟩
    · have k11 := (x2 i i0 i1).1
      rw [rin _ _ (by omega) (by omega), jx _ _ (hT.g_txt _ k11).1 (by rw [k11]; decide)]
      exact hst.1 i i0 i1
    · rw [rin _ _ (by omega) (by omega), rin _ _ (by omega) (by omega)] at e
      exact hst.2 i o i0 i1 o0 o1 e
end ZH1
section ZH2
variable {d n t M : Nat} {K L : Nat → Nat} {I I0 J J0 J1 J2 : Nat → Nat → Int32} {R : Nat → Nat → Nat} {P : Option Value → AH → Prop} {f : Nat → Int32} {e : Int32}
variable {Y Z W A B : Nat → Nat → Int32}
theorem gs_mk2 {M : Nat} (hg : gs M I0 I Y) (hR : mR M J) (hx : ∀ x j, (x < M ∨ M + 52 < x) → J x j = I x j) (h22 : ∀ j, Z 22 j = Y 22 j) (e22 : ∀ j, J (M + 22) j = I (M + 22) j) (hq : ∀ o : Int32, 0 ≤ o → o < 30 → 0 ≤ Z 20 o.toNatClampNeg → Z 20 o.toNatClampNeg = Y 20 o.toNatClampNeg ∧ Z 10 o.toNatClampNeg = Y 10 o.toNatClampNeg) (hw : ∀ k j, ps1 k j → J (M + k) j = Z k j) : gs M I0 J Z := ⟨hR, fun x j p => (hx x j p).trans (hg.2.1 x j p), hw, fun o o0 o1 o2 i i0 i1 => by
  obtain ⟨e1, e2⟩ := hq o o0 o1 o2
  rw [e1] at o2
  rw [e2] at i1
  rw [h22]
  exact (e22 _).trans (hg.2.2.2 o o0 o1 o2 i i0 i1)⟩
theorem up_S {S : Nat → Nat → Prop} (h : ∀ k j, S k j → A k j = B k j) {x i : Nat} {v w : Int32} (hv : v = w) : ∀ k j, S k j → upY A x i v k j = upY B x i w k j := fun k j p => by
  unfold upY
  by_cases e : k = x ∧ j = i
  · rw [if_pos e, if_pos e, hv]
  · rw [if_neg e, if_neg e]
    exact h k j p
theorem yv_up {M k j : Nat} {v : Int32} : yv M (a_ui I (M + k) j v) = upY (yv M I) k j v := by
  funext x i
  unfold upY
  show a_ui I (M + k) j v (M + x) i = if x = k ∧ i = j then v else I (M + x) i
  rw [ui_ap]
  by_cases e : x = k ∧ i = j
  · rw [if_pos ⟨by omega, e.2⟩, if_pos e]
  · rw [if_neg (fun q => e ⟨by omega, q.2⟩), if_neg e]
theorem yv_up0 {M j : Nat} {v : Int32} : yv M (a_ui I M j v) = upY (yv M I) 0 j v := yv_up (k := 0)
end ZH2
end
section
/-! ask -/
section ZI0
variable {d n t C c : Nat} {K L : Nat → Nat} {I I0 J J0 J1 J2 : Nat → Nat → Int32} {R : Nat → Nat → Nat} {P : Option Value → AH → Prop}
variable {Y Z W : Nat → Nat → Int32} {R' R1 : Nat → Nat → Nat} {K' L' : Nat → Nat}
theorem sp_daysBelow {k x y : Int32} {h : AH} : a_does (d + 1) 39 [.int k, .int x, .int y] h P ↔ P (some (.int (if (k = 1 ∧ y < 0) ∨ (k = 2 ∧ (x < 0 ∨ y < x)) then 1 else 0))) h := by
  rw [a_enter1 (M := a_m39) rfl (a_cat_int (a_cat_int (a_cat_int a_cat_nil))) (show 3 ≤ 3 by decide)]
  show a_at _ (a_xm a_m39) 0 [some (.int k), some (.int x), some (.int y)] [] _ _ ↔ _
  simp only [q39_0, q39_1, q39_2, q39_5, q39_6, q39_9, q39_10, q39_13, q39_14, q39_15, q39_16, q39_17, q39_20, q39_21, q39_24, q39_25, q39_26, q39_29, q39_30, q39_33, q39_34, as_nil, as_i, as_r, Nat.reduceAdd, Nat.reduceLeDiff, z_eq0, z_eq1, z_or, z_em, Classical.not_not, not_false_eq_true, not_true_eq_false, true_and, and_true, false_and, and_false, and_self, true_implies, false_implies, implies_true, Option.toList_some, Option.toList_none, List.cons_append, List.nil_append, Nat.add_eq_zero_iff, a_nl_i, a_nl_r, a_nl_n, true_or, or_true, eq_self, a_isRA_22, a_isRA_24, a_isRA_32, a_isA_20, ok_4, ok_5, ok_6, ok_7, ok_9, ok_20, ok_21, ok_30, ok_50, ok_180, ok_192, ok_200]
  grind
theorem sp_daysAbove {k x y : Int32} {h : AH} : a_does (d + 1) 40 [.int k, .int x, .int y] h P ↔ P (some (.int (if (k = 1 ∧ 30 < y) ∨ (k = 2 ∧ (200 ≤ x ∨ 200 ≤ y)) then 1 else 0))) h := by
  rw [a_enter1 (M := a_m40) rfl (a_cat_int (a_cat_int (a_cat_int a_cat_nil))) (show 3 ≤ 3 by decide)]
  show a_at _ (a_xm a_m40) 0 [some (.int k), some (.int x), some (.int y)] [] _ _ ↔ _
  simp only [q40_0, q40_1, q40_2, q40_5, q40_6, q40_8, q40_11, q40_12, q40_15, q40_16, q40_17, q40_18, q40_19, q40_22, q40_23, q40_26, q40_29, q40_30, q40_33, q40_36, q40_37, q40_40, q40_41, as_nil, as_i, as_r, Nat.reduceAdd, Nat.reduceLeDiff, z_eq0, z_eq1, z_or, z_em, Classical.not_not, not_false_eq_true, not_true_eq_false, true_and, and_true, false_and, and_false, and_self, true_implies, false_implies, implies_true, Option.toList_some, Option.toList_none, List.cons_append, List.nil_append, Nat.add_eq_zero_iff, a_nl_i, a_nl_r, a_nl_n, true_or, or_true, eq_self, a_isRA_22, a_isRA_24, a_isRA_32, a_isA_20, ok_4, ok_5, ok_6, ok_7, ok_9, ok_20, ok_21, ok_30, ok_50, ok_180, ok_192, ok_200]
  grind
theorem ce_addAsk {A : Nat} {m : Int32} (kA : K A = 1) (hH : cH C c n t K L I R) (h4 : I (C + 14) 4 = m) (hm : m < 30) (hP : cH C c n t K L (a_ui (a_ui I A 4 m) (C + 14) 4 (m + 1)) (a_ur R (C + 15) m.toNatClampNeg A) → P (some (.int m)) (n, t, K, L, (a_ui (a_ui I A 4 m) (C + 14) 4 (m + 1)), (a_ur R (C + 15) m.toNatClampNeg A))) : a_does (d + 1) 43 [a_rf (C + 14), a_rf A] (n, t, K, L, I, R) P := by
  have hT := hH.1
  have hS := hT.s
  have a1 := (hT.g_ask A kA).1
  have a0 : (A = 0) = False := eq_false (by omega)
  have g := hT.g_asks
  have hc : ¬ 30 ≤ I (C + 14) 4 := by rw [h4]; exact Int32.not_le.mpr hm
  have h1 := sT_addAsk hT kA hc
  have hC := hT.s.1
  have hc' : I (C + 14) 4 < 30 := Int32.not_le.mp hc
  have g0 : 0 ≤ I (C + 14) 4 := g.1
  have an : (A = C + 14) = False := eq_false (by omega)
  have na : (C + 14 = A) = False := eq_false (by omega)
  have hR := cH_R hH (k := 15) (j := (I (C + 14) 4).toNatClampNeg) (v := A) (by omega) (by omega) (sT_Rasks hT (Or.inr kA) (by omega))
  have hfin := hP (by rw [← h4]; exact cH_J hR h1)
  clear hP hR h1 hH
  subst h4
  rw [a_enter1 (M := a_m43) rfl (a_cat_rf (a_cat_rf a_cat_nil)) (show 2 ≤ 2 by decide)]
  show a_at _ (a_xm a_m43) 0 [some (a_rf (C + 14)), some (a_rf A)] [] _ _
  simp only [q43_0, q43_1, q43_4, q43_6, q43_9, q43_11, q43_12, q43_13, q43_16, q43_17, q43_20, q43_21, q43_22, q43_23, q43_24, q43_27, q43_30, q43_31, q43_32, q43_35, q43_36, q43_37, q43_40, q43_41, q43_44, k_14 hS, z_14, r_14_2 hS, k_15 hS, l_15 hS, z_15, as_nil, as_i, as_r, Nat.reduceAdd, Nat.reduceLeDiff, z_eq0, z_eq1, z_or, z_em, Classical.not_not, not_false_eq_true, not_true_eq_false, true_and, and_true, false_and, and_false, and_self, true_implies, false_implies, implies_true, Option.toList_some, Option.toList_none, List.cons_append, List.nil_append, Nat.add_eq_zero_iff, a_nl_i, a_nl_r, a_nl_n, true_or, or_true, eq_self, a_isRA_22, a_isRA_24, a_isRA_32, a_isA_20, ok_4, ok_5, ok_6, ok_7, ok_9, ok_20, ok_21, ok_30, ok_50, ok_180, ok_192, ok_200, ui_ap, cc_ne, cc_n0, cc_0n, Nat.reduceEqDiff, reduceIte, if_true, if_false, kA, a0, hc', hc, g0, an, na]
  repeat' first
    | with_reducible apply And.intro
    | exact hfin
    | (right; rfl)
    | decide
/-- the words behind an ASK -/
def akW (Y : Nat → Nat → Int32) (k b m g e x y : Int32) : Nat → Nat → Int32 := (upY (upY (upY (upY (upY (upY (upY (upY (upY (upY (upY (upY (upY (upY (upY Y 7 (Y 0 17).toNatClampNeg k) 8 (Y 0 17).toNatClampNeg (Y 0 13)) 9 (Y 0 17).toNatClampNeg (Y 0 14)) 10 (Y 0 17).toNatClampNeg (Y 0 15)) 11 (Y 0 17).toNatClampNeg (Y 0 16)) 20 (Y 0 17).toNatClampNeg (-9)) 21 (Y 0 17).toNatClampNeg (-9)) 0 17 (Y 0 17 + 1)) 12 (Y 0 17).toNatClampNeg b) 13 (Y 0 17).toNatClampNeg m) 14 (Y 0 17).toNatClampNeg g) 15 (Y 0 17).toNatClampNeg e) 16 (Y 0 17).toNatClampNeg x) 17 (Y 0 17).toNatClampNeg y) 0 12 0)
def akY (Y : Nat → Nat → Int32) (k b m g e x y : Int32) : Int32 × (Nat → Nat → Int32) := if Y 0 12 = 0 then (-5, Y) else if ¬ (0 ≤ k ∧ k ≤ 4) then (-2, Y) else if b < 0 ∨ m < 0 ∨ e < 0 ∨ (k = 1 ∧ y < 0) ∨ (k = 2 ∧ (x < 0 ∨ y < x)) then (-4, Y) else if 63 < b ∨ 15 < m ∨ 9 < e ∨ (k = 1 ∧ 30 < y) ∨ (k = 2 ∧ 199 < y) ∨ Y 0 17 = 30 then (-6, Y) else if ¬ (-1 ≤ g ∧ g ≤ 5) ∨ (k = 1 ∧ ¬ (0 ≤ x ∧ x < Y 0 17)) then (-1, Y) else (Y 0 17, akW Y k b m g e x y)
theorem ak_no {k b m g e x y : Int32} {q j : Nat} (h : ¬ ((7 ≤ q ∧ q ≤ 21) ∧ j = (Y 0 17).toNatClampNeg)) (h2 : ¬ (q = 0 ∧ (j = 17 ∨ j = 12))) : akW Y k b m g e x y q j = Y q j := by
  unfold akW
  rw [up_no (by omega), up_no (by omega), up_no (by omega), up_no (by omega), up_no (by omega), up_no (by omega), up_no (by omega), up_no (by omega), up_no (by omega), up_no (by omega), up_no (by omega), up_no (by omega), up_no (by omega), up_no (by omega), up_no (by omega)]
theorem ak_at {k b m g e x y : Int32} : akW Y k b m g e x y 7 (Y 0 17).toNatClampNeg = k ∧ akW Y k b m g e x y 8 (Y 0 17).toNatClampNeg = (Y 0 13) ∧ akW Y k b m g e x y 9 (Y 0 17).toNatClampNeg = (Y 0 14) ∧ akW Y k b m g e x y 10 (Y 0 17).toNatClampNeg = (Y 0 15) ∧ akW Y k b m g e x y 11 (Y 0 17).toNatClampNeg = (Y 0 16) ∧ akW Y k b m g e x y 20 (Y 0 17).toNatClampNeg = (-9) ∧ akW Y k b m g e x y 21 (Y 0 17).toNatClampNeg = (-9) ∧ akW Y k b m g e x y 0 17 = (Y 0 17 + 1) ∧ akW Y k b m g e x y 12 (Y 0 17).toNatClampNeg = b ∧ akW Y k b m g e x y 13 (Y 0 17).toNatClampNeg = m ∧ akW Y k b m g e x y 14 (Y 0 17).toNatClampNeg = g ∧ akW Y k b m g e x y 15 (Y 0 17).toNatClampNeg = e ∧ akW Y k b m g e x y 16 (Y 0 17).toNatClampNeg = x ∧ akW Y k b m g e x y 17 (Y 0 17).toNatClampNeg = y ∧ akW Y k b m g e x y 0 12 = 0 := by
  unfold akW upY
  simp only [Nat.reduceEqDiff, reduceCtorEq, and_self, and_true, true_and, and_false, false_and, if_true, if_false]
theorem ak_18 {k b m g e x y : Int32} : akW Y k b m g e x y 18 (Y 0 17).toNatClampNeg = Y 18 (Y 0 17).toNatClampNeg ∧ akW Y k b m g e x y 19 (Y 0 17).toNatClampNeg = Y 19 (Y 0 17).toNatClampNeg := by
  unfold akW upY
  simp only [Nat.reduceEqDiff, reduceCtorEq, and_self, and_true, true_and, and_false, false_and, if_true, if_false]
theorem cu_askW {m0 : Nat} (hH : cH C c m0 t K L I R) (hu : cuP C K L I R Y) {k b m g e x y : Int32} (c1 : ¬ Y 0 12 = 0) (h30 : Y 0 17 < 30) (h18 : Y 18 (Y 0 17).toNatClampNeg = 0 ∧ Y 19 (Y 0 17).toNatClampNeg = 0) (hk : k = 1 → 0 ≤ x ∧ x < Y 0 17) : cuP C K L (a_ui (a_ui (a_ui (a_ui (a_ui (a_ui (a_ui (a_ui (a_ui I (R C 11) 6 b) (R C 11) 7 m) (R C 11) 8 g) (R C 11) 9 e) (R C 11) 5 k) (R C 11) 10 x) (R C 11) 11 y) (R C 11) 4 (Y 0 17)) (C + 14) 4 (Y 0 17 + 1)) (a_ur (a_ur R C 11 0) (C + 15) (Y 0 17).toNatClampNeg (R C 11)) (akW Y k b m g e x y) := by
  have hT := hH.1
  have h17 := hu.1.2.2.2.2.2.2.2.2.1
  obtain ⟨d1, d2⟩ := hu.2.2.1.2.2.1
  have hd : ¬ (R C 11) = 0 := fun w => c1 (d1.mp w)
  obtain ⟨kD, ⟨e0, e1, e2, e3⟩, ⟨e12, e13, e14, e15, e16⟩, hrow⟩ := d2 hd
  have gk := hT.g_ask _ kD
  have D1 := gk.1
  obtain ⟨b0, b1, b2, b3, b4, b5, b6, b7, b8, b9, b10, b11, b12, b13, b14⟩ := ak_at (Y := Y) (k := k) (b := b) (m := m) (g := g) (e := e) (x := x) (y := y)
  obtain ⟨s18, s19⟩ := ak_18 (Y := Y) (k := k) (b := b) (m := m) (g := g) (e := e) (x := x) (y := y)
  have jD : ∀ j, ¬ (j = 4 ∨ j = 5 ∨ j = 6 ∨ j = 7 ∨ j = 8 ∨ j = 9 ∨ j = 10 ∨ j = 11) → (a_ui (a_ui (a_ui (a_ui (a_ui (a_ui (a_ui (a_ui (a_ui I (R C 11) 6 b) (R C 11) 7 m) (R C 11) 8 g) (R C 11) 9 e) (R C 11) 5 k) (R C 11) 10 x) (R C 11) 11 y) (R C 11) 4 (Y 0 17)) (C + 14) 4 (Y 0 17 + 1)) (R C 11) j = I (R C 11) j := fun j hj => by rw [ui_ap, if_neg (by omega), ui_ap, if_neg (by omega), ui_ap, if_neg (by omega), ui_ap, if_neg (by omega), ui_ap, if_neg (by omega), ui_ap, if_neg (by omega), ui_ap, if_neg (by omega), ui_ap, if_neg (by omega), ui_ap, if_neg (by omega)]
  have jv : (a_ui (a_ui (a_ui (a_ui (a_ui (a_ui (a_ui (a_ui (a_ui I (R C 11) 6 b) (R C 11) 7 m) (R C 11) 8 g) (R C 11) 9 e) (R C 11) 5 k) (R C 11) 10 x) (R C 11) 11 y) (R C 11) 4 (Y 0 17)) (C + 14) 4 (Y 0 17 + 1)) (R C 11) 6 = b ∧ (a_ui (a_ui (a_ui (a_ui (a_ui (a_ui (a_ui (a_ui (a_ui I (R C 11) 6 b) (R C 11) 7 m) (R C 11) 8 g) (R C 11) 9 e) (R C 11) 5 k) (R C 11) 10 x) (R C 11) 11 y) (R C 11) 4 (Y 0 17)) (C + 14) 4 (Y 0 17 + 1)) (R C 11) 7 = m ∧ (a_ui (a_ui (a_ui (a_ui (a_ui (a_ui (a_ui (a_ui (a_ui I (R C 11) 6 b) (R C 11) 7 m) (R C 11) 8 g) (R C 11) 9 e) (R C 11) 5 k) (R C 11) 10 x) (R C 11) 11 y) (R C 11) 4 (Y 0 17)) (C + 14) 4 (Y 0 17 + 1)) (R C 11) 8 = g ∧ (a_ui (a_ui (a_ui (a_ui (a_ui (a_ui (a_ui (a_ui (a_ui I (R C 11) 6 b) (R C 11) 7 m) (R C 11) 8 g) (R C 11) 9 e) (R C 11) 5 k) (R C 11) 10 x) (R C 11) 11 y) (R C 11) 4 (Y 0 17)) (C + 14) 4 (Y 0 17 + 1)) (R C 11) 9 = e ∧ (a_ui (a_ui (a_ui (a_ui (a_ui (a_ui (a_ui (a_ui (a_ui I (R C 11) 6 b) (R C 11) 7 m) (R C 11) 8 g) (R C 11) 9 e) (R C 11) 5 k) (R C 11) 10 x) (R C 11) 11 y) (R C 11) 4 (Y 0 17)) (C + 14) 4 (Y 0 17 + 1)) (R C 11) 5 = k ∧ (a_ui (a_ui (a_ui (a_ui (a_ui (a_ui (a_ui (a_ui (a_ui I (R C 11) 6 b) (R C 11) 7 m) (R C 11) 8 g) (R C 11) 9 e) (R C 11) 5 k) (R C 11) 10 x) (R C 11) 11 y) (R C 11) 4 (Y 0 17)) (C + 14) 4 (Y 0 17 + 1)) (R C 11) 10 = x ∧ (a_ui (a_ui (a_ui (a_ui (a_ui (a_ui (a_ui (a_ui (a_ui I (R C 11) 6 b) (R C 11) 7 m) (R C 11) 8 g) (R C 11) 9 e) (R C 11) 5 k) (R C 11) 10 x) (R C 11) 11 y) (R C 11) 4 (Y 0 17)) (C + 14) 4 (Y 0 17 + 1)) (R C 11) 11 = y ∧ (a_ui (a_ui (a_ui (a_ui (a_ui (a_ui (a_ui (a_ui (a_ui I (R C 11) 6 b) (R C 11) 7 m) (R C 11) 8 g) (R C 11) 9 e) (R C 11) 5 k) (R C 11) 10 x) (R C 11) 11 y) (R C 11) 4 (Y 0 17)) (C + 14) 4 (Y 0 17 + 1)) (R C 11) 4 = Y 0 17 := by
    have na : ((R C 11) = C + 14) = False := eq_false (by omega)
    simp only [ui_ap, na, Nat.reduceEqDiff, reduceCtorEq, and_self, and_true, true_and, and_false, false_and, if_true, if_false]
  obtain ⟨v6, v7, v8, v9, v5, v10, v11, v4⟩ := jv
  refine cu_more hT hu ⟨h17.1, h30⟩ kD hrow (fun z j h1 h2 => by rw [ui_ap, if_neg (by omega), ui_ap, if_neg (by omega), ui_ap, if_neg (by omega), ui_ap, if_neg (by omega), ui_ap, if_neg (by omega), ui_ap, if_neg (by omega), ui_ap, if_neg (by omega), ui_ap, if_neg (by omega), ui_ap, if_neg (by omega)]) (by rw [ui_ap, if_pos ⟨rfl, rfl⟩]) (fun z j h1 h2 => by rw [ur_ap, if_neg h1, ur_ap, if_neg h2]) (by rw [ur_ap, if_pos ⟨rfl, rfl⟩]) (fun q j h1 h2 => ak_no h1 h2) b7 v4 (by rw [jD 12 (by omega)]; exact e12) ?_ ⟨b5, b6⟩ (by rw [b3, ← e2]; exact gk.2.1) (fun w => by rw [b12]; exact hk (by rw [← b0]; exact w)) ?_
  · unfold alP
    rw [jD 0 (by omega), jD 1 (by omega), jD 2 (by omega), jD 3 (by omega), jD 13 (by omega), jD 14 (by omega), jD 15 (by omega), jD 16 (by omega), v5, v6, v7, v8, v9, v10, v11, b0, b1, b2, b3, b4, b5, b6, b8, b9, b10, b11, b12, b13, s18, s19, h18.1, h18.2, e0, e1, e2, e3, e13, e14, e15, e16]
    exact ⟨⟨rfl, rfl, rfl, rfl, rfl⟩, ⟨rfl, rfl, rfl, rfl⟩, fun _ => ⟨rfl, rfl⟩, ⟨rfl, rfl⟩, ⟨fun _ => rfl, fun _ => rfl⟩, ⟨fun _ => rfl, fun _ => rfl⟩⟩
  · have r0 : (a_ur (a_ur R C 11 0) (C + 15) (Y 0 17).toNatClampNeg (R C 11)) C 11 = 0 := by rw [ur_ap, if_neg (by omega), ur_ap, if_pos ⟨rfl, rfl⟩]
    unfold siD
    rw [r0, b14]
    exact ⟨⟨fun _ => rfl, fun _ => rfl⟩, fun w => absurd rfl w⟩
theorem ge_ask (hH : cH C c (n + 1) t K L I R) (hu : cuP C K L I R Y) (hnw : ∀ a : Nat, a < 30 → (Y 0 17).toNatClampNeg ≤ a → Y 18 a = 0 ∧ Y 19 a = 0) {k b m g e x y : Int32} (hP : ∀ n' t' K' L' J R', cH C c (n' + 1) t' K' L' J R' → cuP C K' L' J R' (akY Y k b m g e x y).2 → P (some (.int (akY Y k b m g e x y).1)) (n' + 1, t', K', L', J, R')) : a_does (d + 70) 38 [a_rf C, .int k, .int b, .int m, .int g, .int e, .int x, .int y] (n + 1, t, K, L, I, R) P := by
  have hT := hH.1
  have hS := hT.s
  have gA := hT.g_asksR
  have gB := hT.g_benchesR
  have gX := hT.g_textsR
  have hc := hu.1
  have h17 := hc.2.2.2.2.2.2.2.2.1
  have e4 : I (C + 14) 4 = Y 0 17 := hc.2.2.1.1
  unfold akY at hP
  obtain ⟨d1, d2⟩ := hu.2.2.1.2.2.1
  have hr13 : (∀ J, cH C c (n + 1) t K L J R → cuP C K L J R Y → P (some (.int (-5))) (n + 1, t, K, L, J, R)) → a_does (d + 69) 10 [a_rf C, .int (-5)] (n + 1, t, K, L, I, R) (fun q h' => a_at (d + 69) (a_xm a_m38) 13 [some (a_rf C), some (.int k), some (.int b), some (.int m), some (.int g), some (.int e), some (.int x), some (.int y), none] (q.toList ++ []) h' P) := fun hq => by
    refine ge_refuse (d := d + 68) hH hu (fun J z1 z2 => ?_)
    have hp := hq J z1 z2
    clear hq hP hc hu
    simp only [q38_13, as_nil, as_i, as_r, Nat.reduceAdd, Nat.reduceLeDiff, z_eq0, z_eq1, z_or, z_em, Classical.not_not, not_false_eq_true, not_true_eq_false, true_and, and_true, false_and, and_false, and_self, true_implies, false_implies, implies_true, Option.toList_some, Option.toList_none, List.cons_append, List.nil_append, Nat.add_eq_zero_iff, a_nl_i, a_nl_r, a_nl_n, true_or, or_true, eq_self, a_isRA_22, a_isRA_24, a_isRA_32, a_isA_20, ok_4, ok_5, ok_6, ok_7, ok_9, ok_20, ok_21, ok_30, ok_50, ok_180, ok_192, ok_200]
    exact hp
  have hr29 : (∀ J, cH C c (n + 1) t K L J R → cuP C K L J R Y → P (some (.int (-2))) (n + 1, t, K, L, J, R)) → a_does (d + 69) 10 [a_rf C, .int (-2)] (n + 1, t, K, L, I, R) (fun q h' => a_at (d + 69) (a_xm a_m38) 29 [some (a_rf C), some (.int k), some (.int b), some (.int m), some (.int g), some (.int e), some (.int x), some (.int y), none] (q.toList ++ []) h' P) := fun hq => by
    refine ge_refuse (d := d + 68) hH hu (fun J z1 z2 => ?_)
    have hp := hq J z1 z2
    clear hq hP hc hu
    simp only [q38_29, as_nil, as_i, as_r, Nat.reduceAdd, Nat.reduceLeDiff, z_eq0, z_eq1, z_or, z_em, Classical.not_not, not_false_eq_true, not_true_eq_false, true_and, and_true, false_and, and_false, and_self, true_implies, false_implies, implies_true, Option.toList_some, Option.toList_none, List.cons_append, List.nil_append, Nat.add_eq_zero_iff, a_nl_i, a_nl_r, a_nl_n, true_or, or_true, eq_self, a_isRA_22, a_isRA_24, a_isRA_32, a_isA_20, ok_4, ok_5, ok_6, ok_7, ok_9, ok_20, ok_21, ok_30, ok_50, ok_180, ok_192, ok_200]
    exact hp
  have hr60 : (∀ J, cH C c (n + 1) t K L J R → cuP C K L J R Y → P (some (.int (-4))) (n + 1, t, K, L, J, R)) → a_does (d + 69) 10 [a_rf C, .int (-4)] (n + 1, t, K, L, I, R) (fun q h' => a_at (d + 69) (a_xm a_m38) 60 [some (a_rf C), some (.int k), some (.int b), some (.int m), some (.int g), some (.int e), some (.int x), some (.int y), none] (q.toList ++ []) h' P) := fun hq => by
    refine ge_refuse (d := d + 68) hH hu (fun J z1 z2 => ?_)
    have hp := hq J z1 z2
    clear hq hP hc hu
    simp only [q38_60, as_nil, as_i, as_r, Nat.reduceAdd, Nat.reduceLeDiff, z_eq0, z_eq1, z_or, z_em, Classical.not_not, not_false_eq_true, not_true_eq_false, true_and, and_true, false_and, and_false, and_self, true_implies, false_implies, implies_true, Option.toList_some, Option.toList_none, List.cons_append, List.nil_append, Nat.add_eq_zero_iff, a_nl_i, a_nl_r, a_nl_n, true_or, or_true, eq_self, a_isRA_22, a_isRA_24, a_isRA_32, a_isA_20, ok_4, ok_5, ok_6, ok_7, ok_9, ok_20, ok_21, ok_30, ok_50, ok_180, ok_192, ok_200]
    exact hp
  have hr109 : (∀ J, cH C c (n + 1) t K L J R → cuP C K L J R Y → P (some (.int (-6))) (n + 1, t, K, L, J, R)) → a_does (d + 69) 10 [a_rf C, .int (-6)] (n + 1, t, K, L, I, R) (fun q h' => a_at (d + 69) (a_xm a_m38) 109 [some (a_rf C), some (.int k), some (.int b), some (.int m), some (.int g), some (.int e), some (.int x), some (.int y), none] (q.toList ++ []) h' P) := fun hq => by
    refine ge_refuse (d := d + 68) hH hu (fun J z1 z2 => ?_)
    have hp := hq J z1 z2
    clear hq hP hc hu
    simp only [q38_109, as_nil, as_i, as_r, Nat.reduceAdd, Nat.reduceLeDiff, z_eq0, z_eq1, z_or, z_em, Classical.not_not, not_false_eq_true, not_true_eq_false, true_and, and_true, false_and, and_false, and_self, true_implies, false_implies, implies_true, Option.toList_some, Option.toList_none, List.cons_append, List.nil_append, Nat.add_eq_zero_iff, a_nl_i, a_nl_r, a_nl_n, true_or, or_true, eq_self, a_isRA_22, a_isRA_24, a_isRA_32, a_isA_20, ok_4, ok_5, ok_6, ok_7, ok_9, ok_20, ok_21, ok_30, ok_50, ok_180, ok_192, ok_200]
    exact hp
  have hr128 : (∀ J, cH C c (n + 1) t K L J R → cuP C K L J R Y → P (some (.int (-1))) (n + 1, t, K, L, J, R)) → a_does (d + 69) 10 [a_rf C, .int (-1)] (n + 1, t, K, L, I, R) (fun q h' => a_at (d + 69) (a_xm a_m38) 128 [some (a_rf C), some (.int k), some (.int b), some (.int m), some (.int g), some (.int e), some (.int x), some (.int y), none] (q.toList ++ []) h' P) := fun hq => by
    refine ge_refuse (d := d + 68) hH hu (fun J z1 z2 => ?_)
    have hp := hq J z1 z2
    clear hq hP hc hu
    simp only [q38_128, as_nil, as_i, as_r, Nat.reduceAdd, Nat.reduceLeDiff, z_eq0, z_eq1, z_or, z_em, Classical.not_not, not_false_eq_true, not_true_eq_false, true_and, and_true, false_and, and_false, and_self, true_implies, false_implies, implies_true, Option.toList_some, Option.toList_none, List.cons_append, List.nil_append, Nat.add_eq_zero_iff, a_nl_i, a_nl_r, a_nl_n, true_or, or_true, eq_self, a_isRA_22, a_isRA_24, a_isRA_32, a_isA_20, ok_4, ok_5, ok_6, ok_7, ok_9, ok_20, ok_21, ok_30, ok_50, ok_180, ok_192, ok_200]
    exact hp
  have hr151 : (∀ J, cH C c (n + 1) t K L J R → cuP C K L J R Y → P (some (.int (-1))) (n + 1, t, K, L, J, R)) → a_does (d + 69) 10 [a_rf C, .int (-1)] (n + 1, t, K, L, I, R) (fun q h' => a_at (d + 69) (a_xm a_m38) 151 [some (a_rf C), some (.int k), some (.int b), some (.int m), some (.int g), some (.int e), some (.int x), some (.int y), none] (q.toList ++ []) h' P) := fun hq => by
    refine ge_refuse (d := d + 68) hH hu (fun J z1 z2 => ?_)
    have hp := hq J z1 z2
    clear hq hP hc hu
    simp only [q38_151, as_nil, as_i, as_r, Nat.reduceAdd, Nat.reduceLeDiff, z_eq0, z_eq1, z_or, z_em, Classical.not_not, not_false_eq_true, not_true_eq_false, true_and, and_true, false_and, and_false, and_self, true_implies, false_implies, implies_true, Option.toList_some, Option.toList_none, List.cons_append, List.nil_append, Nat.add_eq_zero_iff, a_nl_i, a_nl_r, a_nl_n, true_or, or_true, eq_self, a_isRA_22, a_isRA_24, a_isRA_32, a_isA_20, ok_4, ok_5, ok_6, ok_7, ok_9, ok_20, ok_21, ok_30, ok_50, ok_180, ok_192, ok_200]
    exact hp
  by_cases c1 : Y 0 12 = 0
  · rw [if_pos c1] at hP
    have hr := hr13 (fun J z1 z2 => hP n t K L J R z1 z2)
    have d0 := d1.mpr c1
    clear hP hc hu hr13 hr29 hr60 hr109 hr128 hr151
    rw [a_enter1 (M := a_m38) rfl (a_cat_rf (a_cat_int (a_cat_int (a_cat_int (a_cat_int (a_cat_int (a_cat_int (a_cat_int a_cat_nil)))))))) (show 8 ≤ 9 by decide)]
    show a_at _ (a_xm a_m38) 0 [some (a_rf C), some (.int k), some (.int b), some (.int m), some (.int g), some (.int e), some (.int x), some (.int y), none] [] _ _
    simp only [q38_0, q38_1, q38_4, q38_7, q38_8, q38_10, k_0 hS, z_C hS, as_nil, as_i, as_r, Nat.reduceAdd, Nat.reduceLeDiff, z_eq0, z_eq1, z_or, z_em, Classical.not_not, not_false_eq_true, not_true_eq_false, true_and, and_true, false_and, and_false, and_self, true_implies, false_implies, implies_true, Option.toList_some, Option.toList_none, List.cons_append, List.nil_append, Nat.add_eq_zero_iff, a_nl_i, a_nl_r, a_nl_n, true_or, or_true, eq_self, a_isRA_22, a_isRA_24, a_isRA_32, a_isA_20, ok_4, ok_5, ok_6, ok_7, ok_9, ok_20, ok_21, ok_30, ok_50, ok_180, ok_192, ok_200, d0]
    try simp only [true_and, and_true, true_implies, false_implies, implies_true, not_true_eq_false, not_false_eq_true]
    first
      | exact hr
      | grind
  · rw [if_neg c1] at hP
    have hd : ¬ (R C 11) = 0 := fun w => c1 (d1.mp w)
    obtain ⟨kD, -⟩ := d2 hd
    have gD := (hT.g_ask _ kD).1
    have d0 : ((R C 11) = 0) = False := eq_false hd
    by_cases c2 : 0 ≤ k ∧ k ≤ 4
    · rw [if_neg (fun q => q c2)] at hP
      have k0 : ¬ k < 0 := Int32.not_lt.mpr c2.1
      by_cases c3 : b < 0 ∨ m < 0 ∨ e < 0 ∨ (k = 1 ∧ y < 0) ∨ (k = 2 ∧ (x < 0 ∨ y < x))
      · rw [if_pos c3] at hP
        have hr := hr60 (fun J z1 z2 => hP n t K L J R z1 z2)
        have n10 : ¬ (1 : Int32) = 0 := by decide
        clear hP hc hu hr13 hr29 hr60 hr109 hr128 hr151
        rw [a_enter1 (M := a_m38) rfl (a_cat_rf (a_cat_int (a_cat_int (a_cat_int (a_cat_int (a_cat_int (a_cat_int (a_cat_int a_cat_nil)))))))) (show 8 ≤ 9 by decide)]
        show a_at _ (a_xm a_m38) 0 [some (a_rf C), some (.int k), some (.int b), some (.int m), some (.int g), some (.int e), some (.int x), some (.int y), none] [] _ _
        simp only [q38_0, q38_1, q38_4, q38_14, q38_15, q38_18, q38_19, q38_20, q38_30, q38_31, q38_34, q38_35, q38_38, q38_40, q38_43, q38_44, q38_46, q38_48, q38_51, q38_54, q38_55, q38_57, k_0 hS, z_C hS, as_nil, as_i, as_r, Nat.reduceAdd, Nat.reduceLeDiff, z_eq0, z_eq1, z_or, z_em, Classical.not_not, not_false_eq_true, not_true_eq_false, true_and, and_true, false_and, and_false, and_self, true_implies, false_implies, implies_true, Option.toList_some, Option.toList_none, List.cons_append, List.nil_append, Nat.add_eq_zero_iff, a_nl_i, a_nl_r, a_nl_n, true_or, or_true, eq_self, a_isRA_22, a_isRA_24, a_isRA_32, a_isA_20, ok_4, ok_5, ok_6, ok_7, ok_9, ok_20, ok_21, ok_30, ok_50, ok_180, ok_192, ok_200, sp_daysBelow, d0, k0, c2]
        try simp only [true_and, and_true, true_implies, false_implies, implies_true, not_true_eq_false, not_false_eq_true]
        grind
      · rw [if_neg c3] at hP
        have b0 : ¬ b < 0 := fun w => c3 (Or.inl w)
        have m0 : ¬ m < 0 := fun w => c3 (Or.inr (Or.inl w))
        have e0 : ¬ e < 0 := fun w => c3 (Or.inr (Or.inr (Or.inl w)))
        have dB : ((k = 1 ∧ y < 0) ∨ (k = 2 ∧ (x < 0 ∨ y < x))) = False := eq_false (fun w => c3 (Or.inr (Or.inr (Or.inr w))))
        have b0' := Int32.not_lt.mp b0
        have m0' := Int32.not_lt.mp m0
        have e0' := Int32.not_lt.mp e0
        by_cases c4 : 63 < b ∨ 15 < m ∨ 9 < e ∨ (k = 1 ∧ 30 < y) ∨ (k = 2 ∧ 199 < y) ∨ Y 0 17 = 30
        · rw [if_pos c4] at hP
          have hr := hr109 (fun J z1 z2 => hP n t K L J R z1 z2)
          have n10 : ¬ (1 : Int32) = 0 := by decide
          have c4' : 63 < b ∨ 15 < m ∨ 9 < e ∨ ((k = 1 ∧ 30 < y) ∨ (k = 2 ∧ (200 ≤ x ∨ 200 ≤ y))) ∨ ¬ Y 0 17 < 30 := by clear hP hc hu hr13 hr29 hr60 hr109 hr128 hr151; grind
          clear hP hc hu hr13 hr29 hr60 hr109 hr128 hr151 c3 c4
          rw [a_enter1 (M := a_m38) rfl (a_cat_rf (a_cat_int (a_cat_int (a_cat_int (a_cat_int (a_cat_int (a_cat_int (a_cat_int a_cat_nil)))))))) (show 8 ≤ 9 by decide)]
          show a_at _ (a_xm a_m38) 0 [some (a_rf C), some (.int k), some (.int b), some (.int m), some (.int g), some (.int e), some (.int x), some (.int y), none] [] _ _
          simp only [q38_0, q38_1, q38_4, q38_14, q38_15, q38_18, q38_19, q38_20, q38_30, q38_31, q38_34, q38_35, q38_38, q38_40, q38_43, q38_44, q38_46, q38_48, q38_51, q38_61, q38_62, q38_64, q38_67, q38_68, q38_70, q38_73, q38_75, q38_77, q38_80, q38_81, q38_83, q38_85, q38_88, q38_91, q38_92, q38_95, q38_98, q38_100, q38_103, q38_104, q38_106, k_0 hS, z_C hS, r_0_4 hS, k_14 hS, z_14, as_nil, as_i, as_r, Nat.reduceAdd, Nat.reduceLeDiff, z_eq0, z_eq1, z_or, z_em, Classical.not_not, not_false_eq_true, not_true_eq_false, true_and, and_true, false_and, and_false, and_self, true_implies, false_implies, implies_true, Option.toList_some, Option.toList_none, List.cons_append, List.nil_append, Nat.add_eq_zero_iff, a_nl_i, a_nl_r, a_nl_n, true_or, or_true, eq_self, a_isRA_22, a_isRA_24, a_isRA_32, a_isA_20, ok_4, ok_5, ok_6, ok_7, ok_9, ok_20, ok_21, ok_30, ok_50, ok_180, ok_192, ok_200, sp_daysBelow, sp_daysAbove, d0, k0, c2, b0, m0, e0, b0', m0', e0', dB, e4]
          try simp only [true_and, and_true, true_implies, false_implies, implies_true, not_true_eq_false, not_false_eq_true]
          generalize ((k = 1 ∧ 30 < y) ∨ (k = 2 ∧ (200 ≤ x ∨ 200 ≤ y))) = q at c4' ⊢
          grind
        · rw [if_neg c4] at hP
          have b1 : ¬ 63 < b := fun w => c4 (Or.inl w)
          have m1 : ¬ 15 < m := fun w => c4 (Or.inr (Or.inl w))
          have e1 : ¬ 9 < e := fun w => c4 (Or.inr (Or.inr (Or.inl w)))
          have dA : ((k = 1 ∧ 30 < y) ∨ (k = 2 ∧ (200 ≤ x ∨ 200 ≤ y))) = False := eq_false (fun w => by clear hP hc hu hr13 hr29 hr60 hr109 hr128 hr151; grind)
          have h30 : Y 0 17 < 30 := by clear hP hc hu hr13 hr29 hr60 hr109 hr128 hr151; grind
          have b1' := Int32.not_lt.mp b1
          have m1' := Int32.not_lt.mp m1
          have e1' := Int32.not_lt.mp e1
          by_cases c5 : ¬ (-1 ≤ g ∧ g ≤ 5) ∨ (k = 1 ∧ ¬ (0 ≤ x ∧ x < Y 0 17))
          · rw [if_pos c5] at hP
            have hr := hr128 (fun J z1 z2 => hP n t K L J R z1 z2)
            have hr' := hr151 (fun J z1 z2 => hP n t K L J R z1 z2)
            have hx : (0 ≤ x ∧ x < I (C + 14) 4 ∧ x < 30) ↔ (0 ≤ x ∧ x < Y 0 17) := by
              rw [e4]
              exact ⟨fun q => ⟨q.1, q.2.1⟩, fun q => ⟨q.1, q.2, Int32.lt_of_lt_of_le q.2 h17.2⟩⟩
            clear hP hc hu hr13 hr29 hr60 hr109 hr128 hr151 c3 c4
            rw [a_enter1 (M := a_m38) rfl (a_cat_rf (a_cat_int (a_cat_int (a_cat_int (a_cat_int (a_cat_int (a_cat_int (a_cat_int a_cat_nil)))))))) (show 8 ≤ 9 by decide)]
            show a_at _ (a_xm a_m38) 0 [some (a_rf C), some (.int k), some (.int b), some (.int m), some (.int g), some (.int e), some (.int x), some (.int y), none] [] _ _
            simp only [q38_0, q38_1, q38_4, q38_14, q38_15, q38_18, q38_19, q38_20, q38_30, q38_31, q38_34, q38_35, q38_38, q38_40, q38_43, q38_44, q38_46, q38_48, q38_51, q38_61, q38_62, q38_64, q38_67, q38_68, q38_70, q38_73, q38_75, q38_77, q38_80, q38_81, q38_83, q38_85, q38_88, q38_91, q38_92, q38_95, q38_98, q38_100, q38_110, q38_112, q38_113, q38_116, q38_118, q38_120, q38_123, q38_124, q38_125, q38_128, q38_129, q38_130, q38_131, q38_134, q38_135, q38_138, q38_140, q38_143, q38_146, q38_147, q38_148, k_0 hS, z_C hS, r_0_4 hS, k_14 hS, z_14, sp_askAt hS gA, as_nil, as_i, as_r, Nat.reduceAdd, Nat.reduceLeDiff, z_eq0, z_eq1, z_or, z_em, Classical.not_not, not_false_eq_true, not_true_eq_false, true_and, and_true, false_and, and_false, and_self, true_implies, false_implies, implies_true, Option.toList_some, Option.toList_none, List.cons_append, List.nil_append, Nat.add_eq_zero_iff, a_nl_i, a_nl_r, a_nl_n, true_or, or_true, eq_self, a_isRA_22, a_isRA_24, a_isRA_32, a_isA_20, ok_4, ok_5, ok_6, ok_7, ok_9, ok_20, ok_21, ok_30, ok_50, ok_180, ok_192, ok_200, sp_daysBelow, sp_daysAbove, d0, k0, c2, b0, m0, e0, b0', m0', e0', dB, e4, b1, m1, e1, b1', m1', e1', dA, h30]
            try simp only [true_and, and_true, true_implies, false_implies, implies_true, not_true_eq_false, not_false_eq_true]
            clear dB dA
            rw [e4] at hx
            grind
          · rw [if_neg c5] at hP
            have g0 : ¬ g < -1 ∧ g < 6 := by clear hP hc hu hr13 hr29 hr60 hr109 hr128 hr151; grind
            have g1 : -1 ≤ g := Int32.not_lt.mp g0.1
            have hk : k = 1 → 0 ≤ x ∧ x < Y 0 17 := fun w => Classical.byContradiction (fun z => c5 (Or.inr ⟨w, z⟩))
            have hx : k = 1 → (0 ≤ x ∧ x < Y 0 17 ∧ x < 30) ∧ ¬ R (C + 15) x.toNatClampNeg = 0 := fun w => ⟨⟨(hk w).1, (hk w).2, Int32.lt_of_lt_of_le (hk w).2 h17.2⟩, (aa_of hc (hk w).1 (hk w).2).2.1.2.1⟩
            have hT7 : cT C K L (a_ui (a_ui (a_ui (a_ui (a_ui (a_ui (a_ui I (R C 11) 6 b) (R C 11) 7 m) (R C 11) 8 g) (R C 11) 9 e) (R C 11) 5 k) (R C 11) 10 x) (R C 11) 11 y) R := sT_askf (sT_askf (sT_askf (sT_askf (sT_askf (sT_askf (sT_askf hT gD kD (by decide)) gD kD (by decide)) gD kD (by decide)) gD kD (by decide)) gD kD (by decide)) gD kD (by decide)) gD kD (by decide)
            have z1 := (cZ_Rd (cZ_refl (cH_J hH hT7)) (v := 0) (Or.inl rfl)).2.1
            have hadd : a_does (d + 69) 43 [a_rf (C + 14), a_rf (R C 11)] (n + 1, t, K, L, (a_ui (a_ui (a_ui (a_ui (a_ui (a_ui (a_ui I (R C 11) 6 b) (R C 11) 7 m) (R C 11) 8 g) (R C 11) 9 e) (R C 11) 5 k) (R C 11) 10 x) (R C 11) 11 y), a_ur R C 11 0) (fun q h' => a_at (d + 69) (a_xm a_m38) 193 [some (a_rf C), some (.int k), some (.int b), some (.int m), some (.int g), some (.int e), some (.int x), some (.int y), some (a_rf (R C 11))] (q.toList ++ []) h' P) := by
              refine ce_addAsk (d := d + 68) (m := Y 0 17) kD z1 (by rw [ui_ap, if_neg (by omega), ui_ap, if_neg (by omega), ui_ap, if_neg (by omega), ui_ap, if_neg (by omega), ui_ap, if_neg (by omega), ui_ap, if_neg (by omega), ui_ap, if_neg (by omega)]; exact e4) h30 (fun hH9 => ?_)
              have hp := hP n t K L _ _ hH9 (cu_askW hH hu c1 h30 (hnw _ (a_lt30 ⟨h17.1, h30⟩) (Nat.le_refl _)) hk)
              clear hP hc hu hr13 hr29 hr60 hr109 hr128 hr151 hH9
              simp only [q38_193, as_nil, as_i, as_r, Nat.reduceAdd, Nat.reduceLeDiff, z_eq0, z_eq1, z_or, z_em, Classical.not_not, not_false_eq_true, not_true_eq_false, true_and, and_true, false_and, and_false, and_self, true_implies, false_implies, implies_true, Option.toList_some, Option.toList_none, List.cons_append, List.nil_append, Nat.add_eq_zero_iff, a_nl_i, a_nl_r, a_nl_n, true_or, or_true, eq_self, a_isRA_22, a_isRA_24, a_isRA_32, a_isA_20, ok_4, ok_5, ok_6, ok_7, ok_9, ok_20, ok_21, ok_30, ok_50, ok_180, ok_192, ok_200]
              exact hp
            clear hP hc hu hr13 hr29 hr60 hr109 hr128 hr151 c3 c4 c5 hT7 z1
            have h152 : a_at (d + 69) (a_xm a_m38) 152 [some (a_rf C), some (.int k), some (.int b), some (.int m), some (.int g), some (.int e), some (.int x), some (.int y), none] [] (n + 1, t, K, L, I, R) P := by
              simp only [q38_152, q38_153, q38_156, q38_158, q38_160, q38_161, q38_162, q38_164, q38_166, k_0 hS, z_C hS, as_nil, as_i, as_r, Nat.reduceAdd, Nat.reduceLeDiff, z_eq0, z_eq1, z_or, z_em, Classical.not_not, not_false_eq_true, not_true_eq_false, true_and, and_true, false_and, and_false, and_self, true_implies, false_implies, implies_true, Option.toList_some, Option.toList_none, List.cons_append, List.nil_append, Nat.add_eq_zero_iff, a_nl_i, a_nl_r, a_nl_n, true_or, or_true, eq_self, a_isRA_22, a_isRA_24, a_isRA_32, a_isA_20, ok_4, ok_5, ok_6, ok_7, ok_9, ok_20, ok_21, ok_30, ok_50, ok_180, ok_192, ok_200, kD, d0]
              try simp only [true_and, and_true, true_implies, false_implies, implies_true, not_true_eq_false, not_false_eq_true]
              rw [a_enter1 (M := a_m41) rfl (a_cat_rf (a_cat_int (a_cat_int (a_cat_int (a_cat_int a_cat_nil))))) (show 5 ≤ 5 by decide)]
              show a_at _ (a_xm a_m41) 0 [some (a_rf (R C 11)), some (.int b), some (.int m), some (.int g), some (.int e)] [] _ _
              simp only [q41_0, q41_1, q41_2, q41_5, q41_6, q41_7, q41_10, q41_11, q41_12, q41_15, q41_16, q41_18, q41_21, as_nil, as_i, as_r, Nat.reduceAdd, Nat.reduceLeDiff, z_eq0, z_eq1, z_or, z_em, Classical.not_not, not_false_eq_true, not_true_eq_false, true_and, and_true, false_and, and_false, and_self, true_implies, false_implies, implies_true, Option.toList_some, Option.toList_none, List.cons_append, List.nil_append, Nat.add_eq_zero_iff, a_nl_i, a_nl_r, a_nl_n, true_or, or_true, eq_self, a_isRA_22, a_isRA_24, a_isRA_32, a_isA_20, ok_4, ok_5, ok_6, ok_7, ok_9, ok_20, ok_21, ok_30, ok_50, ok_180, ok_192, ok_200, kD, d0]
              try simp only [true_and, and_true, true_implies, false_implies, implies_true, not_true_eq_false, not_false_eq_true]
              simp only [q38_169, q38_171, q38_172, q38_174, q38_176, k_0 hS, z_C hS, as_nil, as_i, as_r, Nat.reduceAdd, Nat.reduceLeDiff, z_eq0, z_eq1, z_or, z_em, Classical.not_not, not_false_eq_true, not_true_eq_false, true_and, and_true, false_and, and_false, and_self, true_implies, false_implies, implies_true, Option.toList_some, Option.toList_none, List.cons_append, List.nil_append, Nat.add_eq_zero_iff, a_nl_i, a_nl_r, a_nl_n, true_or, or_true, eq_self, a_isRA_22, a_isRA_24, a_isRA_32, a_isA_20, ok_4, ok_5, ok_6, ok_7, ok_9, ok_20, ok_21, ok_30, ok_50, ok_180, ok_192, ok_200, kD, d0]
              try simp only [true_and, and_true, true_implies, false_implies, implies_true, not_true_eq_false, not_false_eq_true]
              rw [a_enter1 (M := a_m42) rfl (a_cat_rf (a_cat_int (a_cat_int (a_cat_int a_cat_nil)))) (show 4 ≤ 4 by decide)]
              show a_at _ (a_xm a_m42) 0 [some (a_rf (R C 11)), some (.int k), some (.int x), some (.int y)] [] _ _
              simp only [q42_0, q42_1, q42_2, q42_5, q42_6, q42_7, q42_10, q42_11, q42_12, q42_15, as_nil, as_i, as_r, Nat.reduceAdd, Nat.reduceLeDiff, z_eq0, z_eq1, z_or, z_em, Classical.not_not, not_false_eq_true, not_true_eq_false, true_and, and_true, false_and, and_false, and_self, true_implies, false_implies, implies_true, Option.toList_some, Option.toList_none, List.cons_append, List.nil_append, Nat.add_eq_zero_iff, a_nl_i, a_nl_r, a_nl_n, true_or, or_true, eq_self, a_isRA_22, a_isRA_24, a_isRA_32, a_isA_20, ok_4, ok_5, ok_6, ok_7, ok_9, ok_20, ok_21, ok_30, ok_50, ok_180, ok_192, ok_200, kD, d0]
              try simp only [true_and, and_true, true_implies, false_implies, implies_true, not_true_eq_false, not_false_eq_true]
              simp only [q38_179, q38_180, q38_181, q38_184, q38_185, q38_188, q38_190, k_0 hS, z_C hS, r_0_4 hS, k_14 hS, z_14, as_nil, as_i, as_r, Nat.reduceAdd, Nat.reduceLeDiff, z_eq0, z_eq1, z_or, z_em, Classical.not_not, not_false_eq_true, not_true_eq_false, true_and, and_true, false_and, and_false, and_self, true_implies, false_implies, implies_true, Option.toList_some, Option.toList_none, List.cons_append, List.nil_append, Nat.add_eq_zero_iff, a_nl_i, a_nl_r, a_nl_n, true_or, or_true, eq_self, a_isRA_22, a_isRA_24, a_isRA_32, a_isA_20, ok_4, ok_5, ok_6, ok_7, ok_9, ok_20, ok_21, ok_30, ok_50, ok_180, ok_192, ok_200, ur_ap, Nat.reduceEqDiff, if_false, kD, d0]
              try simp only [true_and, and_true, true_implies, false_implies, implies_true, not_true_eq_false, not_false_eq_true]
              first
                | exact hadd
                | grind
            clear hadd
            rw [a_enter1 (M := a_m38) rfl (a_cat_rf (a_cat_int (a_cat_int (a_cat_int (a_cat_int (a_cat_int (a_cat_int (a_cat_int a_cat_nil)))))))) (show 8 ≤ 9 by decide)]
            show a_at _ (a_xm a_m38) 0 [some (a_rf C), some (.int k), some (.int b), some (.int m), some (.int g), some (.int e), some (.int x), some (.int y), none] [] _ _
            simp only [q38_0, q38_1, q38_4, q38_14, q38_15, q38_18, q38_19, q38_20, q38_30, q38_31, q38_34, q38_35, q38_38, q38_40, q38_43, q38_44, q38_46, q38_48, q38_51, q38_61, q38_62, q38_64, q38_67, q38_68, q38_70, q38_73, q38_75, q38_77, q38_80, q38_81, q38_83, q38_85, q38_88, q38_91, q38_92, q38_95, q38_98, q38_100, q38_110, q38_112, q38_113, q38_116, q38_118, q38_120, q38_123, q38_124, q38_125, q38_128, q38_129, q38_130, q38_131, q38_134, q38_135, q38_138, q38_140, q38_143, k_0 hS, z_C hS, r_0_4 hS, k_14 hS, z_14, sp_askAt hS gA, as_nil, as_i, as_r, Nat.reduceAdd, Nat.reduceLeDiff, z_eq0, z_eq1, z_or, z_em, Classical.not_not, not_false_eq_true, not_true_eq_false, true_and, and_true, false_and, and_false, and_self, true_implies, false_implies, implies_true, Option.toList_some, Option.toList_none, List.cons_append, List.nil_append, Nat.add_eq_zero_iff, a_nl_i, a_nl_r, a_nl_n, true_or, or_true, eq_self, a_isRA_22, a_isRA_24, a_isRA_32, a_isA_20, ok_4, ok_5, ok_6, ok_7, ok_9, ok_20, ok_21, ok_30, ok_50, ok_180, ok_192, ok_200, sp_daysBelow, sp_daysAbove, d0, k0, c2, b0, m0, e0, b0', m0', e0', dB, e4, b1, m1, e1, b1', m1', e1', dA, h30, g0, g1]
            try simp only [true_and, and_true, true_implies, false_implies, implies_true, not_true_eq_false, not_false_eq_true]
            clear dB dA hnw
            by_cases k1 : k = 1
            · obtain ⟨x1, x2⟩ := hx k1
              have x2' : (R (C + 15) x.toNatClampNeg = 0) = False := eq_false x2
              have gx := hT.g_asksR x.toNatClampNeg
              simp only [k1, x1, x2']
              try simp only [true_and, and_true, true_implies, false_implies, implies_true, not_true_eq_false, not_false_eq_true]
              rw [k1] at h152
              first
                | exact h152
                | exact ⟨gx, h152⟩
                | exact ⟨fun q => absurd x1 q, h152⟩
                | grind
            · simp only [k1]
              try simp only [true_and, and_true, true_implies, false_implies, implies_true, not_true_eq_false, not_false_eq_true]
              first
                | exact h152
                | grind
    · rw [if_pos c2] at hP
      have hr := hr29 (fun J z1 z2 => hP n t K L J R z1 z2)
      clear hP hc hu hr13 hr29 hr60 hr109 hr128 hr151
      rw [a_enter1 (M := a_m38) rfl (a_cat_rf (a_cat_int (a_cat_int (a_cat_int (a_cat_int (a_cat_int (a_cat_int (a_cat_int a_cat_nil)))))))) (show 8 ≤ 9 by decide)]
      show a_at _ (a_xm a_m38) 0 [some (a_rf C), some (.int k), some (.int b), some (.int m), some (.int g), some (.int e), some (.int x), some (.int y), none] [] _ _
      simp only [q38_0, q38_1, q38_4, q38_14, q38_15, q38_18, q38_19, q38_20, q38_23, q38_24, q38_26, k_0 hS, z_C hS, as_nil, as_i, as_r, Nat.reduceAdd, Nat.reduceLeDiff, z_eq0, z_eq1, z_or, z_em, Classical.not_not, not_false_eq_true, not_true_eq_false, true_and, and_true, false_and, and_false, and_self, true_implies, false_implies, implies_true, Option.toList_some, Option.toList_none, List.cons_append, List.nil_append, Nat.add_eq_zero_iff, a_nl_i, a_nl_r, a_nl_n, true_or, or_true, eq_self, a_isRA_22, a_isRA_24, a_isRA_32, a_isA_20, ok_4, ok_5, ok_6, ok_7, ok_9, ok_20, ok_21, ok_30, ok_50, ok_180, ok_192, ok_200, d0]
      try simp only [true_and, and_true, true_implies, false_implies, implies_true, not_true_eq_false, not_false_eq_true]
      grind
end ZI0
end
section
/-! ask of the reference -/
section ZJ0
variable {d n t M : Nat} {K L : Nat → Nat} {I I0 J J0 J1 J2 : Nat → Nat → Int32} {R : Nat → Nat → Nat} {P : Option Value → AH → Prop} {f : Nat → Int32} {e : Int32}
variable {Y Z W : Nat → Nat → Int32}
theorem gs_ask {M : Nat} (hg : gs M I0 I Y) (h17 : 0 ≤ Y 0 17 ∧ Y 0 17 < 30) {k b m g e x y : Int32} (hx : k = 1 → 0 ≤ x ∧ x ≤ 29) : gs M I0 (a_ui (a_ui (a_ui (a_ui (a_ui (a_ui (a_ui (a_ui (a_ui (a_ui (a_ui (a_ui (a_ui (a_ui (a_ui I (M + 7) (I M 17).toNatClampNeg k) (M + 8) (I M 17).toNatClampNeg (I M 13)) (M + 9) (I M 17).toNatClampNeg (I M 14)) (M + 10) (I M 17).toNatClampNeg (I M 15)) (M + 11) (I M 17).toNatClampNeg (I M 16)) (M + 20) (I M 17).toNatClampNeg (-9)) (M + 21) (I M 17).toNatClampNeg (-9)) M 17 (I M 17 + 1)) (M + 12) (I M 17).toNatClampNeg b) (M + 13) (I M 17).toNatClampNeg m) (M + 14) (I M 17).toNatClampNeg g) (M + 15) (I M 17).toNatClampNeg e) (M + 16) (I M 17).toNatClampNeg x) (M + 17) (I M 17).toNatClampNeg y) M 12 0) (akW Y k b m g e x y) := by
  have e17 : I M 17 = Y 0 17 := hg.2.2.1 0 17 (by unfold ps1; omega)
  have e13 : I M 13 = Y 0 13 := hg.2.2.1 0 13 (by unfold ps1; omega)
  have e14 : I M 14 = Y 0 14 := hg.2.2.1 0 14 (by unfold ps1; omega)
  have e15 : I M 15 = Y 0 15 := hg.2.2.1 0 15 (by unfold ps1; omega)
  have e16 : I M 16 = Y 0 16 := hg.2.2.1 0 16 (by unfold ps1; omega)
  have hR := ask_R hg.1 (k := k) (l := I M 14) (w := I M 16) (p := b) (q := m) (r := g) (s := e) (x := x) (y := y) (by rw [e17]; exact h17.2) (rg_draftGroup hg.1) (rg_draftLong hg.1) hx
  rw [e17, e13, e14, e15, e16] at hR ⊢
  have hyv : yv M (a_ui (a_ui (a_ui (a_ui (a_ui (a_ui (a_ui (a_ui (a_ui (a_ui (a_ui (a_ui (a_ui (a_ui (a_ui I (M + 7) (Y 0 17).toNatClampNeg k) (M + 8) (Y 0 17).toNatClampNeg (Y 0 13)) (M + 9) (Y 0 17).toNatClampNeg (Y 0 14)) (M + 10) (Y 0 17).toNatClampNeg (Y 0 15)) (M + 11) (Y 0 17).toNatClampNeg (Y 0 16)) (M + 20) (Y 0 17).toNatClampNeg (-9)) (M + 21) (Y 0 17).toNatClampNeg (-9)) M 17 (Y 0 17 + 1)) (M + 12) (Y 0 17).toNatClampNeg b) (M + 13) (Y 0 17).toNatClampNeg m) (M + 14) (Y 0 17).toNatClampNeg g) (M + 15) (Y 0 17).toNatClampNeg e) (M + 16) (Y 0 17).toNatClampNeg x) (M + 17) (Y 0 17).toNatClampNeg y) M 12 0) = (upY (upY (upY (upY (upY (upY (upY (upY (upY (upY (upY (upY (upY (upY (upY (yv M I) 7 (Y 0 17).toNatClampNeg k) 8 (Y 0 17).toNatClampNeg (Y 0 13)) 9 (Y 0 17).toNatClampNeg (Y 0 14)) 10 (Y 0 17).toNatClampNeg (Y 0 15)) 11 (Y 0 17).toNatClampNeg (Y 0 16)) 20 (Y 0 17).toNatClampNeg (-9)) 21 (Y 0 17).toNatClampNeg (-9)) 0 17 (Y 0 17 + 1)) 12 (Y 0 17).toNatClampNeg b) 13 (Y 0 17).toNatClampNeg m) 14 (Y 0 17).toNatClampNeg g) 15 (Y 0 17).toNatClampNeg e) 16 (Y 0 17).toNatClampNeg x) 17 (Y 0 17).toNatClampNeg y) 0 12 0) := by rw [yv_up0, yv_up, yv_up, yv_up, yv_up, yv_up, yv_up, yv_up0, yv_up, yv_up, yv_up, yv_up, yv_up, yv_up, yv_up]
  have ab := ak_at (Y := Y) (k := k) (b := b) (m := m) (g := g) (e := e) (x := x) (y := y)
  refine gs_mk2 hg hR (fun z j p => by rw [ui_ap, if_neg (by omega), ui_ap, if_neg (by omega), ui_ap, if_neg (by omega), ui_ap, if_neg (by omega), ui_ap, if_neg (by omega), ui_ap, if_neg (by omega), ui_ap, if_neg (by omega), ui_ap, if_neg (by omega), ui_ap, if_neg (by omega), ui_ap, if_neg (by omega), ui_ap, if_neg (by omega), ui_ap, if_neg (by omega), ui_ap, if_neg (by omega), ui_ap, if_neg (by omega), ui_ap, if_neg (by omega)]) (fun j => ak_no (by omega) (by omega)) (fun j => by rw [ui_ap, if_neg (by omega), ui_ap, if_neg (by omega), ui_ap, if_neg (by omega), ui_ap, if_neg (by omega), ui_ap, if_neg (by omega), ui_ap, if_neg (by omega), ui_ap, if_neg (by omega), ui_ap, if_neg (by omega), ui_ap, if_neg (by omega), ui_ap, if_neg (by omega), ui_ap, if_neg (by omega), ui_ap, if_neg (by omega), ui_ap, if_neg (by omega), ui_ap, if_neg (by omega), ui_ap, if_neg (by omega)]) (fun o o0 o1 o2 => ?_) (fun q j p => ?_)
  · by_cases e : o.toNatClampNeg = (Y 0 17).toNatClampNeg
    · rw [e, ab.2.2.2.2.2.1] at o2
      exact absurd o2 (by decide)
    · exact ⟨ak_no (by omega) (by omega), ak_no (by omega) (by omega)⟩
  · exact (congrFun (congrFun hyv q) j).trans ((up_S (up_S (up_S (up_S (up_S (up_S (up_S (up_S (up_S (up_S (up_S (up_S (up_S (up_S (up_S hg.2.2.1 rfl) rfl) rfl) rfl) rfl) rfl) rfl) rfl) rfl) rfl) rfl) rfl) rfl) rfl) rfl) q j p)
theorem xp_ask (hS : m_S M K L R) {I1 : Nat → Nat → Int32} (hm : okY Y) {c : Nat} (hc : c + 130 ≤ 84000) (hF : mF M c I1 I) (hg : gs M I0 I Y) {k b m g e x y : Int32} (hP : ∀ J, mF M (c + 120) I1 J → gs M I0 J (akY Y k b m g e x y).2 → P (some (.int (akY Y k b m g e x y).1)) (n, t, K, L, J, R)) : a_does (d + 13) 181 [a_rf M, .int k, .int b, .int m, .int g, .int e, .int x, .int y] (n, t, K, L, I, R) P := by
  have hy := hm.1
  have h17 := hy.2.2.2.2.1
  have h10 := hy.2.1
  have h6 := hy.2.2.2.2.2.1
  have hl := hy.2.2.1
  have hrf : ∀ k : Nat, mF M (c + 120) I1 (a_ui I (M + 23) k (I (M + 23) k + 1)) ∧ gs M I0 (a_ui I (M + 23) k (I (M + 23) k + 1)) Y := fun k => ⟨mF_le (sF_refused hF) (by omega), gs_ui hg (sR_refused hg.1) (by omega) ⟨by unfold ps1; omega, by omega⟩⟩
  have e17 : I M 17 = Y 0 17 := hg.2.2.1 0 17 (by unfold ps1; omega)
  have e6 : I M 6 = Y 0 6 := hg.2.2.1 0 6 (by unfold ps1; omega)
  have e0 : I M 0 = Y 0 0 := hg.2.2.1 0 0 (by unfold ps1; omega)
  have m17 : ∀ x : Int32, (x ≤ Y 0 17 - 1) = (x < Y 0 17) := fun x => le_m1 h17
  have m6 : ∀ x : Int32, (x ≤ Y 0 6 - 1) = (x < Y 0 6) := fun x => le_m1 ⟨h6.1, Int32.le_trans h6.2 (by decide)⟩
  have m199 : ∀ x : Int32, (x ≤ 199) = (x < 200) := fun x => propext ⟨fun q => Int32.lt_of_le_of_lt q (by decide), fun q => by clear hP hrf hm hg hF; grind⟩
  have e12 : I M 12 = Y 0 12 := hg.2.2.1 0 12 (by unfold ps1; omega)
  unfold akY at hP
  by_cases c1 : Y 0 12 = 0
  · rw [if_pos c1] at hP
    have hr := hP _ (hrf 5).1 (hrf 5).2
    clear hP hrf hm hy hl hg hF
    rw [a_enter1 (M := a_m181) rfl (a_cat_rf (a_cat_int (a_cat_int (a_cat_int (a_cat_int (a_cat_int (a_cat_int (a_cat_int a_cat_nil)))))))) (show 8 ≤ 9 by decide)]
    show a_at _ (a_xm a_m181) 0 [some (a_rf M), some (.int k), some (.int b), some (.int m), some (.int g), some (.int e), some (.int x), some (.int y), none] [] _ _
    simp only [q181_0, q181_1, q181_4, q181_7, q181_8, q181_10, q181_13, m_0 hS, m_K hS, sp_refuse_1 hS, sp_refuse_2 hS, sp_refuse_3 hS, sp_refuse_4 hS, sp_refuse_5 hS, sp_refuse_6 hS, as_nil, as_i, as_r, Nat.reduceAdd, Nat.reduceLeDiff, z_eq0, z_eq1, z_or, z_em, Classical.not_not, not_false_eq_true, not_true_eq_false, true_and, and_true, false_and, and_false, and_self, true_implies, false_implies, implies_true, Option.toList_some, Option.toList_none, List.cons_append, List.nil_append, Nat.add_eq_zero_iff, a_nl_i, a_nl_r, a_nl_n, true_or, or_true, eq_self, ok_4, ok_5, ok_6, ok_7, ok_9, ok_10, ok_20, ok_21, ok_24, ok_30, ok_48, ok_50, ok_60, ok_80, ok_120, ok_180, ok_192, ok_200, ok_900, ok_1000, ok_84000, e12, c1]
    try simp only [true_and, and_true, true_implies, false_implies, implies_true, not_true_eq_false, not_false_eq_true]
    first
      | exact hr
      | grind
  · rw [if_neg c1] at hP
    by_cases c2 : 0 ≤ k ∧ k ≤ 4
    · rw [if_neg (fun q => q c2)] at hP
      by_cases c3 : b < 0 ∨ m < 0 ∨ e < 0 ∨ (k = 1 ∧ y < 0) ∨ (k = 2 ∧ (x < 0 ∨ y < x))
      · rw [if_pos c3] at hP
        have hr := hP _ (hrf 4).1 (hrf 4).2
        clear hP hrf hm hy hl hg hF
        rw [a_enter1 (M := a_m181) rfl (a_cat_rf (a_cat_int (a_cat_int (a_cat_int (a_cat_int (a_cat_int (a_cat_int (a_cat_int a_cat_nil)))))))) (show 8 ≤ 9 by decide)]
        show a_at _ (a_xm a_m181) 0 [some (a_rf M), some (.int k), some (.int b), some (.int m), some (.int g), some (.int e), some (.int x), some (.int y), none] [] _ _
        simp only [q181_0, q181_1, q181_4, q181_14, q181_15, q181_16, q181_17, q181_20, q181_30, q181_31, q181_34, q181_35, q181_38, q181_40, q181_43, q181_44, q181_45, q181_48, q181_50, q181_53, q181_54, q181_55, q181_58, q181_60, q181_63, q181_65, q181_67, q181_70, q181_71, q181_73, q181_76, m_0 hS, m_K hS, sp_in, sp_refuse_1 hS, sp_refuse_2 hS, sp_refuse_3 hS, sp_refuse_4 hS, sp_refuse_5 hS, sp_refuse_6 hS, as_nil, as_i, as_r, Nat.reduceAdd, Nat.reduceLeDiff, z_eq0, z_eq1, z_or, z_em, Classical.not_not, not_false_eq_true, not_true_eq_false, true_and, and_true, false_and, and_false, and_self, true_implies, false_implies, implies_true, Option.toList_some, Option.toList_none, List.cons_append, List.nil_append, Nat.add_eq_zero_iff, a_nl_i, a_nl_r, a_nl_n, true_or, or_true, eq_self, ok_4, ok_5, ok_6, ok_7, ok_9, ok_10, ok_20, ok_21, ok_24, ok_30, ok_48, ok_50, ok_60, ok_80, ok_120, ok_180, ok_192, ok_200, ok_900, ok_1000, ok_84000, e12, c1, c2]
        try simp only [true_and, and_true, true_implies, false_implies, implies_true, not_true_eq_false, not_false_eq_true]
        grind
      · rw [if_neg c3] at hP
        have b0 : 0 ≤ b := Int32.not_lt.mp (fun w => c3 (Or.inl w))
        have m0 : 0 ≤ m := Int32.not_lt.mp (fun w => c3 (Or.inr (Or.inl w)))
        have e0' : 0 ≤ e := Int32.not_lt.mp (fun w => c3 (Or.inr (Or.inr (Or.inl w))))
        have y1 : k = 1 → 0 ≤ y := fun w => Int32.not_lt.mp (fun z => c3 (Or.inr (Or.inr (Or.inr (Or.inl ⟨w, z⟩)))))
        have y2 : k = 2 → 0 ≤ x ∧ x ≤ y := fun w => ⟨Int32.not_lt.mp (fun z => c3 (Or.inr (Or.inr (Or.inr (Or.inr ⟨w, Or.inl z⟩))))), Int32.not_lt.mp (fun z => c3 (Or.inr (Or.inr (Or.inr (Or.inr ⟨w, Or.inr z⟩)))))⟩
        by_cases c4 : 63 < b ∨ 15 < m ∨ 9 < e ∨ (k = 1 ∧ 30 < y) ∨ (k = 2 ∧ 199 < y) ∨ Y 0 17 = 30
        · rw [if_pos c4] at hP
          have hr := hP _ (hrf 6).1 (hrf 6).2
          clear hP hrf hm hy hl hg hF c3
          rw [a_enter1 (M := a_m181) rfl (a_cat_rf (a_cat_int (a_cat_int (a_cat_int (a_cat_int (a_cat_int (a_cat_int (a_cat_int a_cat_nil)))))))) (show 8 ≤ 9 by decide)]
          show a_at _ (a_xm a_m181) 0 [some (a_rf M), some (.int k), some (.int b), some (.int m), some (.int g), some (.int e), some (.int x), some (.int y), none] [] _ _
          simp only [q181_0, q181_1, q181_4, q181_14, q181_15, q181_16, q181_17, q181_20, q181_30, q181_31, q181_34, q181_35, q181_38, q181_40, q181_43, q181_44, q181_45, q181_48, q181_50, q181_53, q181_54, q181_55, q181_58, q181_60, q181_63, q181_65, q181_67, q181_77, q181_78, q181_80, q181_83, q181_84, q181_86, q181_89, q181_91, q181_93, q181_96, q181_97, q181_98, q181_101, q181_103, q181_105, q181_108, q181_109, q181_110, q181_113, q181_115, q181_118, q181_121, q181_122, q181_125, q181_127, q181_130, q181_131, q181_133, q181_136, m_0 hS, m_K hS, sp_in, sp_refuse_1 hS, sp_refuse_2 hS, sp_refuse_3 hS, sp_refuse_4 hS, sp_refuse_5 hS, sp_refuse_6 hS, as_nil, as_i, as_r, Nat.reduceAdd, Nat.reduceLeDiff, z_eq0, z_eq1, z_or, z_em, Classical.not_not, not_false_eq_true, not_true_eq_false, true_and, and_true, false_and, and_false, and_self, true_implies, false_implies, implies_true, Option.toList_some, Option.toList_none, List.cons_append, List.nil_append, Nat.add_eq_zero_iff, a_nl_i, a_nl_r, a_nl_n, true_or, or_true, eq_self, ok_4, ok_5, ok_6, ok_7, ok_9, ok_10, ok_20, ok_21, ok_24, ok_30, ok_48, ok_50, ok_60, ok_80, ok_120, ok_180, ok_192, ok_200, ok_900, ok_1000, ok_84000, e12, c1, c2, e17, b0, m0, e0', Int32.not_lt.mpr b0, Int32.not_lt.mpr m0, Int32.not_lt.mpr e0']
          try simp only [true_and, and_true, true_implies, false_implies, implies_true, not_true_eq_false, not_false_eq_true]
          by_cases k1 : k = 1
          · have k2 : ¬ k = 2 := by rw [k1]; decide
            have q1 := y1 k1
            rw [k1] at k2
            simp only [k1, q1, k2, Int32.not_lt.mpr q1]
            try simp only [true_and, and_true, true_implies, false_implies, implies_true, not_true_eq_false, not_false_eq_true]
            grind
          · by_cases k2 : k = 2
            · have q1 := y2 k2
              rw [k2] at k1
              simp only [k1, k2, q1, Int32.not_lt.mpr q1.1, Int32.not_lt.mpr q1.2]
              try simp only [true_and, and_true, true_implies, false_implies, implies_true, not_true_eq_false, not_false_eq_true]
              grind
            · simp only [k1, k2]
              try simp only [true_and, and_true, true_implies, false_implies, implies_true, not_true_eq_false, not_false_eq_true]
              grind
        · rw [if_neg c4] at hP
          have b1 : ¬ 63 < b := fun w => c4 (Or.inl w)
          have m1 : ¬ 15 < m := fun w => c4 (Or.inr (Or.inl w))
          have e1 : ¬ 9 < e := fun w => c4 (Or.inr (Or.inr (Or.inl w)))
          have y3 : k = 1 → y ≤ 30 := fun w => Int32.not_lt.mp (fun z => c4 (Or.inr (Or.inr (Or.inr (Or.inl ⟨w, z⟩)))))
          have y4 : k = 2 → y ≤ 199 := fun w => Int32.not_lt.mp (fun z => c4 (Or.inr (Or.inr (Or.inr (Or.inr (Or.inl ⟨w, z⟩))))))
          have n30 : ¬ Y 0 17 = 30 := fun w => c4 (Or.inr (Or.inr (Or.inr (Or.inr (Or.inr w)))))
          by_cases c5 : ¬ (-1 ≤ g ∧ g ≤ 5) ∨ (k = 1 ∧ ¬ (0 ≤ x ∧ x < Y 0 17))
          · rw [if_pos c5] at hP
            have hr := hP _ (hrf 1).1 (hrf 1).2
            clear hP hrf hm hy hl hg hF c3 c4
            rw [a_enter1 (M := a_m181) rfl (a_cat_rf (a_cat_int (a_cat_int (a_cat_int (a_cat_int (a_cat_int (a_cat_int (a_cat_int a_cat_nil)))))))) (show 8 ≤ 9 by decide)]
            show a_at _ (a_xm a_m181) 0 [some (a_rf M), some (.int k), some (.int b), some (.int m), some (.int g), some (.int e), some (.int x), some (.int y), none] [] _ _
            simp only [q181_0, q181_1, q181_4, q181_14, q181_15, q181_16, q181_17, q181_20, q181_30, q181_31, q181_34, q181_35, q181_38, q181_40, q181_43, q181_44, q181_45, q181_48, q181_50, q181_53, q181_54, q181_55, q181_58, q181_60, q181_63, q181_65, q181_67, q181_77, q181_78, q181_80, q181_83, q181_84, q181_86, q181_89, q181_91, q181_93, q181_96, q181_97, q181_98, q181_101, q181_103, q181_105, q181_108, q181_109, q181_110, q181_113, q181_115, q181_118, q181_121, q181_122, q181_125, q181_127, q181_137, q181_139, q181_140, q181_141, q181_144, q181_147, q181_148, q181_149, q181_152, q181_153, q181_155, q181_158, q181_161, q181_162, q181_163, q181_166, m_0 hS, m_K hS, sp_in, sp_isAsk hS, sp_refuse_1 hS, sp_refuse_2 hS, sp_refuse_3 hS, sp_refuse_4 hS, sp_refuse_5 hS, sp_refuse_6 hS, as_nil, as_i, as_r, Nat.reduceAdd, Nat.reduceLeDiff, z_eq0, z_eq1, z_or, z_em, Classical.not_not, not_false_eq_true, not_true_eq_false, true_and, and_true, false_and, and_false, and_self, true_implies, false_implies, implies_true, Option.toList_some, Option.toList_none, List.cons_append, List.nil_append, Nat.add_eq_zero_iff, a_nl_i, a_nl_r, a_nl_n, true_or, or_true, eq_self, ok_4, ok_5, ok_6, ok_7, ok_9, ok_10, ok_20, ok_21, ok_24, ok_30, ok_48, ok_50, ok_60, ok_80, ok_120, ok_180, ok_192, ok_200, ok_900, ok_1000, ok_84000, e12, c1, c2, e17, m17, n30, b0, m0, e0', Int32.not_lt.mpr b0, Int32.not_lt.mpr m0, Int32.not_lt.mpr e0', b1, m1, e1, Int32.not_lt.mp b1, Int32.not_lt.mp m1, Int32.not_lt.mp e1]
            try simp only [true_and, and_true, true_implies, false_implies, implies_true, not_true_eq_false, not_false_eq_true]
            by_cases k1 : k = 1
            · have k2 : ¬ k = 2 := by rw [k1]; decide
              have q1 := y1 k1
              have q3 := y3 k1
              rw [k1] at k2
              simp only [k1, q1, q3, k2, Int32.not_lt.mpr q3, Int32.not_lt.mpr q1]
              try simp only [true_and, and_true, true_implies, false_implies, implies_true, not_true_eq_false, not_false_eq_true]
              grind
            · by_cases k2 : k = 2
              · have q1 := y2 k2
                have q3 := y4 k2
                rw [k2] at k1
                simp only [k1, k2, q1, q3, Int32.not_lt.mpr q3, Int32.not_lt.mpr q1.1, Int32.not_lt.mpr q1.2]
                try simp only [true_and, and_true, true_implies, false_implies, implies_true, not_true_eq_false, not_false_eq_true]
                grind
              · simp only [k1, k2]
                try simp only [true_and, and_true, true_implies, false_implies, implies_true, not_true_eq_false, not_false_eq_true]
                grind
          · rw [if_neg c5] at hP
            have h30 : Y 0 17 < 30 := by clear hP hrf hm hy hl hg hF c3 c4 c5; grind
            have g6 : -1 ≤ g ∧ g ≤ 5 := Classical.byContradiction (fun w => c5 (Or.inl w))
            have hk : k = 1 → 0 ≤ x ∧ x < Y 0 17 := fun w => Classical.byContradiction (fun z => c5 (Or.inr ⟨w, z⟩))
            have hx : k = 1 → 0 ≤ x ∧ x ≤ 29 := fun w => ⟨(hk w).1, by have := (hk w).2; clear hP hrf hm hy hl hg hF c3 c4 c5; grind⟩
            have g17 := rg_asks hg.1
            have g13 := rg_draftGroup hg.1
            have g15 := rg_draftLong hg.1
            have a17 : I M 17 < 30 := by rw [e17]; exact h30
            have hp := hP _ (mF_le (ask_F hF (k := k) (l := I M 14) (w := I M 16) (p := b) (q := m) (r := g) (s := e) (x := x) (y := y) a17 g13 g15 hx) (by omega)) (gs_ask hg ⟨h17.1, h30⟩ hx)
            have h167 : a_at (d + 12) (a_xm a_m181) 167 [some (a_rf M), some (.int k), some (.int b), some (.int m), some (.int g), some (.int e), some (.int x), some (.int y), none] [] (n, t, K, L, I, R) P := by
              rw [← e17] at hp
              clear hP hrf hm hy hl hg hF c3 c4 c5
              simp only [q181_167, q181_168, q181_169, q181_170, q181_173, q181_174, q181_177, q181_178, q181_181, q181_182, q181_185, m_0 hS, m_K hS, as_nil, as_i, as_r, Nat.reduceAdd, Nat.reduceLeDiff, z_eq0, z_eq1, z_or, z_em, Classical.not_not, not_false_eq_true, not_true_eq_false, true_and, and_true, false_and, and_false, and_self, true_implies, false_implies, implies_true, Option.toList_some, Option.toList_none, List.cons_append, List.nil_append, Nat.add_eq_zero_iff, a_nl_i, a_nl_r, a_nl_n, true_or, or_true, eq_self, ok_4, ok_5, ok_6, ok_7, ok_9, ok_10, ok_20, ok_21, ok_24, ok_30, ok_48, ok_50, ok_60, ok_80, ok_120, ok_180, ok_192, ok_200, ok_900, ok_1000, ok_84000]
              refine sp_add hS ⟨g17.1, a17⟩ ?_
              simp only [q181_188, q181_190, q181_191, q181_194, q181_196, q181_197, q181_198, q181_199, q181_202, q181_204, q181_205, q181_206, q181_207, q181_210, q181_212, q181_214, q181_215, q181_216, q181_219, q181_221, q181_223, q181_224, q181_225, q181_228, q181_230, q181_232, q181_233, q181_234, q181_237, q181_239, q181_241, q181_242, q181_243, q181_244, q181_247, q181_249, m_0 hS, m_K hS, mR_benchSet hS, mK_benchSet hS, mL_benchSet hS, mR_modeSet hS, mK_modeSet hS, mL_modeSet hS, mR_gear hS, mK_gear hS, mL_gear hS, mR_danger hS, mK_danger hS, mL_danger hS, mR_xOf hS, mK_xOf hS, mL_xOf hS, mR_yOf hS, mK_yOf hS, mL_yOf hS, as_nil, as_i, as_r, Nat.reduceAdd, Nat.reduceLeDiff, z_eq0, z_eq1, z_or, z_em, Classical.not_not, not_false_eq_true, not_true_eq_false, true_and, and_true, false_and, and_false, and_self, true_implies, false_implies, implies_true, Option.toList_some, Option.toList_none, List.cons_append, List.nil_append, Nat.add_eq_zero_iff, a_nl_i, a_nl_r, a_nl_n, true_or, or_true, eq_self, ok_4, ok_5, ok_6, ok_7, ok_9, ok_10, ok_20, ok_21, ok_24, ok_30, ok_48, ok_50, ok_60, ok_80, ok_120, ok_180, ok_192, ok_200, ok_900, ok_1000, ok_84000]
              repeat refine And.intro (by grind) ?_
              exact hp
            clear hP hrf hm hy hl hg hF c3 c4 c5 hp
            rw [a_enter1 (M := a_m181) rfl (a_cat_rf (a_cat_int (a_cat_int (a_cat_int (a_cat_int (a_cat_int (a_cat_int (a_cat_int a_cat_nil)))))))) (show 8 ≤ 9 by decide)]
            show a_at _ (a_xm a_m181) 0 [some (a_rf M), some (.int k), some (.int b), some (.int m), some (.int g), some (.int e), some (.int x), some (.int y), none] [] _ _
            simp only [q181_0, q181_1, q181_4, q181_14, q181_15, q181_16, q181_17, q181_20, q181_30, q181_31, q181_34, q181_35, q181_38, q181_40, q181_43, q181_44, q181_45, q181_48, q181_50, q181_53, q181_54, q181_55, q181_58, q181_60, q181_63, q181_65, q181_67, q181_77, q181_78, q181_80, q181_83, q181_84, q181_86, q181_89, q181_91, q181_93, q181_96, q181_97, q181_98, q181_101, q181_103, q181_105, q181_108, q181_109, q181_110, q181_113, q181_115, q181_118, q181_121, q181_122, q181_125, q181_127, q181_137, q181_139, q181_140, q181_141, q181_144, q181_147, q181_148, q181_149, q181_152, q181_153, q181_155, q181_158, m_0 hS, m_K hS, sp_in, sp_isAsk hS, as_nil, as_i, as_r, Nat.reduceAdd, Nat.reduceLeDiff, z_eq0, z_eq1, z_or, z_em, Classical.not_not, not_false_eq_true, not_true_eq_false, true_and, and_true, false_and, and_false, and_self, true_implies, false_implies, implies_true, Option.toList_some, Option.toList_none, List.cons_append, List.nil_append, Nat.add_eq_zero_iff, a_nl_i, a_nl_r, a_nl_n, true_or, or_true, eq_self, ok_4, ok_5, ok_6, ok_7, ok_9, ok_10, ok_20, ok_21, ok_24, ok_30, ok_48, ok_50, ok_60, ok_80, ok_120, ok_180, ok_192, ok_200, ok_900, ok_1000, ok_84000, e12, c1, c2, e17, m17, n30, b0, m0, e0', Int32.not_lt.mpr b0, Int32.not_lt.mpr m0, Int32.not_lt.mpr e0', b1, m1, e1, Int32.not_lt.mp b1, Int32.not_lt.mp m1, Int32.not_lt.mp e1, g6]
            try simp only [true_and, and_true, true_implies, false_implies, implies_true, not_true_eq_false, not_false_eq_true]
            by_cases k1 : k = 1
            · have k2 : ¬ k = 2 := by rw [k1]; decide
              have q1 := y1 k1
              have q2 := y3 k1
              have q3 := hk k1
              clear y1 y2 y3 y4 hk hx
              rw [k1] at h167 k2
              simp only [k1, q1, q2, q3, k2, Int32.not_lt.mpr q1, Int32.not_lt.mpr q2]
              try simp only [true_and, and_true, true_implies, false_implies, implies_true, not_true_eq_false, not_false_eq_true]
              first
                | exact h167
                | grind
            · by_cases k2 : k = 2
              · have q1 := y2 k2
                have q2 := y4 k2
                clear y1 y2 y3 y4 hk hx
                rw [k2] at h167 k1
                simp only [k1, k2, q1, q2, Int32.not_lt.mpr q1.1, Int32.not_lt.mpr q1.2, Int32.not_lt.mpr q2]
                try simp only [true_and, and_true, true_implies, false_implies, implies_true, not_true_eq_false, not_false_eq_true]
                first
                  | exact h167
                  | grind
              · simp only [k1, k2]
                try simp only [true_and, and_true, true_implies, false_implies, implies_true, not_true_eq_false, not_false_eq_true]
                first
                  | exact h167
                  | grind
    · rw [if_pos c2] at hP
      have hr := hP _ (hrf 2).1 (hrf 2).2
      clear hP hrf hm hy hl hg hF
      rw [a_enter1 (M := a_m181) rfl (a_cat_rf (a_cat_int (a_cat_int (a_cat_int (a_cat_int (a_cat_int (a_cat_int (a_cat_int a_cat_nil)))))))) (show 8 ≤ 9 by decide)]
      show a_at _ (a_xm a_m181) 0 [some (a_rf M), some (.int k), some (.int b), some (.int m), some (.int g), some (.int e), some (.int x), some (.int y), none] [] _ _
      simp only [q181_0, q181_1, q181_4, q181_14, q181_15, q181_16, q181_17, q181_20, q181_23, q181_24, q181_26, q181_29, m_0 hS, m_K hS, sp_in, sp_refuse_1 hS, sp_refuse_2 hS, sp_refuse_3 hS, sp_refuse_4 hS, sp_refuse_5 hS, sp_refuse_6 hS, as_nil, as_i, as_r, Nat.reduceAdd, Nat.reduceLeDiff, z_eq0, z_eq1, z_or, z_em, Classical.not_not, not_false_eq_true, not_true_eq_false, true_and, and_true, false_and, and_false, and_self, true_implies, false_implies, implies_true, Option.toList_some, Option.toList_none, List.cons_append, List.nil_append, Nat.add_eq_zero_iff, a_nl_i, a_nl_r, a_nl_n, true_or, or_true, eq_self, ok_4, ok_5, ok_6, ok_7, ok_9, ok_10, ok_20, ok_21, ok_24, ok_30, ok_48, ok_50, ok_60, ok_80, ok_120, ok_180, ok_192, ok_200, ok_900, ok_1000, ok_84000, e12, c1]
      try simp only [true_and, and_true, true_implies, false_implies, implies_true, not_true_eq_false, not_false_eq_true]
      grind
end ZJ0
end
section
/-! owe of the class -/
section ZK0
variable {d n t C c n0 n' n'' t' : Nat} {K L K0 L0 K' L' K'' L'' : Nat → Nat} {I I0 J J0 J1 J2 : Nat → Nat → Int32} {R R0 R' R'' : Nat → Nat → Nat} {P : Option Value → AH → Prop}
variable {Y Z : Nat → Nat → Int32}
theorem ce_owedOne (hH : cH C c (n + 1) t K L I R) {q : Nat} (hq : K q = 1) {m : Int32} (hm : 1 ≤ m ∧ m ≤ 4) (hP : ∀ J, cH C (c + 1) (n + 1 + 1) (t + 17) (a_up K (n + 1) 1) (a_up L (n + 1) 17) J (a_zr R (n + 1)) → (∀ x j, x < n + 1 → J x j = I x j) → (J (n + 1) 0 = I q 0 ∧ J (n + 1) 1 = I q 1 ∧ J (n + 1) 2 = m ∧ J (n + 1) 3 = I q 3 ∧ J (n + 1) 5 = 5) → (J (n + 1) 6 = I q 6 ∧ J (n + 1) 7 = I q 7 ∧ J (n + 1) 8 = I q 8 ∧ J (n + 1) 9 = I q 9) → (J (n + 1) 12 = -9 ∧ J (n + 1) 13 = -9 ∧ J (n + 1) 14 = -9 ∧ J (n + 1) 15 = 0 ∧ J (n + 1) 16 = 0) → P (some (a_rf (n + 1))) (n + 1 + 1, t + 17, (a_up K (n + 1) 1), (a_up L (n + 1) 17), J, (a_zr R (n + 1)))) : a_does (d + 2) 142 [a_rf q, .int m] (n + 1, t, K, L, I, R) P := by
  have hT := hH.1
  have q1 := (hT.g_ask q hq).1
  have fr := hH.2.1
  have ql := kn_lt fr hq (by decide)
  have q0 : (q = 0) = False := eq_false (by omega)
  have qn : (q = n + 1) = False := eq_false (by omega)
  have f0 : (n + 1 = 0) = False := eq_false (by omega)
  have hq' : (a_up K (n + 1) 1) q = 1 := by rw [up_ne (by omega)]; exact hq
  have k1 : (a_up K (n + 1) 1) (n + 1) = 1 := up_eq
  rw [a_enter1 (M := a_m142) rfl (a_cat_rf (a_cat_int a_cat_nil)) (show 2 ≤ 3 by decide)]
  show a_at _ (a_xm a_m142) 0 [some (a_rf q), some (.int m), none] [] _ _
  simp only [q142_0, q142_3, q142_4, q142_5, q142_8, q142_9, q142_12, q142_13, q142_14, q142_17, as_nil, as_i, as_r, Nat.reduceAdd, Nat.reduceLeDiff, z_eq0, z_eq1, z_or, z_em, Classical.not_not, not_false_eq_true, not_true_eq_false, true_and, and_true, false_and, and_false, and_self, true_implies, false_implies, implies_true, Option.toList_some, Option.toList_none, List.cons_append, List.nil_append, Nat.add_eq_zero_iff, a_nl_i, a_nl_r, a_nl_n, true_or, or_true, eq_self, a_isRA_22, a_isRA_24, a_isRA_32, a_isA_20, ok_4, ok_5, ok_6, ok_7, ok_9, ok_20, ok_21, ok_30, ok_50, ok_180, ok_192, ok_200, hq, q0, up_ap, zi_ap, qn, f0, if_false]
  refine ce_Ainit hH hm (fun J z f1 f2 f3 => ?_)
  have e : ∀ j, J q j = I q j := fun j => f1 q j ql
  have gn := (z.1.g_ask _ k1).1
  have hp := hP (a_ui (a_ui (a_ui (a_ui (a_ui (a_ui (a_ui J (n + 1) 6 (I q 6)) (n + 1) 7 (I q 7)) (n + 1) 8 (I q 8)) (n + 1) 9 (I q 9)) (n + 1) 5 5) (n + 1) 10 0) (n + 1) 11 0) (cH_J z (sT_askf (sT_askf (sT_askf (sT_askf (sT_askf (sT_askf (sT_askf z.1 gn k1 (by decide)) gn k1 (by decide)) gn k1 (by decide)) gn k1 (by decide)) gn k1 (by decide)) gn k1 (by decide)) gn k1 (by decide))) (fun x j hx => by rw [ui_ap, if_neg (by omega), ui_ap, if_neg (by omega), ui_ap, if_neg (by omega), ui_ap, if_neg (by omega), ui_ap, if_neg (by omega), ui_ap, if_neg (by omega), ui_ap, if_neg (by omega)]; exact f1 x j hx) (by
    simp only [ui_ap, Nat.reduceEqDiff, reduceCtorEq, and_self, and_true, true_and, and_false, false_and, if_true, if_false]
    obtain ⟨w1, w2, w3, w4⟩ := f2
    exact ⟨w1, w2, w3, w4⟩) (by
    simp only [ui_ap, Nat.reduceEqDiff, reduceCtorEq, and_self, and_true, true_and, and_false, false_and, if_true, if_false]) (by
    simp only [ui_ap, Nat.reduceEqDiff, reduceCtorEq, and_self, and_true, true_and, and_false, false_and, if_true, if_false]
    exact f3)
  clear hP z f1 f2 f3
  simp only [q142_20, q142_21, q142_22, q142_23, q142_26, q142_27, q142_30, q142_31, q142_34, q142_35, q142_38, as_nil, as_i, as_r, Nat.reduceAdd, Nat.reduceLeDiff, z_eq0, z_eq1, z_or, z_em, Classical.not_not, not_false_eq_true, not_true_eq_false, true_and, and_true, false_and, and_false, and_self, true_implies, false_implies, implies_true, Option.toList_some, Option.toList_none, List.cons_append, List.nil_append, Nat.add_eq_zero_iff, a_nl_i, a_nl_r, a_nl_n, true_or, or_true, eq_self, a_isRA_22, a_isRA_24, a_isRA_32, a_isA_20, ok_4, ok_5, ok_6, ok_7, ok_9, ok_20, ok_21, ok_30, ok_50, ok_180, ok_192, ok_200, q0, hq', k1, f0, e]
  try simp only [true_and, and_true, true_implies, false_implies, implies_true, not_true_eq_false, not_false_eq_true]
  rw [a_enter1 (M := a_m41) rfl (a_cat_rf (a_cat_int (a_cat_int (a_cat_int (a_cat_int a_cat_nil))))) (show 5 ≤ 5 by decide)]
  show a_at _ (a_xm a_m41) 0 [some (a_rf (n+1)), some (.int (I q 6)), some (.int (I q 7)), some (.int (I q 8)), some (.int (I q 9))] [] _ _
  simp only [q41_0, q41_1, q41_2, q41_5, q41_6, q41_7, q41_10, q41_11, q41_12, q41_15, q41_16, q41_18, q41_21, as_nil, as_i, as_r, Nat.reduceAdd, Nat.reduceLeDiff, z_eq0, z_eq1, z_or, z_em, Classical.not_not, not_false_eq_true, not_true_eq_false, true_and, and_true, false_and, and_false, and_self, true_implies, false_implies, implies_true, Option.toList_some, Option.toList_none, List.cons_append, List.nil_append, Nat.add_eq_zero_iff, a_nl_i, a_nl_r, a_nl_n, true_or, or_true, eq_self, a_isRA_22, a_isRA_24, a_isRA_32, a_isA_20, ok_4, ok_5, ok_6, ok_7, ok_9, ok_20, ok_21, ok_30, ok_50, ok_180, ok_192, ok_200, k1, f0]
  try simp only [true_and, and_true, true_implies, false_implies, implies_true, not_true_eq_false, not_false_eq_true]
  simp only [q142_41, q142_42, q142_43, q142_44, q142_45, as_nil, as_i, as_r, Nat.reduceAdd, Nat.reduceLeDiff, z_eq0, z_eq1, z_or, z_em, Classical.not_not, not_false_eq_true, not_true_eq_false, true_and, and_true, false_and, and_false, and_self, true_implies, false_implies, implies_true, Option.toList_some, Option.toList_none, List.cons_append, List.nil_append, Nat.add_eq_zero_iff, a_nl_i, a_nl_r, a_nl_n, true_or, or_true, eq_self, a_isRA_22, a_isRA_24, a_isRA_32, a_isA_20, ok_4, ok_5, ok_6, ok_7, ok_9, ok_20, ok_21, ok_30, ok_50, ok_180, ok_192, ok_200, q0, hq', k1, f0]
  try simp only [true_and, and_true, true_implies, false_implies, implies_true, not_true_eq_false, not_false_eq_true]
  rw [a_enter1 (M := a_m42) rfl (a_cat_rf (a_cat_int (a_cat_int (a_cat_int a_cat_nil)))) (show 4 ≤ 4 by decide)]
  show a_at _ (a_xm a_m42) 0 [some (a_rf (n+1)), some (.int 5), some (.int 0), some (.int 0)] [] _ _
  simp only [q42_0, q42_1, q42_2, q42_5, q42_6, q42_7, q42_10, q42_11, q42_12, q42_15, as_nil, as_i, as_r, Nat.reduceAdd, Nat.reduceLeDiff, z_eq0, z_eq1, z_or, z_em, Classical.not_not, not_false_eq_true, not_true_eq_false, true_and, and_true, false_and, and_false, and_self, true_implies, false_implies, implies_true, Option.toList_some, Option.toList_none, List.cons_append, List.nil_append, Nat.add_eq_zero_iff, a_nl_i, a_nl_r, a_nl_n, true_or, or_true, eq_self, a_isRA_22, a_isRA_24, a_isRA_32, a_isA_20, ok_4, ok_5, ok_6, ok_7, ok_9, ok_20, ok_21, ok_30, ok_50, ok_180, ok_192, ok_200, k1, f0]
  try simp only [true_and, and_true, true_implies, false_implies, implies_true, not_true_eq_false, not_false_eq_true]
  simp only [q142_48, q142_49, as_nil, as_i, as_r, Nat.reduceAdd, Nat.reduceLeDiff, z_eq0, z_eq1, z_or, z_em, Classical.not_not, not_false_eq_true, not_true_eq_false, true_and, and_true, false_and, and_false, and_self, true_implies, false_implies, implies_true, Option.toList_some, Option.toList_none, List.cons_append, List.nil_append, Nat.add_eq_zero_iff, a_nl_i, a_nl_r, a_nl_n, true_or, or_true, eq_self, a_isRA_22, a_isRA_24, a_isRA_32, a_isA_20, ok_4, ok_5, ok_6, ok_7, ok_9, ok_20, ok_21, ok_30, ok_50, ok_180, ok_192, ok_200, q0, hq', k1, f0]
  try simp only [true_and, and_true, true_implies, false_implies, implies_true, not_true_eq_false, not_false_eq_true]
  first
    | exact hp
    | grind
end ZK0
section ZK1
variable {d n t C c n0 n' n'' t' : Nat} {K L K0 L0 K' L' K'' L'' : Nat → Nat} {I I0 J J0 J1 J2 : Nat → Nat → Int32} {R R0 R' R'' : Nat → Nat → Nat} {P : Option Value → AH → Prop}
variable {Y Z : Nat → Nat → Int32}
theorem al_16 {i : Int32} {q : Nat} (h : alP I Y i q) : alP (a_ui I q 16 1) (upY Y 19 i.toNatClampNeg 1) i q := by
  unfold alP at h ⊢
  simp only [ui_ap, upY, true_and, and_true, Nat.reduceEqDiff, false_and, if_false, if_true, reduceIte]
  exact ⟨h.1, h.2.1, h.2.2.1, h.2.2.2.1, h.2.2.2.2.1⟩
/-- the words behind what is owed -/
def oeW (Y : Nat → Nat → Int32) (a : Int32) : Nat → Nat → Int32 := (upY (upY (upY (upY (upY (upY (upY (upY (upY (upY (upY (upY (upY Y 7 (Y 0 17).toNatClampNeg 5) 8 (Y 0 17).toNatClampNeg (Y 8 a.toNatClampNeg)) 9 (Y 0 17).toNatClampNeg (Y 9 a.toNatClampNeg)) 10 (Y 0 17).toNatClampNeg (ohY Y a)) 11 (Y 0 17).toNatClampNeg (Y 11 a.toNatClampNeg)) 20 (Y 0 17).toNatClampNeg (-9)) 21 (Y 0 17).toNatClampNeg (-9)) 0 17 (Y 0 17 + 1)) 12 (Y 0 17).toNatClampNeg (Y 12 a.toNatClampNeg)) 13 (Y 0 17).toNatClampNeg (Y 13 a.toNatClampNeg)) 14 (Y 0 17).toNatClampNeg (Y 14 a.toNatClampNeg)) 15 (Y 0 17).toNatClampNeg (Y 15 a.toNatClampNeg)) 19 a.toNatClampNeg 1)
def oeY (Y : Nat → Nat → Int32) (a : Int32) : Int32 × (Nat → Nat → Int32) := if ¬ (0 ≤ a ∧ a < Y 0 17) then (-1, Y) else if ¬ Y 19 a.toNatClampNeg = 0 ∨ loY Y a = 0 ∨ ohY Y a = 0 then (-3, Y) else if Y 0 17 = 30 then (-6, Y) else (Y 0 17, oeW Y a)
theorem oe_no {a : Int32} {k j : Nat} (h : ¬ ((7 ≤ k ∧ k ≤ 21) ∧ j = (Y 0 17).toNatClampNeg)) (h2 : ¬ (k = 0 ∧ (j = 17 ∨ j = 12))) : oeW Y a k j = upY Y 19 a.toNatClampNeg 1 k j := by
  unfold oeW
  by_cases e : k = 19 ∧ j = a.toNatClampNeg
  · rw [e.1, e.2, up_at, up_at]
  · rw [up_no (by omega), up_no (by omega), up_no (by omega), up_no (by omega), up_no (by omega), up_no (by omega), up_no (by omega), up_no (by omega), up_no (by omega), up_no (by omega), up_no (by omega), up_no (by omega), up_no (by omega), up_no (by omega)]
theorem oe_at {a : Int32} (ha : ¬ (Y 0 17).toNatClampNeg = a.toNatClampNeg) : oeW Y a 7 (Y 0 17).toNatClampNeg = 5 ∧ oeW Y a 8 (Y 0 17).toNatClampNeg = (Y 8 a.toNatClampNeg) ∧ oeW Y a 9 (Y 0 17).toNatClampNeg = (Y 9 a.toNatClampNeg) ∧ oeW Y a 10 (Y 0 17).toNatClampNeg = (ohY Y a) ∧ oeW Y a 11 (Y 0 17).toNatClampNeg = (Y 11 a.toNatClampNeg) ∧ oeW Y a 20 (Y 0 17).toNatClampNeg = (-9) ∧ oeW Y a 21 (Y 0 17).toNatClampNeg = (-9) ∧ oeW Y a 0 17 = (Y 0 17 + 1) ∧ oeW Y a 12 (Y 0 17).toNatClampNeg = (Y 12 a.toNatClampNeg) ∧ oeW Y a 13 (Y 0 17).toNatClampNeg = (Y 13 a.toNatClampNeg) ∧ oeW Y a 14 (Y 0 17).toNatClampNeg = (Y 14 a.toNatClampNeg) ∧ oeW Y a 15 (Y 0 17).toNatClampNeg = (Y 15 a.toNatClampNeg) ∧ oeW Y a 18 (Y 0 17).toNatClampNeg = Y 18 (Y 0 17).toNatClampNeg ∧ oeW Y a 19 (Y 0 17).toNatClampNeg = Y 19 (Y 0 17).toNatClampNeg ∧ oeW Y a 16 (Y 0 17).toNatClampNeg = Y 16 (Y 0 17).toNatClampNeg := by
  unfold oeW upY
  simp only [ha, Nat.reduceEqDiff, reduceCtorEq, and_self, and_true, true_and, and_false, false_and, if_true, if_false]
theorem oh_rng (hT : cT C K L I R) (hu : cuP C K L I R Y) {a : Int32} (c1 : 0 ≤ a ∧ a < Y 0 17) : hw C L R I (R (C + 15) a.toNatClampNeg) = ohY Y a ∧ lw C I (R (C + 15) a.toNatClampNeg) = loY Y a ∧ (0 ≤ ohY Y a ∧ ohY Y a ≤ 4) := by
  have hc := hu.1
  have h17 := hc.2.2.2.2.2.2.2.2.1
  have ap := aa_of hc c1.1 c1.2
  obtain ⟨-, ⟨ka, -, -⟩, am, al⟩ := ap
  have a3 : 0 ≤ a ∧ a < 30 := ⟨c1.1, Int32.lt_of_lt_of_le c1.2 h17.2⟩
  have y10 := hc.2.2.2.2.2.1 a.toNatClampNeg
  have e := hw_oh hT hc.2.2.2.1 hc.2.2.2.2.1 a3 al am hc.1.2.2 hc.2.2.2.2.2.2.2.2.2.2.1 ⟨hc.2.2.2.2.2.2.1 a c1.1 c1.2, y10.2⟩
  exact ⟨e, lw_lo a3 al hc.1.2.2 hc.2.2.2.2.2.2.2.2.2.2.1 y10, by rw [← e]; exact hw_rng ka hT⟩
theorem cu_owe2 {J J3 : Nat → Nat → Int32} (hH : cH C c (n + 1) t K L I R) (hu : cuP C K L I R Y) {a : Int32} (c1 : 0 ≤ a ∧ a < Y 0 17) (h30 : Y 0 17 < 30) (h18 : Y 18 (Y 0 17).toNatClampNeg = 0 ∧ Y 19 (Y 0 17).toNatClampNeg = 0) (h0 : ¬ ohY Y a = 0) (hu3 : cuP C K L J3 R (upY Y 19 a.toNatClampNeg 1)) (hT3 : cT C K L J3 R) (e3 : ∀ j, ¬ j = 16 → J3 (R (C + 15) a.toNatClampNeg) j = I (R (C + 15) a.toNatClampNeg) j) (z : cH C (c + 1) (n + 1 + 1) (t + 17) (a_up K (n + 1) 1) (a_up L (n + 1) 17) J (a_zr R (n + 1))) (f1 : ∀ x j, x < n + 1 → J x j = J3 x j) (g1 : J (n + 1) 0 = J3 (R (C + 15) a.toNatClampNeg) 0 ∧ J (n + 1) 1 = J3 (R (C + 15) a.toNatClampNeg) 1 ∧ J (n + 1) 2 = ohY Y a ∧ J (n + 1) 3 = J3 (R (C + 15) a.toNatClampNeg) 3 ∧ J (n + 1) 5 = 5) (g2 : J (n + 1) 6 = J3 (R (C + 15) a.toNatClampNeg) 6 ∧ J (n + 1) 7 = J3 (R (C + 15) a.toNatClampNeg) 7 ∧ J (n + 1) 8 = J3 (R (C + 15) a.toNatClampNeg) 8 ∧ J (n + 1) 9 = J3 (R (C + 15) a.toNatClampNeg) 9) (g3 : J (n + 1) 12 = -9 ∧ J (n + 1) 13 = -9 ∧ J (n + 1) 14 = -9 ∧ J (n + 1) 15 = 0 ∧ J (n + 1) 16 = 0) : cuP C (a_up K (n + 1) 1) (a_up L (n + 1) 17) (a_ui (a_ui J (n + 1) 4 (Y 0 17)) (C + 14) 4 (Y 0 17 + 1)) (a_ur (a_zr R (n + 1)) (C + 15) (Y 0 17).toNatClampNeg (n + 1)) (oeW Y a) := by
  have hT := hH.1
  have hC := hH.2.2.1
  have hc := hu.1
  have h17 := hc.2.2.2.2.2.2.2.2.1
  have aN : ¬ (Y 0 17).toNatClampNeg = a.toNatClampNeg := by have := cl_lt c1.1 c1.2; omega
  obtain ⟨b0, b1, b2, b3, b4, b5, b6, b7, b8, b9, b10, b11, s18, s19, s16⟩ := oe_at (Y := Y) aN
  obtain ⟨-, -, -, al⟩ := aa_of hc c1.1 c1.2
  obtain ⟨-, -, o0, o4⟩ := oh_rng hT hu c1
  have hH3 := cH_J hH hT3
  have hu5 := cu_grow (K' := (a_up K (n + 1) 1)) (L' := (a_up L (n + 1) 17)) (J := J) (R' := (a_zr R (n + 1))) hH3 hu3 (fun x hx => up_ne (by omega)) (fun x hx => up_ne (by omega)) f1 (fun x j hx => zr_ne (by omega))
  have z17 : upY Y 19 a.toNatClampNeg 1 0 17 = Y 0 17 := up_no (by omega)
  have row : ∀ i : Int32, 0 ≤ i → i < Y 0 17 → R (C + 15) i.toNatClampNeg < n + 1 := fun i i0 i1 => kn_lt hH.2.1 (hc.2.2.1.2.1 i i0 i1).1 (by decide)
  have j2 : ∀ j, ¬ j = 4 → a_ui (a_ui J (n + 1) 4 (Y 0 17)) (C + 14) 4 (Y 0 17 + 1) (n + 1) j = J (n + 1) j := fun j hj => by rw [ui_ap, if_neg (by omega), ui_ap, if_neg (by omega)]
  have hm := cu_more (Y := upY Y 19 a.toNatClampNeg 1) (Z := oeW Y a) (A := n + 1) (J := a_ui (a_ui J (n + 1) 4 (Y 0 17)) (C + 14) 4 (Y 0 17 + 1)) (R' := a_ur (a_zr R (n + 1)) (C + 15) (Y 0 17).toNatClampNeg (n + 1)) z.1 hu5 (by rw [z17]; exact ⟨h17.1, h30⟩) up_eq (fun i i0 i1 => by
    rw [z17] at i1
    rw [zr_ne (by omega)]
    have := row i i0 i1
    omega) (fun x j p1 p2 => by rw [ui_ap, if_neg p2, ui_ap, if_neg (fun q => p1 q.1)]) (by rw [ui_ap, if_pos ⟨rfl, rfl⟩, z17])
  rw [z17] at hm
  refine hm (fun x j p1 p2 => by rw [ur_ap, if_neg p1]) (by rw [ur_ap, if_pos ⟨rfl, rfl⟩]) (fun k j p1 p2 => oe_no p1 p2) b7 (by rw [ui_ap, if_neg (by omega), ui_ap, if_pos ⟨rfl, rfl⟩]) (by rw [j2 12 (by omega)]; exact g3.1) ?_ ⟨b5, b6⟩ ?_ (fun w => by rw [b0] at w; exact absurd w (by decide)) ?_
  · obtain ⟨⟨l0, l1, l2, l3, l5⟩, ⟨l6, l7, l8, l9⟩, -⟩ := al
    unfold alP
    rw [j2 0 (by omega), j2 1 (by omega), j2 2 (by omega), j2 3 (by omega), j2 5 (by omega), j2 6 (by omega), j2 7 (by omega), j2 8 (by omega), j2 9 (by omega), j2 13 (by omega), j2 14 (by omega), j2 15 (by omega), j2 16 (by omega), b0, b1, b2, b3, b4, b5, b6, b8, b9, b10, b11, s18, s19, h18.1, h18.2, g1.1, g1.2.1, g1.2.2.1, g1.2.2.2.1, g1.2.2.2.2, g2.1, g2.2.1, g2.2.2.1, g2.2.2.2, g3.2.1, g3.2.2.1, g3.2.2.2.1, g3.2.2.2.2, e3 0 (by omega), e3 1 (by omega), e3 3 (by omega), e3 6 (by omega), e3 7 (by omega), e3 8 (by omega), e3 9 (by omega), l0, l1, l3, l6, l7, l8, l9]
    exact ⟨⟨rfl, rfl, rfl, rfl, rfl⟩, ⟨rfl, rfl, rfl, rfl⟩, fun w => absurd w (by decide), ⟨rfl, rfl⟩, ⟨fun _ => rfl, fun _ => rfl⟩, ⟨fun _ => rfl, fun _ => rfl⟩⟩
  · rw [b3]
    refine ⟨?_, o4⟩
    clear hm hu3 hu5 hu hc al z f1 g1 g2 g3
    grind
  · obtain ⟨d1, d2⟩ := hu.2.2.1.2.2.1
    have r0 : a_ur (a_zr R (n + 1)) (C + 15) (Y 0 17).toNatClampNeg (n + 1) C 11 = R C 11 := by rw [ur_ap, if_neg (by omega), zr_ne (by omega)]
    have zz : ∀ j, ¬ (j = 17 ∨ j = 12) → oeW Y a 0 j = Y 0 j := fun j hj => by rw [oe_no (by omega) (by omega), up_no (by omega)]
    have z12 : oeW Y a 0 12 = Y 0 12 := by
      unfold oeW
      rw [up_no (by omega), up_no (by omega), up_no (by omega), up_no (by omega), up_no (by omega), up_no (by omega), up_no (by omega), up_no (by omega), up_no (by omega), up_no (by omega), up_no (by omega), up_no (by omega), up_no (by omega)]
    unfold siD
    rw [r0, z12]
    refine ⟨d1, fun hd => ?_⟩
    obtain ⟨k1, w1, w2, w3⟩ := d2 hd
    have dl := kn_lt hH.2.1 k1 (by decide)
    have dne : ¬ R C 11 = (R (C + 15) a.toNatClampNeg) := fun w => w3 a c1.1 c1.2 w.symm
    have g := (hT.g_ask _ k1).1
    obtain ⟨-, v1, v2, -⟩ := hu3.2.2.1.2.2.1.2 hd
    have ej : ∀ j, a_ui (a_ui J (n + 1) 4 (Y 0 17)) (C + 14) 4 (Y 0 17 + 1) (R C 11) j = J3 (R C 11) j := fun j => by rw [ui_ap, if_neg (by omega), ui_ap, if_neg (by omega)]; exact f1 _ _ dl
    simp only [ej]
    refine ⟨by rw [up_ne (by omega)]; exact k1, ?_, v2, fun i i0 i1 => ?_⟩
    · rw [zz 13 (by omega), zz 14 (by omega), zz 15 (by omega), zz 16 (by omega)]
      rw [up_no (by omega), up_no (by omega), up_no (by omega), up_no (by omega)] at v1
      exact v1
    · rw [b7] at i1
      by_cases e : i = Y 0 17
      · rw [e, ur_ap, if_pos ⟨rfl, rfl⟩]
        omega
      · have hi : i < Y 0 17 := by clear hm hu3 hu5 hu hc al z f1 g1 g2 g3 w1 w2 w3 v1 v2; grind
        have := cl_lt i0 hi
        rw [ur_ap, if_neg (by omega), zr_ne (by omega)]
        exact w3 i i0 hi
theorem ge_owe (hH : cH C c (n + 1) t K L I R) (hu : cuP C K L I R Y) (hnw : ∀ a : Nat, a < 30 → (Y 0 17).toNatClampNeg ≤ a → Y 18 a = 0 ∧ Y 19 a = 0) {a : Int32} (hP : ∀ n' t' K' L' J R', cH C (c + 4) (n' + 1) t' K' L' J R' → cuP C K' L' J R' (oeY Y a).2 → P (some (.int (oeY Y a).1)) (n' + 1, t', K', L', J, R')) : a_does (d + 70) 141 [a_rf C, .int a] (n + 1, t, K, L, I, R) P := by
  have hT := hH.1
  have hS := hT.s
  have gA := hT.g_asksR
  have gB := hT.g_benchesR
  have gX := hT.g_textsR
  have hc := hu.1
  have h17 := hc.2.2.2.2.2.2.2.2.1
  have e4 : I (C + 14) 4 = Y 0 17 := hc.2.2.1.1
  unfold oeY at hP
  have hr54 : ∀ J, cH C c (n + 1) t K L J R → cuP C K L J R Y → (∀ J, cH C c (n + 1) t K L J R → cuP C K L J R Y → P (some (.int (-3))) (n + 1, t, K, L, J, R)) → a_does (d + 69) 10 [a_rf C, .int (-3)] (n + 1, t, K, L, J, R) (fun q h' => a_at (d + 69) (a_xm a_m141) 54 [some (a_rf C), some (.int a), some (a_rf (R (C + 15) a.toNatClampNeg))] (q.toList ++ []) h' P) := fun J zH zu hq => by
    refine ge_refuse (d := d + 68) zH zu (fun J z1 z2 => ?_)
    have hp := hq J z1 z2
    clear hq hP hc hu
    simp only [q141_54, as_nil, as_i, as_r, Nat.reduceAdd, Nat.reduceLeDiff, z_eq0, z_eq1, z_or, z_em, Classical.not_not, not_false_eq_true, not_true_eq_false, true_and, and_true, false_and, and_false, and_self, true_implies, false_implies, implies_true, Option.toList_some, Option.toList_none, List.cons_append, List.nil_append, Nat.add_eq_zero_iff, a_nl_i, a_nl_r, a_nl_n, true_or, or_true, eq_self, a_isRA_22, a_isRA_24, a_isRA_32, a_isA_20, ok_4, ok_5, ok_6, ok_7, ok_9, ok_20, ok_21, ok_30, ok_50, ok_180, ok_192, ok_200]
    exact hp
  have hr73 : ∀ J, cH C c (n + 1) t K L J R → cuP C K L J R Y → (∀ J, cH C c (n + 1) t K L J R → cuP C K L J R Y → P (some (.int (-6))) (n + 1, t, K, L, J, R)) → a_does (d + 69) 10 [a_rf C, .int (-6)] (n + 1, t, K, L, J, R) (fun q h' => a_at (d + 69) (a_xm a_m141) 73 [some (a_rf C), some (.int a), some (a_rf (R (C + 15) a.toNatClampNeg))] (q.toList ++ []) h' P) := fun J zH zu hq => by
    refine ge_refuse (d := d + 68) zH zu (fun J z1 z2 => ?_)
    have hp := hq J z1 z2
    clear hq hP hc hu
    simp only [q141_73, as_nil, as_i, as_r, Nat.reduceAdd, Nat.reduceLeDiff, z_eq0, z_eq1, z_or, z_em, Classical.not_not, not_false_eq_true, not_true_eq_false, true_and, and_true, false_and, and_false, and_self, true_implies, false_implies, implies_true, Option.toList_some, Option.toList_none, List.cons_append, List.nil_append, Nat.add_eq_zero_iff, a_nl_i, a_nl_r, a_nl_n, true_or, or_true, eq_self, a_isRA_22, a_isRA_24, a_isRA_32, a_isA_20, ok_4, ok_5, ok_6, ok_7, ok_9, ok_20, ok_21, ok_30, ok_50, ok_180, ok_192, ok_200]
    exact hp
  by_cases c1 : 0 ≤ a ∧ a < Y 0 17
  · rw [if_neg (fun q => q c1)] at hP
    have hac : 0 ≤ a ∧ a < I (C + 14) 4 ∧ a < 30 := ⟨c1.1, by rw [e4]; exact c1.2, Int32.lt_of_lt_of_le c1.2 h17.2⟩
    have ap := aa_of hc c1.1 c1.2
    obtain ⟨-, ⟨ha, an0, a4n⟩, am, al⟩ := id ap
    have a0 : ((R (C + 15) a.toNatClampNeg) = 0) = False := eq_false an0
    have aC := (hT.g_ask _ ha).1
    have gasks := hT.g_asks
    have e13 : I (R (C + 15) a.toNatClampNeg) 13 = Y 20 a.toNatClampNeg := al.2.2.2.1.1
    have e15 : (I (R (C + 15) a.toNatClampNeg) 15 = 0) = (Y 18 a.toNatClampNeg = 0) := propext al.2.2.2.2.1
    have e16 : (I (R (C + 15) a.toNatClampNeg) 16 = 0) = (Y 19 a.toNatClampNeg = 0) := propext al.2.2.2.2.2
    obtain ⟨ohv, lov, o0, o4⟩ := oh_rng hT hu c1
    by_cases c2 : Y 19 a.toNatClampNeg = 0
    · by_cases c3 : loY Y a = 0
      · rw [if_pos (Or.inr (Or.inl c3))] at hP
        have hr := hr54 I hH hu (fun J z1 z2 => hP n t K L J R (cH_le z1 (by omega)) z2)
        have hlo : a_does (d + 69) 54 [a_rf (C + 14), a_rf (R (C + 15) a.toNatClampNeg)] (n + 1, t, K, L, I, R) (fun q h' => a_at (d + 69) (a_xm a_m141) 34 [some (a_rf C), some (.int a), some (a_rf (R (C + 15) a.toNatClampNeg))] (q.toList ++ []) h' P) := by
          refine ck_loss (d := d + 66) ha hT ?_
          rw [lov, c3]
          clear hP hc ap al am hu hr54 hr73
          simp only [q141_34, q141_48, q141_49, q141_51, k_0 hS, z_C hS, as_nil, as_i, as_r, Nat.reduceAdd, Nat.reduceLeDiff, z_eq0, z_eq1, z_or, z_em, Classical.not_not, not_false_eq_true, not_true_eq_false, true_and, and_true, false_and, and_false, and_self, true_implies, false_implies, implies_true, Option.toList_some, Option.toList_none, List.cons_append, List.nil_append, Nat.add_eq_zero_iff, a_nl_i, a_nl_r, a_nl_n, true_or, or_true, eq_self, a_isRA_22, a_isRA_24, a_isRA_32, a_isA_20, ok_4, ok_5, ok_6, ok_7, ok_9, ok_20, ok_21, ok_30, ok_50, ok_180, ok_192, ok_200]
          try simp only [true_and, and_true, true_implies, false_implies, implies_true, not_true_eq_false, not_false_eq_true]
          first
            | exact hr
            | grind
        clear hP hc ap al am hu hr54 hr73
        rw [a_enter1 (M := a_m141) rfl (a_cat_rf (a_cat_int a_cat_nil)) (show 2 ≤ 3 by decide)]
        show a_at _ (a_xm a_m141) 0 [some (a_rf C), some (.int a), none] [] _ _
        simp only [q141_0, q141_1, q141_4, q141_5, q141_8, q141_9, q141_10, q141_13, q141_14, q141_15, q141_18, q141_19, q141_20, q141_23, q141_26, q141_27, q141_30, q141_31, k_0 hS, z_C hS, r_0_4 hS, k_14 hS, z_14, sp_askAt hS gA, as_nil, as_i, as_r, Nat.reduceAdd, Nat.reduceLeDiff, z_eq0, z_eq1, z_or, z_em, Classical.not_not, not_false_eq_true, not_true_eq_false, true_and, and_true, false_and, and_false, and_self, true_implies, false_implies, implies_true, Option.toList_some, Option.toList_none, List.cons_append, List.nil_append, Nat.add_eq_zero_iff, a_nl_i, a_nl_r, a_nl_n, true_or, or_true, eq_self, a_isRA_22, a_isRA_24, a_isRA_32, a_isA_20, ok_4, ok_5, ok_6, ok_7, ok_9, ok_20, ok_21, ok_30, ok_50, ok_180, ok_192, ok_200, hac, ha, a0, e16, c2]
        try simp only [true_and, and_true, true_implies, false_implies, implies_true, not_true_eq_false, not_false_eq_true]
        first
          | exact hlo
          | grind
      · have hlo : a_does (d + 69) 54 [a_rf (C + 14), a_rf (R (C + 15) a.toNatClampNeg)] (n + 1, t, K, L, I, R) (fun q h' => a_at (d + 69) (a_xm a_m141) 34 [some (a_rf C), some (.int a), some (a_rf (R (C + 15) a.toNatClampNeg))] (q.toList ++ []) h' P) := by
          refine ck_loss (d := d + 66) ha hT ?_
          have how : a_does (d + 69) 58 [a_rf (C + 14), a_rf (R (C + 15) a.toNatClampNeg)] (n + 1, t, K, L, I, R) (fun q h' => a_at (d + 69) (a_xm a_m141) 45 [some (a_rf C), some (.int a), some (a_rf (R (C + 15) a.toNatClampNeg))] (q.toList ++ []) h' P) := by
            refine ck_hallOwed (d := d + 65) ha hT (fun J hJ => ?_)
            have hT2 := hJ.1
            have hS2 := hT2.s
            have hH2 := cH_J hH hT2
            have hu2 := cu_C hT hJ hu hH
            rw [ohv]
            by_cases c4 : ohY Y a = 0
            · rw [if_pos (Or.inr (Or.inr c4))] at hP
              have hr := hr54 J hH2 hu2 (fun J z1 z2 => hP n t K L J R (cH_le z1 (by omega)) z2)
              clear hP hc ap al am hu hu2 hr54 hr73
              rw [c4]
              simp only [q141_45, q141_48, q141_49, q141_51, k_0 hS2, z_C hS2, as_nil, as_i, as_r, Nat.reduceAdd, Nat.reduceLeDiff, z_eq0, z_eq1, z_or, z_em, Classical.not_not, not_false_eq_true, not_true_eq_false, true_and, and_true, false_and, and_false, and_self, true_implies, false_implies, implies_true, Option.toList_some, Option.toList_none, List.cons_append, List.nil_append, Nat.add_eq_zero_iff, a_nl_i, a_nl_r, a_nl_n, true_or, or_true, eq_self, a_isRA_22, a_isRA_24, a_isRA_32, a_isA_20, ok_4, ok_5, ok_6, ok_7, ok_9, ok_20, ok_21, ok_30, ok_50, ok_180, ok_192, ok_200]
              try simp only [true_and, and_true, true_implies, false_implies, implies_true, not_true_eq_false, not_false_eq_true]
              first
                | exact hr
                | grind
            · rw [if_neg (fun w => w.elim (fun w => w c2) (fun w => w.elim c3 c4))] at hP
              have e4J : J (C + 14) 4 = Y 0 17 := hu2.1.2.2.1.1
              by_cases c5 : Y 0 17 = 30
              · rw [if_pos c5] at hP
                have hr := hr73 J hH2 hu2 (fun J z1 z2 => hP n t K L J R (cH_le z1 (by omega)) z2)
                have n30 : ¬ (30 : Int32) < 30 := by decide
                have n30' : (30 : Int32) ≤ 30 := by decide
                clear hP hc ap al am hu hu2 hr54 hr73
                simp only [q141_45, q141_55, q141_56, q141_59, q141_62, q141_64, q141_67, q141_68, q141_70, k_0 hS2, z_C hS2, r_0_4 hS2, k_14 hS2, z_14, as_nil, as_i, as_r, Nat.reduceAdd, Nat.reduceLeDiff, z_eq0, z_eq1, z_or, z_em, Classical.not_not, not_false_eq_true, not_true_eq_false, true_and, and_true, false_and, and_false, and_self, true_implies, false_implies, implies_true, Option.toList_some, Option.toList_none, List.cons_append, List.nil_append, Nat.add_eq_zero_iff, a_nl_i, a_nl_r, a_nl_n, true_or, or_true, eq_self, a_isRA_22, a_isRA_24, a_isRA_32, a_isA_20, ok_4, ok_5, ok_6, ok_7, ok_9, ok_20, ok_21, ok_30, ok_50, ok_180, ok_192, ok_200, c4, e4J, c5, n30, n30']
                try simp only [true_and, and_true, true_implies, false_implies, implies_true, not_true_eq_false, not_false_eq_true]
                first
                  | exact hr
                  | grind
              · rw [if_neg c5] at hP
                have h30 : Y 0 17 < 30 := by clear hP hc ap al am hu hu2 hr54 hr73; grind
                have haJ : aaP C K J Y a (R (C + 15) a.toNatClampNeg) := aa_of hu2.1 c1.1 c1.2
                have hT3 := sT_askf (v := 1) (k := 16) hT2 aC ha (by decide)
                have hu3 := cu_af hH2 hu2 c1 (rw_up9 (j := a.toNatClampNeg) (v := 1) (Or.inr (Or.inr (Or.inl rfl)))) (funext (fun m => up_no (by omega))) (j := 16) (v := 1) (Or.inr (Or.inr rfl)) (al_16 haJ.2.2.2) up_row
                have hH3 := cH_J hH2 hT3
                have ow2 : a_does (d + 69) 58 [a_rf (C + 14), a_rf (R (C + 15) a.toNatClampNeg)] (n + 1, t, K, L, (a_ui J (R (C + 15) a.toNatClampNeg) 16 1), R) (fun q h' => a_at (d + 69) (a_xm a_m141) 92 [some (a_rf C), some (.int a), some (a_rf (R (C + 15) a.toNatClampNeg))] (q.toList ++ [a_rf (R (C + 15) a.toNatClampNeg), a_rf (C + 14)]) h' P) := by
                  refine ck_hallOwed (d := d + 65) ha hT3 (fun J3 hJ3 => ?_)
                  have hT4 := hJ3.1
                  have hS4 := hT4.s
                  have hH4 := cH_J hH3 hT4
                  have hu4 := cu_C hT3 hJ3 hu3 hH3
                  have e3 : ∀ j, ¬ j = 16 → J3 (R (C + 15) a.toNatClampNeg) j = I (R (C + 15) a.toNatClampNeg) j := fun j hj => by
                    rw [hJ3.2 _ _ (by omega) (by omega), ui_ap, if_neg (fun q => hj q.2), hJ.2 _ _ (by omega) (by omega)]
                  have e5 : J3 (C + 14) 4 = Y 0 17 := by
                    have := hu4.1.2.2.1.1
                    rw [up_no (by omega)] at this
                    exact this
                  rw [hw_ui ha hT2, hw_C hJ ha hT, ohv]
                  have hm1 : 1 ≤ ohY Y a ∧ ohY Y a ≤ 4 := ⟨by clear hP hc ap al am hu hu2 hu3 hu4 hr54 hr73; grind, o4⟩
                  have hon : a_does (d + 69) 142 [a_rf (R (C + 15) a.toNatClampNeg), .int (ohY Y a)] (n + 1, t, K, L, J3, R) (fun q h' => a_at (d + 69) (a_xm a_m141) 95 [some (a_rf C), some (.int a), some (a_rf (R (C + 15) a.toNatClampNeg))] (q.toList ++ [a_rf (C + 14)]) h' P) := by
                    refine ce_owedOne (d := d + 67) hH4 ha hm1 (fun J5 z f1 g1 g2 g3 => ?_)
                    have hS5 := z.1.s
                    have hC := hH.2.2.1
                    have had : a_does (d + 69) 43 [a_rf (C + 14), a_rf (n+1)] (n + 1 + 1, t + 17, (a_up K (n + 1) 1), (a_up L (n + 1) 17), J5, (a_zr R (n + 1))) (fun q h' => a_at (d + 69) (a_xm a_m141) 98 [some (a_rf C), some (.int a), some (a_rf (R (C + 15) a.toNatClampNeg))] (q.toList ++ []) h' P) := by
                      refine ce_addAsk (d := d + 68) (m := Y 0 17) up_eq z (by rw [f1 _ _ (by omega)]; exact e5) h30 (fun hH9 => ?_)
                      have hp := hP (n + 1) _ _ _ _ _ (cH_le hH9 (by omega)) (cu_owe2 hH hu c1 h30 (hnw _ (a_lt30 ⟨h17.1, h30⟩) (Nat.le_refl _)) c4 hu4 hT4 e3 z f1 g1 g2 g3)
                      clear hP hc ap al am hu hu2 hu3 hu4 hr54 hr73 hH9 z
                      simp only [q141_98, as_nil, as_i, as_r, Nat.reduceAdd, Nat.reduceLeDiff, z_eq0, z_eq1, z_or, z_em, Classical.not_not, not_false_eq_true, not_true_eq_false, true_and, and_true, false_and, and_false, and_self, true_implies, false_implies, implies_true, Option.toList_some, Option.toList_none, List.cons_append, List.nil_append, Nat.add_eq_zero_iff, a_nl_i, a_nl_r, a_nl_n, true_or, or_true, eq_self, a_isRA_22, a_isRA_24, a_isRA_32, a_isA_20, ok_4, ok_5, ok_6, ok_7, ok_9, ok_20, ok_21, ok_30, ok_50, ok_180, ok_192, ok_200]
                      exact hp
                    clear hP hc ap al am hu hu2 hu3 hu4 hr54 hr73 z
                    simp only [q141_95, k_0 hS, z_C hS, as_nil, as_i, as_r, Nat.reduceAdd, Nat.reduceLeDiff, z_eq0, z_eq1, z_or, z_em, Classical.not_not, not_false_eq_true, not_true_eq_false, true_and, and_true, false_and, and_false, and_self, true_implies, false_implies, implies_true, Option.toList_some, Option.toList_none, List.cons_append, List.nil_append, Nat.add_eq_zero_iff, a_nl_i, a_nl_r, a_nl_n, true_or, or_true, eq_self, a_isRA_22, a_isRA_24, a_isRA_32, a_isA_20, ok_4, ok_5, ok_6, ok_7, ok_9, ok_20, ok_21, ok_30, ok_50, ok_180, ok_192, ok_200, k_14 hS5, z_14]
                    try simp only [true_and, and_true, true_implies, false_implies, implies_true, not_true_eq_false, not_false_eq_true]
                    first
                      | exact had
                      | grind
                  clear hP hc ap al am hu hu2 hu3 hu4 hr54 hr73
                  simp only [q141_92, k_0 hS, z_C hS, as_nil, as_i, as_r, Nat.reduceAdd, Nat.reduceLeDiff, z_eq0, z_eq1, z_or, z_em, Classical.not_not, not_false_eq_true, not_true_eq_false, true_and, and_true, false_and, and_false, and_self, true_implies, false_implies, implies_true, Option.toList_some, Option.toList_none, List.cons_append, List.nil_append, Nat.add_eq_zero_iff, a_nl_i, a_nl_r, a_nl_n, true_or, or_true, eq_self, a_isRA_22, a_isRA_24, a_isRA_32, a_isA_20, ok_4, ok_5, ok_6, ok_7, ok_9, ok_20, ok_21, ok_30, ok_50, ok_180, ok_192, ok_200, ha, a0]
                  try simp only [true_and, and_true, true_implies, false_implies, implies_true, not_true_eq_false, not_false_eq_true]
                  first
                    | exact hon
                    | grind
                clear hP hc ap al am hu hu2 hu3 hr54 hr73
                simp only [q141_45, q141_55, q141_56, q141_59, q141_62, q141_64, q141_74, q141_75, q141_76, q141_79, q141_80, q141_83, q141_84, q141_85, q141_88, q141_89, k_0 hS2, z_C hS2, r_0_4 hS2, k_14 hS2, z_14, as_nil, as_i, as_r, Nat.reduceAdd, Nat.reduceLeDiff, z_eq0, z_eq1, z_or, z_em, Classical.not_not, not_false_eq_true, not_true_eq_false, true_and, and_true, false_and, and_false, and_self, true_implies, false_implies, implies_true, Option.toList_some, Option.toList_none, List.cons_append, List.nil_append, Nat.add_eq_zero_iff, a_nl_i, a_nl_r, a_nl_n, true_or, or_true, eq_self, a_isRA_22, a_isRA_24, a_isRA_32, a_isA_20, ok_4, ok_5, ok_6, ok_7, ok_9, ok_20, ok_21, ok_30, ok_50, ok_180, ok_192, ok_200, c4, e4J, h30, Int32.not_le.mpr h30, ha, a0]
                try simp only [true_and, and_true, true_implies, false_implies, implies_true, not_true_eq_false, not_false_eq_true]
                first
                  | exact ow2
                  | grind
          rw [lov]
          clear hP hc ap al am hu hr54 hr73
          simp only [q141_34, q141_37, q141_38, q141_41, q141_42, k_0 hS, z_C hS, r_0_4 hS, k_14 hS, z_14, as_nil, as_i, as_r, Nat.reduceAdd, Nat.reduceLeDiff, z_eq0, z_eq1, z_or, z_em, Classical.not_not, not_false_eq_true, not_true_eq_false, true_and, and_true, false_and, and_false, and_self, true_implies, false_implies, implies_true, Option.toList_some, Option.toList_none, List.cons_append, List.nil_append, Nat.add_eq_zero_iff, a_nl_i, a_nl_r, a_nl_n, true_or, or_true, eq_self, a_isRA_22, a_isRA_24, a_isRA_32, a_isA_20, ok_4, ok_5, ok_6, ok_7, ok_9, ok_20, ok_21, ok_30, ok_50, ok_180, ok_192, ok_200, c3]
          try simp only [true_and, and_true, true_implies, false_implies, implies_true, not_true_eq_false, not_false_eq_true]
          first
            | exact how
            | grind
        clear hP hc ap al am hu hr54 hr73
        rw [a_enter1 (M := a_m141) rfl (a_cat_rf (a_cat_int a_cat_nil)) (show 2 ≤ 3 by decide)]
        show a_at _ (a_xm a_m141) 0 [some (a_rf C), some (.int a), none] [] _ _
        simp only [q141_0, q141_1, q141_4, q141_5, q141_8, q141_9, q141_10, q141_13, q141_14, q141_15, q141_18, q141_19, q141_20, q141_23, q141_26, q141_27, q141_30, q141_31, k_0 hS, z_C hS, r_0_4 hS, k_14 hS, z_14, sp_askAt hS gA, as_nil, as_i, as_r, Nat.reduceAdd, Nat.reduceLeDiff, z_eq0, z_eq1, z_or, z_em, Classical.not_not, not_false_eq_true, not_true_eq_false, true_and, and_true, false_and, and_false, and_self, true_implies, false_implies, implies_true, Option.toList_some, Option.toList_none, List.cons_append, List.nil_append, Nat.add_eq_zero_iff, a_nl_i, a_nl_r, a_nl_n, true_or, or_true, eq_self, a_isRA_22, a_isRA_24, a_isRA_32, a_isA_20, ok_4, ok_5, ok_6, ok_7, ok_9, ok_20, ok_21, ok_30, ok_50, ok_180, ok_192, ok_200, hac, ha, a0, e16, c2]
        try simp only [true_and, and_true, true_implies, false_implies, implies_true, not_true_eq_false, not_false_eq_true]
        first
          | exact hlo
          | grind
    · rw [if_pos (Or.inl c2)] at hP
      have hr := hr54 I hH hu (fun J z1 z2 => hP n t K L J R (cH_le z1 (by omega)) z2)
      clear hP hc ap al am hu hr54 hr73
      rw [a_enter1 (M := a_m141) rfl (a_cat_rf (a_cat_int a_cat_nil)) (show 2 ≤ 3 by decide)]
      show a_at _ (a_xm a_m141) 0 [some (a_rf C), some (.int a), none] [] _ _
      simp only [q141_0, q141_1, q141_4, q141_5, q141_8, q141_9, q141_10, q141_13, q141_14, q141_15, q141_18, q141_19, q141_20, q141_23, q141_48, q141_49, q141_51, k_0 hS, z_C hS, r_0_4 hS, k_14 hS, z_14, sp_askAt hS gA, as_nil, as_i, as_r, Nat.reduceAdd, Nat.reduceLeDiff, z_eq0, z_eq1, z_or, z_em, Classical.not_not, not_false_eq_true, not_true_eq_false, true_and, and_true, false_and, and_false, and_self, true_implies, false_implies, implies_true, Option.toList_some, Option.toList_none, List.cons_append, List.nil_append, Nat.add_eq_zero_iff, a_nl_i, a_nl_r, a_nl_n, true_or, or_true, eq_self, a_isRA_22, a_isRA_24, a_isRA_32, a_isA_20, ok_4, ok_5, ok_6, ok_7, ok_9, ok_20, ok_21, ok_30, ok_50, ok_180, ok_192, ok_200, hac, ha, a0, e16, c2]
      try simp only [true_and, and_true, true_implies, false_implies, implies_true, not_true_eq_false, not_false_eq_true]
      first
        | exact hr
        | grind
  · rw [if_pos c1] at hP
    have hac : ¬ (0 ≤ a ∧ a < I (C + 14) 4 ∧ a < 30) := fun q => c1 ⟨q.1, by rw [← e4]; exact q.2.1⟩
    have hr1 : a_does (d + 69) 10 [a_rf C, .int (-1)] (n + 1, t, K, L, I, R) (fun q h' => a_at (d + 69) (a_xm a_m141) 18 [some (a_rf C), some (.int a), some (a_rf 0)] (q.toList ++ []) h' P) := by
      refine ge_refuse (d := d + 68) hH hu (fun J z1 z2 => ?_)
      have hp := hP n t K L J R (cH_le z1 (by omega)) z2
      clear hP hc hu hr54 hr73
      simp only [q141_18, as_nil, as_i, as_r, Nat.reduceAdd, Nat.reduceLeDiff, z_eq0, z_eq1, z_or, z_em, Classical.not_not, not_false_eq_true, not_true_eq_false, true_and, and_true, false_and, and_false, and_self, true_implies, false_implies, implies_true, Option.toList_some, Option.toList_none, List.cons_append, List.nil_append, Nat.add_eq_zero_iff, a_nl_i, a_nl_r, a_nl_n, true_or, or_true, eq_self, a_isRA_22, a_isRA_24, a_isRA_32, a_isA_20, ok_4, ok_5, ok_6, ok_7, ok_9, ok_20, ok_21, ok_30, ok_50, ok_180, ok_192, ok_200]
      exact hp
    clear hP hc hu hr54 hr73
    rw [a_enter1 (M := a_m141) rfl (a_cat_rf (a_cat_int a_cat_nil)) (show 2 ≤ 3 by decide)]
    show a_at _ (a_xm a_m141) 0 [some (a_rf C), some (.int a), none] [] _ _
    simp only [q141_0, q141_1, q141_4, q141_5, q141_8, q141_9, q141_10, q141_13, q141_14, q141_15, k_0 hS, z_C hS, r_0_4 hS, k_14 hS, z_14, sp_askAt hS gA, as_nil, as_i, as_r, Nat.reduceAdd, Nat.reduceLeDiff, z_eq0, z_eq1, z_or, z_em, Classical.not_not, not_false_eq_true, not_true_eq_false, true_and, and_true, false_and, and_false, and_self, true_implies, false_implies, implies_true, Option.toList_some, Option.toList_none, List.cons_append, List.nil_append, Nat.add_eq_zero_iff, a_nl_i, a_nl_r, a_nl_n, true_or, or_true, eq_self, a_isRA_22, a_isRA_24, a_isRA_32, a_isA_20, ok_4, ok_5, ok_6, ok_7, ok_9, ok_20, ok_21, ok_30, ok_50, ok_180, ok_192, ok_200, hac]
    try simp only [true_and, and_true, true_implies, false_implies, implies_true, not_true_eq_false, not_false_eq_true]
    first
      | exact hr1
      | grind
end ZK1
end

/-! mark of the class -/
section ZF0
variable {d n t C c : Nat} {K L : Nat → Nat} {I I0 J J0 J1 J2 : Nat → Nat → Int32} {R : Nat → Nat → Nat} {P : Option Value → AH → Prop}
variable {Y Z W : Nat → Nat → Int32} {R' R1 : Nat → Nat → Nat} {K' L' : Nat → Nat}
theorem cu_tell0 {m : Nat} (hH : cH C c m t K L I R) (hu : cuP C K L I R Y) {r a v : Int32} (hr : 0 ≤ r ∧ r < 6) (c1 : 0 ≤ a ∧ a < Y 0 17) (h3 : ¬ sm (fun x => if Y 37 (30 * x + a.toNatClampNeg) = 0 then 0 else 1) 6 = 3) (h37 : Y 37 (30 * r.toNatClampNeg + a.toNatClampNeg) = 0) (hv : 0 ≤ v ∧ v ≤ 100) (hg : ¬ Y 35 (10 * r.toNatClampNeg + (Y 8 a.toNatClampNeg).toNatClampNeg) = 0) : cuP C K L (a_ui I (C + 19) r.toNatClampNeg (I (C + 19) r.toNatClampNeg ||| ((1 : Int32) <<< (a &&& 31)))) R (mrW Y r a v) := by
  have hT := hH.1
  have h17 := hu.1.2.2.2.2.2.2.2.2.1
  obtain ⟨-, -, r6, a30⟩ := ix_180 (r := r) (a := a) hr ⟨c1.1, Int32.lt_of_lt_of_le c1.2 h17.2⟩
  obtain ⟨b1, b2, b3⟩ := mw_at (Y := Y) (r := r) (a := a) (v := v)
  rw [if_neg hg] at b3
  have hs := hu.2.2.1.2.2.2
  have y38 : Y 38 (30 * r.toNatClampNeg + a.toNatClampNeg) = 0 := Classical.byContradiction (fun w => hs.1 _ w h37)
  obtain ⟨⟨m1, m2⟩, m3, m4, m5, m6⟩ := hu.2.2.1.1
  have hJ : ∀ k j, ¬ k = 19 → (a_ui I (C + 19) r.toNatClampNeg (I (C + 19) r.toNatClampNeg ||| ((1 : Int32) <<< (a &&& 31)))) (C + k) j = I (C + k) j := fun k j hk => by rw [ui_ap, if_neg (by omega)]
  have hX : ∀ x j, C + 43 < x → (a_ui I (C + 19) r.toNatClampNeg (I (C + 19) r.toNatClampNeg ||| ((1 : Int32) <<< (a &&& 31)))) x j = I x j := fun x j hx => by rw [ui_ap, if_neg (by omega)]
  have hz : ∀ k j, ¬ (36 ≤ k ∧ k ≤ 38) → mrW Y r a v k j = Y k j := fun k j hk => mw_no (by omega)
  have ec : cmY (mrW Y r a v) = cmY Y := by
    funext x y
    unfold cmY
    by_cases e : (30 * x + y).toNatClampNeg = (30 * r.toNatClampNeg + a.toNatClampNeg)
    · rw [e, b3, y38, if_pos rfl, if_pos rfl]
    · rw [mw_no (by omega), mw_no (by omega)]
  have eh : hsY (mrW Y r a v) = hsY Y := by
    funext x
    unfold hsY
    rw [hz 0 11 (by omega), hz 0 17 (by omega), ec]
  have told5 : ∀ x y : Nat, x < 6 → y < 30 → (bq ((a_ui I (C + 19) r.toNatClampNeg (I (C + 19) r.toNatClampNeg ||| ((1 : Int32) <<< (a &&& 31)))) (C + 19) x) y = true ↔ ¬ mrW Y r a v 37 (30 * x + y) = 0) := fun x y hx hy => by
    by_cases e : x = r.toNatClampNeg
    · rw [e, ui_ap, if_pos ⟨rfl, rfl⟩]
      have q := bq_set (k := a.toNatClampNeg) (i := y) (by omega) (by omega) (I (C + 19) r.toNatClampNeg)
      rw [← on_cl c1.1] at q
      rw [q]
      by_cases e2 : y = a.toNatClampNeg
      · rw [e2, b1, decide_eq_true rfl, Bool.or_true]
        exact ⟨fun _ => by decide, fun _ => rfl⟩
      · rw [mw_no (by omega), decide_eq_false e2, Bool.or_false]
        exact m5 _ _ r6 hy
    · rw [ui_ap, if_neg (fun q => e q.2), mw_no (by omega)]
      exact m5 x y hx hy
  refine cu_gen hT hu ⟨fun k hk => funext (fun j => hz k j (by omega)), fun j hj => hz 0 j (by omega)⟩ (fE_of hH hX ⟨hJ 14 4 (by omega), hJ 14 5 (by omega)⟩ (hJ 7 3 (by omega))) (by rw [hJ 1 6 (by omega), hz 0 0 (by omega)]; exact hu.1.1.1) (fun j => by rw [hJ 2 j (by omega), hz 1 j (by omega)]; exact hu.1.1.2.1 j) (lsP_e hu.1.1.2.2 (fun j => hJ 3 j (by omega)) (fun k j hk => hz k j (by unfold kL at hk; omega))) ⟨by rw [hJ 14 6 (by omega), hz 0 9 (by omega)]; exact hu.1.2.1.2.1, by rw [hz 0 9 (by omega)]; exact hu.1.2.2.2.2.2.2.2.1⟩ (fun i i0 i1 => ?_) (mk_mw hu.1.2.2.2.2.2.2.2.2.2.2.2.1 hv) ?_ (siT_e hu.2.2.1.2.1 (fun k j hk => hJ k j (by omega)) (fun k j hk => hz k j (by unfold kT at hk; omega))) (sy_mw hs hr c1 h17 h3 h37) (fun e => hX _ _ (by have := (hT.g_ask _ (hu.2.2.1.2.2.1.2 e).1).1; omega))
  · rw [hz 0 17 (by omega)] at i1
    rw [hX _ _ (by have := (hT.g_ask _ (hu.1.2.2.1.2.1 i i0 i1).1).1; omega), ec, eh]
    exact hu.1.2.2.1.2.2.1 i i0 i1
  · refine ⟨⟨by rw [hJ _ _ (by omega), hz _ _ (by omega)]; exact m1, by rw [hJ _ _ (by omega), hz _ _ (by omega)]; exact m2⟩, fun k hk => ?_, fun x y hx hy => by rw [hJ _ _ (by omega), hz 35 _ (by omega)]; exact m4 x y hx hy, told5, fun x y hx hy => by rw [hJ _ _ (by omega), hz 47 _ (by omega)]; exact m6 x y hx hy⟩
    rw [hJ _ _ (by omega), m3 k hk]
    by_cases e : k = (30 * r.toNatClampNeg + a.toNatClampNeg)
    · rw [e, b3, y38, if_pos rfl, if_pos rfl]
    · rw [mw_no (by omega), mw_no (by omega)]
theorem mk_I2 (hs : siM C I Y) {r a v : Int32} (hg : Y 35 (10 * r.toNatClampNeg + (Y 8 a.toNatClampNeg).toNatClampNeg) = 0) : ∀ k, k < 180 → (a_ui (a_ui I (C + 19) r.toNatClampNeg (I (C + 19) r.toNatClampNeg ||| ((1 : Int32) <<< (a &&& 31)))) (C + 20) (30 * r.toNatClampNeg + a.toNatClampNeg) v) (C + 20) k = if mrW Y r a v 38 k = 0 then -9 else mrW Y r a v 36 k := fun k hk => by
  obtain ⟨b1, b2, b3⟩ := mw_at (Y := Y) (r := r) (a := a) (v := v)
  rw [if_pos hg] at b3
  rw [ui_ap]
  by_cases e : k = (30 * r.toNatClampNeg + a.toNatClampNeg)
  · rw [if_pos ⟨rfl, e⟩, e, b3, if_neg (by decide), b2]
  · rw [if_neg (fun q => e q.2), ui_ap, if_neg (by omega), mw_no (by omega), mw_no (by omega)]
    exact hs.2.1 k hk
theorem cu_tell1 {m : Nat} (hH : cH C c m t K L I R) (hu : cuP C K L I R Y) {r a v : Int32} (hr : 0 ≤ r ∧ r < 6) (c1 : 0 ≤ a ∧ a < Y 0 17) (h3 : ¬ sm (fun x => if Y 37 (30 * x + a.toNatClampNeg) = 0 then 0 else 1) 6 = 3) (h37 : Y 37 (30 * r.toNatClampNeg + a.toNatClampNeg) = 0) (hv : 0 ≤ v ∧ v ≤ 100) (hg : Y 35 (10 * r.toNatClampNeg + (Y 8 a.toNatClampNeg).toNatClampNeg) = 0) (hTJ : cT C K L J R) (hF : frM C K R (mrW Y r a v) (a_ui (a_ui I (C + 19) r.toNatClampNeg (I (C + 19) r.toNatClampNeg ||| ((1 : Int32) <<< (a &&& 31)))) (C + 20) (30 * r.toNatClampNeg + a.toNatClampNeg) v) J) (hmr : mrP C J R (mrW Y r a v)) : cuP C K L J R (mrW Y r a v) := by
  have hT := hH.1
  have h17 := hu.1.2.2.2.2.2.2.2.2.1
  obtain ⟨-, -, r6, a30⟩ := ix_180 (r := r) (a := a) hr ⟨c1.1, Int32.lt_of_lt_of_le c1.2 h17.2⟩
  obtain ⟨b1, b2, b3⟩ := mw_at (Y := Y) (r := r) (a := a) (v := v)
  have hs := hu.2.2.1.2.2.2
  have hz : ∀ k j, ¬ (36 ≤ k ∧ k ≤ 38) → mrW Y r a v k j = Y k j := fun k j hk => mw_no (by omega)
  obtain ⟨f1, f2, f3, f4⟩ := cu_mks (Y := Y) hH hu hTJ (I1 := (a_ui (a_ui I (C + 19) r.toNatClampNeg (I (C + 19) r.toNatClampNeg ||| ((1 : Int32) <<< (a &&& 31)))) (C + 20) (30 * r.toNatClampNeg + a.toNatClampNeg) v)) (fun x j p1 p2 => hF x j p1 (fun w => p2 ⟨w.1, by obtain ⟨i, i0, i1, e⟩ := w.2; exact ⟨i, i0, by rw [hz 0 17 (by omega)] at i1; exact i1, e⟩⟩)) (fun x j hx => by rw [ui_ap, if_neg (by omega), ui_ap, if_neg (by omega)])
  have hJ : ∀ k j, k ≤ 43 ∧ ¬ (19 ≤ k ∧ k ≤ 21) → J (C + k) j = I (C + k) j := fun k j hk => by
    rw [f3 k j hk.1 (by omega), ui_ap, if_neg (by omega), ui_ap, if_neg (by omega)]
  have hmk := mk_I2 hu.2.2.1.1 (r := r) (a := a) (v := v) hg
  obtain ⟨⟨m1, m2⟩, m3, m4, m5, m6⟩ := hu.2.2.1.1
  have told5 : ∀ x y : Nat, x < 6 → y < 30 → (bq ((a_ui I (C + 19) r.toNatClampNeg (I (C + 19) r.toNatClampNeg ||| ((1 : Int32) <<< (a &&& 31)))) (C + 19) x) y = true ↔ ¬ mrW Y r a v 37 (30 * x + y) = 0) := fun x y hx hy => by
    by_cases e : x = r.toNatClampNeg
    · rw [e, ui_ap, if_pos ⟨rfl, rfl⟩]
      have q := bq_set (k := a.toNatClampNeg) (i := y) (by omega) (by omega) (I (C + 19) r.toNatClampNeg)
      rw [← on_cl c1.1] at q
      rw [q]
      by_cases e2 : y = a.toNatClampNeg
      · rw [e2, b1, decide_eq_true rfl, Bool.or_true]
        exact ⟨fun _ => by decide, fun _ => rfl⟩
      · rw [mw_no (by omega), decide_eq_false e2, Bool.or_false]
        exact m5 _ _ r6 hy
    · rw [ui_ap, if_neg (fun q => e q.2), mw_no (by omega)]
      exact m5 x y hx hy
  refine cu_gen hT hu ⟨fun k hk => funext (fun j => hz k j (by omega)), fun j hj => hz 0 j (by omega)⟩ ⟨f1, f2, hJ 14 4 (by omega), hJ 14 5 (by omega), hJ 7 3 (by omega)⟩ (by rw [hJ 1 6 (by omega), hz 0 0 (by omega)]; exact hu.1.1.1) (fun j => by rw [hJ 2 j (by omega), hz 1 j (by omega)]; exact hu.1.1.2.1 j) (lsP_e hu.1.1.2.2 (fun j => hJ 3 j (by omega)) (fun k j hk => hz k j (by unfold kL at hk; omega))) ⟨by rw [hJ 14 6 (by omega), hz 0 9 (by omega)]; exact hu.1.2.1.2.1, by rw [hz 0 9 (by omega)]; exact hu.1.2.2.2.2.2.2.2.1⟩ hmr (mk_mw hu.1.2.2.2.2.2.2.2.2.2.2.2.1 hv) ?_ (siT_e hu.2.2.1.2.1 (fun k j hk => hJ k j (by omega)) (fun k j hk => hz k j (by unfold kT at hk; omega))) (sy_mw hs hr c1 h17 h3 h37) f4
  refine ⟨⟨by rw [hJ _ _ (by omega), hz _ _ (by omega)]; exact m1, by rw [hJ _ _ (by omega), hz _ _ (by omega)]; exact m2⟩, fun k hk => ?_, fun x y hx hy => by rw [hJ _ _ (by omega), hz 35 _ (by omega)]; exact m4 x y hx hy, fun x y hx hy => ?_, fun x y hx hy => by rw [hJ _ _ (by omega), hz 47 _ (by omega)]; exact m6 x y hx hy⟩
  · rw [f3 _ _ (by omega) (by omega)]
    exact hmk k hk
  · rw [f3 _ _ (by omega) (by omega), ui_ap, if_neg (by omega)]
    exact told5 x y hx hy
theorem ge_mark (hH : cH C c (n + 1) t K L I R) (hu : cuP C K L I R Y) (hgr : ∀ j, 0 ≤ Y 8 j ∧ Y 8 j ≤ 9) {r a v : Int32} (hP : ∀ n' t' K' L' J R', cH C c (n' + 1) t' K' L' J R' → cuP C K' L' J R' (mrY Y r a v).2 → P (some (.int (mrY Y r a v).1)) (n' + 1, t', K', L', J, R')) : a_does (d + 70) 92 [a_rf C, .int r, .int a, .int v] (n + 1, t, K, L, I, R) P := by
  have hT := hH.1
  have hS := hT.s
  have gA := hT.g_asksR
  have gB := hT.g_benchesR
  have gX := hT.g_textsR
  have hc := hu.1
  have h17 := hc.2.2.2.2.2.2.2.2.1
  have e4 : I (C + 14) 4 = Y 0 17 := hc.2.2.1.1
  unfold mrY at hP
  have hr3 : (∀ J, cH C c (n + 1) t K L J R → cuP C K L J R Y → P (some (.int (-3))) (n + 1, t, K, L, J, R)) → a_does (d + 69) 10 [a_rf C, .int (-3)] (n + 1, t, K, L, I, R) (fun q h' => a_at (d + 69) (a_xm a_m92) 58 [some (a_rf C), some (.int r), some (.int a), some (.int v), some (a_rf (R (C + 15) a.toNatClampNeg))] (q.toList ++ []) h' P) := fun hq => by
    refine ge_refuse (d := d + 68) hH hu (fun J z1 z2 => ?_)
    have hp := hq J z1 z2
    clear hq hP hc hu
    simp only [q92_58, as_nil, as_i, as_r, Nat.reduceAdd, Nat.reduceLeDiff, z_eq0, z_eq1, z_or, z_em, Classical.not_not, not_false_eq_true, not_true_eq_false, true_and, and_true, false_and, and_false, and_self, true_implies, false_implies, implies_true, Option.toList_some, Option.toList_none, List.cons_append, List.nil_append, Nat.add_eq_zero_iff, a_nl_i, a_nl_r, a_nl_n, true_or, or_true, eq_self, a_isRA_22, a_isRA_24, a_isRA_32, a_isA_20, ok_4, ok_5, ok_6, ok_7, ok_9, ok_20, ok_21, ok_30, ok_50, ok_180, ok_192, ok_200]
    exact hp
  have hr4 : (∀ J, cH C c (n + 1) t K L J R → cuP C K L J R Y → P (some (.int (-4))) (n + 1, t, K, L, J, R)) → a_does (d + 69) 10 [a_rf C, .int (-4)] (n + 1, t, K, L, I, R) (fun q h' => a_at (d + 69) (a_xm a_m92) 69 [some (a_rf C), some (.int r), some (.int a), some (.int v), some (a_rf (R (C + 15) a.toNatClampNeg))] (q.toList ++ []) h' P) := fun hq => by
    refine ge_refuse (d := d + 68) hH hu (fun J z1 z2 => ?_)
    have hp := hq J z1 z2
    clear hq hP hc hu
    simp only [q92_69, as_nil, as_i, as_r, Nat.reduceAdd, Nat.reduceLeDiff, z_eq0, z_eq1, z_or, z_em, Classical.not_not, not_false_eq_true, not_true_eq_false, true_and, and_true, false_and, and_false, and_self, true_implies, false_implies, implies_true, Option.toList_some, Option.toList_none, List.cons_append, List.nil_append, Nat.add_eq_zero_iff, a_nl_i, a_nl_r, a_nl_n, true_or, or_true, eq_self, a_isRA_22, a_isRA_24, a_isRA_32, a_isA_20, ok_4, ok_5, ok_6, ok_7, ok_9, ok_20, ok_21, ok_30, ok_50, ok_180, ok_192, ok_200]
    exact hp
  have hr6 : (∀ J, cH C c (n + 1) t K L J R → cuP C K L J R Y → P (some (.int (-6))) (n + 1, t, K, L, J, R)) → a_does (d + 69) 10 [a_rf C, .int (-6)] (n + 1, t, K, L, I, R) (fun q h' => a_at (d + 69) (a_xm a_m92) 82 [some (a_rf C), some (.int r), some (.int a), some (.int v), some (a_rf (R (C + 15) a.toNatClampNeg))] (q.toList ++ []) h' P) := fun hq => by
    refine ge_refuse (d := d + 68) hH hu (fun J z1 z2 => ?_)
    have hp := hq J z1 z2
    clear hq hP hc hu
    simp only [q92_82, as_nil, as_i, as_r, Nat.reduceAdd, Nat.reduceLeDiff, z_eq0, z_eq1, z_or, z_em, Classical.not_not, not_false_eq_true, not_true_eq_false, true_and, and_true, false_and, and_false, and_self, true_implies, false_implies, implies_true, Option.toList_some, Option.toList_none, List.cons_append, List.nil_append, Nat.add_eq_zero_iff, a_nl_i, a_nl_r, a_nl_n, true_or, or_true, eq_self, a_isRA_22, a_isRA_24, a_isRA_32, a_isA_20, ok_4, ok_5, ok_6, ok_7, ok_9, ok_20, ok_21, ok_30, ok_50, ok_180, ok_192, ok_200]
    exact hp
  by_cases c0 : (0 ≤ r ∧ r < 6) ∧ (0 ≤ a ∧ a < Y 0 17)
  · rw [if_neg (fun q => q c0)] at hP
    obtain ⟨cr, c1⟩ := c0
    have hac : 0 ≤ a ∧ a < I (C + 14) 4 ∧ a < 30 := ⟨c1.1, by rw [e4]; exact c1.2, Int32.lt_of_lt_of_le c1.2 h17.2⟩
    have ap := aa_of hc c1.1 c1.2
    obtain ⟨-, ⟨ha, an0, a4n⟩, am, al⟩ := id ap
    have a0 : ((R (C + 15) a.toNatClampNeg) = 0) = False := eq_false an0
    have aC := (hT.g_ask _ ha).1
    have gasks := hT.g_asks
    have e13 : I (R (C + 15) a.toNatClampNeg) 13 = Y 20 a.toNatClampNeg := al.2.2.2.1.1
    have e15 : (I (R (C + 15) a.toNatClampNeg) 15 = 0) = (Y 18 a.toNatClampNeg = 0) := propext al.2.2.2.2.1
    have a3 : 0 ≤ a ∧ a < 30 := ⟨hac.1, hac.2.2⟩
    have a30 : a.toNatClampNeg < 30 := a_lt30 a3
    have r6 : r.toNatClampNeg < 6 := show _ < (6 : Int32).toNatClampNeg from cl_lt cr.1 cr.2
    have e0 : I (R (C + 15) a.toNatClampNeg) 0 = (Y 8 a.toNatClampNeg) := al.1.1
    have hsM := hu.2.2.1.1
    have hs := hu.2.2.1.2.2.2
    have h37 := hsM.2.2.2.1 r.toNatClampNeg a.toNatClampNeg r6 a30
    have hsum := hs.2.2.1 a.toNatClampNeg a30
    have g8 := hgr a.toNatClampNeg
    have g10 : (Y 8 a.toNatClampNeg).toNatClampNeg < 10 := by
      have := cl_le0 g8.1 g8.2
      rw [show (9 : Int32).toNatClampNeg = 9 from rfl] at this
      omega
    have hkc : (I (C + 18) r.toNatClampNeg >>> ((Y 8 a.toNatClampNeg) &&& 31)) &&& 1 = 0 ↔ Y 35 (10 * r.toNatClampNeg + (Y 8 a.toNatClampNeg).toNatClampNeg) = 0 := by
      have q := hsM.2.2.1 r.toNatClampNeg (Y 8 a.toNatClampNeg).toNatClampNeg r6 g10
      have w := bq_vi g8.1 (by omega) (I (C + 18) r.toNatClampNeg)
      rw [w]
      by_cases e : bq (I (C + 18) r.toNatClampNeg) (Y 8 a.toNatClampNeg).toNatClampNeg = true
      · rw [if_pos e]
        exact ⟨fun z => absurd z (by decide), fun z => absurd z (q.mp e)⟩
      · rw [if_neg e]
        exact ⟨fun _ => Classical.byContradiction (fun z => e (q.mpr z)), fun _ => rfl⟩
    have n10 : ¬ (1 : Int32) = 0 := by decide
    by_cases c3 : Y 37 (30 * r.toNatClampNeg + a.toNatClampNeg) = 0
    · have nb : ¬ bq (I (C + 19) r.toNatClampNeg) a.toNatClampNeg = true := fun w => h37.mp w c3
      have htl : a_does (d + 69) 94 [a_rf (C + 17), .int a] (n + 1, t, K, L, I, R) (fun q h' => a_at (d + 69) (a_xm a_m92) 48 [some (a_rf C), some (.int r), some (.int a), some (.int v), some (a_rf (R (C + 15) a.toNatClampNeg))] (q.toList ++ []) h' P) := by
        refine ce_toldOf (d := d + 68) hS a3 ?_
        rw [told_eq hsM a30]
        by_cases c4 : sm (fun x => if Y 37 (30 * x + a.toNatClampNeg) = 0 then 0 else 1) 6 = 3
        · rw [if_pos (Or.inr c4)] at hP
          have hr := hr3 (fun J z1 z2 => hP n t K L J R z1 z2)
          have n33 : ¬ Int32.ofNat 3 < 3 := by decide
          clear hP hc ap al am hu hs hsM hsum hr3 hr4 hr6
          rw [c4]
          simp only [q92_48, q92_49, q92_52, q92_53, q92_55, k_0 hS, z_C hS, as_nil, as_i, as_r, Nat.reduceAdd, Nat.reduceLeDiff, z_eq0, z_eq1, z_or, z_em, Classical.not_not, not_false_eq_true, not_true_eq_false, true_and, and_true, false_and, and_false, and_self, true_implies, false_implies, implies_true, Option.toList_some, Option.toList_none, List.cons_append, List.nil_append, Nat.add_eq_zero_iff, a_nl_i, a_nl_r, a_nl_n, true_or, or_true, eq_self, a_isRA_22, a_isRA_24, a_isRA_32, a_isA_20, ok_4, ok_5, ok_6, ok_7, ok_9, ok_20, ok_21, ok_30, ok_50, ok_180, ok_192, ok_200, n33]
          try simp only [true_and, and_true, true_implies, false_implies, implies_true, not_true_eq_false, not_false_eq_true]
          first
            | exact hr
            | grind
        · rw [if_neg (fun w => w.elim (fun w => w c3) c4)] at hP
          have hlt : Int32.ofNat (sm (fun x => if Y 37 (30 * x + a.toNatClampNeg) = 0 then 0 else 1) 6) < 3 := by
            generalize sm (fun x => if Y 37 (30 * x + a.toNatClampNeg) = 0 then 0 else 1) 6 = z at hsum c4
            have h3 : z = 0 ∨ z = 1 ∨ z = 2 := by omega
            rcases h3 with h3 | h3 | h3 <;> rw [h3] <;> decide
          by_cases c5 : v < 0
          · rw [if_pos c5] at hP
            have hr := hr4 (fun J z1 z2 => hP n t K L J R z1 z2)
            have c5' : ¬ 0 ≤ v := Int32.not_le.mpr c5
            clear hP hc ap al am hu hs hsM hsum hr3 hr4 hr6
            simp only [q92_48, q92_49, q92_59, q92_60, q92_63, q92_64, q92_66, k_0 hS, z_C hS, as_nil, as_i, as_r, Nat.reduceAdd, Nat.reduceLeDiff, z_eq0, z_eq1, z_or, z_em, Classical.not_not, not_false_eq_true, not_true_eq_false, true_and, and_true, false_and, and_false, and_self, true_implies, false_implies, implies_true, Option.toList_some, Option.toList_none, List.cons_append, List.nil_append, Nat.add_eq_zero_iff, a_nl_i, a_nl_r, a_nl_n, true_or, or_true, eq_self, a_isRA_22, a_isRA_24, a_isRA_32, a_isA_20, ok_4, ok_5, ok_6, ok_7, ok_9, ok_20, ok_21, ok_30, ok_50, ok_180, ok_192, ok_200, hlt, c5, c5']
            try simp only [true_and, and_true, true_implies, false_implies, implies_true, not_true_eq_false, not_false_eq_true]
            first
              | exact hr
              | grind
          · rw [if_neg c5] at hP
            have c5' : 0 ≤ v := Int32.not_lt.mp c5
            by_cases c6 : 100 < v
            · rw [if_pos c6] at hP
              have hr := hr6 (fun J z1 z2 => hP n t K L J R z1 z2)
              have c6' : ¬ v ≤ 100 := Int32.not_le.mpr c6
              clear hP hc ap al am hu hs hsM hsum hr3 hr4 hr6
              simp only [q92_48, q92_49, q92_59, q92_60, q92_70, q92_71, q92_73, q92_76, q92_77, q92_79, k_0 hS, z_C hS, as_nil, as_i, as_r, Nat.reduceAdd, Nat.reduceLeDiff, z_eq0, z_eq1, z_or, z_em, Classical.not_not, not_false_eq_true, not_true_eq_false, true_and, and_true, false_and, and_false, and_self, true_implies, false_implies, implies_true, Option.toList_some, Option.toList_none, List.cons_append, List.nil_append, Nat.add_eq_zero_iff, a_nl_i, a_nl_r, a_nl_n, true_or, or_true, eq_self, a_isRA_22, a_isRA_24, a_isRA_32, a_isA_20, ok_4, ok_5, ok_6, ok_7, ok_9, ok_20, ok_21, ok_30, ok_50, ok_180, ok_192, ok_200, hlt, c5, c5', c6, c6']
              try simp only [true_and, and_true, true_implies, false_implies, implies_true, not_true_eq_false, not_false_eq_true]
              first
                | exact hr
                | grind
            · rw [if_neg c6] at hP
              have c6' : v ≤ 100 := Int32.not_lt.mp c6
              have hcl : a_does (d + 69) 95 [a_rf (C + 17), .int r, a_rf (R (C + 15) a.toNatClampNeg), .int v] (n + 1, t, K, L, I, R) (fun q h' => a_at (d + 69) (a_xm a_m92) 94 [some (a_rf C), some (.int r), some (.int a), some (.int v), some (a_rf (R (C + 15) a.toNatClampNeg))] (q.toList ++ []) h' P) := by
                by_cases cg : Y 35 (10 * r.toNatClampNeg + (Y 8 a.toNatClampNeg).toNatClampNeg) = 0
                · rw [if_pos cg] at hP
                  refine ce_tell1 (d := d + 64) (Z := mrW Y r a v) hT ha an0 cr a3 a4n e0 (hkc.mpr cg) (fun i i0 i1 => hc.2.2.1.2.1 i i0 (by rw [mw_no (by omega)] at i1; exact i1)) ⟨mk_I2 hsM cg, by rw [ui_ap, if_neg (by omega), ui_ap, if_neg (by omega), mw_no (by omega)]; exact e4⟩ (mk_mw hc.2.2.2.2.2.2.2.2.2.2.2.1 ⟨c5', c6'⟩) (by rw [mw_no (by omega)]; exact hsM.1.2) (fun J g1 g2 g3 => ?_)
                  have hp := hP n t K L J R (cH_J hH g1) (cu_tell1 hH hu cr c1 c4 c3 ⟨c5', c6'⟩ cg g1 g2 g3)
                  clear hP hc ap al am hu hs hsM hsum hr3 hr4 hr6 g2 g3
                  simp only [q92_94, q92_97, q92_98, q92_101, q92_102, as_nil, as_i, as_r, Nat.reduceAdd, Nat.reduceLeDiff, z_eq0, z_eq1, z_or, z_em, Classical.not_not, not_false_eq_true, not_true_eq_false, true_and, and_true, false_and, and_false, and_self, true_implies, false_implies, implies_true, Option.toList_some, Option.toList_none, List.cons_append, List.nil_append, Nat.add_eq_zero_iff, a_nl_i, a_nl_r, a_nl_n, true_or, or_true, eq_self, a_isRA_22, a_isRA_24, a_isRA_32, a_isA_20, ok_4, ok_5, ok_6, ok_7, ok_9, ok_20, ok_21, ok_30, ok_50, ok_180, ok_192, ok_200, n10]
                  try simp only [true_and, and_true, true_implies, false_implies, implies_true, not_true_eq_false, not_false_eq_true]
                  first
                    | exact hp
                    | grind
                · rw [if_neg cg] at hP
                  refine ce_tell0 (d := d + 64) hT ha an0 cr a3 a4n e0 (fun w => cg (hkc.mp w)) (fun g1 => ?_)
                  have hp := hP n t K L _ R (cH_J hH g1) (cu_tell0 hH hu cr c1 c4 c3 ⟨c5', c6'⟩ cg)
                  clear hP hc ap al am hu hs hsM hsum hr3 hr4 hr6
                  simp only [q92_94, q92_97, q92_98, q92_101, q92_102, as_nil, as_i, as_r, Nat.reduceAdd, Nat.reduceLeDiff, z_eq0, z_eq1, z_or, z_em, Classical.not_not, not_false_eq_true, not_true_eq_false, true_and, and_true, false_and, and_false, and_self, true_implies, false_implies, implies_true, Option.toList_some, Option.toList_none, List.cons_append, List.nil_append, Nat.add_eq_zero_iff, a_nl_i, a_nl_r, a_nl_n, true_or, or_true, eq_self, a_isRA_22, a_isRA_24, a_isRA_32, a_isA_20, ok_4, ok_5, ok_6, ok_7, ok_9, ok_20, ok_21, ok_30, ok_50, ok_180, ok_192, ok_200]
                  try simp only [true_and, and_true, true_implies, false_implies, implies_true, not_true_eq_false, not_false_eq_true]
                  first
                    | exact hp
                    | grind
              clear hP hc ap al am hu hs hsM hsum hr3 hr4 hr6
              simp only [q92_48, q92_49, q92_59, q92_60, q92_70, q92_71, q92_73, q92_83, q92_84, q92_87, q92_88, q92_90, q92_91, k_0 hS, z_C hS, r_0_3 hS, k_17 hS, z_17, as_nil, as_i, as_r, Nat.reduceAdd, Nat.reduceLeDiff, z_eq0, z_eq1, z_or, z_em, Classical.not_not, not_false_eq_true, not_true_eq_false, true_and, and_true, false_and, and_false, and_self, true_implies, false_implies, implies_true, Option.toList_some, Option.toList_none, List.cons_append, List.nil_append, Nat.add_eq_zero_iff, a_nl_i, a_nl_r, a_nl_n, true_or, or_true, eq_self, a_isRA_22, a_isRA_24, a_isRA_32, a_isA_20, ok_4, ok_5, ok_6, ok_7, ok_9, ok_20, ok_21, ok_30, ok_50, ok_180, ok_192, ok_200, hlt, c5, c5', c6, c6']
              try simp only [true_and, and_true, true_implies, false_implies, implies_true, not_true_eq_false, not_false_eq_true]
              first
                | exact hcl
                | grind
      have hit : a_does (d + 69) 93 [a_rf (C + 17), .int r, .int a] (n + 1, t, K, L, I, R) (fun q h' => a_at (d + 69) (a_xm a_m92) 37 [some (a_rf C), some (.int r), some (.int a), some (.int v), some (a_rf (R (C + 15) a.toNatClampNeg))] (q.toList ++ []) h' P) := by
        refine ce_isTold (d := d + 68) hS cr a3 ?_
        rw [if_neg nb]
        clear hP hc ap al am hu hs hsM hsum hr3 hr4 hr6
        simp only [q92_37, q92_40, q92_41, q92_44, q92_45, k_0 hS, z_C hS, r_0_3 hS, k_17 hS, z_17, as_nil, as_i, as_r, Nat.reduceAdd, Nat.reduceLeDiff, z_eq0, z_eq1, z_or, z_em, Classical.not_not, not_false_eq_true, not_true_eq_false, true_and, and_true, false_and, and_false, and_self, true_implies, false_implies, implies_true, Option.toList_some, Option.toList_none, List.cons_append, List.nil_append, Nat.add_eq_zero_iff, a_nl_i, a_nl_r, a_nl_n, true_or, or_true, eq_self, a_isRA_22, a_isRA_24, a_isRA_32, a_isA_20, ok_4, ok_5, ok_6, ok_7, ok_9, ok_20, ok_21, ok_30, ok_50, ok_180, ok_192, ok_200]
        try simp only [true_and, and_true, true_implies, false_implies, implies_true, not_true_eq_false, not_false_eq_true]
        first
          | exact htl
          | grind
      clear hP hc ap al am hu hs hsM hsum hr3 hr4 hr6
      rw [a_enter1 (M := a_m92) rfl (a_cat_rf (a_cat_int (a_cat_int (a_cat_int a_cat_nil)))) (show 4 ≤ 5 by decide)]
      show a_at _ (a_xm a_m92) 0 [some (a_rf C), some (.int r), some (.int a), some (.int v), none] [] _ _
      simp only [q92_0, q92_1, q92_4, q92_5, q92_8, q92_10, q92_11, q92_14, q92_17, q92_19, q92_22, q92_23, q92_24, q92_27, q92_28, q92_29, q92_32, q92_33, q92_34, k_0 hS, z_C hS, r_0_4 hS, k_14 hS, z_14, r_0_3 hS, k_17 hS, z_17, sp_askAt hS gA, sp_isReaderC, as_nil, as_i, as_r, Nat.reduceAdd, Nat.reduceLeDiff, z_eq0, z_eq1, z_or, z_em, Classical.not_not, not_false_eq_true, not_true_eq_false, true_and, and_true, false_and, and_false, and_self, true_implies, false_implies, implies_true, Option.toList_some, Option.toList_none, List.cons_append, List.nil_append, Nat.add_eq_zero_iff, a_nl_i, a_nl_r, a_nl_n, true_or, or_true, eq_self, a_isRA_22, a_isRA_24, a_isRA_32, a_isA_20, ok_4, ok_5, ok_6, ok_7, ok_9, ok_20, ok_21, ok_30, ok_50, ok_180, ok_192, ok_200, cr, hac, ha, a0]
      try simp only [true_and, and_true, true_implies, false_implies, implies_true, not_true_eq_false, not_false_eq_true]
      first
        | exact hit
        | grind
    · rw [if_pos (Or.inl c3)] at hP
      have hr := hr3 (fun J z1 z2 => hP n t K L J R z1 z2)
      have hit : a_does (d + 69) 93 [a_rf (C + 17), .int r, .int a] (n + 1, t, K, L, I, R) (fun q h' => a_at (d + 69) (a_xm a_m92) 37 [some (a_rf C), some (.int r), some (.int a), some (.int v), some (a_rf (R (C + 15) a.toNatClampNeg))] (q.toList ++ []) h' P) := by
        refine ce_isTold (d := d + 68) hS cr a3 ?_
        rw [if_pos (h37.mpr c3)]
        clear hP hc ap al am hu hs hsM hsum hr3 hr4 hr6
        simp only [q92_37, q92_52, q92_53, q92_55, k_0 hS, z_C hS, as_nil, as_i, as_r, Nat.reduceAdd, Nat.reduceLeDiff, z_eq0, z_eq1, z_or, z_em, Classical.not_not, not_false_eq_true, not_true_eq_false, true_and, and_true, false_and, and_false, and_self, true_implies, false_implies, implies_true, Option.toList_some, Option.toList_none, List.cons_append, List.nil_append, Nat.add_eq_zero_iff, a_nl_i, a_nl_r, a_nl_n, true_or, or_true, eq_self, a_isRA_22, a_isRA_24, a_isRA_32, a_isA_20, ok_4, ok_5, ok_6, ok_7, ok_9, ok_20, ok_21, ok_30, ok_50, ok_180, ok_192, ok_200, n10]
        try simp only [true_and, and_true, true_implies, false_implies, implies_true, not_true_eq_false, not_false_eq_true]
        first
          | exact hr
          | grind
      clear hP hc ap al am hu hs hsM hsum hr3 hr4 hr6 hr
      rw [a_enter1 (M := a_m92) rfl (a_cat_rf (a_cat_int (a_cat_int (a_cat_int a_cat_nil)))) (show 4 ≤ 5 by decide)]
      show a_at _ (a_xm a_m92) 0 [some (a_rf C), some (.int r), some (.int a), some (.int v), none] [] _ _
      simp only [q92_0, q92_1, q92_4, q92_5, q92_8, q92_10, q92_11, q92_14, q92_17, q92_19, q92_22, q92_23, q92_24, q92_27, q92_28, q92_29, q92_32, q92_33, q92_34, k_0 hS, z_C hS, r_0_4 hS, k_14 hS, z_14, r_0_3 hS, k_17 hS, z_17, sp_askAt hS gA, sp_isReaderC, as_nil, as_i, as_r, Nat.reduceAdd, Nat.reduceLeDiff, z_eq0, z_eq1, z_or, z_em, Classical.not_not, not_false_eq_true, not_true_eq_false, true_and, and_true, false_and, and_false, and_self, true_implies, false_implies, implies_true, Option.toList_some, Option.toList_none, List.cons_append, List.nil_append, Nat.add_eq_zero_iff, a_nl_i, a_nl_r, a_nl_n, true_or, or_true, eq_self, a_isRA_22, a_isRA_24, a_isRA_32, a_isA_20, ok_4, ok_5, ok_6, ok_7, ok_9, ok_20, ok_21, ok_30, ok_50, ok_180, ok_192, ok_200, cr, hac, ha, a0]
      try simp only [true_and, and_true, true_implies, false_implies, implies_true, not_true_eq_false, not_false_eq_true]
      first
        | exact hit
        | grind
  · rw [if_pos c0] at hP
    have hr1 : ∀ x, a_does (d + 69) 10 [a_rf C, .int (-1)] (n + 1, t, K, L, I, R) (fun q h' => a_at (d + 69) (a_xm a_m92) 27 [some (a_rf C), some (.int r), some (.int a), some (.int v), x] (q.toList ++ []) h' P) := fun x => by
      refine ge_refuse (d := d + 68) hH hu (fun J z1 z2 => ?_)
      have hp := hP n t K L J R z1 z2
      clear hP hc hu hr3 hr4 hr6
      simp only [q92_27, as_nil, as_i, as_r, Nat.reduceAdd, Nat.reduceLeDiff, z_eq0, z_eq1, z_or, z_em, Classical.not_not, not_false_eq_true, not_true_eq_false, true_and, and_true, false_and, and_false, and_self, true_implies, false_implies, implies_true, Option.toList_some, Option.toList_none, List.cons_append, List.nil_append, Nat.add_eq_zero_iff, a_nl_i, a_nl_r, a_nl_n, true_or, or_true, eq_self, a_isRA_22, a_isRA_24, a_isRA_32, a_isA_20, ok_4, ok_5, ok_6, ok_7, ok_9, ok_20, ok_21, ok_30, ok_50, ok_180, ok_192, ok_200]
      exact hp
    have hac : (0 ≤ a ∧ a < I (C + 14) 4 ∧ a < 30) ↔ (0 ≤ a ∧ a < Y 0 17) := by
      rw [e4]
      exact ⟨fun q => ⟨q.1, q.2.1⟩, fun q => ⟨q.1, q.2, Int32.lt_of_lt_of_le q.2 h17.2⟩⟩
    clear hP hc hu hr3 hr4 hr6
    rw [a_enter1 (M := a_m92) rfl (a_cat_rf (a_cat_int (a_cat_int (a_cat_int a_cat_nil)))) (show 4 ≤ 5 by decide)]
    show a_at _ (a_xm a_m92) 0 [some (a_rf C), some (.int r), some (.int a), some (.int v), none] [] _ _
    simp only [q92_0, q92_1, q92_4, q92_5, q92_8, q92_10, q92_11, q92_14, q92_17, q92_19, q92_22, q92_23, q92_24, k_0 hS, z_C hS, r_0_4 hS, k_14 hS, z_14, sp_askAt hS gA, sp_isReaderC, as_nil, as_i, as_r, Nat.reduceAdd, Nat.reduceLeDiff, z_eq0, z_eq1, z_or, z_em, Classical.not_not, not_false_eq_true, not_true_eq_false, true_and, and_true, false_and, and_false, and_self, true_implies, false_implies, implies_true, Option.toList_some, Option.toList_none, List.cons_append, List.nil_append, Nat.add_eq_zero_iff, a_nl_i, a_nl_r, a_nl_n, true_or, or_true, eq_self, a_isRA_22, a_isRA_24, a_isRA_32, a_isA_20, ok_4, ok_5, ok_6, ok_7, ok_9, ok_20, ok_21, ok_30, ok_50, ok_180, ok_192, ok_200, hac]
    try simp only [true_and, and_true, true_implies, false_implies, implies_true, not_true_eq_false, not_false_eq_true]
    by_cases q1 : 0 ≤ r ∧ r < 6
    · have q2 : ¬ (0 ≤ a ∧ a < Y 0 17) := fun q => c0 ⟨q1, q⟩
      simp only [q1, q2]
      try simp only [true_and, and_true, true_implies, false_implies, implies_true, not_true_eq_false, not_false_eq_true]
      first
        | exact hr1 _
        | grind
    · by_cases q2 : 0 ≤ a ∧ a < Y 0 17
      · have gi := hT.g_asksR a.toNatClampNeg
        simp only [q1, q2]
        try simp only [true_and, and_true, true_implies, false_implies, implies_true, not_true_eq_false, not_false_eq_true]
        first
          | exact hr1 _
          | exact ⟨gi, hr1 _⟩
          | grind
      · simp only [q1, q2]
        try simp only [true_and, and_true, true_implies, false_implies, implies_true, not_true_eq_false, not_false_eq_true]
        first
          | exact hr1 _
          | grind
end ZF0
section ZF1
variable {d n t M : Nat} {K L : Nat → Nat} {I I0 J J0 J1 J2 : Nat → Nat → Int32} {R : Nat → Nat → Nat} {P : Option Value → AH → Prop} {f : Nat → Int32} {e : Int32}
variable {Y Z W : Nat → Nat → Int32}
theorem xt_mark_27 (hS : m_S M K L R) {r a v : Int32} (ha : 0 ≤ a ∧ a < 30) (hP : ∀ i, a_at d (a_xm a_m215) 65 [some (a_rf M), some (.int r), some (.int a), some (.int v), some (.int (Int32.ofNat (sm (fun x => if I (M + 37) (30 * x + a.toNatClampNeg) = 0 then 0 else 1) 6))), some (.int i)] [] (n, t, K, L, I, R) P) : ∀ i : Int32, i ≤ 6 → ∀ o, 0 ≤ i → o = Int32.ofNat (sm (fun x => if I (M + 37) (30 * x + a.toNatClampNeg) = 0 then 0 else 1) i.toNatClampNeg) → a_at d (a_xm a_m215) 27 [some (a_rf M), some (.int r), some (.int a), some (.int v), some (.int o), some (.int i)] [] (n, t, K, L, I, R) P := by
  refine up_ind 6 (fun i hk ih => ?_)
  intro o q0 eo
  have hend : ¬ i < 6 → a_at d (a_xm a_m215) 65 [some (a_rf M), some (.int r), some (.int a), some (.int v), some (.int o), some (.int i)] [] (n, t, K, L, I, R) P := fun e => by
    have : i = 6 := by clear ih hP eo; grind
    subst this
    rw [eo]
    exact hP 6
  by_cases e : i < 6
  · obtain ⟨ex, hx, -⟩ := ix_180 (r := i) (a := a) ⟨q0, e⟩ ha
    have e6 : ¬ 6 ≤ i := Int32.not_le.mpr e
    obtain ⟨-, s2, -, s4⟩ := lp_st q0 e
    have hgo : ∀ w, w = o + (if I (M + 37) (30 * i.toNatClampNeg + a.toNatClampNeg) = 0 then 0 else 1) → a_at d (a_xm a_m215) 27 [some (a_rf M), some (.int r), some (.int a), some (.int v), some (.int w), some (.int (i + 1))] [] (n, t, K, L, I, R) P := fun w ew => by
      refine ih e _ s2 ?_
      rw [s4, ew, eo]
      show _ = Int32.ofNat (sm (fun x => if I (M + 37) (30 * x + a.toNatClampNeg) = 0 then 0 else 1) i.toNatClampNeg + if I (M + 37) (30 * i.toNatClampNeg + a.toNatClampNeg) = 0 then 0 else 1)
      rw [Int32.ofNat_add]
      congr 1
      split
      · rfl
      · rfl
    clear ih hP eo hend
    rw [q215_27]
    by_cases c : I (M + 37) (30 * i.toNatClampNeg + a.toNatClampNeg) = 0
    · have hg := hgo (o + 0) (by rw [if_pos c])
      simp only [q215_29, q215_31, q215_34, q215_36, q215_37, q215_40, q215_42, q215_44, q215_45, q215_46, q215_47, q215_48, q215_51, q215_52, q215_55, q215_56, q215_57, q215_59, q215_62, m_0 hS, m_K hS, mR_isMarked hS, mK_isMarked hS, mL_isMarked hS, as_nil, as_i, as_r, Nat.reduceAdd, Nat.reduceLeDiff, z_eq0, z_eq1, z_or, z_em, Classical.not_not, not_false_eq_true, not_true_eq_false, true_and, and_true, false_and, and_false, and_self, true_implies, false_implies, implies_true, Option.toList_some, Option.toList_none, List.cons_append, List.nil_append, Nat.add_eq_zero_iff, a_nl_i, a_nl_r, a_nl_n, true_or, or_true, eq_self, ok_4, ok_5, ok_6, ok_7, ok_9, ok_10, ok_20, ok_21, ok_24, ok_30, ok_48, ok_50, ok_60, ok_80, ok_120, ok_180, ok_192, ok_200, ok_900, ok_1000, ok_84000, e, e6, ex, hx, c]
      try simp only [true_and, and_true, true_implies, false_implies, implies_true, not_true_eq_false, not_false_eq_true]
      first
        | exact hg
        | grind
    · have hg := hgo (o + 1) (by rw [if_neg c])
      simp only [q215_29, q215_31, q215_34, q215_36, q215_37, q215_40, q215_42, q215_44, q215_45, q215_46, q215_47, q215_48, q215_51, q215_52, q215_55, q215_56, q215_57, q215_59, q215_62, m_0 hS, m_K hS, mR_isMarked hS, mK_isMarked hS, mL_isMarked hS, as_nil, as_i, as_r, Nat.reduceAdd, Nat.reduceLeDiff, z_eq0, z_eq1, z_or, z_em, Classical.not_not, not_false_eq_true, not_true_eq_false, true_and, and_true, false_and, and_false, and_self, true_implies, false_implies, implies_true, Option.toList_some, Option.toList_none, List.cons_append, List.nil_append, Nat.add_eq_zero_iff, a_nl_i, a_nl_r, a_nl_n, true_or, or_true, eq_self, ok_4, ok_5, ok_6, ok_7, ok_9, ok_10, ok_20, ok_21, ok_24, ok_30, ok_48, ok_50, ok_60, ok_80, ok_120, ok_180, ok_192, ok_200, ok_900, ok_1000, ok_84000, e, e6, ex, hx, c]
      try simp only [true_and, and_true, true_implies, false_implies, implies_true, not_true_eq_false, not_false_eq_true]
      first
        | exact hg
        | grind
  · have hend := hend e
    have e6 : 6 ≤ i := Int32.not_lt.mp e
    clear ih hP eo
    rw [q215_27]
    simp only [q215_29, q215_31, as_nil, as_i, as_r, Nat.reduceAdd, Nat.reduceLeDiff, z_eq0, z_eq1, z_or, z_em, Classical.not_not, not_false_eq_true, not_true_eq_false, true_and, and_true, false_and, and_false, and_self, true_implies, false_implies, implies_true, Option.toList_some, Option.toList_none, List.cons_append, List.nil_append, Nat.add_eq_zero_iff, a_nl_i, a_nl_r, a_nl_n, true_or, or_true, eq_self, ok_4, ok_5, ok_6, ok_7, ok_9, ok_10, ok_20, ok_21, ok_24, ok_30, ok_48, ok_50, ok_60, ok_80, ok_120, ok_180, ok_192, ok_200, ok_900, ok_1000, ok_84000, e, e6]
    try simp only [true_and, and_true, true_implies, false_implies, implies_true, not_true_eq_false, not_false_eq_true]
    first
      | exact hend
      | grind
theorem xp_mark (hS : m_S M K L R) {I1 : Nat → Nat → Int32} (hm : okY Y) {c : Nat} (hc : c + 130 ≤ 84000) (hF : mF M c I1 I) (hg : gs M I0 I Y) {r a v : Int32} (hP : ∀ J, mF M (c + 120) I1 J → gs M I0 J (mrY Y r a v).2 → P (some (.int (mrY Y r a v).1)) (n, t, K, L, J, R)) : a_does (d + 13) 215 [a_rf M, .int r, .int a, .int v] (n, t, K, L, I, R) P := by
  have hy := hm.1
  have h17 := hy.2.2.2.2.1
  have h10 := hy.2.1
  have h6 := hy.2.2.2.2.2.1
  have hl := hy.2.2.1
  have hrf : ∀ k : Nat, mF M (c + 120) I1 (a_ui I (M + 23) k (I (M + 23) k + 1)) ∧ gs M I0 (a_ui I (M + 23) k (I (M + 23) k + 1)) Y := fun k => ⟨mF_le (sF_refused hF) (by omega), gs_ui hg (sR_refused hg.1) (by omega) ⟨by unfold ps1; omega, by omega⟩⟩
  have e17 : I M 17 = Y 0 17 := hg.2.2.1 0 17 (by unfold ps1; omega)
  have e6 : I M 6 = Y 0 6 := hg.2.2.1 0 6 (by unfold ps1; omega)
  have e0 : I M 0 = Y 0 0 := hg.2.2.1 0 0 (by unfold ps1; omega)
  have m17 : ∀ x : Int32, (x ≤ Y 0 17 - 1) = (x < Y 0 17) := fun x => le_m1 h17
  have m6 : ∀ x : Int32, (x ≤ Y 0 6 - 1) = (x < Y 0 6) := fun x => le_m1 ⟨h6.1, Int32.le_trans h6.2 (by decide)⟩
  have m199 : ∀ x : Int32, (x ≤ 199) = (x < 200) := fun x => propext ⟨fun q => Int32.lt_of_le_of_lt q (by decide), fun q => by clear hP hrf hm hg hF; grind⟩
  unfold mrY at hP
  by_cases c0 : (0 ≤ r ∧ r < 6) ∧ (0 ≤ a ∧ a < Y 0 17)
  · obtain ⟨cr, c1⟩ := c0
    rw [if_neg (fun q => q ⟨cr, c1⟩)] at hP
    have ha : 0 ≤ a ∧ a < 30 := ⟨c1.1, Int32.lt_of_lt_of_le c1.2 h17.2⟩
    have r5 : 0 ≤ r ∧ r ≤ 5 := ⟨cr.1, by clear hP hrf hm hy hl hg hF; grind⟩
    obtain ⟨ex, hx, r6, a30⟩ := ix_180 (r := r) (a := a) cr ha
    have e37 : ∀ j, I (M + 37) j = Y 37 j := fun j => hg.2.2.1 37 _ (by unfold ps1; omega)
    have e8 : I (M + 8) a.toNatClampNeg = (Y 8 a.toNatClampNeg) := hg.2.2.1 8 _ (by unfold ps1; omega)
    have g8 := rg_group hg.1 a.toNatClampNeg
    rw [e8] at g8
    have g9 : 0 ≤ (Y 8 a.toNatClampNeg) ∧ (Y 8 a.toNatClampNeg) < 10 := ⟨g8.1, by clear hP hrf hm hy hl hg hF; grind⟩
    obtain ⟨ez, hz, -⟩ := ix_60 (r := r) (g := (Y 8 a.toNatClampNeg)) cr g9
    have e35 : I (M + 35) (10 * r.toNatClampNeg + (Y 8 a.toNatClampNeg).toNatClampNeg) = Y 35 (10 * r.toNatClampNeg + (Y 8 a.toNatClampNeg).toNatClampNeg) := hg.2.2.1 35 _ (by unfold ps1; omega)
    have hmf : sm (fun x => if I (M + 37) (30 * x + a.toNatClampNeg) = 0 then 0 else 1) 6 = sm (fun x => if Y 37 (30 * x + a.toNatClampNeg) = 0 then 0 else 1) 6 := sm_eq (fun x _ => by
      show (if I (M + 37) (30 * x + a.toNatClampNeg) = 0 then 0 else 1) = if Y 37 (30 * x + a.toNatClampNeg) = 0 then 0 else 1
      rw [e37])
    have e37x := e37 (30 * r.toNatClampNeg + a.toNatClampNeg)
    have n10 : ¬ (1 : Int32) = 0 := by decide
    have a11 : (1 : Int32) &&& 1 = 1 := by decide
    have a00 : (0 : Int32) &&& 1 = 0 := by decide
    have hz3 : (Int32.ofNat (sm (fun x => if Y 37 (30 * x + a.toNatClampNeg) = 0 then 0 else 1) 6) = 3) = (sm (fun x => if Y 37 (30 * x + a.toNatClampNeg) = 0 then 0 else 1) 6 = 3) := by
      have h6 : sm (fun x => if Y 37 (30 * x + a.toNatClampNeg) = 0 then 0 else 1) 6 ≤ 6 := by
        show 0 + _ + _ + _ + _ + _ + _ ≤ 6
        have hb : ∀ x, (if Y 37 (30 * x + a.toNatClampNeg) = 0 then 0 else 1) ≤ 1 := fun x => by split <;> omega
        have q0 := hb 0
        have q1 := hb 1
        have q2 := hb 2
        have q3 := hb 3
        have q4 := hb 4
        have q5 := hb 5
        dsimp only
        omega
      generalize sm (fun x => if Y 37 (30 * x + a.toNatClampNeg) = 0 then 0 else 1) 6 = z at h6
      have : z = 0 ∨ z = 1 ∨ z = 2 ∨ z = 3 ∨ z = 4 ∨ z = 5 ∨ z = 6 := by omega
      rcases this with q | q | q | q | q | q | q <;> rw [q] <;> decide
    have hl2 := xt_mark_27 (d := d + 12) (n := n) (t := t) (P := P) (r := r) (v := v) hS ha (fun i => by
      rw [hmf]
      by_cases c3 : Y 37 (30 * r.toNatClampNeg + a.toNatClampNeg) = 0
      · by_cases c4 : sm (fun x => if Y 37 (30 * x + a.toNatClampNeg) = 0 then 0 else 1) 6 = 3
        · rw [if_pos (Or.inr c4)] at hP
          have hr := hP _ (hrf 3).1 (hrf 3).2
          clear hP hrf hm hy hl hg hF e37
          simp only [q215_65, q215_66, q215_69, q215_71, q215_72, q215_73, q215_74, q215_75, q215_76, q215_79, q215_81, q215_82, q215_85, q215_86, q215_88, q215_91, m_0 hS, m_K hS, mR_isMarked hS, mK_isMarked hS, mL_isMarked hS, sp_refuse_1 hS, sp_refuse_2 hS, sp_refuse_3 hS, sp_refuse_4 hS, sp_refuse_5 hS, sp_refuse_6 hS, as_nil, as_i, as_r, Nat.reduceAdd, Nat.reduceLeDiff, z_eq0, z_eq1, z_or, z_em, Classical.not_not, not_false_eq_true, not_true_eq_false, true_and, and_true, false_and, and_false, and_self, true_implies, false_implies, implies_true, Option.toList_some, Option.toList_none, List.cons_append, List.nil_append, Nat.add_eq_zero_iff, a_nl_i, a_nl_r, a_nl_n, true_or, or_true, eq_self, ok_4, ok_5, ok_6, ok_7, ok_9, ok_10, ok_20, ok_21, ok_24, ok_30, ok_48, ok_50, ok_60, ok_80, ok_120, ok_180, ok_192, ok_200, ok_900, ok_1000, ok_84000, ex, hx, e37x, c3, hz3, c4]
          try simp only [true_and, and_true, true_implies, false_implies, implies_true, not_true_eq_false, not_false_eq_true]
          first
            | exact hr
            | grind
        · rw [if_neg (fun w => w.elim (fun w => w c3) c4)] at hP
          by_cases c5 : v < 0
          · rw [if_pos c5] at hP
            have c5' : ¬ 0 ≤ v := Int32.not_le.mpr c5
            have hr := hP _ (hrf 4).1 (hrf 4).2
            clear hP hrf hm hy hl hg hF e37
            simp only [q215_65, q215_66, q215_69, q215_71, q215_72, q215_73, q215_74, q215_75, q215_76, q215_79, q215_81, q215_82, q215_92, q215_93, q215_96, q215_97, q215_99, q215_102, m_0 hS, m_K hS, mR_isMarked hS, mK_isMarked hS, mL_isMarked hS, sp_refuse_1 hS, sp_refuse_2 hS, sp_refuse_3 hS, sp_refuse_4 hS, sp_refuse_5 hS, sp_refuse_6 hS, as_nil, as_i, as_r, Nat.reduceAdd, Nat.reduceLeDiff, z_eq0, z_eq1, z_or, z_em, Classical.not_not, not_false_eq_true, not_true_eq_false, true_and, and_true, false_and, and_false, and_self, true_implies, false_implies, implies_true, Option.toList_some, Option.toList_none, List.cons_append, List.nil_append, Nat.add_eq_zero_iff, a_nl_i, a_nl_r, a_nl_n, true_or, or_true, eq_self, ok_4, ok_5, ok_6, ok_7, ok_9, ok_10, ok_20, ok_21, ok_24, ok_30, ok_48, ok_50, ok_60, ok_80, ok_120, ok_180, ok_192, ok_200, ok_900, ok_1000, ok_84000, ex, hx, e37x, c3, hz3, c4, c5, c5']
            try simp only [true_and, and_true, true_implies, false_implies, implies_true, not_true_eq_false, not_false_eq_true]
            first
              | exact hr
              | grind
          · rw [if_neg c5] at hP
            have c5' : 0 ≤ v := Int32.not_lt.mp c5
            by_cases c6 : 100 < v
            · rw [if_pos c6] at hP
              have c6' : ¬ v ≤ 100 := Int32.not_le.mpr c6
              have hr := hP _ (hrf 6).1 (hrf 6).2
              clear hP hrf hm hy hl hg hF e37
              simp only [q215_65, q215_66, q215_69, q215_71, q215_72, q215_73, q215_74, q215_75, q215_76, q215_79, q215_81, q215_82, q215_92, q215_93, q215_103, q215_104, q215_106, q215_109, q215_110, q215_112, q215_115, m_0 hS, m_K hS, mR_isMarked hS, mK_isMarked hS, mL_isMarked hS, sp_refuse_1 hS, sp_refuse_2 hS, sp_refuse_3 hS, sp_refuse_4 hS, sp_refuse_5 hS, sp_refuse_6 hS, as_nil, as_i, as_r, Nat.reduceAdd, Nat.reduceLeDiff, z_eq0, z_eq1, z_or, z_em, Classical.not_not, not_false_eq_true, not_true_eq_false, true_and, and_true, false_and, and_false, and_self, true_implies, false_implies, implies_true, Option.toList_some, Option.toList_none, List.cons_append, List.nil_append, Nat.add_eq_zero_iff, a_nl_i, a_nl_r, a_nl_n, true_or, or_true, eq_self, ok_4, ok_5, ok_6, ok_7, ok_9, ok_10, ok_20, ok_21, ok_24, ok_30, ok_48, ok_50, ok_60, ok_80, ok_120, ok_180, ok_192, ok_200, ok_900, ok_1000, ok_84000, ex, hx, e37x, c3, hz3, c4, c5, c5', c6, c6']
              try simp only [true_and, and_true, true_implies, false_implies, implies_true, not_true_eq_false, not_false_eq_true]
              first
                | exact hr
                | grind
            · rw [if_neg c6] at hP
              have c6' : v ≤ 100 := Int32.not_lt.mp c6
              have s1 := gs_up2 hg (k := 37) (j := (30 * r.toNatClampNeg + a.toNatClampNeg)) (v := 1) (by omega) (by omega) (sR_isMarked hg.1)
              have s2 := gs_up2 s1 (k := 36) (j := (30 * r.toNatClampNeg + a.toNatClampNeg)) (v := v) (by omega) (by omega) (sR_marks s1.1)
              have s3 := fun w => gs_up2 s2 (k := 38) (j := (30 * r.toNatClampNeg + a.toNatClampNeg)) (v := w) (by omega) (by omega) (sR_doesCount s2.1)
              have F3 := fun w => mF_le (c' := c + 120) (sF_doesCount (k := (30 * r.toNatClampNeg + a.toNatClampNeg)) (v := w) (sF_marks (k := (30 * r.toNatClampNeg + a.toNatClampNeg)) (v := v) (sF_isMarked (k := (30 * r.toNatClampNeg + a.toNatClampNeg)) (v := 1) hF))) (by omega)
              have e8' : ∀ k j w, ¬ k = M + 8 → a_ui I k j w (M + 8) a.toNatClampNeg = (Y 8 a.toNatClampNeg) := fun k j w hk => by rw [ui_ap, if_neg (fun q => hk q.1.symm)]; exact e8
              unfold mrW at hP
              by_cases cg : Y 35 (10 * r.toNatClampNeg + (Y 8 a.toNatClampNeg).toNatClampNeg) = 0
              · rw [if_pos cg] at hP
                have hp := hP _ (F3 1) (s3 1)
                clear hP hrf hm hy hl hg hF e37 s1 s2 s3 F3
                simp only [q215_65, q215_66, q215_69, q215_71, q215_72, q215_73, q215_74, q215_75, q215_76, q215_79, q215_81, q215_82, q215_92, q215_93, q215_103, q215_104, q215_106, q215_116, q215_117, q215_120, q215_122, q215_123, q215_124, q215_125, q215_126, q215_127, q215_128, q215_129, q215_132, q215_134, q215_135, q215_136, q215_137, q215_138, q215_139, q215_140, q215_141, q215_144, q215_146, q215_147, q215_148, q215_149, q215_150, q215_151, q215_154, q215_156, q215_157, q215_158, q215_159, q215_162, q215_163, q215_164, q215_165, q215_166, q215_169, q215_170, q215_173, q215_174, q215_175, q215_176, q215_179, q215_181, q215_182, q215_183, q215_184, q215_185, q215_186, q215_189, q215_190, q215_193, q215_194, m_0 hS, m_K hS, mR_isMarked hS, mK_isMarked hS, mL_isMarked hS, mR_marks hS, mK_marks hS, mL_marks hS, mR_doesCount hS, mK_doesCount hS, mL_doesCount hS, mR_isKin hS, mK_isKin hS, mL_isKin hS, mR_group hS, mK_group hS, mL_group hS, as_nil, as_i, as_r, Nat.reduceAdd, Nat.reduceLeDiff, z_eq0, z_eq1, z_or, z_em, Classical.not_not, not_false_eq_true, not_true_eq_false, true_and, and_true, false_and, and_false, and_self, true_implies, false_implies, implies_true, Option.toList_some, Option.toList_none, List.cons_append, List.nil_append, Nat.add_eq_zero_iff, a_nl_i, a_nl_r, a_nl_n, true_or, or_true, eq_self, ok_4, ok_5, ok_6, ok_7, ok_9, ok_10, ok_20, ok_21, ok_24, ok_30, ok_48, ok_50, ok_60, ok_80, ok_120, ok_180, ok_192, ok_200, ok_900, ok_1000, ok_84000, ui_ap, ne_MM, ne_M0, ne_0M, Nat.reduceEqDiff, reduceIte, if_true, if_false, ex, hx, e37x, c3, hz3, c4, c5, c5', c6, c6', e8, ha, ez, hz, e35, cg, a11, a00, n10]
                try simp only [true_and, and_true, true_implies, false_implies, implies_true, not_true_eq_false, not_false_eq_true]
                first
                  | exact hp
                  | grind
              · rw [if_neg cg] at hP
                have hp := hP _ (F3 0) (s3 0)
                clear hP hrf hm hy hl hg hF e37 s1 s2 s3 F3
                simp only [q215_65, q215_66, q215_69, q215_71, q215_72, q215_73, q215_74, q215_75, q215_76, q215_79, q215_81, q215_82, q215_92, q215_93, q215_103, q215_104, q215_106, q215_116, q215_117, q215_120, q215_122, q215_123, q215_124, q215_125, q215_126, q215_127, q215_128, q215_129, q215_132, q215_134, q215_135, q215_136, q215_137, q215_138, q215_139, q215_140, q215_141, q215_144, q215_146, q215_147, q215_148, q215_149, q215_150, q215_151, q215_154, q215_156, q215_157, q215_158, q215_159, q215_162, q215_163, q215_164, q215_165, q215_166, q215_169, q215_170, q215_173, q215_174, q215_175, q215_176, q215_179, q215_181, q215_182, q215_183, q215_184, q215_185, q215_186, q215_189, q215_190, q215_193, q215_194, m_0 hS, m_K hS, mR_isMarked hS, mK_isMarked hS, mL_isMarked hS, mR_marks hS, mK_marks hS, mL_marks hS, mR_doesCount hS, mK_doesCount hS, mL_doesCount hS, mR_isKin hS, mK_isKin hS, mL_isKin hS, mR_group hS, mK_group hS, mL_group hS, as_nil, as_i, as_r, Nat.reduceAdd, Nat.reduceLeDiff, z_eq0, z_eq1, z_or, z_em, Classical.not_not, not_false_eq_true, not_true_eq_false, true_and, and_true, false_and, and_false, and_self, true_implies, false_implies, implies_true, Option.toList_some, Option.toList_none, List.cons_append, List.nil_append, Nat.add_eq_zero_iff, a_nl_i, a_nl_r, a_nl_n, true_or, or_true, eq_self, ok_4, ok_5, ok_6, ok_7, ok_9, ok_10, ok_20, ok_21, ok_24, ok_30, ok_48, ok_50, ok_60, ok_80, ok_120, ok_180, ok_192, ok_200, ok_900, ok_1000, ok_84000, ui_ap, ne_MM, ne_M0, ne_0M, Nat.reduceEqDiff, reduceIte, if_true, if_false, ex, hx, e37x, c3, hz3, c4, c5, c5', c6, c6', e8, ha, ez, hz, e35, cg, a11, a00, n10]
                try simp only [true_and, and_true, true_implies, false_implies, implies_true, not_true_eq_false, not_false_eq_true]
                first
                  | exact hp
                  | grind
      · rw [if_pos (Or.inl c3)] at hP
        have hr := hP _ (hrf 3).1 (hrf 3).2
        clear hP hrf hm hy hl hg hF e37
        simp only [q215_65, q215_66, q215_69, q215_71, q215_72, q215_73, q215_74, q215_75, q215_76, q215_79, q215_81, q215_82, q215_85, q215_86, q215_88, q215_91, m_0 hS, m_K hS, mR_isMarked hS, mK_isMarked hS, mL_isMarked hS, sp_refuse_1 hS, sp_refuse_2 hS, sp_refuse_3 hS, sp_refuse_4 hS, sp_refuse_5 hS, sp_refuse_6 hS, as_nil, as_i, as_r, Nat.reduceAdd, Nat.reduceLeDiff, z_eq0, z_eq1, z_or, z_em, Classical.not_not, not_false_eq_true, not_true_eq_false, true_and, and_true, false_and, and_false, and_self, true_implies, false_implies, implies_true, Option.toList_some, Option.toList_none, List.cons_append, List.nil_append, Nat.add_eq_zero_iff, a_nl_i, a_nl_r, a_nl_n, true_or, or_true, eq_self, ok_4, ok_5, ok_6, ok_7, ok_9, ok_10, ok_20, ok_21, ok_24, ok_30, ok_48, ok_50, ok_60, ok_80, ok_120, ok_180, ok_192, ok_200, ok_900, ok_1000, ok_84000, ex, hx, e37x, c3]
        try simp only [true_and, and_true, true_implies, false_implies, implies_true, not_true_eq_false, not_false_eq_true]
        first
          | exact hr
          | grind) 0 (by decide) 0 (by decide) rfl
    clear hP hrf hm hy hl hg hF e37
    rw [a_enter1 (M := a_m215) rfl (a_cat_rf (a_cat_int (a_cat_int (a_cat_int a_cat_nil)))) (show 4 ≤ 6 by decide)]
    show a_at _ (a_xm a_m215) 0 [some (a_rf M), some (.int r), some (.int a), some (.int v), none, none] [] _ _
    simp only [q215_0, q215_1, q215_4, q215_7, q215_8, q215_9, q215_12, q215_15, q215_16, q215_17, q215_20, q215_21, q215_22, q215_24, q215_25, m_0 hS, m_K hS, sp_isReader, sp_isAsk hS, sp_refuse_1 hS, sp_refuse_2 hS, sp_refuse_3 hS, sp_refuse_4 hS, sp_refuse_5 hS, sp_refuse_6 hS, as_nil, as_i, as_r, Nat.reduceAdd, Nat.reduceLeDiff, z_eq0, z_eq1, z_or, z_em, Classical.not_not, not_false_eq_true, not_true_eq_false, true_and, and_true, false_and, and_false, and_self, true_implies, false_implies, implies_true, Option.toList_some, Option.toList_none, List.cons_append, List.nil_append, Nat.add_eq_zero_iff, a_nl_i, a_nl_r, a_nl_n, true_or, or_true, eq_self, ok_4, ok_5, ok_6, ok_7, ok_9, ok_10, ok_20, ok_21, ok_24, ok_30, ok_48, ok_50, ok_60, ok_80, ok_120, ok_180, ok_192, ok_200, ok_900, ok_1000, ok_84000, e17, m17, c1, cr, r5]
    try simp only [true_and, and_true, true_implies, false_implies, implies_true, not_true_eq_false, not_false_eq_true]
    first
      | exact hl2
      | grind
  · rw [if_pos c0] at hP
    have hr := hP _ (hrf 1).1 (hrf 1).2
    have r5 : (0 ≤ r ∧ r ≤ 5) = (0 ≤ r ∧ r < 6) := propext (by clear hP hrf hm hy hl hg hF; grind)
    clear hP hrf hm hy hl hg hF
    rw [a_enter1 (M := a_m215) rfl (a_cat_rf (a_cat_int (a_cat_int (a_cat_int a_cat_nil)))) (show 4 ≤ 6 by decide)]
    show a_at _ (a_xm a_m215) 0 [some (a_rf M), some (.int r), some (.int a), some (.int v), none, none] [] _ _
    simp only [q215_0, q215_1, q215_4, q215_7, q215_8, q215_9, q215_12, q215_15, q215_16, q215_17, q215_20, m_0 hS, m_K hS, sp_isReader, sp_isAsk hS, sp_refuse_1 hS, sp_refuse_2 hS, sp_refuse_3 hS, sp_refuse_4 hS, sp_refuse_5 hS, sp_refuse_6 hS, as_nil, as_i, as_r, Nat.reduceAdd, Nat.reduceLeDiff, z_eq0, z_eq1, z_or, z_em, Classical.not_not, not_false_eq_true, not_true_eq_false, true_and, and_true, false_and, and_false, and_self, true_implies, false_implies, implies_true, Option.toList_some, Option.toList_none, List.cons_append, List.nil_append, Nat.add_eq_zero_iff, a_nl_i, a_nl_r, a_nl_n, true_or, or_true, eq_self, ok_4, ok_5, ok_6, ok_7, ok_9, ok_10, ok_20, ok_21, ok_24, ok_30, ok_48, ok_50, ok_60, ok_80, ok_120, ok_180, ok_192, ok_200, ok_900, ok_1000, ok_84000, e17, m17, r5]
    try simp only [true_and, and_true, true_implies, false_implies, implies_true, not_true_eq_false, not_false_eq_true]
    by_cases q1 : 0 ≤ r ∧ r < 6
    · have q2 : ¬ (0 ≤ a ∧ a < Y 0 17) := fun q => c0 ⟨q1, q⟩
      simp only [q1, q2]
      try simp only [true_and, and_true, true_implies, false_implies, implies_true, not_true_eq_false, not_false_eq_true]
      first
        | exact hr
        | grind
    · simp only [q1]
      try simp only [true_and, and_true, true_implies, false_implies, implies_true, not_true_eq_false, not_false_eq_true]
      first
        | exact hr
        | grind
end ZF1
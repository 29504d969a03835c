/-! wish -/
section YS0
variable {d n t C c : Nat} {K L : Nat → Nat} {I I0 J J0 J1 J2 : Nat → Nat → Int32} {R : Nat → Nat → Nat} {P : Option Value → AH → Prop}
variable {Y Z W : Nat → Nat → Int32} {R' R1 : Nat → Nat → Nat} {K' L' : Nat → Nat}
theorem bq_xor (x y : Int32) (i : Nat) : bq (x ^^^ y) i = (bq x i ^^ bq y i) := by unfold bq; rw [Int32.toBitVec_xor, BitVec.getLsbD_xor]
theorem bq_m1 : ∀ i, i < 32 → bq (-1) i = true := by decide +kernel
theorem bq_clr {k i : Nat} (hk : k < 32) (hi : i < 32) (x : Int32) : bq (x &&& (((1 : Int32) <<< (Int32.ofNat k &&& 31)) ^^^ (-1))) i = (bq x i && !decide (i = k)) := by
  rw [bq_and, bq_xor, bq_m1 i hi, bq_shl hk _ hi, bq_1 _ (by omega)]
  by_cases e : i = k
  · subst e; simp
  · by_cases h : k ≤ i
    · rw [decide_eq_false (show ¬ i - k = 0 by omega), decide_eq_false e]; simp
    · rw [decide_eq_false h, decide_eq_false e]; simp
theorem ix_900 {a o : Int32} (ha : 0 ≤ a ∧ a < 30) (ho : 0 ≤ o ∧ o < 30) : (30 * a + o).toNatClampNeg = (30 * a.toNatClampNeg + o.toNatClampNeg) ∧ (0 ≤ 30 * a + o ∧ 30 * a + o < 900) ∧ a.toNatClampNeg < 30 ∧ o.toNatClampNeg < 30 := by
  have c0 : (0 : Int32).toInt = 0 := rfl
  have c30 : (30 : Int32).toInt = 30 := rfl
  have c9 : (900 : Int32).toInt = 900 := rfl
  have a0 := Int32.le_iff_toInt_le.mp ha.1
  have a1 := Int32.lt_iff_toInt_lt.mp ha.2
  have o0 := Int32.le_iff_toInt_le.mp ho.1
  have o1 := Int32.lt_iff_toInt_lt.mp ho.2
  rw [c0] at a0 o0
  rw [c30] at a1 o1
  have e1 : (30 * a).toInt = 30 * a.toInt := by rw [Int32.toInt_mul, c30, in_bm (by omega) (by omega)]
  have e2 : (30 * a + o).toInt = 30 * a.toInt + o.toInt := by rw [Int32.toInt_add, e1, in_bm (by omega) (by omega)]
  refine ⟨?_, ⟨by rw [Int32.le_iff_toInt_le, e2, c0]; omega, by rw [Int32.lt_iff_toInt_lt, e2, c9]; omega⟩, ?_, ?_⟩
  · show (30 * a + o).toInt.toNat = 30 * a.toInt.toNat + o.toInt.toNat
    rw [e2]
    omega
  · show a.toInt.toNat < 30
    omega
  · show o.toInt.toNat < 30
    omega
def wsY (Y : Nat → Nat → Int32) (a o w : Int32) : Int32 × (Nat → Nat → Int32) := if ¬ ((0 ≤ a ∧ a < Y 0 17) ∧ (0 ≤ o ∧ o < Y 0 17) ∧ ¬ a = o) then (-1, Y) else (if Y 47 (30 * a.toNatClampNeg + o.toNatClampNeg) = w then 0 else 1, upY Y 47 (30 * a.toNatClampNeg + o.toNatClampNeg) w)
theorem ss_47 {k : Nat} {v : Int32} : sbE Y (upY Y 47 k v) := fun x j p => up_no (by unfold sb at p; omega)
theorem wsh_cu {m : Nat} (hH : cH C c m t K L I R) (hu : cuP C K L I R Y) {a o w : Int32} (ha : 0 ≤ a ∧ a < Y 0 17) (ho : 0 ≤ o ∧ o < Y 0 17) (hw : w = 0 ∨ w = 1) {v : Int32} (hv : ∀ i, i < 32 → (bq v i = true ↔ if i = o.toNatClampNeg then ¬ w = 0 else bq (I (C + 36) a.toNatClampNeg) i = true)) : cuP C K L (a_ui I (C + 36) a.toNatClampNeg v) R (upY Y 47 (30 * a.toNatClampNeg + o.toNatClampNeg) w) := by
  have hT := hH.1
  have hS := hT.s
  have hc := hu.1
  have h17 := hc.2.2.2.2.2.2.2.2.1
  have hy := hc.2.2.2.2
  obtain ⟨ex, -, a30, o30⟩ := ix_900 ⟨ha.1, Int32.lt_of_lt_of_le ha.2 h17.2⟩ ⟨ho.1, Int32.lt_of_lt_of_le ho.2 h17.2⟩
  have aT := cl_lt ha.1 ha.2
  have zn : ∀ {x i}, ¬ x = 47 → upY Y 47 (30 * a.toNatClampNeg + o.toNatClampNeg) w x i = Y x i := fun h => up_no (fun q => h q.1)
  have zr : ∀ x, ¬ x = 47 → upY Y 47 (30 * a.toNatClampNeg + o.toNatClampNeg) w x = Y x := fun x h => funext (fun i => zn h)
  have cin : ∀ k, ¬ k = 36 → ∀ m, a_ui I (C + 36) a.toNatClampNeg v (C + k) m = I (C + k) m := fun k hk m => by rw [ui_ap, if_neg (by omega)]
  have c0 : a_ui I (C + 36) a.toNatClampNeg v C 10 = I C 10 := cin 0 (by omega) 10
  have hc1 := cp_sc hT hc (k := 36) (j := a.toNatClampNeg) (v := v) (by omega) (by omega)
  have hT1 : cT C K L (a_ui I (C + 36) a.toNatClampNeg v) R := sT_Circle_wishes hT
  have hc2 : cpP C K L (a_ui I (C + 36) a.toNatClampNeg v) R (upY Y 47 (30 * a.toNatClampNeg + o.toNatClampNeg) w) := by
    refine cp_mk hT1 hc1 ss_47 ?_ (fun _ _ => ⟨rfl, rfl⟩) (fun _ _ _ _ _ _ _ => rfl) (fun _ _ _ => rfl) (fun _ _ _ _ _ => rfl) (fun _ _ _ _ => rfl) (fun _ _ _ => rfl) (fun _ _ _ _ => rfl) (fun i i0 i1 => ?_) ?_
    · have := hy.2.2.2.2.2.2.1
      unfold inP at this ⊢
      rw [zr 20 (by omega), zr 21 (by omega), zr 10 (by omega)]
      exact this
    · rw [zr 20 (by omega), zr 21 (by omega)]
      exact (hc1.2.2.1.2.2.2 i i0 i1).2.2.2.1
    · have := hc1.2.1.2.2.2
      unfold plP at this ⊢
      rw [zr 20 (by omega), zr 21 (by omega), zr 10 (by omega), zr 22 (by omega), zr 0 (by omega)]
      exact this
  obtain ⟨-, hse, ⟨⟨⟨h1, h2⟩, h3, h4, h5, h6⟩, ⟨⟨t1, t2⟩, ⟨t3, t4⟩, t5, t6⟩, ⟨d1, d2⟩, ⟨y1, y2, y3, y4, y5, y6, y7, y8⟩⟩, hno, hst⟩ := hu
  refine ⟨hc2, se_b hse ss_47, ⟨⟨⟨by rw [cin _ (by omega), zr 0 (by omega)]; exact h1, by rw [cin _ (by omega), zr 0 (by omega)]; exact h2⟩, fun k hk => by rw [cin _ (by omega), zr 38 (by omega), zr 36 (by omega)]; exact h3 k hk, fun r g hr' hg => by rw [cin _ (by omega), zr 35 (by omega)]; exact h4 r g hr' hg, fun r a hr' ha => by rw [cin _ (by omega), zr 37 (by omega)]; exact h5 r a hr' ha, fun x p hx hp => ?_⟩, ⟨⟨by rw [cin _ (by omega), zr 0 (by omega)]; exact t1, fun j hj => by rw [zr 0 (by omega)] at hj; rw [cin _ (by omega), cin _ (by omega), cin _ (by omega), zr 2 (by omega), zr 3 (by omega), zr 4 (by omega)]; exact t2 j hj⟩, ⟨by rw [cin _ (by omega), zr 0 (by omega)]; exact t3, fun j => by rw [cin _ (by omega), zr 27 (by omega)]; exact t4 j⟩, by rw [c0, zr 0 (by omega)]; exact t5, fun j hj => by rw [zr 0 (by omega)] at hj; rw [cin _ (by omega), zr 52 (by omega)]; exact t6 j hj⟩, ⟨by rw [zr 0 (by omega)]; exact d1, fun hd => ?_⟩, ?_⟩, ?_, ?_⟩
  · by_cases e : x = a.toNatClampNeg
    · rw [e, ui_ap, if_pos ⟨rfl, rfl⟩, hv p (by omega)]
      by_cases e2 : p = o.toNatClampNeg
      · rw [if_pos e2, e2, up_at]
      · rw [if_neg e2, up_no (by omega)]
        exact h6 _ p a30 hp
    · rw [ui_ap, if_neg (fun q => e q.2), up_no (by omega)]
      exact h6 x p hx hp
  · obtain ⟨e1, e2, e3, e4⟩ := d2 hd
    have g1 := (hT.g_ask _ e1).1
    have ej : ∀ j, a_ui I (C + 36) a.toNatClampNeg v (R C 11) j = I (R C 11) j := fun j => by rw [ui_ap, if_neg (by omega)]
    simp only [ej, zr 0 (by decide)]
    exact ⟨e1, e2, e3, e4⟩
  · refine ⟨fun k => ?_, fun r a => ?_, fun a => ?_, fun x p hx hp hle => ?_, fun q hq => ?_, fun j hj => ?_, fun k => ?_, fun j hj => ?_⟩
    · rw [zr 38 (by omega), zr 37 (by omega)]
      exact y1 k
    · rw [zr 0 (by omega), zr 37 (by omega)]
      exact y2 r a
    · rw [zr 37 (by omega)]
      exact y3 a
    · rw [zr 0 (by omega)] at hle
      rw [up_no (by omega)]
      exact y4 x p hx hp hle
    · rw [zr 0 (by omega)] at hq
      rw [wt_b ss_47, zr 29 (by omega)]
      exact y5 q hq
    · rw [zr 0 (by omega)] at hj
      rw [zr 2 (by omega), zr 3 (by omega)]
      exact y6 j hj
    · by_cases e : k = (30 * a.toNatClampNeg + o.toNatClampNeg)
      · rw [e, up_at]
        exact hw
      · rw [up_no (fun q => e q.2)]
        exact y7 k
    · rw [zr 0 (by omega)] at hj ⊢
      rw [zr 4 (by omega)]
      exact y8 j hj
  · unfold noP
    rw [zr 20 (by omega), zr 21 (by omega)]
    exact hno
  · have q := stP_f hc hst (J := a_ui I (C + 36) a.toNatClampNeg v) (R' := R) (fun x hx => by have := (hT.g_txt x hx).1; rw [ui_ap, if_neg (by omega)]) (fun _ => rfl)
    unfold stP at q ⊢
    rw [zr 0 (by omega), zr 31 (by omega)]
    exact q
theorem ge_wish (hH : cH C c (n + 1) t K L I R) (hu : cuP C K L I R Y) {a o w : Int32} (hw : w = 0 ∨ w = 1) (hP : ∀ n' t' K' L' J R', cH C c (n' + 1) t' K' L' J R' → cuP C K' L' J R' (wsY Y a o w).2 → P (some (.int (wsY Y a o w).1)) (n' + 1, t', K', L', J, R')) : a_does (d + 70) 147 [a_rf C, .int a, .int o, .int w] (n + 1, t, K, L, I, R) P := by
  have hT := hH.1
  have hS := hT.s
  have gA := hT.g_asksR
  have gB := hT.g_benchesR
  have gX := hT.g_textsR
  have hc := hu.1
  have h17 := hc.2.2.2.2.2.2.2.2.1
  have e4 : I (C + 14) 4 = Y 0 17 := hc.2.2.1.1
  unfold wsY at hP
  have hr1 : ¬ ((0 ≤ a ∧ a < Y 0 17) ∧ (0 ≤ o ∧ o < Y 0 17) ∧ ¬ a = o) → a_does (d + 69) 10 [a_rf C, .int (-1)] (n + 1, t, K, L, I, R) (fun r h' => a_at (d + 69) (a_xm a_m147) 32 [some (a_rf C), some (.int a), some (.int o), some (.int w)] (r.toList ++ []) h' P) := fun q => by
    rw [if_pos q] at hP
    refine ge_refuse (d := d + 68) hH hu (fun J z1 z2 => ?_)
    have hp := hP n t K L J R z1 z2
    clear hP hc hu
    simp only [q147_32, as_nil, as_i, as_r, Nat.reduceAdd, Nat.reduceLeDiff, z_eq0, z_eq1, z_or, z_em, Classical.not_not, not_false_eq_true, not_true_eq_false, true_and, and_true, false_and, and_false, and_self, true_implies, false_implies, implies_true, Option.toList_some, Option.toList_none, List.cons_append, List.nil_append, Nat.add_eq_zero_iff, a_nl_i, a_nl_r, a_nl_n, true_or, or_true, eq_self, a_isRA_22, a_isRA_24, a_isRA_32, a_isA_20, ok_4, ok_5, ok_6, ok_7, ok_9, ok_20, ok_21, ok_30, ok_50, ok_180, ok_192, ok_200]
    exact hp
  by_cases c1 : 0 ≤ a ∧ a < Y 0 17
  · have hac : 0 ≤ a ∧ a < I (C + 14) 4 ∧ a < 30 := ⟨c1.1, by rw [e4]; exact c1.2, Int32.lt_of_lt_of_le c1.2 h17.2⟩
    have a0 : (R (C + 15) a.toNatClampNeg = 0) = False := eq_false (aa_of hc c1.1 c1.2).2.1.2.1
    by_cases c2 : 0 ≤ o ∧ o < Y 0 17
    · have hoc : 0 ≤ o ∧ o < I (C + 14) 4 ∧ o < 30 := ⟨c2.1, by rw [e4]; exact c2.2, Int32.lt_of_lt_of_le c2.2 h17.2⟩
      have o0 : (R (C + 15) o.toNatClampNeg = 0) = False := eq_false (aa_of hc c2.1 c2.2).2.1.2.1
      by_cases c3 : a = o
      · have hr := hr1 (fun q => q.2.2 c3)
        clear hP hc hu hr1
        rw [a_enter1 (M := a_m147) rfl (a_cat_rf (a_cat_int (a_cat_int (a_cat_int a_cat_nil)))) (show 4 ≤ 4 by decide)]
        show a_at _ (a_xm a_m147) 0 [some (a_rf C), some (.int a), some (.int o), some (.int w)] [] _ _
        simp only [q147_0, q147_1, q147_4, q147_5, q147_8, q147_11, q147_12, q147_15, q147_16, q147_19, q147_22, q147_23, q147_24, q147_27, q147_28, q147_29, k_0 hS, z_C hS, r_0_4 hS, k_14 hS, z_14, sp_askAt hS gA, as_nil, as_i, as_r, Nat.reduceAdd, Nat.reduceLeDiff, z_eq0, z_eq1, z_or, z_em, Classical.not_not, not_false_eq_true, not_true_eq_false, true_and, and_true, false_and, and_false, and_self, true_implies, false_implies, implies_true, Option.toList_some, Option.toList_none, List.cons_append, List.nil_append, Nat.add_eq_zero_iff, a_nl_i, a_nl_r, a_nl_n, true_or, or_true, eq_self, a_isRA_22, a_isRA_24, a_isRA_32, a_isA_20, ok_4, ok_5, ok_6, ok_7, ok_9, ok_20, ok_21, ok_30, ok_50, ok_180, ok_192, ok_200, hac, hoc, a0, o0, c3]
        try simp only [true_and, and_true, true_implies, false_implies, implies_true, not_true_eq_false, not_false_eq_true]
        rw [c3] at hr hac
        first
          | exact hr
          | grind
      · rw [if_neg (fun q => q ⟨c1, c2, c3⟩)] at hP
        obtain ⟨ex, -, a30, o30⟩ := ix_900 ⟨hac.1, hac.2.2⟩ ⟨hoc.1, hoc.2.2⟩
        have h6 := hu.2.2.1.1.2.2.2.2 a.toNatClampNeg o.toNatClampNeg a30 o30
        have h7 := hu.2.2.1.2.2.2.2.2.2.2.2.2.1 (30 * a.toNatClampNeg + o.toNatClampNeg)
        have hcl : a_does (d + 69) 148 [a_rf (C + 35), .int a, .int o, .int w] (n + 1, t, K, L, I, R) (fun r h' => a_at (d + 69) (a_xm a_m147) 43 [some (a_rf C), some (.int a), some (.int o), some (.int w)] (r.toList ++ []) h' P) := by
          have hp := fun v hv => hP n t K L (a_ui I (C + 36) a.toNatClampNeg v) R (cH_J hH (sT_Circle_wishes hT)) (wsh_cu hH hu c1 c2 hw hv)
          have hbit : ((I (C + 36) a.toNatClampNeg >>> (o &&& 31)) &&& 1 = 0) = (Y 47 (30 * a.toNatClampNeg + o.toNatClampNeg) = 0) := by
            have q := bq_at (k := o.toNatClampNeg) (by omega) (I (C + 36) a.toNatClampNeg)
            rw [← on_cl c2.1] at q
            rw [q]
            refine propext ⟨fun e => Classical.byContradiction (fun n => ?_), fun e => ?_⟩
            · rw [h6.mpr n] at e
              cases e
            · cases e2 : bq (I (C + 36) a.toNatClampNeg) o.toNatClampNeg with
              | false => rfl
              | true => exact absurd e (h6.mp e2)
          have hset : ∀ i, i < 32 → bq (I (C + 36) a.toNatClampNeg ||| ((1 : Int32) <<< (o &&& 31))) i = (bq (I (C + 36) a.toNatClampNeg) i || decide (i = o.toNatClampNeg)) := fun i hi => by
            have q := bq_set (k := o.toNatClampNeg) (i := i) (by omega) hi (I (C + 36) a.toNatClampNeg)
            rw [← on_cl c2.1] at q
            exact q
          have hclr : ∀ i, i < 32 → bq (I (C + 36) a.toNatClampNeg &&& (((1 : Int32) <<< (o &&& 31)) ^^^ (-1))) i = (bq (I (C + 36) a.toNatClampNeg) i && !decide (i = o.toNatClampNeg)) := fun i hi => by
            have q := bq_clr (k := o.toNatClampNeg) (i := i) (by omega) hi (I (C + 36) a.toNatClampNeg)
            rw [← on_cl c2.1] at q
            exact q
          have n10 : ¬ (1 : Int32) = 0 := by decide
          have n01 : ¬ (0 : Int32) = 1 := by decide
          have p1 := fun e : w = 1 => hp _ (fun i hi => by
            rw [hset i hi, e]
            by_cases q : i = o.toNatClampNeg
            · rw [if_pos q, decide_eq_true q, Bool.or_true]
              exact ⟨fun _ => n10, fun _ => rfl⟩
            · rw [if_neg q, decide_eq_false q, Bool.or_false])
          have p0 := fun e : w = 0 => hp _ (fun i hi => by
            rw [hclr i hi, e]
            by_cases q : i = o.toNatClampNeg
            · rw [if_pos q, decide_eq_true q, Bool.not_true, Bool.and_false]
              exact ⟨fun z => absurd z Bool.false_ne_true, fun z => absurd rfl z⟩
            · rw [if_neg q, decide_eq_false q, Bool.not_false, Bool.and_true])
          clear hP hc hu hr1 hp hset hclr h6
          rw [a_enter1 (M := a_m148) rfl (a_cat_rf (a_cat_int (a_cat_int (a_cat_int a_cat_nil)))) (show 4 ≤ 5 by decide)]
          show a_at _ (a_xm a_m148) 0 [some (a_rf (C + 35)), some (.int a), some (.int o), some (.int w), none] [] _ _
          rcases hw with e | e
          · have p0 := p0 e
            subst e
            clear p1
            rcases h7 with e7 | e7
            · rw [e7] at p0 hbit
              simp only [q148_0, q148_1, q148_4, q148_5, q148_6, q148_7, q148_8, q148_9, q148_10, q148_13, q148_14, q148_17, q148_18, q148_20, q148_21, q148_24, q148_25, q148_28, q148_29, q148_30, q148_31, q148_32, q148_33, q148_34, q148_35, q148_36, q148_39, q148_40, q148_43, q148_44, q148_45, q148_46, q148_47, q148_48, q148_49, q148_50, q148_51, q148_52, q148_53, q148_55, q148_56, q148_59, q148_60, q148_63, q148_64, k_35 hS, z_35, r_35_1 hS, k_36 hS, l_36 hS, z_36, q147_43, q147_46, q147_47, q147_50, q147_51, as_nil, as_i, as_r, Nat.reduceAdd, Nat.reduceLeDiff, z_eq0, z_eq1, z_or, z_em, Classical.not_not, not_false_eq_true, not_true_eq_false, true_and, and_true, false_and, and_false, and_self, true_implies, false_implies, implies_true, Option.toList_some, Option.toList_none, List.cons_append, List.nil_append, Nat.add_eq_zero_iff, a_nl_i, a_nl_r, a_nl_n, true_or, or_true, eq_self, a_isRA_22, a_isRA_24, a_isRA_32, a_isA_20, ok_4, ok_5, ok_6, ok_7, ok_9, ok_20, ok_21, ok_30, ok_50, ok_180, ok_192, ok_200, hac, hbit, n10, n01]
              try simp only [true_and, and_true, true_implies, false_implies, implies_true, not_true_eq_false, not_false_eq_true]
              first
                | exact p0
                | grind
            · rw [e7] at p0 hbit
              simp only [q148_0, q148_1, q148_4, q148_5, q148_6, q148_7, q148_8, q148_9, q148_10, q148_13, q148_14, q148_17, q148_18, q148_20, q148_21, q148_24, q148_25, q148_28, q148_29, q148_30, q148_31, q148_32, q148_33, q148_34, q148_35, q148_36, q148_39, q148_40, q148_43, q148_44, q148_45, q148_46, q148_47, q148_48, q148_49, q148_50, q148_51, q148_52, q148_53, q148_55, q148_56, q148_59, q148_60, q148_63, q148_64, k_35 hS, z_35, r_35_1 hS, k_36 hS, l_36 hS, z_36, q147_43, q147_46, q147_47, q147_50, q147_51, as_nil, as_i, as_r, Nat.reduceAdd, Nat.reduceLeDiff, z_eq0, z_eq1, z_or, z_em, Classical.not_not, not_false_eq_true, not_true_eq_false, true_and, and_true, false_and, and_false, and_self, true_implies, false_implies, implies_true, Option.toList_some, Option.toList_none, List.cons_append, List.nil_append, Nat.add_eq_zero_iff, a_nl_i, a_nl_r, a_nl_n, true_or, or_true, eq_self, a_isRA_22, a_isRA_24, a_isRA_32, a_isA_20, ok_4, ok_5, ok_6, ok_7, ok_9, ok_20, ok_21, ok_30, ok_50, ok_180, ok_192, ok_200, hac, hbit, n10, n01]
              try simp only [true_and, and_true, true_implies, false_implies, implies_true, not_true_eq_false, not_false_eq_true]
              first
                | exact p0
                | grind
          · have p1 := p1 e
            subst e
            clear p0
            rcases h7 with e7 | e7
            · rw [e7] at p1 hbit
              simp only [q148_0, q148_1, q148_4, q148_5, q148_6, q148_7, q148_8, q148_9, q148_10, q148_13, q148_14, q148_17, q148_18, q148_20, q148_21, q148_24, q148_25, q148_28, q148_29, q148_30, q148_31, q148_32, q148_33, q148_34, q148_35, q148_36, q148_39, q148_40, q148_43, q148_44, q148_45, q148_46, q148_47, q148_48, q148_49, q148_50, q148_51, q148_52, q148_53, q148_55, q148_56, q148_59, q148_60, q148_63, q148_64, k_35 hS, z_35, r_35_1 hS, k_36 hS, l_36 hS, z_36, q147_43, q147_46, q147_47, q147_50, q147_51, as_nil, as_i, as_r, Nat.reduceAdd, Nat.reduceLeDiff, z_eq0, z_eq1, z_or, z_em, Classical.not_not, not_false_eq_true, not_true_eq_false, true_and, and_true, false_and, and_false, and_self, true_implies, false_implies, implies_true, Option.toList_some, Option.toList_none, List.cons_append, List.nil_append, Nat.add_eq_zero_iff, a_nl_i, a_nl_r, a_nl_n, true_or, or_true, eq_self, a_isRA_22, a_isRA_24, a_isRA_32, a_isA_20, ok_4, ok_5, ok_6, ok_7, ok_9, ok_20, ok_21, ok_30, ok_50, ok_180, ok_192, ok_200, hac, hbit, n10, n01]
              try simp only [true_and, and_true, true_implies, false_implies, implies_true, not_true_eq_false, not_false_eq_true]
              first
                | exact p1
                | grind
            · rw [e7] at p1 hbit
              simp only [q148_0, q148_1, q148_4, q148_5, q148_6, q148_7, q148_8, q148_9, q148_10, q148_13, q148_14, q148_17, q148_18, q148_20, q148_21, q148_24, q148_25, q148_28, q148_29, q148_30, q148_31, q148_32, q148_33, q148_34, q148_35, q148_36, q148_39, q148_40, q148_43, q148_44, q148_45, q148_46, q148_47, q148_48, q148_49, q148_50, q148_51, q148_52, q148_53, q148_55, q148_56, q148_59, q148_60, q148_63, q148_64, k_35 hS, z_35, r_35_1 hS, k_36 hS, l_36 hS, z_36, q147_43, q147_46, q147_47, q147_50, q147_51, as_nil, as_i, as_r, Nat.reduceAdd, Nat.reduceLeDiff, z_eq0, z_eq1, z_or, z_em, Classical.not_not, not_false_eq_true, not_true_eq_false, true_and, and_true, false_and, and_false, and_self, true_implies, false_implies, implies_true, Option.toList_some, Option.toList_none, List.cons_append, List.nil_append, Nat.add_eq_zero_iff, a_nl_i, a_nl_r, a_nl_n, true_or, or_true, eq_self, a_isRA_22, a_isRA_24, a_isRA_32, a_isA_20, ok_4, ok_5, ok_6, ok_7, ok_9, ok_20, ok_21, ok_30, ok_50, ok_180, ok_192, ok_200, hac, hbit, n10, n01]
              try simp only [true_and, and_true, true_implies, false_implies, implies_true, not_true_eq_false, not_false_eq_true]
              first
                | exact p1
                | grind
        clear hP hc hu hr1
        rw [a_enter1 (M := a_m147) rfl (a_cat_rf (a_cat_int (a_cat_int (a_cat_int a_cat_nil)))) (show 4 ≤ 4 by decide)]
        show a_at _ (a_xm a_m147) 0 [some (a_rf C), some (.int a), some (.int o), some (.int w)] [] _ _
        simp only [q147_0, q147_1, q147_4, q147_5, q147_8, q147_11, q147_12, q147_15, q147_16, q147_19, q147_22, q147_23, q147_24, q147_27, q147_28, q147_29, q147_32, q147_33, q147_34, q147_37, q147_38, q147_39, q147_40, k_0 hS, z_C hS, r_0_4 hS, k_14 hS, z_14, r_0_7 hS, k_35 hS, z_35, sp_askAt hS gA, as_nil, as_i, as_r, Nat.reduceAdd, Nat.reduceLeDiff, z_eq0, z_eq1, z_or, z_em, Classical.not_not, not_false_eq_true, not_true_eq_false, true_and, and_true, false_and, and_false, and_self, true_implies, false_implies, implies_true, Option.toList_some, Option.toList_none, List.cons_append, List.nil_append, Nat.add_eq_zero_iff, a_nl_i, a_nl_r, a_nl_n, true_or, or_true, eq_self, a_isRA_22, a_isRA_24, a_isRA_32, a_isA_20, ok_4, ok_5, ok_6, ok_7, ok_9, ok_20, ok_21, ok_30, ok_50, ok_180, ok_192, ok_200, hac, hoc, a0, o0, c3]
        try simp only [true_and, and_true, true_implies, false_implies, implies_true, not_true_eq_false, not_false_eq_true]
        first
          | exact hcl
          | grind
    · have hoc : ¬ (0 ≤ o ∧ o < I (C + 14) 4 ∧ o < 30) := fun q => c2 ⟨q.1, by rw [← e4]; exact q.2.1⟩
      have hr := hr1 (fun q => c2 q.2.1)
      clear hP hc hu hr1
      rw [a_enter1 (M := a_m147) rfl (a_cat_rf (a_cat_int (a_cat_int (a_cat_int a_cat_nil)))) (show 4 ≤ 4 by decide)]
      show a_at _ (a_xm a_m147) 0 [some (a_rf C), some (.int a), some (.int o), some (.int w)] [] _ _
      simp only [q147_0, q147_1, q147_4, q147_5, q147_8, q147_11, q147_12, q147_15, q147_16, q147_19, q147_22, q147_23, q147_24, q147_27, q147_28, q147_29, k_0 hS, z_C hS, r_0_4 hS, k_14 hS, z_14, sp_askAt hS gA, as_nil, as_i, as_r, Nat.reduceAdd, Nat.reduceLeDiff, z_eq0, z_eq1, z_or, z_em, Classical.not_not, not_false_eq_true, not_true_eq_false, true_and, and_true, false_and, and_false, and_self, true_implies, false_implies, implies_true, Option.toList_some, Option.toList_none, List.cons_append, List.nil_append, Nat.add_eq_zero_iff, a_nl_i, a_nl_r, a_nl_n, true_or, or_true, eq_self, a_isRA_22, a_isRA_24, a_isRA_32, a_isA_20, ok_4, ok_5, ok_6, ok_7, ok_9, ok_20, ok_21, ok_30, ok_50, ok_180, ok_192, ok_200, hac, hoc, a0]
      try simp only [true_and, and_true, true_implies, false_implies, implies_true, not_true_eq_false, not_false_eq_true]
      first
        | exact hr
        | grind
  · have hac : ¬ (0 ≤ a ∧ a < I (C + 14) 4 ∧ a < 30) := fun q => c1 ⟨q.1, by rw [← e4]; exact q.2.1⟩
    have hr := hr1 (fun q => c1 q.1)
    clear hP hc hu hr1
    rw [a_enter1 (M := a_m147) rfl (a_cat_rf (a_cat_int (a_cat_int (a_cat_int a_cat_nil)))) (show 4 ≤ 4 by decide)]
    show a_at _ (a_xm a_m147) 0 [some (a_rf C), some (.int a), some (.int o), some (.int w)] [] _ _
    simp only [q147_0, q147_1, q147_4, q147_5, q147_8, q147_11, q147_12, q147_15, q147_16, q147_19, q147_22, q147_23, q147_24, q147_27, q147_28, q147_29, k_0 hS, z_C hS, r_0_4 hS, k_14 hS, z_14, sp_askAt hS gA, as_nil, as_i, as_r, Nat.reduceAdd, Nat.reduceLeDiff, z_eq0, z_eq1, z_or, z_em, Classical.not_not, not_false_eq_true, not_true_eq_false, true_and, and_true, false_and, and_false, and_self, true_implies, false_implies, implies_true, Option.toList_some, Option.toList_none, List.cons_append, List.nil_append, Nat.add_eq_zero_iff, a_nl_i, a_nl_r, a_nl_n, true_or, or_true, eq_self, a_isRA_22, a_isRA_24, a_isRA_32, a_isA_20, ok_4, ok_5, ok_6, ok_7, ok_9, ok_20, ok_21, ok_30, ok_50, ok_180, ok_192, ok_200, hac]
    try simp only [true_and, and_true, true_implies, false_implies, implies_true, not_true_eq_false, not_false_eq_true]
    first
      | exact hr
      | grind
end YS0
/-! the reference: ring, swap -/
section ZHH
variable {d n t M : Nat} {K L : Nat → Nat} {I I0 J J0 J1 J2 : Nat → Nat → Int32} {R : Nat → Nat → Nat} {P : Option Value → AH → Prop} {f : Nat → Int32} {e : Int32}
variable {Y Z W : Nat → Nat → Int32} {m c : Nat} {g w v : Nat → Int32}
theorem xt_findRing_2 (hS : m_S M K L R) {I1 : Nat → Nat → Int32} (hm : okY Y) (hP : ∀ J, mF M c I1 J → gs M I0 J Y → (J M 74 = 0 ∨ (2 ≤ J M 74 ∧ J M 74 ≤ 5)) → rgR Y (J M 74).toNatClampNeg (J (M + 48)) → P none (n, t, K, L, J, R)) : ∀ m : Int32, m ≤ 6 → ∀ J i a, 2 ≤ m → mF M c I1 J → gs M I0 J Y → (∀ z t, 2 ≤ z → z < m.toNatClampNeg → ¬ rgA Y z t) → a_at (d + 11) (a_xm a_m252) 2 [some (a_rf M), some (.int m), i, a] [] (n, t, K, L, J, R) P := by
  have h17 := hm.1.2.2.2.2.1
  refine up_ind 6 (fun m hm6 ih => ?_)
  intro J i a hm2 hF hg hno
  rw [q252_2]
  by_cases c5 : 5 < m
  · have em : m = 6 := by clear ih hP hno hm hF hg; grind
    have hp := hP (a_ui J M 74 0) (sF_ringMany hF) (gs_u0 hg (sR_ringMany hg.1) (by unfold ps1; omega)) (by rw [ui_ap, if_pos ⟨rfl, rfl⟩]; exact Or.inl rfl) (by
      rw [ui_ap, if_pos ⟨rfl, rfl⟩]
      exact Or.inl ⟨rfl, fun z t z1 z2 => hno z t z1 (by rw [em]; show z < 6; omega)⟩)
    clear ih hP hno hm hF hg
    simp only [q252_3, q252_4, q252_135, q252_136, q252_137, q252_140, m_0 hS, m_K hS, as_nil, as_i, as_r, Nat.reduceAdd, Nat.reduceLeDiff, z_eq0, z_eq1, z_or, z_em, Classical.not_not, not_false_eq_true, not_true_eq_false, true_and, and_true, false_and, and_false, and_self, true_implies, false_implies, implies_true, Option.toList_some, Option.toList_none, List.cons_append, List.nil_append, Nat.add_eq_zero_iff, a_nl_i, a_nl_r, a_nl_n, true_or, or_true, eq_self, ok_4, ok_5, ok_6, ok_7, ok_9, ok_10, ok_20, ok_21, ok_24, ok_30, ok_48, ok_50, ok_60, ok_80, ok_120, ok_180, ok_192, ok_200, ok_900, ok_1000, ok_84000, c5]
    try simp only [true_and, and_true, true_implies, false_implies, implies_true, not_true_eq_false, not_false_eq_true]
    first
      | exact hp
      | grind
  · have hm25 : 2 ≤ m ∧ m ≤ 5 := ⟨hm2, Int32.not_lt.mp c5⟩
    have m6 : m < 6 := Int32.lt_of_le_of_lt hm25.2 (by decide)
    obtain ⟨-, t2, t3, t4⟩ := lp_st (Int32.le_trans (by decide) hm2) m6
    have mn1 : 1 < m.toNatClampNeg := cl_lt (i := 1) (by decide) (Int32.lt_of_lt_of_le (by decide) hm2)
    have hF1 : mF M c I1 (a_ui J (M + 48) 0 (-1)) := sF_ringAsk hF
    have hg1 : gs M I0 (a_ui J (M + 48) 0 (-1)) Y := gs_ui hg (sR_ringAsk hg.1) (by omega) ⟨by unfold ps1; omega, by omega⟩
    have e1 : (a_ui J (M + 48) 0 (-1)) (M + 48) (0 : Int32).toNatClampNeg = -1 := by rw [ui_ap, if_pos ⟨rfl, rfl⟩]
    have hl := xt_findRing_16 (d := d) (n := n) (t := t) (P := P) hS hm hm25 hno (fun J2 i2 a2 hF2 hg2 hall => by
      have hg := ih m6 J2 (some (.int i2)) a2 (by clear ih hP hno hm hF hg hF1 hg1; grind) hF2 hg2 (fun z t z1 z2 => by
        rw [t4] at z2
        by_cases e : z = m.toNatClampNeg
        · rw [e]; exact hall t
        · exact hno z t z1 (by omega))
      clear ih hP hno hm hF hF1 hg1
      simp only [q252_129, q252_132, as_nil, as_i, as_r, Nat.reduceAdd, Nat.reduceLeDiff, z_eq0, z_eq1, z_or, z_em, Classical.not_not, not_false_eq_true, not_true_eq_false, true_and, and_true, false_and, and_false, and_self, true_implies, false_implies, implies_true, Option.toList_some, Option.toList_none, List.cons_append, List.nil_append, Nat.add_eq_zero_iff, a_nl_i, a_nl_r, a_nl_n, true_or, or_true, eq_self, ok_4, ok_5, ok_6, ok_7, ok_9, ok_10, ok_20, ok_21, ok_24, ok_30, ok_48, ok_50, ok_60, ok_80, ok_120, ok_180, ok_192, ok_200, ok_900, ok_1000, ok_84000]
      exact hg) (fun J2 hF2 hg2 e2 hr => hP J2 hF2 hg2 (by rw [e2]; exact Or.inr hm25) (by rw [e2]; exact hr)) _ (a_ui J (M + 48) 0 (-1)) 0 a (Nat.lt_succ_self _) ⟨by decide, by clear ih hP hno hm hF hg hF1 hg1; grind⟩ hF1 hg1 (fun q => absurd q (by decide)) (fun _ => ⟨⟨⟨fun k hk => absurd hk (Nat.not_lt_zero k), fun k hk => absurd hk (Nat.not_lt_zero _), fun x y _ hy => absurd hy (Nat.not_lt_zero y)⟩, fun k hk => absurd hk (Nat.not_lt_zero k), by rw [e1]; exact bl_0 (by show 0 < _; omega)⟩, by rw [e1]; exact ⟨by decide, Int32.lt_of_lt_of_le (by decide) h17.1⟩⟩)
    clear ih hP hno hm hF hg hF1 hg1
    simp only [q252_3, q252_4, q252_7, q252_8, q252_9, q252_10, q252_13, q252_14, q252_15, m_0 hS, m_K hS, mR_ringAsk hS, mK_ringAsk hS, mL_ringAsk hS, as_nil, as_i, as_r, Nat.reduceAdd, Nat.reduceLeDiff, z_eq0, z_eq1, z_or, z_em, Classical.not_not, not_false_eq_true, not_true_eq_false, true_and, and_true, false_and, and_false, and_self, true_implies, false_implies, implies_true, Option.toList_some, Option.toList_none, List.cons_append, List.nil_append, Nat.add_eq_zero_iff, a_nl_i, a_nl_r, a_nl_n, true_or, or_true, eq_self, ok_4, ok_5, ok_6, ok_7, ok_9, ok_10, ok_20, ok_21, ok_24, ok_30, ok_48, ok_50, ok_60, ok_80, ok_120, ok_180, ok_192, ok_200, ok_900, ok_1000, ok_84000, c5]
    try simp only [true_and, and_true, true_implies, false_implies, implies_true, not_true_eq_false, not_false_eq_true]
    first
      | exact hl
      | grind
theorem xt_findRing (hS : m_S M K L R) {I1 : Nat → Nat → Int32} (hm : okY Y) (hF : mF M c I1 I) (hg : gs M I0 I Y) (hP : ∀ J, mF M c I1 J → gs M I0 J Y → (J M 74 = 0 ∨ (2 ≤ J M 74 ∧ J M 74 ≤ 5)) → rgR Y (J M 74).toNatClampNeg (J (M + 48)) → P none (n, t, K, L, J, R)) : a_does (d + 12) 252 [a_rf M] (n, t, K, L, I, R) P := by
  have hl := xt_findRing_2 (d := d) (n := n) (t := t) (P := P) hS hm hP 2 (by decide) I none none (by decide) hF hg (fun z t z1 z2 => by
    have z2 : z < 2 := z2
    omega)
  clear hP
  rw [a_enter1 (M := a_m252) rfl (a_cat_rf a_cat_nil) (show 1 ≤ 4 by decide)]
  show a_at _ (a_xm a_m252) 0 [some (a_rf M), none, none, none] [] _ _
  simp only [q252_0, q252_1, as_nil, as_i, as_r, Nat.reduceAdd, Nat.reduceLeDiff, z_eq0, z_eq1, z_or, z_em, Classical.not_not, not_false_eq_true, not_true_eq_false, true_and, and_true, false_and, and_false, and_self, true_implies, false_implies, implies_true, Option.toList_some, Option.toList_none, List.cons_append, List.nil_append, Nat.add_eq_zero_iff, a_nl_i, a_nl_r, a_nl_n, true_or, or_true, eq_self, ok_4, ok_5, ok_6, ok_7, ok_9, ok_10, ok_20, ok_21, ok_24, ok_30, ok_48, ok_50, ok_60, ok_80, ok_120, ok_180, ok_192, ok_200, ok_900, ok_1000, ok_84000]
  exact hl
theorem xp_ring (hS : m_S M K L R) {I1 : Nat → Nat → Int32} (hm : okY Y) {c : Nat} (hc : c + 130 ≤ 84000) (hF : mF M c I1 I) (hg : gs M I0 I Y) {w v : Int32} (ho : rgO Y w v) (hP : ∀ J, mF M (c + 120) I1 J → gs M I0 J Y → P (some (.int v)) (n, t, K, L, J, R)) : a_does (d + 16) 251 [a_rf M, .int w] (n, t, K, L, I, R) P := by
  have hrf : ∀ k : Nat, mF M (c + 120) I1 (a_ui I (M + 23) k (I (M + 23) k + 1)) ∧ gs M I0 (a_ui I (M + 23) k (I (M + 23) k + 1)) Y := fun k => ⟨mF_le (sF_refused hF) (by omega), gs_ui hg (sR_refused hg.1) (by omega) ⟨by unfold ps1; omega, by omega⟩⟩
  by_cases c1 : w < -1
  · have ev : v = -2 := rgO_u ho (Or.inl ⟨c1, rfl⟩)
    rw [ev] at hP
    have hp := fun k => hP _ (hrf k).1 (hrf k).2
    clear hP ho hm hF hg hrf
    rw [a_enter1 (M := a_m251) rfl (a_cat_rf (a_cat_int a_cat_nil)) (show 2 ≤ 2 by decide)]
    show a_at _ (a_xm a_m251) 0 [some (a_rf M), some (.int w)] [] _ _
    simp only [q251_0, q251_1, q251_2, q251_5, q251_6, q251_8, q251_11, m_0 hS, m_K hS, sp_refuse_1 hS, sp_refuse_2 hS, sp_refuse_3 hS, sp_refuse_4 hS, sp_refuse_5 hS, sp_refuse_6 hS, as_nil, as_i, as_r, Nat.reduceAdd, Nat.reduceLeDiff, z_eq0, z_eq1, z_or, z_em, Classical.not_not, not_false_eq_true, not_true_eq_false, true_and, and_true, false_and, and_false, and_self, true_implies, false_implies, implies_true, Option.toList_some, Option.toList_none, List.cons_append, List.nil_append, Nat.add_eq_zero_iff, a_nl_i, a_nl_r, a_nl_n, true_or, or_true, eq_self, ok_4, ok_5, ok_6, ok_7, ok_9, ok_10, ok_20, ok_21, ok_24, ok_30, ok_48, ok_50, ok_60, ok_80, ok_120, ok_180, ok_192, ok_200, ok_900, ok_1000, ok_84000, c1]
    try simp only [true_and, and_true, true_implies, false_implies, implies_true, not_true_eq_false, not_false_eq_true]
    first
      | exact hp _
      | grind
  · have hl := xt_findRing (d := d + 3) (n := n) (t := t) (c := c) (K := K) (L := L) (R := R) hS hm hF hg (P := fun r' h' => a_at (d + 15) (a_xm a_m251) 16 [some (a_rf M), some (.int w)] (r'.toList ++ []) h' P) (fun J hF2 hg2 hv hr => by
      have v05 : 0 ≤ J M 74 ∧ J M 74 ≤ 5 := by clear hP ho hm hF hg hrf hF2 hg2 hr; grind
      have eo : J M 74 = Int32.ofNat (J M 74).toNatClampNeg := on_cl v05.1
      have ev : v = rgV (J M 74).toNatClampNeg (J (M + 48)) w := rgO_u ho (Or.inr ⟨c1, _, _, hr, rfl⟩)
      unfold rgV at ev
      rw [← eo] at ev
      have hp := hP J (mF_le hF2 (by omega)) hg2
      by_cases c2 : w = -1
      · rw [if_pos c2] at ev
        rw [ev] at hp
        clear hP ho hm hF hg hrf hF2 hg2 hr
        simp only [q251_16, q251_17, q251_18, q251_21, q251_22, q251_25, q251_47, m_0 hS, m_K hS, as_nil, as_i, as_r, Nat.reduceAdd, Nat.reduceLeDiff, z_eq0, z_eq1, z_or, z_em, Classical.not_not, not_false_eq_true, not_true_eq_false, true_and, and_true, false_and, and_false, and_self, true_implies, false_implies, implies_true, Option.toList_some, Option.toList_none, List.cons_append, List.nil_append, Nat.add_eq_zero_iff, a_nl_i, a_nl_r, a_nl_n, true_or, or_true, eq_self, ok_4, ok_5, ok_6, ok_7, ok_9, ok_10, ok_20, ok_21, ok_24, ok_30, ok_48, ok_50, ok_60, ok_80, ok_120, ok_180, ok_192, ok_200, ok_900, ok_1000, ok_84000, c2]
        try simp only [true_and, and_true, true_implies, false_implies, implies_true, not_true_eq_false, not_false_eq_true]
        first
          | exact hp
          | grind
      · rw [if_neg c2] at ev
        have w0 : 0 ≤ w := by clear hP ho hm hF hg hrf hF2 hg2 hr hp ev; grind
        by_cases c3 : w < J M 74
        · rw [if_pos c3] at ev
          rw [ev] at hp
          have w6 : 0 ≤ w ∧ w < 6 := ⟨w0, Int32.lt_of_lt_of_le c3 (Int32.le_trans v05.2 (by decide))⟩
          have c' : ¬ J M 74 ≤ w := Int32.not_le.mpr c3
          clear hP ho hm hF hg hrf hF2 hg2 hr
          simp only [q251_16, q251_17, q251_18, q251_28, q251_29, q251_30, q251_33, q251_36, q251_37, q251_40, q251_41, q251_42, q251_47, m_0 hS, m_K hS, mR_ringAsk hS, mK_ringAsk hS, mL_ringAsk hS, as_nil, as_i, as_r, Nat.reduceAdd, Nat.reduceLeDiff, z_eq0, z_eq1, z_or, z_em, Classical.not_not, not_false_eq_true, not_true_eq_false, true_and, and_true, false_and, and_false, and_self, true_implies, false_implies, implies_true, Option.toList_some, Option.toList_none, List.cons_append, List.nil_append, Nat.add_eq_zero_iff, a_nl_i, a_nl_r, a_nl_n, true_or, or_true, eq_self, ok_4, ok_5, ok_6, ok_7, ok_9, ok_10, ok_20, ok_21, ok_24, ok_30, ok_48, ok_50, ok_60, ok_80, ok_120, ok_180, ok_192, ok_200, ok_900, ok_1000, ok_84000, c2, c', w6]
          try simp only [true_and, and_true, true_implies, false_implies, implies_true, not_true_eq_false, not_false_eq_true]
          first
            | exact hp
            | grind
        · rw [if_neg c3] at ev
          rw [ev] at hp
          have c' : J M 74 ≤ w := Int32.not_lt.mp c3
          clear hP ho hm hF hg hrf hF2 hg2 hr
          simp only [q251_16, q251_17, q251_18, q251_28, q251_29, q251_30, q251_33, q251_45, q251_47, m_0 hS, m_K hS, as_nil, as_i, as_r, Nat.reduceAdd, Nat.reduceLeDiff, z_eq0, z_eq1, z_or, z_em, Classical.not_not, not_false_eq_true, not_true_eq_false, true_and, and_true, false_and, and_false, and_self, true_implies, false_implies, implies_true, Option.toList_some, Option.toList_none, List.cons_append, List.nil_append, Nat.add_eq_zero_iff, a_nl_i, a_nl_r, a_nl_n, true_or, or_true, eq_self, ok_4, ok_5, ok_6, ok_7, ok_9, ok_10, ok_20, ok_21, ok_24, ok_30, ok_48, ok_50, ok_60, ok_80, ok_120, ok_180, ok_192, ok_200, ok_900, ok_1000, ok_84000, c2, c']
          try simp only [true_and, and_true, true_implies, false_implies, implies_true, not_true_eq_false, not_false_eq_true]
          first
            | exact hp
            | grind)
    clear hP ho hm hF hg hrf
    rw [a_enter1 (M := a_m251) rfl (a_cat_rf (a_cat_int a_cat_nil)) (show 2 ≤ 2 by decide)]
    show a_at _ (a_xm a_m251) 0 [some (a_rf M), some (.int w)] [] _ _
    simp only [q251_0, q251_1, q251_2, q251_5, q251_6, q251_8, q251_11, q251_12, q251_13, m_0 hS, m_K hS, sp_refuse_1 hS, sp_refuse_2 hS, sp_refuse_3 hS, sp_refuse_4 hS, sp_refuse_5 hS, sp_refuse_6 hS, as_nil, as_i, as_r, Nat.reduceAdd, Nat.reduceLeDiff, z_eq0, z_eq1, z_or, z_em, Classical.not_not, not_false_eq_true, not_true_eq_false, true_and, and_true, false_and, and_false, and_self, true_implies, false_implies, implies_true, Option.toList_some, Option.toList_none, List.cons_append, List.nil_append, Nat.add_eq_zero_iff, a_nl_i, a_nl_r, a_nl_n, true_or, or_true, eq_self, ok_4, ok_5, ok_6, ok_7, ok_9, ok_10, ok_20, ok_21, ok_24, ok_30, ok_48, ok_50, ok_60, ok_80, ok_120, ok_180, ok_192, ok_200, ok_900, ok_1000, ok_84000, c1]
    try simp only [true_and, and_true, true_implies, false_implies, implies_true, not_true_eq_false, not_false_eq_true]
    first
      | exact hl
      | grind
theorem cl_b {a : Int32} : sbE Y (clW Y a) := fun k j p => cl_no (by unfold sb at p; omega)
theorem sw_b : ∀ k, sbE Y (swS g m Y k) := by
  intro k
  induction k with
  | zero => exact rgU_b m
  | succ k ih => exact sb_tr (sb_tr ih puY_b) cl_b
theorem in_cl (h : inP Y) {a : Int32} : inP (clW Y a) := by
  have e : ∀ q, ¬ q = 47 → clW Y a q = Y q := fun q hq => funext (fun j => cl_no hq)
  unfold inP at h ⊢
  rw [e 20 (by decide), e 21 (by decide), e 10 (by decide)]
  exact h
theorem sw_in (hm : inP Y) (ty : tyP Y m g) (hb5 : ∀ k, k < m → (0 ≤ Y 20 (g k).toNatClampNeg ∧ Y 20 (g k).toNatClampNeg ≤ 5) ∧ (0 ≤ Y 21 (g k).toNatClampNeg ∧ Y 21 (g k).toNatClampNeg ≤ 199) ∧ Y 21 (g k).toNatClampNeg + Y 10 (g 0).toNatClampNeg ≤ 200) : ∀ k, k ≤ m → inP (swS g m Y k) := by
  intro k
  induction k with
  | zero =>
    intro _
    have : ∀ j, inP (rgU g Y j) := by
      intro j
      induction j with
      | zero => exact hm
      | succ j ih => exact inP_un ih
    exact this m
  | succ k ih =>
    intro hk
    obtain ⟨b1, b2, b3⟩ := hb5 _ (nxN_lt (m := m) (i := k) (by omega))
    have e10 : swS g m Y k 10 = Y 10 := sbE_r (sw_b k) (by omega)
    exact in_cl (inP_pu (ih (by omega)) ⟨b2.1, Int32.le_trans b2.2 (by decide), by rw [e10, ty.2.2 _ (by omega)]; exact b3⟩ b1.2)
theorem cl_p (h : psE Y Z) {a : Int32} : psE (clW Y a) (clW Z a) := by
  refine ⟨fun k j p => ?_, fun o o0 o1 o2 i i0 i1 => ?_⟩
  · unfold clW
    by_cases c : k = 47 ∧ 30 * a.toNatClampNeg ≤ j ∧ j < 30 * a.toNatClampNeg + 30
    · rw [if_pos c, if_pos c]
    · rw [if_neg c, if_neg c]
      exact h.1 k j p
  · rw [cl_no (by decide)] at o2 i1
    rw [cl_no (by decide), cl_no (by decide)]
    exact h.2 o o0 o1 o2 i i0 i1
end ZHH
section
/-! the reference: reading, just so -/
section XA
variable {d n t M : Nat} {K L : Nat → Nat} {I I0 J J0 J1 J2 : Nat → Nat → Int32} {R : Nat → Nat → Nat} {P : Option Value → AH → Prop} {f : Nat → Int32} {e : Int32}
/-- what the reader has before it: f up to e -/
def vw (M : Nat) (J : Nat → Nat → Int32) (f : Nat → Int32) (e : Int32) : Prop := J M 48 = e ∧ (0 ≤ e ∧ e ≤ 50) ∧ (0 ≤ J M 47 ∧ J M 47 ≤ 950) ∧ ∀ j : Int32, 0 ≤ j → j < e → (if J M 46 = 0 then J (M + 27) j.toNatClampNeg else J (M + 28) (J M 47 + j).toNatClampNeg) = f j.toNatClampNeg
theorem hv_x (h : vw M I f e) (h0 : 0 ≤ I M 49) : hv M I = if I M 49 < e then f (I M 49).toNatClampNeg else -1 := by
  unfold hv
  rw [h.1]
  by_cases c : I M 49 < e
  · rw [if_neg (Int32.not_le.mpr c), if_pos c]
    exact h.2.2.2 _ h0 c
  · rw [if_pos (Int32.not_lt.mp c), if_neg c]
theorem fv_x (c : Int32) : fv c = if xft c = -9 then -1 else xft c := by
  unfold fv xft
  grind (splits := 60)
theorem vw_T (h : vw M I f e) (h2 : rT M I J) : vw M J f e := by
  unfold vw at h ⊢
  rw [rT_cell h2 (j := 48) (by omega), rT_cell h2 (j := 47) (by omega), rT_cell h2 (j := 46) (by omega), rT_fun h2 (A := (M + 27)) (by omega), rT_fun h2 (A := (M + 28)) (by omega)]
  exact h
theorem rT_tr (h : rT M I J) (h2 : rT M J J2) : rT M I J2 := ⟨h2.1, fun x j hx => (h2.2.1 x j hx).trans (h.2.1 x j hx), Int32.le_trans h.2.2.1 h2.2.2.1, h2.2.2.2⟩
theorem vw_E (h : vw M I f e) (h0 : 0 ≤ I M 49 ∧ I M 49 ≤ e) : rE M I := by
  obtain ⟨h1, h2, h3, -⟩ := h
  unfold rE
  rw [h1]
  refine ⟨⟨h0.1, ?_⟩, h2.2, h3⟩
  clear h1 h3
  grind
theorem xe_readUnit_56 (hS : m_S M K L R) (hE : rE M I) (hvw : vw M I f e) {c b : Int32} {D : Int32 × Int32} (hP : ∀ J, rT M I J → J M 49 = D.1 → J M 50 = b → P (some (.int D.2)) (n, t, K, L, J, R)) : ∀ k : Int32, k ≤ 3 → ∀ v J, 0 ≤ k → rT M I J → (0 ≤ J M 49 ∧ J M 49 ≤ e) → J M 50 = b → xdg f e (3 - k.toNatClampNeg) (J M 49) v = D → a_at (d + 1) (a_xm a_m197) 56 [some (a_rf M), some (.int c), some (.int v), some (.int k)] [] (n, t, K, L, J, R) P := by
  refine up_ind 3 (fun k hk ih => ?_)
  intro v J h0 hT ha hb hD
  have hvJ := hv_x (vw_T hvw hT) ha.1
  have hexit : ¬ (k < 3 ∧ 48 ≤ hv M J ∧ hv M J ≤ 57) → P (some (.int v)) (n, t, K, L, J, R) := fun q => by
    have hD2 : D = (J M 49, v) := by
      rw [← hD]
      by_cases c3 : k < 3
      · have i3 : k.toNatClampNeg < 3 := show _ < (3 : Int32).toNatClampNeg from cl_lt h0 c3
        rw [show 3 - k.toNatClampNeg = (2 - k.toNatClampNeg) + 1 by omega]
        unfold xdg
        rw [if_neg (fun w => q ⟨c3, by rw [hvJ, if_pos w.1]; exact w.2⟩)]
      · have : k = 3 := by clear ih hP hT hD q hvJ; grind
        subst this
        rfl
    have hp := hP J hT (by rw [hD2]) hb
    rw [hD2] at hp
    exact hp
  have hgo : k < 3 → 48 ≤ hv M J → hv M J ≤ 57 → a_at (d + 1) (a_xm a_m197) 56 [some (a_rf M), some (.int c), some (.int (10 * v + hv M J - 48)), some (.int (k + 1))] [] (n, t, K, L, (a_ui J M 49 (J M 49 + 1)), R) P := fun c3 c4 c5 => by
    have i3 : k.toNatClampNeg < 3 := show _ < (3 : Int32).toNatClampNeg from cl_lt h0 c3
    have ei : (k + 1).toNatClampNeg = k.toNatClampNeg + 1 := cl_up h0 (by clear ih hP hT hD hexit hvJ; grind)
    have cA : J M 49 < e := by
      refine Classical.byContradiction (fun w => ?_)
      rw [hvJ, if_neg w] at c4
      exact absurd c4 (by decide)
    have he := hvw.2.1
    rw [hvJ, if_pos cA] at c4 c5 ⊢
    refine ih c3 _ _ (by clear ih hP hT hD hexit hvJ; grind) (sT_at hT ⟨by clear ih hP hT hD hexit hvJ; grind, by clear ih hP hT hD hexit hvJ; grind⟩) (by rw [ui_ap, if_pos ⟨rfl, rfl⟩]; clear ih hP hT hD hexit hvJ; grind) (by rw [ui_ap, if_neg (by omega)]; exact hb) ?_
    rw [show 3 - k.toNatClampNeg = (3 - (k.toNatClampNeg + 1)) + 1 by omega] at hD
    unfold xdg at hD
    rw [if_pos ⟨cA, c4, c5⟩] at hD
    rw [ei, ← hD, ui_ap, if_pos ⟨rfl, rfl⟩, Int32.mul_comm 10 v]
  clear ih hP hD hvJ
  rw [q197_56]
  repeat' first
    | with_reducible apply And.intro
    | with_reducible assumption
    | with_reducible intro _
    | refine ct_here hS hE hT ?_
    | refine hexit ?_
    | refine hgo ?_ ?_ ?_
    | simp only [q197_57, q197_58, q197_61, q197_62, q197_65, q197_67, q197_69, q197_72, q197_75, q197_77, q197_78, q197_79, q197_80, q197_83, q197_84, q197_86, q197_87, q197_88, q197_89, q197_90, q197_93, q197_94, q197_95, q197_98, q197_101, q197_104, q197_105, m_0 hS, m_K hS, sp_in, as_nil, as_i, as_r, Nat.reduceAdd, Nat.reduceLeDiff, z_eq0, z_eq1, z_or, z_em, Classical.not_not, not_false_eq_true, not_true_eq_false, true_and, and_true, false_and, and_false, and_self, true_implies, false_implies, implies_true, Option.toList_some, Option.toList_none, List.cons_append, List.nil_append, Nat.add_eq_zero_iff, a_nl_i, a_nl_r, a_nl_n, true_or, or_true, eq_self, ok_4, ok_5, ok_6, ok_7, ok_9, ok_10, ok_20, ok_21, ok_24, ok_30, ok_48, ok_50, ok_60, ok_80, ok_120, ok_180, ok_192, ok_200, ok_900, ok_1000, ok_84000]
  all_goals ((try clear hexit); (try clear hgo); (try clear hT); (try clear hS); (try clear hE); grind [ui_ap])
theorem xe_readUnit (hS : m_S M K L R) (hR : mR M I) (hvw : vw M I f e) (ha : 0 ≤ I M 49 ∧ I M 49 ≤ e) (hb : I M 50 = 0) (hP : ∀ J, rT M I J → J M 49 = (xU f e (I M 49)).2.1 → J M 50 = (if (xU f e (I M 49)).1 = true then 0 else 1) → P (some (.int ((xU f e (I M 49)).2.2 (I (M + 32))))) (n, t, K, L, J, R)) : a_does (d + 2) 197 [a_rf M] (n, t, K, L, I, R) P := by
  have hE := vw_E hvw ha
  have hT := rT_refl hR hE
  have hvI := hv_x hvw ha.1
  have he := hvw.2.1
  -- no fact stands there
  have hloop : ¬ (I M 49 < e ∧ ¬ xft (f (I M 49).toNatClampNeg) = -9) → ∀ c b, (b = if 48 ≤ hv M I ∧ hv M I ≤ 57 then 0 else 1) → a_at (d + 1) (a_xm a_m197) 56 [some (a_rf M), some (.int c), some (.int 0), some (.int 0)] [] (n, t, K, L, (a_ui I M 50 b), R) P := fun q c b eb => by
    refine xe_readUnit_56 hS hE hvw (b := b) (D := xdg f e 3 (I M 49) 0) (fun J j1 j2 j3 => ?_) 0 (by decide) 0 _ (by decide) (sT_isBad hT) (by rw [ui_ap, if_neg (by omega)]; exact ha) (by rw [ui_ap, if_pos ⟨rfl, rfl⟩]) (by rw [ui_ap, if_neg (by omega)]; rfl)
    by_cases w : I M 49 < e ∧ 48 ≤ f (I M 49).toNatClampNeg ∧ f (I M 49).toNatClampNeg ≤ 57
    · have hr : xU f e (I M 49) = (true, (xdg f e 3 (I M 49) 0).1, fun _ => (xdg f e 3 (I M 49) 0).2) := by
        unfold xU
        rw [if_neg q, if_pos w]
      have b0 : b = 0 := by rw [eb, hvI, if_pos w.1, if_pos w.2]
      have hp := hP J j1 (by rw [j2, hr]) (by rw [j3, hr, b0]; rfl)
      rw [hr] at hp
      exact hp
    · have hz : xdg f e 3 (I M 49) 0 = (I M 49, 0) := by
        conv => lhs; unfold xdg
        rw [if_neg w]
      have hr : xU f e (I M 49) = (false, I M 49, fun _ => 0) := by
        unfold xU
        rw [if_neg q, if_neg w]
      have b1 : b = 1 := by
        rw [eb, hvI]
        by_cases l : I M 49 < e
        · rw [if_pos l, if_neg (fun z => w ⟨l, z⟩)]
        · rw [if_neg l, if_neg (by decide)]
      have hp := hP J j1 (by rw [j2, hr, hz]) (by rw [j3, hr, b1]; rfl)
      rw [hr] at hp
      rw [hz]
      exact hp
  by_cases hA : I M 49 < e ∧ ¬ xft (f (I M 49).toNatClampNeg) = -9
  · have hr : xU f e (I M 49) = (true, I M 49 + 1, fun fc => fc (xft (f (I M 49).toNatClampNeg)).toNatClampNeg) := if_pos hA
    have hf : fv (hv M I) = xft (f (I M 49).toNatClampNeg) := by rw [hvI, if_pos hA.1, fv_x, if_neg hA.2]
    have h9 := (xft_r (f (I M 49).toNatClampNeg)).resolve_left hA.2
    have hge : ¬ fv (hv M I) < 0 := by rw [hf]; exact Int32.not_lt.mpr h9.1
    have hok : 0 ≤ fv (hv M I) ∧ fv (hv M I) < 9 := by rw [hf]; clear hP hloop hr hf hge; grind
    have hp := hP (a_ui I M 49 (I M 49 + 1)) (sT_at hT ⟨by clear hP hloop hr hf hge hok; grind, by clear hP hloop hr hf hge hok; grind⟩) (by rw [hr, ui_ap, if_pos ⟨rfl, rfl⟩]) (by rw [hr, ui_ap, if_neg (by omega)]; exact hb)
    rw [hr] at hp
    have hp : P (some (.int (I (M + 32) (fv (hv M I)).toNatClampNeg))) (n, t, K, L, (a_ui I M 49 (I M 49 + 1)), R) := by
      rw [hf]
      exact hp
    have hE2 : rE M (a_ui I M 49 (I M 49 + 1)) → True := fun _ => trivial
    rw [a_enter1 (M := a_m197) rfl (a_cat_rf a_cat_nil) (show 1 ≤ 4 by decide)]
    show a_at _ (a_xm a_m197) 0 [some (a_rf M), none, none, none] [] _ _
    simp only [q197_0, q197_1, m_0 hS, m_K hS, as_nil, as_i, as_r, Nat.reduceAdd, Nat.reduceLeDiff, z_eq0, z_eq1, z_or, z_em, Classical.not_not, not_false_eq_true, not_true_eq_false, true_and, and_true, false_and, and_false, and_self, true_implies, false_implies, implies_true, Option.toList_some, Option.toList_none, List.cons_append, List.nil_append, Nat.add_eq_zero_iff, a_nl_i, a_nl_r, a_nl_n, true_or, or_true, eq_self, ok_4, ok_5, ok_6, ok_7, ok_9, ok_10, ok_20, ok_21, ok_24, ok_30, ok_48, ok_50, ok_60, ok_80, ok_120, ok_180, ok_192, ok_200, ok_900, ok_1000, ok_84000]
    refine ct_here hS hE hT ?_
    simp only [q197_4, q197_5, q197_6, as_nil, as_i, as_r, Nat.reduceAdd, Nat.reduceLeDiff, z_eq0, z_eq1, z_or, z_em, Classical.not_not, not_false_eq_true, not_true_eq_false, true_and, and_true, false_and, and_false, and_self, true_implies, false_implies, implies_true, Option.toList_some, Option.toList_none, List.cons_append, List.nil_append, Nat.add_eq_zero_iff, a_nl_i, a_nl_r, a_nl_n, true_or, or_true, eq_self, ok_4, ok_5, ok_6, ok_7, ok_9, ok_10, ok_20, ok_21, ok_24, ok_30, ok_48, ok_50, ok_60, ok_80, ok_120, ok_180, ok_192, ok_200, ok_900, ok_1000, ok_84000]
    refine ct_factOf ?_
    simp only [q197_9, q197_12, q197_13, q197_14, q197_17, q197_18, q197_19, q197_22, q197_23, q197_26, q197_27, m_0 hS, m_K hS, mR_facts hS, mK_facts hS, mL_facts hS, as_nil, as_i, as_r, Nat.reduceAdd, Nat.reduceLeDiff, z_eq0, z_eq1, z_or, z_em, Classical.not_not, not_false_eq_true, not_true_eq_false, true_and, and_true, false_and, and_false, and_self, true_implies, false_implies, implies_true, Option.toList_some, Option.toList_none, List.cons_append, List.nil_append, Nat.add_eq_zero_iff, a_nl_i, a_nl_r, a_nl_n, true_or, or_true, eq_self, ok_4, ok_5, ok_6, ok_7, ok_9, ok_10, ok_20, ok_21, ok_24, ok_30, ok_48, ok_50, ok_60, ok_80, ok_120, ok_180, ok_192, ok_200, ok_900, ok_1000, ok_84000, ui_ap, ne_MM, ne_M0, ne_0M, Nat.reduceEqDiff, reduceIte, if_true, if_false, hge]
    try simp only [false_implies, true_implies, not_false_eq_true, true_and]
    refine ct_factOf ?_
    simp only [q197_30, q197_31, as_nil, as_i, as_r, Nat.reduceAdd, Nat.reduceLeDiff, z_eq0, z_eq1, z_or, z_em, Classical.not_not, not_false_eq_true, not_true_eq_false, true_and, and_true, false_and, and_false, and_self, true_implies, false_implies, implies_true, Option.toList_some, Option.toList_none, List.cons_append, List.nil_append, Nat.add_eq_zero_iff, a_nl_i, a_nl_r, a_nl_n, true_or, or_true, eq_self, ok_4, ok_5, ok_6, ok_7, ok_9, ok_10, ok_20, ok_21, ok_24, ok_30, ok_48, ok_50, ok_60, ok_80, ok_120, ok_180, ok_192, ok_200, ok_900, ok_1000, ok_84000, ui_ap, ne_MM, ne_M0, ne_0M, Nat.reduceEqDiff, reduceIte, if_true, if_false, mK_facts hS, mL_facts hS]
    exact ⟨hok, hp⟩
  · have hf : fv (hv M I) = -1 := by
      rw [hvI]
      by_cases l : I M 49 < e
      · have : xft (f (I M 49).toNatClampNeg) = -9 := Classical.byContradiction (fun z => hA ⟨l, z⟩)
        rw [if_pos l, fv_x, if_pos this]
      · rw [if_neg l]
        exact fv_m
    have hlt : fv (hv M I) < 0 := by rw [hf]; decide
    have hl := hloop hA (hv M I)
    rw [a_enter1 (M := a_m197) rfl (a_cat_rf a_cat_nil) (show 1 ≤ 4 by decide)]
    show a_at _ (a_xm a_m197) 0 [some (a_rf M), none, none, none] [] _ _
    simp only [q197_0, q197_1, m_0 hS, m_K hS, as_nil, as_i, as_r, Nat.reduceAdd, Nat.reduceLeDiff, z_eq0, z_eq1, z_or, z_em, Classical.not_not, not_false_eq_true, not_true_eq_false, true_and, and_true, false_and, and_false, and_self, true_implies, false_implies, implies_true, Option.toList_some, Option.toList_none, List.cons_append, List.nil_append, Nat.add_eq_zero_iff, a_nl_i, a_nl_r, a_nl_n, true_or, or_true, eq_self, ok_4, ok_5, ok_6, ok_7, ok_9, ok_10, ok_20, ok_21, ok_24, ok_30, ok_48, ok_50, ok_60, ok_80, ok_120, ok_180, ok_192, ok_200, ok_900, ok_1000, ok_84000]
    refine ct_here hS hE hT ?_
    simp only [q197_4, q197_5, q197_6, as_nil, as_i, as_r, Nat.reduceAdd, Nat.reduceLeDiff, z_eq0, z_eq1, z_or, z_em, Classical.not_not, not_false_eq_true, not_true_eq_false, true_and, and_true, false_and, and_false, and_self, true_implies, false_implies, implies_true, Option.toList_some, Option.toList_none, List.cons_append, List.nil_append, Nat.add_eq_zero_iff, a_nl_i, a_nl_r, a_nl_n, true_or, or_true, eq_self, ok_4, ok_5, ok_6, ok_7, ok_9, ok_10, ok_20, ok_21, ok_24, ok_30, ok_48, ok_50, ok_60, ok_80, ok_120, ok_180, ok_192, ok_200, ok_900, ok_1000, ok_84000]
    refine ct_factOf ?_
    by_cases w : 48 ≤ hv M I ∧ hv M I ≤ 57
    · have hl := hl 0 (by rw [if_pos w])
      simp only [q197_9, q197_32, q197_33, q197_34, q197_36, q197_38, q197_41, q197_44, q197_45, q197_48, q197_49, q197_52, q197_53, q197_54, q197_55, m_0 hS, m_K hS, sp_in, as_nil, as_i, as_r, Nat.reduceAdd, Nat.reduceLeDiff, z_eq0, z_eq1, z_or, z_em, Classical.not_not, not_false_eq_true, not_true_eq_false, true_and, and_true, false_and, and_false, and_self, true_implies, false_implies, implies_true, Option.toList_some, Option.toList_none, List.cons_append, List.nil_append, Nat.add_eq_zero_iff, a_nl_i, a_nl_r, a_nl_n, true_or, or_true, eq_self, ok_4, ok_5, ok_6, ok_7, ok_9, ok_10, ok_20, ok_21, ok_24, ok_30, ok_48, ok_50, ok_60, ok_80, ok_120, ok_180, ok_192, ok_200, ok_900, ok_1000, ok_84000, hlt, w]
      first
        | exact hl
        | exact ⟨fun _ => hl, fun z => absurd trivial z⟩
        | grind
    · have hl := hl 1 (by rw [if_neg w])
      simp only [q197_9, q197_32, q197_33, q197_34, q197_36, q197_38, q197_41, q197_44, q197_45, q197_48, q197_49, q197_52, q197_53, q197_54, q197_55, m_0 hS, m_K hS, sp_in, as_nil, as_i, as_r, Nat.reduceAdd, Nat.reduceLeDiff, z_eq0, z_eq1, z_or, z_em, Classical.not_not, not_false_eq_true, not_true_eq_false, true_and, and_true, false_and, and_false, and_self, true_implies, false_implies, implies_true, Option.toList_some, Option.toList_none, List.cons_append, List.nil_append, Nat.add_eq_zero_iff, a_nl_i, a_nl_r, a_nl_n, true_or, or_true, eq_self, ok_4, ok_5, ok_6, ok_7, ok_9, ok_10, ok_20, ok_21, ok_24, ok_30, ok_48, ok_50, ok_60, ok_80, ok_120, ok_180, ok_192, ok_200, ok_900, ok_1000, ok_84000, hlt, w]
      first
        | exact hl
        | exact ⟨fun _ => hl, fun z => absurd trivial z⟩
        | grind
theorem xe_readSum_5 (hS : m_S M K L R) (hvw : vw M I f e) (hE : rE M I) {V : rdT} (hP : ∀ J, rT M I J → J M 49 = V.2.1 → J M 50 = (if V.1 = true then 0 else 1) → P (some (.int (V.2.2 (I (M + 32))))) (n, t, K, L, J, R)) : ∀ (k : Nat) (J : Nat → Nat → Int32) (r : rdT) (c w : Option Value), rT M I J → J M 49 = r.2.1 → (0 ≤ r.2.1 ∧ r.2.1 ≤ e) → J M 50 = (if r.1 = true then 0 else 1) → e.toInt ≤ r.2.1.toInt + k → xsu f e k r = V → a_at (d + 2) (a_xm a_m196) 5 [some (a_rf M), some (.int (r.2.2 (I (M + 32)))), c, w] [] (n, t, K, L, J, R) P := by
  intro k
  induction k with
  | zero =>
    intro J r c w hT hA ha hB hk hV
    have hV : r = V := hV
    have hvJ := hv_x (vw_T hvw hT) (by rw [hA]; exact ha.1)
    have hlt : ¬ r.2.1 < e := fun q => by
      have := Int32.lt_iff_toInt_lt.mp q
      omega
    rw [hA, if_neg hlt] at hvJ
    have hp := hP J hT (by rw [hA, hV]) (by rw [hB, hV])
    rw [← hV] at hp
    have m1 : ¬ (-1 : Int32) = 43 := by decide
    have m2 : ¬ (-1 : Int32) = 45 := by decide
    have m3 : ¬ (-1 : Int32) = 42 := by decide
    clear hP hV
    have hexit : P (some (.int (r.2.2 (I (M + 32))))) (n, t, K, L, J, R) := hp
    rw [q196_5]
    repeat' first
      | with_reducible apply And.intro
      | with_reducible assumption
      | with_reducible intro _
      | refine ct_here hS hE hT ?_
      | rw [hvJ]
      | exact hexit
      | simp only [q196_6, q196_9, q196_12, q196_13, q196_16, q196_18, q196_21, q196_22, q196_25, q196_27, q196_30, q196_31, q196_34, q196_36, q196_90, q196_91, m_0 hS, m_K hS, as_nil, as_i, as_r, Nat.reduceAdd, Nat.reduceLeDiff, z_eq0, z_eq1, z_or, z_em, Classical.not_not, not_false_eq_true, not_true_eq_false, true_and, and_true, false_and, and_false, and_self, true_implies, false_implies, implies_true, Option.toList_some, Option.toList_none, List.cons_append, List.nil_append, Nat.add_eq_zero_iff, a_nl_i, a_nl_r, a_nl_n, true_or, or_true, eq_self, ok_4, ok_5, ok_6, ok_7, ok_9, ok_10, ok_20, ok_21, ok_24, ok_30, ok_48, ok_50, ok_60, ok_80, ok_120, ok_180, ok_192, ok_200, ok_900, ok_1000, ok_84000]
    all_goals ((try clear hexit); (try clear hp); (try clear hT); (try clear hS); (try clear hE); (try clear hvw); grind [ui_ap])
  | succ k ih =>
    intro J r c w hT hA ha hB hk hV
    have hvJ := hv_x (vw_T hvw hT) (by rw [hA]; exact ha.1)
    rw [hA] at hvJ
    have he := hvw.2.1
    have hexit : ¬ (J M 50 = 0 ∧ (hv M J = 43 ∨ hv M J = 45 ∨ hv M J = 42)) → P (some (.int (r.2.2 (I (M + 32))))) (n, t, K, L, J, R) := fun q => by
      have hV2 : r = V := by
        rw [← hV]
        unfold xsu
        rw [if_neg]
        intro z
        refine q ⟨by rw [hB, if_pos z.1], ?_⟩
        rw [hvJ, if_pos z.2.1]
        exact z.2.2
      have hp := hP J hT (by rw [hA, hV2]) (by rw [hB, hV2])
      rw [← hV2] at hp
      exact hp
    have h39 : J M 50 = 0 → (hv M J = 43 ∨ hv M J = 45 ∨ hv M J = 42) → a_at (d + 2) (a_xm a_m196) 39 [some (a_rf M), some (.int (r.2.2 (I (M + 32)))), c, w] [] (n, t, K, L, J, R) P := fun q1 q2 => by
      have r1 : r.1 = true := by
        refine Classical.byContradiction (fun z => ?_)
        rw [hB, if_neg z] at q1
        exact absurd q1 (by decide)
      have cA : r.2.1 < e := by
        refine Classical.byContradiction (fun z => ?_)
        rw [hvJ, if_neg z] at q2
        rcases q2 with q2 | q2 | q2 <;> exact absurd q2 (by decide)
      have hvf : hv M J = f r.2.1.toNatClampNeg := by rw [hvJ, if_pos cA]
      have m1 : r.2.1 + 1 ≤ e := by clear ih hP hT hV hexit hvJ; grind
      have m0 : 0 ≤ r.2.1 + 1 := by clear ih hP hT hV hexit hvJ; grind
      have hT2 : rT M I (a_ui J M 49 (J M 49 + 1)) := sT_at hT ⟨by rw [hA]; clear ih hP hT hV hexit hvJ; grind, by rw [hA]; clear ih hP hT hV hexit hvJ; grind⟩
      have n4 : a_ui J M 49 (J M 49 + 1) M 49 = r.2.1 + 1 := by rw [ui_ap, if_pos ⟨rfl, rfl⟩, hA]
      have nf : a_ui J M 49 (J M 49 + 1) (M + 32) = I (M + 32) := rT_fun hT2 (by omega)
      have hub := xU_b (f := f) m1
      simp only [q196_39, q196_40, m_0 hS, m_K hS, as_nil, as_i, as_r, Nat.reduceAdd, Nat.reduceLeDiff, z_eq0, z_eq1, z_or, z_em, Classical.not_not, not_false_eq_true, not_true_eq_false, true_and, and_true, false_and, and_false, and_self, true_implies, false_implies, implies_true, Option.toList_some, Option.toList_none, List.cons_append, List.nil_append, Nat.add_eq_zero_iff, a_nl_i, a_nl_r, a_nl_n, true_or, or_true, eq_self, ok_4, ok_5, ok_6, ok_7, ok_9, ok_10, ok_20, ok_21, ok_24, ok_30, ok_48, ok_50, ok_60, ok_80, ok_120, ok_180, ok_192, ok_200, ok_900, ok_1000, ok_84000]
      refine ct_here hS hE hT ?_
      simp only [q196_43, q196_44, q196_45, q196_46, q196_49, q196_50, q196_51, q196_54, q196_55, m_0 hS, m_K hS, as_nil, as_i, as_r, Nat.reduceAdd, Nat.reduceLeDiff, z_eq0, z_eq1, z_or, z_em, Classical.not_not, not_false_eq_true, not_true_eq_false, true_and, and_true, false_and, and_false, and_self, true_implies, false_implies, implies_true, Option.toList_some, Option.toList_none, List.cons_append, List.nil_append, Nat.add_eq_zero_iff, a_nl_i, a_nl_r, a_nl_n, true_or, or_true, eq_self, ok_4, ok_5, ok_6, ok_7, ok_9, ok_10, ok_20, ok_21, ok_24, ok_30, ok_48, ok_50, ok_60, ok_80, ok_120, ok_180, ok_192, ok_200, ok_900, ok_1000, ok_84000, ui_ap, ne_MM, ne_M0, ne_0M, Nat.reduceEqDiff, reduceIte, if_true, if_false]
      refine xe_readUnit hS hT2.1 (vw_T hvw hT2) (by rw [n4]; exact ⟨m0, m1⟩) (by rw [ui_ap, if_neg (by omega)]; exact q1) (fun J2 j1 j2 j3 => ?_)
      rw [n4] at j2 j3 ⊢
      rw [nf]
      have hgo := ih J2 ((xU f e (r.2.1 + 1)).1, (xU f e (r.2.1 + 1)).2.1, fun fc => xar (f r.2.1.toNatClampNeg) (r.2.2 fc) ((xU f e (r.2.1 + 1)).2.2 fc)) (some (.int (hv M J))) (some (.int ((xU f e (r.2.1 + 1)).2.2 (I (M + 32))))) (rT_tr hT2 j1) j2 ⟨Int32.le_trans m0 hub.1, hub.2.1⟩ j3 (by
        have u1 := Int32.le_iff_toInt_le.mp hub.1
        have u2 := Int32.lt_iff_toInt_lt.mp cA
        have u3 := Int32.le_iff_toInt_le.mp he.2
        have u4 := Int32.le_iff_toInt_le.mp ha.1
        have z0 : (0 : Int32).toInt = 0 := rfl
        have z1 : (1 : Int32).toInt = 1 := rfl
        have z50 : (50 : Int32).toInt = 50 := rfl
        rw [ti_add (by omega)] at u1
        show e.toInt ≤ (xU f e (r.2.1 + 1)).2.1.toInt + k
        omega) (by
        rw [← hV]
        conv => rhs; unfold xsu
        rw [if_pos ⟨r1, cA, by rw [← hvf]; exact q2⟩])
      rw [hvf] at q2
      rw [hvf] at hgo ⊢
      clear ih hP hT hV hexit hvJ hvf hT2 hub
      rcases q2 with q2 | q2 | q2
      · have e43 : xar (f r.2.1.toNatClampNeg) (r.2.2 (I (M + 32))) ((xU f e (r.2.1 + 1)).2.2 (I (M + 32))) = r.2.2 (I (M + 32)) + (xU f e (r.2.1 + 1)).2.2 (I (M + 32)) := by rw [q2]; rfl
        dsimp only at hgo
        rw [e43] at hgo
        simp only [q196_58, q196_59, q196_60, q196_62, q196_65, q196_66, q196_67, q196_68, q196_71, q196_72, q196_74, q196_77, q196_78, q196_79, q196_80, q196_83, q196_84, q196_85, q196_86, q196_87, as_nil, as_i, as_r, Nat.reduceAdd, Nat.reduceLeDiff, z_eq0, z_eq1, z_or, z_em, Classical.not_not, not_false_eq_true, not_true_eq_false, true_and, and_true, false_and, and_false, and_self, true_implies, false_implies, implies_true, Option.toList_some, Option.toList_none, List.cons_append, List.nil_append, Nat.add_eq_zero_iff, a_nl_i, a_nl_r, a_nl_n, true_or, or_true, eq_self, ok_4, ok_5, ok_6, ok_7, ok_9, ok_10, ok_20, ok_21, ok_24, ok_30, ok_48, ok_50, ok_60, ok_80, ok_120, ok_180, ok_192, ok_200, ok_900, ok_1000, ok_84000, q2] at hgo ⊢
        first
          | exact hgo
          | grind
      · have e45 : xar (f r.2.1.toNatClampNeg) (r.2.2 (I (M + 32))) ((xU f e (r.2.1 + 1)).2.2 (I (M + 32))) = r.2.2 (I (M + 32)) - (xU f e (r.2.1 + 1)).2.2 (I (M + 32)) := by rw [q2]; rfl
        dsimp only at hgo
        rw [e45] at hgo
        have n1 : ¬ (45 : Int32) = 43 := by decide
        simp only [q196_58, q196_59, q196_60, q196_62, q196_65, q196_66, q196_67, q196_68, q196_71, q196_72, q196_74, q196_77, q196_78, q196_79, q196_80, q196_83, q196_84, q196_85, q196_86, q196_87, as_nil, as_i, as_r, Nat.reduceAdd, Nat.reduceLeDiff, z_eq0, z_eq1, z_or, z_em, Classical.not_not, not_false_eq_true, not_true_eq_false, true_and, and_true, false_and, and_false, and_self, true_implies, false_implies, implies_true, Option.toList_some, Option.toList_none, List.cons_append, List.nil_append, Nat.add_eq_zero_iff, a_nl_i, a_nl_r, a_nl_n, true_or, or_true, eq_self, ok_4, ok_5, ok_6, ok_7, ok_9, ok_10, ok_20, ok_21, ok_24, ok_30, ok_48, ok_50, ok_60, ok_80, ok_120, ok_180, ok_192, ok_200, ok_900, ok_1000, ok_84000, q2, n1] at hgo ⊢
        first
          | exact hgo
          | grind
      · have e42 : xar (f r.2.1.toNatClampNeg) (r.2.2 (I (M + 32))) ((xU f e (r.2.1 + 1)).2.2 (I (M + 32))) = r.2.2 (I (M + 32)) * (xU f e (r.2.1 + 1)).2.2 (I (M + 32)) := by rw [q2]; rfl
        dsimp only at hgo
        rw [e42] at hgo
        have n1 : ¬ (42 : Int32) = 43 := by decide
        have n2 : ¬ (42 : Int32) = 45 := by decide
        simp only [q196_58, q196_59, q196_60, q196_62, q196_65, q196_66, q196_67, q196_68, q196_71, q196_72, q196_74, q196_77, q196_78, q196_79, q196_80, q196_83, q196_84, q196_85, q196_86, q196_87, as_nil, as_i, as_r, Nat.reduceAdd, Nat.reduceLeDiff, z_eq0, z_eq1, z_or, z_em, Classical.not_not, not_false_eq_true, not_true_eq_false, true_and, and_true, false_and, and_false, and_self, true_implies, false_implies, implies_true, Option.toList_some, Option.toList_none, List.cons_append, List.nil_append, Nat.add_eq_zero_iff, a_nl_i, a_nl_r, a_nl_n, true_or, or_true, eq_self, ok_4, ok_5, ok_6, ok_7, ok_9, ok_10, ok_20, ok_21, ok_24, ok_30, ok_48, ok_50, ok_60, ok_80, ok_120, ok_180, ok_192, ok_200, ok_900, ok_1000, ok_84000, q2, n1, n2] at hgo ⊢
        first
          | exact hgo
          | grind
    clear ih hP hV hvJ
    rw [q196_5]
    repeat' first
      | with_reducible apply And.intro
      | with_reducible assumption
      | with_reducible intro _
      | refine ct_here hS hE hT ?_
      | refine h39 ?_ ?_
      | refine hexit ?_
      | simp only [q196_6, q196_9, q196_12, q196_13, q196_16, q196_18, q196_21, q196_22, q196_25, q196_27, q196_30, q196_31, q196_34, q196_36, q196_90, q196_91, m_0 hS, m_K hS, as_nil, as_i, as_r, Nat.reduceAdd, Nat.reduceLeDiff, z_eq0, z_eq1, z_or, z_em, Classical.not_not, not_false_eq_true, not_true_eq_false, true_and, and_true, false_and, and_false, and_self, true_implies, false_implies, implies_true, Option.toList_some, Option.toList_none, List.cons_append, List.nil_append, Nat.add_eq_zero_iff, a_nl_i, a_nl_r, a_nl_n, true_or, or_true, eq_self, ok_4, ok_5, ok_6, ok_7, ok_9, ok_10, ok_20, ok_21, ok_24, ok_30, ok_48, ok_50, ok_60, ok_80, ok_120, ok_180, ok_192, ok_200, ok_900, ok_1000, ok_84000]
    all_goals ((try clear hexit); (try clear h39); (try clear hT); (try clear hS); (try clear hE); (try clear hvw); grind [ui_ap])
theorem xe_readSum (hS : m_S M K L R) (hR : mR M I) (hvw : vw M I f e) (ha : 0 ≤ I M 49 ∧ I M 49 ≤ e) (hb : I M 50 = 0) (hP : ∀ J, rT M I J → J M 49 = (xS f e (I M 49)).2.1 → J M 50 = (if (xS f e (I M 49)).1 = true then 0 else 1) → P (some (.int ((xS f e (I M 49)).2.2 (I (M + 32))))) (n, t, K, L, J, R)) : a_does (d + 3) 196 [a_rf M] (n, t, K, L, I, R) P := by
  have hub := xU_b (f := f) ha.2
  have he := hvw.2.1
  rw [a_enter1 (M := a_m196) rfl (a_cat_rf a_cat_nil) (show 1 ≤ 4 by decide)]
  show a_at _ (a_xm a_m196) 0 [some (a_rf M), none, none, none] [] _ _
  simp only [q196_0, q196_1, m_0 hS, m_K hS, as_nil, as_i, as_r, Nat.reduceAdd, Nat.reduceLeDiff, z_eq0, z_eq1, z_or, z_em, Classical.not_not, not_false_eq_true, not_true_eq_false, true_and, and_true, false_and, and_false, and_self, true_implies, false_implies, implies_true, Option.toList_some, Option.toList_none, List.cons_append, List.nil_append, Nat.add_eq_zero_iff, a_nl_i, a_nl_r, a_nl_n, true_or, or_true, eq_self, ok_4, ok_5, ok_6, ok_7, ok_9, ok_10, ok_20, ok_21, ok_24, ok_30, ok_48, ok_50, ok_60, ok_80, ok_120, ok_180, ok_192, ok_200, ok_900, ok_1000, ok_84000]
  refine xe_readUnit hS hR hvw ha hb (fun J j1 j2 j3 => ?_)
  simp only [q196_4, as_nil, as_i, as_r, Nat.reduceAdd, Nat.reduceLeDiff, z_eq0, z_eq1, z_or, z_em, Classical.not_not, not_false_eq_true, not_true_eq_false, true_and, and_true, false_and, and_false, and_self, true_implies, false_implies, implies_true, Option.toList_some, Option.toList_none, List.cons_append, List.nil_append, Nat.add_eq_zero_iff, a_nl_i, a_nl_r, a_nl_n, true_or, or_true, eq_self, ok_4, ok_5, ok_6, ok_7, ok_9, ok_10, ok_20, ok_21, ok_24, ok_30, ok_48, ok_50, ok_60, ok_80, ok_120, ok_180, ok_192, ok_200, ok_900, ok_1000, ok_84000]
  refine xe_readSum_5 hS hvw (vw_E hvw ha) hP 50 J _ none none j1 j2 ⟨Int32.le_trans ha.1 hub.1, hub.2.1⟩ j3 (by
    have u1 := Int32.le_iff_toInt_le.mp hub.1
    have u3 := Int32.le_iff_toInt_le.mp he.2
    have u4 := Int32.le_iff_toInt_le.mp ha.1
    have z0 : (0 : Int32).toInt = 0 := rfl
    have z50 : (50 : Int32).toInt = 50 := rfl
    omega) rfl
theorem xe_readTest (hS : m_S M K L R) (hR : mR M I) (hvw : vw M I f e) (ha : 0 ≤ I M 49 ∧ I M 49 ≤ e) (hb : I M 50 = 0) (hP : ∀ J, rT M I J → J M 49 = (xC f e (I M 49)).2.1 → J M 50 = (if (xC f e (I M 49)).1 = true then 0 else 1) → P (some (.int ((xC f e (I M 49)).2.2 (I (M + 32))))) (n, t, K, L, J, R)) : a_does (d + 4) 203 [a_rf M] (n, t, K, L, I, R) P := by
  have hE := vw_E hvw ha
  have hsb := xS_b (f := f) ha.2
  have he := hvw.2.1
  have hrC : ∀ r, r = xS f e (I M 49) → xC f e (I M 49) = if r.1 = true then (if i3 f e r.2.1 60 61 62 then ((xS f e (r.2.1 + 1)).1, (xS f e (r.2.1 + 1)).2.1, fun fc => xcmp (f r.2.1.toNatClampNeg) (r.2.2 fc) ((xS f e (r.2.1 + 1)).2.2 fc)) else (false, r.2.1, fun _ => 0)) else (false, r.2.1, fun _ => 0) := fun r e => by
    subst e
    rfl
  rw [a_enter1 (M := a_m203) rfl (a_cat_rf a_cat_nil) (show 1 ≤ 4 by decide)]
  show a_at _ (a_xm a_m203) 0 [some (a_rf M), none, none, none] [] _ _
  simp only [q203_0, q203_1, m_0 hS, m_K hS, as_nil, as_i, as_r, Nat.reduceAdd, Nat.reduceLeDiff, z_eq0, z_eq1, z_or, z_em, Classical.not_not, not_false_eq_true, not_true_eq_false, true_and, and_true, false_and, and_false, and_self, true_implies, false_implies, implies_true, Option.toList_some, Option.toList_none, List.cons_append, List.nil_append, Nat.add_eq_zero_iff, a_nl_i, a_nl_r, a_nl_n, true_or, or_true, eq_self, ok_4, ok_5, ok_6, ok_7, ok_9, ok_10, ok_20, ok_21, ok_24, ok_30, ok_48, ok_50, ok_60, ok_80, ok_120, ok_180, ok_192, ok_200, ok_900, ok_1000, ok_84000]
  refine xe_readSum hS hR hvw ha hb (fun J hT hA hB => ?_)
  generalize hr : xS f e (I M 49) = r at hA hB hsb ⊢
  have hrC := hrC r hr.symm
  have hr0 : 0 ≤ r.2.1 := Int32.le_trans ha.1 hsb.1
  have hvJ := hv_x (vw_T hvw hT) (by rw [hA]; exact hr0)
  rw [hA] at hvJ
  have hbad : ∀ J2, rT M I J2 → J2 M 49 = r.2.1 → J2 M 50 = 1 → xC f e (I M 49) = (false, r.2.1, fun _ => 0) → P (some (.int 0)) (n, t, K, L, J2, R) := fun J2 j1 j2 j3 w => by
    have hp := hP J2 j1 (by rw [j2, w]) (by rw [j3, w]; rfl)
    rw [w] at hp
    exact hp
  have h35 : ¬ (r.1 = true ∧ i3 f e r.2.1 60 61 62) → P (some (.int 0)) (n, t, K, L, (a_ui J M 50 1), R) := fun q => by
    refine hbad _ (sT_isBad hT) (by rw [ui_ap, if_neg (by omega)]; exact hA) (by rw [ui_ap, if_pos ⟨rfl, rfl⟩]) ?_
    rw [hrC]
    by_cases r1 : r.1 = true
    · rw [if_pos r1, if_neg (fun z => q ⟨r1, z⟩)]
    · rw [if_neg r1]
  simp only [q203_4, q203_5, q203_6, m_0 hS, m_K hS, as_nil, as_i, as_r, Nat.reduceAdd, Nat.reduceLeDiff, z_eq0, z_eq1, z_or, z_em, Classical.not_not, not_false_eq_true, not_true_eq_false, true_and, and_true, false_and, and_false, and_self, true_implies, false_implies, implies_true, Option.toList_some, Option.toList_none, List.cons_append, List.nil_append, Nat.add_eq_zero_iff, a_nl_i, a_nl_r, a_nl_n, true_or, or_true, eq_self, ok_4, ok_5, ok_6, ok_7, ok_9, ok_10, ok_20, ok_21, ok_24, ok_30, ok_48, ok_50, ok_60, ok_80, ok_120, ok_180, ok_192, ok_200, ok_900, ok_1000, ok_84000]
  refine ct_here hS hE hT ?_
  by_cases q : r.1 = true ∧ i3 f e r.2.1 60 61 62
  · obtain ⟨r1, cA, q2⟩ := q
    rw [if_pos r1] at hB hrC
    rw [if_pos ⟨cA, q2⟩] at hrC
    have hvf : hv M J = f r.2.1.toNatClampNeg := by rw [hvJ, if_pos cA]
    have m1 : r.2.1 + 1 ≤ e := by clear hP hT hrC hvJ hbad h35 hr; grind
    have m0 : 0 ≤ r.2.1 + 1 := by clear hP hT hrC hvJ hbad h35 hr; grind
    have hT2 : rT M I (a_ui J M 49 (J M 49 + 1)) := sT_at hT ⟨by rw [hA]; clear hP hT hrC hvJ hbad h35 hr; grind, by rw [hA]; clear hP hT hrC hvJ hbad h35 hr; grind⟩
    have n4 : a_ui J M 49 (J M 49 + 1) M 49 = r.2.1 + 1 := by rw [ui_ap, if_pos ⟨rfl, rfl⟩, hA]
    have nf : a_ui J M 49 (J M 49 + 1) (M + 32) = I (M + 32) := rT_fun hT2 (by omega)
    have h42 : a_at (d + 3) (a_xm a_m203) 42 [some (a_rf M), some (.int (r.2.2 (I (M + 32)))), some (.int (f r.2.1.toNatClampNeg)), none] [] (n, t, K, L, J, R) P := by
      simp only [q203_42, q203_43, q203_44, q203_47, q203_48, q203_49, q203_52, q203_53, m_0 hS, m_K hS, as_nil, as_i, as_r, Nat.reduceAdd, Nat.reduceLeDiff, z_eq0, z_eq1, z_or, z_em, Classical.not_not, not_false_eq_true, not_true_eq_false, true_and, and_true, false_and, and_false, and_self, true_implies, false_implies, implies_true, Option.toList_some, Option.toList_none, List.cons_append, List.nil_append, Nat.add_eq_zero_iff, a_nl_i, a_nl_r, a_nl_n, true_or, or_true, eq_self, ok_4, ok_5, ok_6, ok_7, ok_9, ok_10, ok_20, ok_21, ok_24, ok_30, ok_48, ok_50, ok_60, ok_80, ok_120, ok_180, ok_192, ok_200, ok_900, ok_1000, ok_84000, ui_ap, ne_MM, ne_M0, ne_0M, Nat.reduceEqDiff, reduceIte, if_true, if_false]
      refine xe_readSum hS hT2.1 (vw_T hvw hT2) (by rw [n4]; exact ⟨m0, m1⟩) (by rw [ui_ap, if_neg (by omega)]; exact hB) (fun J2 j1 j2 j3 => ?_)
      rw [n4] at j2 j3 ⊢
      rw [nf]
      have hp := hP J2 (rT_tr hT2 j1) (by rw [j2, hrC]) (by rw [j3, hrC])
      rw [hrC] at hp
      clear hP hT hrC hvJ hbad h35 hr hT2 j1 hvw hE
      rcases q2 with q2 | q2 | q2
      · have ev : xcmp (f r.2.1.toNatClampNeg) (r.2.2 (I (M + 32))) ((xS f e (r.2.1 + 1)).2.2 (I (M + 32))) = if r.2.2 (I (M + 32)) < (xS f e (r.2.1 + 1)).2.2 (I (M + 32)) then 1 else 0 := by rw [q2]; rfl
        have hp : P (some (.int (xcmp (f r.2.1.toNatClampNeg) (r.2.2 (I (M + 32))) ((xS f e (r.2.1 + 1)).2.2 (I (M + 32)))))) (n, t, K, L, J2, R) := hp
        rw [ev] at hp
        simp only [q203_56, q203_57, q203_58, q203_60, q203_63, q203_64, q203_65, q203_68, q203_69, q203_72, q203_73, q203_76, q203_77, q203_79, q203_82, q203_83, q203_84, q203_87, q203_88, q203_91, q203_92, q203_95, q203_96, q203_97, q203_100, q203_101, q203_104, q203_105, as_nil, as_i, as_r, Nat.reduceAdd, Nat.reduceLeDiff, z_eq0, z_eq1, z_or, z_em, Classical.not_not, not_false_eq_true, not_true_eq_false, true_and, and_true, false_and, and_false, and_self, true_implies, false_implies, implies_true, Option.toList_some, Option.toList_none, List.cons_append, List.nil_append, Nat.add_eq_zero_iff, a_nl_i, a_nl_r, a_nl_n, true_or, or_true, eq_self, ok_4, ok_5, ok_6, ok_7, ok_9, ok_10, ok_20, ok_21, ok_24, ok_30, ok_48, ok_50, ok_60, ok_80, ok_120, ok_180, ok_192, ok_200, ok_900, ok_1000, ok_84000, q2] at hp ⊢
        grind
      · have ev : xcmp (f r.2.1.toNatClampNeg) (r.2.2 (I (M + 32))) ((xS f e (r.2.1 + 1)).2.2 (I (M + 32))) = if r.2.2 (I (M + 32)) = (xS f e (r.2.1 + 1)).2.2 (I (M + 32)) then 1 else 0 := by rw [q2]; rfl
        have hp : P (some (.int (xcmp (f r.2.1.toNatClampNeg) (r.2.2 (I (M + 32))) ((xS f e (r.2.1 + 1)).2.2 (I (M + 32)))))) (n, t, K, L, J2, R) := hp
        rw [ev] at hp
        have n1 : ¬ (61 : Int32) = 60 := by decide
        simp only [q203_56, q203_57, q203_58, q203_60, q203_63, q203_64, q203_65, q203_68, q203_69, q203_72, q203_73, q203_76, q203_77, q203_79, q203_82, q203_83, q203_84, q203_87, q203_88, q203_91, q203_92, q203_95, q203_96, q203_97, q203_100, q203_101, q203_104, q203_105, as_nil, as_i, as_r, Nat.reduceAdd, Nat.reduceLeDiff, z_eq0, z_eq1, z_or, z_em, Classical.not_not, not_false_eq_true, not_true_eq_false, true_and, and_true, false_and, and_false, and_self, true_implies, false_implies, implies_true, Option.toList_some, Option.toList_none, List.cons_append, List.nil_append, Nat.add_eq_zero_iff, a_nl_i, a_nl_r, a_nl_n, true_or, or_true, eq_self, ok_4, ok_5, ok_6, ok_7, ok_9, ok_10, ok_20, ok_21, ok_24, ok_30, ok_48, ok_50, ok_60, ok_80, ok_120, ok_180, ok_192, ok_200, ok_900, ok_1000, ok_84000, q2, n1] at hp ⊢
        grind
      · have ev : xcmp (f r.2.1.toNatClampNeg) (r.2.2 (I (M + 32))) ((xS f e (r.2.1 + 1)).2.2 (I (M + 32))) = if (xS f e (r.2.1 + 1)).2.2 (I (M + 32)) < r.2.2 (I (M + 32)) then 1 else 0 := by rw [q2]; rfl
        have hp : P (some (.int (xcmp (f r.2.1.toNatClampNeg) (r.2.2 (I (M + 32))) ((xS f e (r.2.1 + 1)).2.2 (I (M + 32)))))) (n, t, K, L, J2, R) := hp
        rw [ev] at hp
        have n1 : ¬ (62 : Int32) = 60 := by decide
        have n2 : ¬ (62 : Int32) = 61 := by decide
        simp only [q203_56, q203_57, q203_58, q203_60, q203_63, q203_64, q203_65, q203_68, q203_69, q203_72, q203_73, q203_76, q203_77, q203_79, q203_82, q203_83, q203_84, q203_87, q203_88, q203_91, q203_92, q203_95, q203_96, q203_97, q203_100, q203_101, q203_104, q203_105, as_nil, as_i, as_r, Nat.reduceAdd, Nat.reduceLeDiff, z_eq0, z_eq1, z_or, z_em, Classical.not_not, not_false_eq_true, not_true_eq_false, true_and, and_true, false_and, and_false, and_self, true_implies, false_implies, implies_true, Option.toList_some, Option.toList_none, List.cons_append, List.nil_append, Nat.add_eq_zero_iff, a_nl_i, a_nl_r, a_nl_n, true_or, or_true, eq_self, ok_4, ok_5, ok_6, ok_7, ok_9, ok_10, ok_20, ok_21, ok_24, ok_30, ok_48, ok_50, ok_60, ok_80, ok_120, ok_180, ok_192, ok_200, ok_900, ok_1000, ok_84000, q2, n1, n2] at hp ⊢
        grind
    rw [hvf]
    clear hP hT hrC hvJ hbad h35 hr hT2 hvf hvw hE
    simp only [q203_9, q203_10, q203_11, q203_14, q203_17, q203_18, q203_20, q203_23, q203_24, q203_26, q203_29, q203_30, q203_32, m_0 hS, m_K hS, as_nil, as_i, as_r, Nat.reduceAdd, Nat.reduceLeDiff, z_eq0, z_eq1, z_or, z_em, Classical.not_not, not_false_eq_true, not_true_eq_false, true_and, and_true, false_and, and_false, and_self, true_implies, false_implies, implies_true, Option.toList_some, Option.toList_none, List.cons_append, List.nil_append, Nat.add_eq_zero_iff, a_nl_i, a_nl_r, a_nl_n, true_or, or_true, eq_self, ok_4, ok_5, ok_6, ok_7, ok_9, ok_10, ok_20, ok_21, ok_24, ok_30, ok_48, ok_50, ok_60, ok_80, ok_120, ok_180, ok_192, ok_200, ok_900, ok_1000, ok_84000, hB]
    grind
  · have hp := h35 q
    rw [hvJ]
    have hB2 : ¬ J M 50 = 0 ∨ ¬ i3 f e r.2.1 60 61 62 := by
      by_cases r1 : r.1 = true
      · exact Or.inr (fun z => q ⟨r1, z⟩)
      · rw [if_neg r1] at hB
        exact Or.inl (by rw [hB]; decide)
    have hB3 : ¬ J M 50 = 0 ∨ (¬ (if r.2.1 < e then f r.2.1.toNatClampNeg else -1) = 60 ∧ ¬ (if r.2.1 < e then f r.2.1.toNatClampNeg else -1) = 61 ∧ ¬ (if r.2.1 < e then f r.2.1.toNatClampNeg else -1) = 62) := by
      refine hB2.imp id (fun z => ?_)
      by_cases l : r.2.1 < e
      · rw [if_pos l]
        exact ⟨fun w => z ⟨l, Or.inl w⟩, fun w => z ⟨l, Or.inr (Or.inl w)⟩, fun w => z ⟨l, Or.inr (Or.inr w)⟩⟩
      · rw [if_neg l]
        decide
    generalize (if r.2.1 < e then f r.2.1.toNatClampNeg else -1) = c at hB3 ⊢
    clear hP hT hrC hvJ hbad h35 hr hB hB2 hvw hE q
    simp only [q203_9, q203_10, q203_11, q203_14, q203_17, q203_18, q203_20, q203_23, q203_24, q203_26, q203_29, q203_30, q203_32, q203_35, q203_36, q203_37, q203_40, q203_41, m_0 hS, m_K hS, as_nil, as_i, as_r, Nat.reduceAdd, Nat.reduceLeDiff, z_eq0, z_eq1, z_or, z_em, Classical.not_not, not_false_eq_true, not_true_eq_false, true_and, and_true, false_and, and_false, and_self, true_implies, false_implies, implies_true, Option.toList_some, Option.toList_none, List.cons_append, List.nil_append, Nat.add_eq_zero_iff, a_nl_i, a_nl_r, a_nl_n, true_or, or_true, eq_self, ok_4, ok_5, ok_6, ok_7, ok_9, ok_10, ok_20, ok_21, ok_24, ok_30, ok_48, ok_50, ok_60, ok_80, ok_120, ok_180, ok_192, ok_200, ok_900, ok_1000, ok_84000]
    grind
end XA
end
section
/-! the reference: a RULE, just so -/
section XB
variable {d n t M : Nat} {K L : Nat → Nat} {I I0 J J0 J1 J2 : Nat → Nat → Int32} {R : Nat → Nat → Nat} {P : Option Value → AH → Prop} {f : Nat → Int32} {e : Int32}
variable {fc V Z : Nat → Int32} {a b dp : Int32} {m s : Nat}
theorem on_t {k : Nat} (h : k < 1000) : (Int32.ofNat k).toNatClampNeg = k := by
  show (Int32.ofNat k).toInt.toNat = k
  rw [Int32.toInt_ofNat', show Int32.size = 4294967296 from rfl]
  simp only [Int.bmod_def]
  omega
theorem on_i {k : Nat} (h : k < 1000) : (Int32.ofNat k).toInt = k := by
  rw [Int32.toInt_ofNat', show Int32.size = 4294967296 from rfl]
  simp only [Int.bmod_def]
  omega
theorem on_a {k : Nat} : Int32.ofNat k + 1 = Int32.ofNat (k + 1) := by
  rw [Int32.ofNat_add]; rfl
theorem on_s {k : Nat} : Int32.ofNat (k + 1) - 1 = Int32.ofNat k := by
  rw [← on_a]
  grind
theorem on_z {k : Nat} (h : k < 1000) : (Int32.ofNat k = 0) = (k = 0) := by
  refine propext ⟨fun q => ?_, fun q => by subst q; rfl⟩
  have := congrArg Int32.toInt q
  rw [on_i h] at this
  have z0 : (0 : Int32).toInt = 0 := rfl
  omega
theorem on_r {k : Nat} (h : k < 60) : 0 ≤ Int32.ofNat k ∧ Int32.ofNat k < 60 := by
  rw [Int32.le_iff_toInt_le, Int32.lt_iff_toInt_lt, on_i (by omega)]
  have z0 : (0 : Int32).toInt = 0 := rfl
  have z60 : (60 : Int32).toInt = 60 := rfl
  omega
/-- between two steps: what is before it, where, how deep, values V up to m, signs Z up to s -/
def ps (M : Nat) (I0 J : Nat → Nat → Int32) (f fc : Nat → Int32) (e a b dp : Int32) (m s : Nat) (V Z : Nat → Int32) : Prop := mC M I0 J ∧ vw M J f e ∧ (∀ j, J (M + 32) j = fc j) ∧ J M 49 = a ∧ (0 ≤ a ∧ a ≤ e) ∧ J M 50 = b ∧ J M 51 = dp ∧ J M 54 = Int32.ofNat m ∧ J M 56 = Int32.ofNat s ∧ (m ≤ 51 ∧ s ≤ 50) ∧ (∀ i, i < m → J (M + 33) i = V i ∧ (V i = 0 ∨ V i = 1)) ∧ ∀ i, i < s → J (M + 34) i = Z i
/-- at the end -/
def xz (M : Nat) (I0 J : Nat → Nat → Int32) (f fc : Nat → Int32) (e a b : Int32) : Prop := mC M I0 J ∧ vw M J f e ∧ (∀ j, J (M + 32) j = fc j) ∧ J M 49 = a ∧ J M 50 = b
theorem ps_mC (h : ps M I0 J f fc e a b dp m s V Z) : mC M I0 J := h.1
theorem ps_vw (h : ps M I0 J f fc e a b dp m s V Z) : vw M J f e := h.2.1
theorem ps_fc (h : ps M I0 J f fc e a b dp m s V Z) : ∀ j, J (M + 32) j = fc j := h.2.2.1
theorem ps_at (h : ps M I0 J f fc e a b dp m s V Z) : J M 49 = a := h.2.2.2.1
theorem ps_a (h : ps M I0 J f fc e a b dp m s V Z) : 0 ≤ a ∧ a ≤ e := h.2.2.2.2.1
theorem ps_bad (h : ps M I0 J f fc e a b dp m s V Z) : J M 50 = b := h.2.2.2.2.2.1
theorem ps_dp (h : ps M I0 J f fc e a b dp m s V Z) : J M 51 = dp := h.2.2.2.2.2.2.1
theorem ps_vm (h : ps M I0 J f fc e a b dp m s V Z) : J M 54 = Int32.ofNat m := h.2.2.2.2.2.2.2.1
theorem ps_sm (h : ps M I0 J f fc e a b dp m s V Z) : J M 56 = Int32.ofNat s := h.2.2.2.2.2.2.2.2.1
theorem ps_50 (h : ps M I0 J f fc e a b dp m s V Z) : m ≤ 51 ∧ s ≤ 50 := h.2.2.2.2.2.2.2.2.2.1
theorem ps_V (h : ps M I0 J f fc e a b dp m s V Z) : ∀ i, i < m → J (M + 33) i = V i ∧ (V i = 0 ∨ V i = 1) := h.2.2.2.2.2.2.2.2.2.2.1
theorem ps_Z (h : ps M I0 J f fc e a b dp m s V Z) : ∀ i, i < s → J (M + 34) i = Z i := h.2.2.2.2.2.2.2.2.2.2.2
/-- cells that a step may change -/
theorem vw_fr (h : vw M J f e) (h2 : ∀ x j, ¬ x = (M + 33) → ¬ x = (M + 34) → ¬ (x = M ∧ (j = 49 ∨ j = 50 ∨ j = 51 ∨ j = 54 ∨ j = 56)) → J1 x j = J x j) : vw M J1 f e := by
  unfold vw at h ⊢
  have e1 : J1 (M + 27) = J (M + 27) := funext (fun j => h2 _ _ (by omega) (by omega) (by omega))
  have e2 : J1 (M + 28) = J (M + 28) := funext (fun j => h2 _ _ (by omega) (by omega) (by omega))
  rw [h2 M 48 (by omega) (by omega) (by omega), h2 M 47 (by omega) (by omega) (by omega), h2 M 46 (by omega) (by omega) (by omega), e1, e2]
  exact h
theorem ps_top (h : ps M I0 J f fc e a b dp m (s + 1) V Z) : J (M + 34) (J M 56 - 1).toNatClampNeg = Z s ∧ (0 ≤ J M 56 - 1 ∧ J M 56 - 1 < 60) ∧ ¬ J M 56 = 0 := by
  have h5 := ps_50 h
  rw [ps_sm h, on_s, on_t (by omega), on_z (by omega)]
  exact ⟨ps_Z h s (by omega), on_r (by omega), by omega⟩
theorem pe_no (hS : m_S M K L R) {Q : Option Value → AH → Prop} (h : ps M I0 J f fc e a b dp m s V Z) (ht : s = 0 ∨ ¬ Z (s - 1) = 33) (hQ : Q none (n, t, K, L, J, R)) : a_does (d + 2) 204 [a_rf M] (n, t, K, L, J, R) Q := by
  have k : J M 56 = 0 ∨ (¬ J (M + 34) (J M 56 - 1).toNatClampNeg = 33 ∧ (0 ≤ J M 56 - 1 ∧ J M 56 - 1 < 60)) := by
    cases s with
    | zero => exact Or.inl (by rw [ps_sm h]; rfl)
    | succ s =>
      have tp := ps_top h
      refine Or.inr ⟨?_, tp.2.1⟩
      rw [tp.1]
      exact ht.resolve_left (by omega)
  clear h ht
  rw [a_enter1 (M := a_m204) rfl (a_cat_rf a_cat_nil) (show 1 ≤ 1 by decide)]
  show a_at _ (a_xm a_m204) 0 [some (a_rf M)] [] _ _
  simp only [q204_0, q204_1, q204_4, q204_6, q204_62, m_0 hS, m_K hS, sp_topSign hS, as_nil, as_i, as_r, Nat.reduceAdd, Nat.reduceLeDiff, z_eq0, z_eq1, z_or, z_em, Classical.not_not, not_false_eq_true, not_true_eq_false, true_and, and_true, false_and, and_false, and_self, true_implies, false_implies, implies_true, Option.toList_some, Option.toList_none, List.cons_append, List.nil_append, Nat.add_eq_zero_iff, a_nl_i, a_nl_r, a_nl_n, true_or, or_true, eq_self, ok_4, ok_5, ok_6, ok_7, ok_9, ok_10, ok_20, ok_21, ok_24, ok_30, ok_48, ok_50, ok_60, ok_80, ok_120, ok_180, ok_192, ok_200, ok_900, ok_1000, ok_84000]
  clear hS
  grind
theorem pe_pop (hS : m_S M K L R) {Q : Option Value → AH → Prop} (h : ps M I0 J f fc e a b dp (m + 1) (s + 1) V Z) (ht : Z s = 33) (hQ : ∀ J', ps M I0 J' f fc e a b (dp - 1) (m + 1) s (up1 V m (1 - V m)) Z → a_does (d + 2) 204 [a_rf M] (n, t, K, L, J', R) Q) : a_does (d + 2) 204 [a_rf M] (n, t, K, L, J, R) Q := by
  have tp := ps_top h
  have h5 := ps_50 h
  have hv := ps_V h m (by omega)
  have ev : (J M 54 - 1).toNatClampNeg = m := by rw [ps_vm h, on_s, on_t (by omega)]
  have er : 0 ≤ J M 54 - 1 ∧ J M 54 - 1 < 60 := by rw [ps_vm h, on_s]; exact on_r (by omega)
  have hgo : ∀ w : Int32, w = 1 - V m → a_at (d + 1) (a_xm a_m204) 0 [some (a_rf M)] [] (n, t, K, L, (a_ui (a_ui (a_ui J (M + 33) m w) M 56 (J M 56 - 1)) M 51 (J M 51 - 1)), R) Q := fun w hw => by
    have hd := hQ (a_ui (a_ui (a_ui J (M + 33) m w) M 56 (J M 56 - 1)) M 51 (J M 51 - 1)) ⟨sC_deep (sC_signMany (sC_values (ps_mC h))), vw_fr (ps_vw h) (fun x j p q r => by rw [ui_ap, if_neg (by omega), ui_ap, if_neg (by omega), ui_ap, if_neg (by omega)]), fun j => by rw [ui_ap, if_neg (by omega), ui_ap, if_neg (by omega), ui_ap, if_neg (by omega)]; exact ps_fc h j, by rw [ui_ap, if_neg (by omega), ui_ap, if_neg (by omega), ui_ap, if_neg (by omega)]; exact ps_at h, ps_a h, by rw [ui_ap, if_neg (by omega), ui_ap, if_neg (by omega), ui_ap, if_neg (by omega)]; exact ps_bad h, by rw [ui_ap, if_pos ⟨rfl, rfl⟩, ps_dp h], by rw [ui_ap, if_neg (by omega), ui_ap, if_neg (by omega), ui_ap, if_neg (by omega)]; exact ps_vm h, by rw [ui_ap, if_neg (by omega), ui_ap, if_pos ⟨rfl, rfl⟩, ps_sm h, on_s], by omega, fun i hi => ?_, fun i hi => ?_⟩
    · rw [a_enter1 (M := a_m204) rfl (a_cat_rf a_cat_nil) (show 1 ≤ 1 by decide)] at hd
      exact hd
    · rw [ui_ap, if_neg (by omega), ui_ap, if_neg (by omega), ui_ap]
      by_cases c : i = m
      · subst c
        rw [if_pos ⟨rfl, rfl⟩, up1_eq]
        refine ⟨hw, ?_⟩
        rcases hv.2 with q | q <;> rw [q] <;> decide
      · rw [if_neg (fun q => c q.2), up1_ne c]
        exact ps_V h i (by omega)
    · rw [ui_ap, if_neg (by omega), ui_ap, if_neg (by omega), ui_ap, if_neg (by omega)]
      exact ps_Z h i (by omega)
  rw [ht] at tp
  obtain ⟨t1, t2, t3⟩ := tp
  obtain ⟨v1, v2⟩ := hv
  have g0 := hgo (0 &&& 1)
  have g1 := hgo (1 &&& 1)
  have z1 : V m = 0 → (1 &&& 1 : Int32) = 1 - V m := fun q => by rw [q]; rfl
  have z0 : V m = 1 → (0 &&& 1 : Int32) = 1 - V m := fun q => by rw [q]; rfl
  clear h hQ hgo
  rw [a_enter1 (M := a_m204) rfl (a_cat_rf a_cat_nil) (show 1 ≤ 1 by decide)]
  show a_at _ (a_xm a_m204) 0 [some (a_rf M)] [] _ _
  rw [q204_0]
  simp only [q204_1, q204_4, q204_6, q204_9, q204_10, q204_13, q204_14, q204_17, q204_18, q204_19, q204_20, q204_23, q204_24, q204_27, q204_28, q204_29, q204_30, q204_33, q204_34, q204_37, q204_38, q204_39, q204_40, q204_41, q204_44, q204_45, q204_46, q204_49, q204_50, q204_51, q204_54, q204_55, q204_56, q204_59, m_0 hS, m_K hS, mR_values hS, mK_values hS, mL_values hS, sp_topSign hS, as_nil, as_i, as_r, Nat.reduceAdd, Nat.reduceLeDiff, z_eq0, z_eq1, z_or, z_em, Classical.not_not, not_false_eq_true, not_true_eq_false, true_and, and_true, false_and, and_false, and_self, true_implies, false_implies, implies_true, Option.toList_some, Option.toList_none, List.cons_append, List.nil_append, Nat.add_eq_zero_iff, a_nl_i, a_nl_r, a_nl_n, true_or, or_true, eq_self, ok_4, ok_5, ok_6, ok_7, ok_9, ok_10, ok_20, ok_21, ok_24, ok_30, ok_48, ok_50, ok_60, ok_80, ok_120, ok_180, ok_192, ok_200, ok_900, ok_1000, ok_84000, ui_ap, ne_MM, ne_M0, ne_0M, Nat.reduceEqDiff, reduceIte, if_true, if_false, ev, t1, v1, er, t2, t3]
  clear hS
  rcases v2 with q | q
  · have g1 := g1 (z1 q)
    have n1 : ¬ V m = 1 := by rw [q]; decide
    clear g0
    simp only [q] at *
    first
      | exact g1
      | grind
  · have g0 := g0 (z0 q)
    have n0 : ¬ V m = 0 := by rw [q]; decide
    clear g1
    simp only [q] at *
    first
      | exact g0
      | grind
/-- what a sign joins -/
def opC (g x y : Int32) : Int32 := if g = 38 then x &&& y else if g = 124 then x ||| y else x &&& (1 - y)
theorem opC_01 {g x y : Int32} (hx : x = 0 ∨ x = 1) (hy : y = 0 ∨ y = 1) : opC g x y = 0 ∨ opC g x y = 1 := by
  unfold opC
  rcases hx with rfl | rfl <;> rcases hy with rfl | rfl <;> (split; decide; split <;> decide)
theorem jo_no (hS : m_S M K L R) {Q : Option Value → AH → Prop} {g : Int32} {u w : Option Value} (h : ps M I0 J f fc e a b dp m s V Z) (g0 : ¬ g = 0) (ht : s = 0 ∨ ¬ Z (s - 1) = g) (hQ : Q none (n, t, K, L, J, R)) : a_at (d + 1) (a_xm a_m206) 0 [some (a_rf M), some (.int g), u, w] [] (n, t, K, L, J, R) Q := by
  have k : J M 56 = 0 ∨ (¬ J (M + 34) (J M 56 - 1).toNatClampNeg = g ∧ (0 ≤ J M 56 - 1 ∧ J M 56 - 1 < 60)) := by
    cases s with
    | zero => exact Or.inl (by rw [ps_sm h]; rfl)
    | succ s =>
      have tp := ps_top h
      refine Or.inr ⟨?_, tp.2.1⟩
      rw [tp.1]
      exact ht.resolve_left (by omega)
  clear h ht
  simp only [q206_0, q206_1, q206_4, q206_5, q206_121, m_0 hS, m_K hS, sp_topSign hS, as_nil, as_i, as_r, Nat.reduceAdd, Nat.reduceLeDiff, z_eq0, z_eq1, z_or, z_em, Classical.not_not, not_false_eq_true, not_true_eq_false, true_and, and_true, false_and, and_false, and_self, true_implies, false_implies, implies_true, Option.toList_some, Option.toList_none, List.cons_append, List.nil_append, Nat.add_eq_zero_iff, a_nl_i, a_nl_r, a_nl_n, true_or, or_true, eq_self, ok_4, ok_5, ok_6, ok_7, ok_9, ok_10, ok_20, ok_21, ok_24, ok_30, ok_48, ok_50, ok_60, ok_80, ok_120, ok_180, ok_192, ok_200, ok_900, ok_1000, ok_84000]
  clear hS
  grind
theorem jo_pop (hS : m_S M K L R) {Q : Option Value → AH → Prop} {g : Int32} {u w : Option Value} (h : ps M I0 J f fc e a b dp (m + 1 + 1) (s + 1) V Z) (hg : g = 38 ∨ g = 124 ∨ g = 47) (ht : Z s = g) (hQ : ∀ J' u w, ps M I0 J' f fc e a b dp (m + 1) s (up1 V m (opC g (V m) (V (m + 1)))) Z → a_at (d + 1) (a_xm a_m206) 0 [some (a_rf M), some (.int g), u, w] [] (n, t, K, L, J', R) Q) : a_at (d + 1) (a_xm a_m206) 0 [some (a_rf M), some (.int g), u, w] [] (n, t, K, L, J, R) Q := by
  have tp := ps_top h
  have h5 := ps_50 h
  have hv := ps_V h m (by omega)
  have hw := ps_V h (m + 1) (by omega)
  have e1 : J M 54 - 1 = Int32.ofNat (m + 1) := by rw [ps_vm h, on_s]
  have e2 : J M 54 - 1 - 1 = Int32.ofNat m := by rw [e1, on_s]
  have t1' : (Int32.ofNat m).toNatClampNeg = m := on_t (by omega)
  have t2' : (Int32.ofNat (m + 1)).toNatClampNeg = m + 1 := on_t (by omega)
  have r1 := on_r (k := m) (by omega)
  have r2 := on_r (k := m + 1) (by omega)
  have hgo : ∀ (z : Int32) (u w : Option Value), z = opC g (V m) (V (m + 1)) → a_at (d + 1) (a_xm a_m206) 0 [some (a_rf M), some (.int g), u, w] [] (n, t, K, L, (a_ui (a_ui (a_ui J M 54 (Int32.ofNat (m + 1))) (M + 33) m z) M 56 (J M 56 - 1)), R) Q := fun z u w hz => by
    refine hQ _ u w ⟨sC_signMany (sC_values (sC_valueMany (ps_mC h))), vw_fr (ps_vw h) (fun x j p q r => by rw [ui_ap, if_neg (by omega), ui_ap, if_neg (by omega), ui_ap, if_neg (by omega)]), fun j => by rw [ui_ap, if_neg (by omega), ui_ap, if_neg (by omega), ui_ap, if_neg (by omega)]; exact ps_fc h j, by rw [ui_ap, if_neg (by omega), ui_ap, if_neg (by omega), ui_ap, if_neg (by omega)]; exact ps_at h, ps_a h, by rw [ui_ap, if_neg (by omega), ui_ap, if_neg (by omega), ui_ap, if_neg (by omega)]; exact ps_bad h, by rw [ui_ap, if_neg (by omega), ui_ap, if_neg (by omega), ui_ap, if_neg (by omega)]; exact ps_dp h, by rw [ui_ap, if_neg (by omega), ui_ap, if_neg (by omega), ui_ap, if_pos ⟨rfl, rfl⟩], by rw [ui_ap, if_pos ⟨rfl, rfl⟩, ps_sm h, on_s], by omega, fun i hi => ?_, fun i hi => ?_⟩
    · rw [ui_ap, if_neg (by omega), ui_ap]
      by_cases c : i = m
      · subst c
        rw [if_pos ⟨rfl, rfl⟩, up1_eq]
        exact ⟨hz, opC_01 hv.2 hw.2⟩
      · rw [if_neg (fun q => c q.2), up1_ne c, ui_ap, if_neg (by omega)]
        exact ps_V h i (by omega)
    · rw [ui_ap, if_neg (by omega), ui_ap, if_neg (by omega), ui_ap, if_neg (by omega)]
      exact ps_Z h i (by omega)
  rw [ht] at tp
  obtain ⟨q1, q2, q3⟩ := tp
  obtain ⟨v1, v2⟩ := hv
  obtain ⟨w1, w2⟩ := hw
  clear h hQ
  have hfin : ∀ z : Int32, (z &&& 1) = opC g (V m) (V (m + 1)) → ∀ u w, a_at (d + 1) (a_xm a_m206) 107 [some (a_rf M), some (.int g), u, w] [.int z, .int (Int32.ofNat m), a_rf (M + 33)] (n, t, K, L, (a_ui J M 54 (Int32.ofNat (m + 1))), R) Q := fun z hz u w => by
    have hg2 := hgo (z &&& 1) u w hz
    simp only [q206_107, q206_108, q206_109, q206_110, q206_113, q206_114, q206_115, q206_118, m_0 hS, m_K hS, as_nil, as_i, as_r, Nat.reduceAdd, Nat.reduceLeDiff, z_eq0, z_eq1, z_or, z_em, Classical.not_not, not_false_eq_true, not_true_eq_false, true_and, and_true, false_and, and_false, and_self, true_implies, false_implies, implies_true, Option.toList_some, Option.toList_none, List.cons_append, List.nil_append, Nat.add_eq_zero_iff, a_nl_i, a_nl_r, a_nl_n, true_or, or_true, eq_self, ok_4, ok_5, ok_6, ok_7, ok_9, ok_10, ok_20, ok_21, ok_24, ok_30, ok_48, ok_50, ok_60, ok_80, ok_120, ok_180, ok_192, ok_200, ok_900, ok_1000, ok_84000, ui_ap, ne_MM, ne_M0, ne_0M, Nat.reduceEqDiff, reduceIte, if_true, if_false, t1', mK_values hS, mL_values hS, r1]
    first
      | exact hg2
      | exact ⟨trivial, hg2⟩
      | (simp only [true_and]; exact hg2)
  clear hgo
  rw [q206_0]
  have m0 : ∀ x : Int32, a_ui J M 54 x M 54 = x := fun x => by rw [ui_ap, if_pos ⟨rfl, rfl⟩]
  have mv : ∀ x j, a_ui J M 54 x (M + 33) j = J (M + 33) j := fun x j => by rw [ui_ap, if_neg (by omega)]
  simp only [q206_1, q206_4, q206_5, q206_8, q206_9, q206_10, q206_13, q206_14, q206_15, q206_18, q206_19, q206_22, q206_23, q206_26, q206_27, q206_28, q206_29, q206_30, q206_31, q206_34, q206_35, q206_38, q206_39, q206_40, q206_41, q206_44, q206_45, q206_48, q206_49, m_0 hS, m_K hS, mR_values hS, mK_values hS, mL_values hS, sp_topSign hS, as_nil, as_i, as_r, Nat.reduceAdd, Nat.reduceLeDiff, z_eq0, z_eq1, z_or, z_em, Classical.not_not, not_false_eq_true, not_true_eq_false, true_and, and_true, false_and, and_false, and_self, true_implies, false_implies, implies_true, Option.toList_some, Option.toList_none, List.cons_append, List.nil_append, Nat.add_eq_zero_iff, a_nl_i, a_nl_r, a_nl_n, true_or, or_true, eq_self, ok_4, ok_5, ok_6, ok_7, ok_9, ok_10, ok_20, ok_21, ok_24, ok_30, ok_48, ok_50, ok_60, ok_80, ok_120, ok_180, ok_192, ok_200, ok_900, ok_1000, ok_84000, m0, mv, e1, e2, t1', t2', on_s, q1, q2, q3, r1, r2, v1, w1]
  clear hS m0 mv
  have n10 : ¬ (1 : Int32) = 0 := by decide
  have n2 : ¬ (124 : Int32) = 38 := by decide
  have n3 : ¬ (47 : Int32) = 38 := by decide
  have n4 : ¬ (47 : Int32) = 124 := by decide
  rcases hg with rfl | rfl | rfl
  · rcases v2 with qa | qa <;> rcases w2 with qb | qb <;> (simp only [q206_50, q206_51, q206_53, q206_56, q206_57, q206_60, q206_61, q206_64, q206_65, q206_68, q206_69, q206_72, q206_73, q206_75, q206_78, q206_79, q206_82, q206_83, q206_86, q206_87, q206_90, q206_91, q206_94, q206_95, q206_98, q206_99, q206_102, q206_103, q206_106, as_nil, as_i, as_r, Nat.reduceAdd, Nat.reduceLeDiff, z_eq0, z_eq1, z_or, z_em, Classical.not_not, not_false_eq_true, not_true_eq_false, true_and, and_true, false_and, and_false, and_self, true_implies, false_implies, implies_true, Option.toList_some, Option.toList_none, List.cons_append, List.nil_append, Nat.add_eq_zero_iff, a_nl_i, a_nl_r, a_nl_n, true_or, or_true, eq_self, ok_4, ok_5, ok_6, ok_7, ok_9, ok_10, ok_20, ok_21, ok_24, ok_30, ok_48, ok_50, ok_60, ok_80, ok_120, ok_180, ok_192, ok_200, ok_900, ok_1000, ok_84000, qa, qb, n10, if_true, if_false]; exact hfin _ (by rw [qa, qb]; rfl) _ _)
  · rcases v2 with qa | qa <;> rcases w2 with qb | qb <;> (simp only [q206_50, q206_51, q206_53, q206_56, q206_57, q206_60, q206_61, q206_64, q206_65, q206_68, q206_69, q206_72, q206_73, q206_75, q206_78, q206_79, q206_82, q206_83, q206_86, q206_87, q206_90, q206_91, q206_94, q206_95, q206_98, q206_99, q206_102, q206_103, q206_106, as_nil, as_i, as_r, Nat.reduceAdd, Nat.reduceLeDiff, z_eq0, z_eq1, z_or, z_em, Classical.not_not, not_false_eq_true, not_true_eq_false, true_and, and_true, false_and, and_false, and_self, true_implies, false_implies, implies_true, Option.toList_some, Option.toList_none, List.cons_append, List.nil_append, Nat.add_eq_zero_iff, a_nl_i, a_nl_r, a_nl_n, true_or, or_true, eq_self, ok_4, ok_5, ok_6, ok_7, ok_9, ok_10, ok_20, ok_21, ok_24, ok_30, ok_48, ok_50, ok_60, ok_80, ok_120, ok_180, ok_192, ok_200, ok_900, ok_1000, ok_84000, qa, qb, n10, n2, if_true, if_false]; exact hfin _ (by rw [qa, qb]; rfl) _ _)
  · rcases v2 with qa | qa <;> rcases w2 with qb | qb <;> (simp only [q206_50, q206_51, q206_53, q206_56, q206_57, q206_60, q206_61, q206_64, q206_65, q206_68, q206_69, q206_72, q206_73, q206_75, q206_78, q206_79, q206_82, q206_83, q206_86, q206_87, q206_90, q206_91, q206_94, q206_95, q206_98, q206_99, q206_102, q206_103, q206_106, as_nil, as_i, as_r, Nat.reduceAdd, Nat.reduceLeDiff, z_eq0, z_eq1, z_or, z_em, Classical.not_not, not_false_eq_true, not_true_eq_false, true_and, and_true, false_and, and_false, and_self, true_implies, false_implies, implies_true, Option.toList_some, Option.toList_none, List.cons_append, List.nil_append, Nat.add_eq_zero_iff, a_nl_i, a_nl_r, a_nl_n, true_or, or_true, eq_self, ok_4, ok_5, ok_6, ok_7, ok_9, ok_10, ok_20, ok_21, ok_24, ok_30, ok_48, ok_50, ok_60, ok_80, ok_120, ok_180, ok_192, ok_200, ok_900, ok_1000, ok_84000, qa, qb, n10, n3, n4, if_true, if_false]; exact hfin _ (by rw [qa, qb]; rfl) _ _)
theorem jo_none (hS : m_S M K L R) {Q : Option Value → AH → Prop} {g : Int32} (h : ps M I0 J f fc e a b dp m s V Z) (g0 : ¬ g = 0) (ht : s = 0 ∨ ¬ Z (s - 1) = g) (hQ : Q none (n, t, K, L, J, R)) : a_does (d + 2) 206 [a_rf M, .int g] (n, t, K, L, J, R) Q := by
  rw [a_enter1 (M := a_m206) rfl (a_cat_rf (a_cat_int a_cat_nil)) (show 2 ≤ 4 by decide)]
  show a_at _ (a_xm a_m206) 0 [some (a_rf M), some (.int g), none, none] [] _ _
  exact jo_no hS h g0 ht hQ
theorem jo_one (hS : m_S M K L R) {Q : Option Value → AH → Prop} {g : Int32} (h : ps M I0 J f fc e a b dp (m + 1 + 1) (s + 1) V Z) (hg : g = 38 ∨ g = 124 ∨ g = 47) (ht : Z s = g) (hb : s = 0 ∨ ¬ Z (s - 1) = g) (hQ : ∀ J', ps M I0 J' f fc e a b dp (m + 1) s (up1 V m (opC g (V m) (V (m + 1)))) Z → Q none (n, t, K, L, J', R)) : a_does (d + 2) 206 [a_rf M, .int g] (n, t, K, L, J, R) Q := by
  rw [a_enter1 (M := a_m206) rfl (a_cat_rf (a_cat_int a_cat_nil)) (show 2 ≤ 4 by decide)]
  show a_at _ (a_xm a_m206) 0 [some (a_rf M), some (.int g), none, none] [] _ _
  exact jo_pop hS h hg ht (fun J' u w h' => jo_no hS h' (by rcases hg with rfl | rfl | rfl <;> decide) hb (hQ J' h'))
/-! what waits to be joined -/
def oc (o : Option ((Nat → Int32) → Int32)) : Nat := match o with | none => 0 | some _ => 1
def cmb (y : Nat) (o : Option ((Nat → Int32) → Int32)) (r : rdT) : rdT := match o with | none => r | some x => (r.1, r.2.1, fun fc => opY y (x fc) (r.2.2 fc))
theorem cmb_1 {y : Nat} {o : Option ((Nat → Int32) → Int32)} {r : rdT} : (cmb y o r).1 = r.1 := by cases o <;> rfl
theorem cmb_2 {y : Nat} {o : Option ((Nat → Int32) → Int32)} {r : rdT} : (cmb y o r).2.1 = r.2.1 := by cases o <;> rfl
def cbv (g : Int32) (o : Option ((Nat → Int32) → Int32)) (fc : Nat → Int32) (x : Int32) : Int32 := match o with | none => x | some w => opC g (w fc) x
def fl (M : Nat) (I0 J : Nat → Nat → Int32) (f fc : Nat → Int32) (e a dp : Int32) (m s : Nat) (V0 Z0 : Nat → Int32) (o0 o1 o2 : Option ((Nat → Int32) → Int32)) (cur : Int32) : Prop := ∃ V Z, ps M I0 J f fc e a 0 dp (m + oc o0 + oc o1 + oc o2 + 1) (s + oc o0 + oc o1 + oc o2) V Z ∧ (∀ i, i < m → V i = V0 i) ∧ (∀ i, i < s → Z i = Z0 i) ∧ (∀ x, o0 = some x → V m = x fc ∧ Z s = 47) ∧ (∀ x, o1 = some x → V (m + oc o0) = x fc ∧ Z (s + oc o0) = 124) ∧ (∀ x, o2 = some x → V (m + oc o0 + oc o1) = x fc ∧ Z (s + oc o0 + oc o1) = 38) ∧ V (m + oc o0 + oc o1 + oc o2) = cur


variable {o0 o1 o2 : Option ((Nat → Int32) → Int32)} {cur : Int32}
theorem f38 (hS : m_S M K L R) {Q : Option Value → AH → Prop} (hb : s = 0 ∨ Z (s - 1) = 40) (h : fl M I0 J f fc e a dp m s V Z o0 o1 o2 cur) (hQ : ∀ J', fl M I0 J' f fc e a dp m s V Z o0 o1 none (cbv 38 o2 fc cur) → Q none (n, t, K, L, J', R)) : a_does (d + 2) 206 [a_rf M, .int 38] (n, t, K, L, J, R) Q := by
  obtain ⟨V1, Z1, h1, h2, h3, h4, h5, h6, h7⟩ := id h
  cases o2 with
  | none =>
    refine jo_none hS h1 (by decide) ?_ (hQ J h)
    cases o1 with
    | some x => exact Or.inr (by show ¬ Z1 (s + oc o0 + 1 + 0 - 1) = 38; rw [show s + oc o0 + 1 + 0 - 1 = s + oc o0 by omega, (h5 x rfl).2]; decide)
    | none =>
      cases o0 with
      | some x => exact Or.inr (by show ¬ Z1 (s + 1 + 0 + 0 - 1) = 38; rw [show s + 1 + 0 + 0 - 1 = s by omega, (h4 x rfl).2]; decide)
      | none =>
        rcases hb with hb | hb
        · exact Or.inl (by show s + 0 + 0 + 0 = 0; omega)
        · by_cases s0 : s = 0
          · exact Or.inl (by show s + 0 + 0 + 0 = 0; omega)
          · exact Or.inr (by show ¬ Z1 (s + 0 + 0 + 0 - 1) = 38; rw [show s + 0 + 0 + 0 - 1 = s - 1 by omega, h3 _ (by omega), hb]; decide)
  | some x =>
    have h6 := h6 x rfl
    refine jo_one hS (m := m + oc o0 + oc o1) (s := s + oc o0 + oc o1) h1 (Or.inl rfl) h6.2 ?_ (fun J' hp => hQ J' ⟨_, Z1, hp, fun i hi => ?_, h3, fun y e => ?_, fun y e => ?_, (fun y e => by cases e), ?_⟩)
    · cases o1 with
      | some x => exact Or.inr (by show ¬ Z1 (s + oc o0 + 1 - 1) = 38; rw [show s + oc o0 + 1 - 1 = s + oc o0 by omega, (h5 x rfl).2]; decide)
      | none =>
        cases o0 with
        | some x => exact Or.inr (by show ¬ Z1 (s + 1 + 0 - 1) = 38; rw [show s + 1 + 0 - 1 = s by omega, (h4 x rfl).2]; decide)
        | none =>
          by_cases s0 : s = 0
          · exact Or.inl (by show s + 0 + 0 = 0; omega)
          · exact Or.inr (by show ¬ Z1 (s + 0 + 0 - 1) = 38; rw [show s + 0 + 0 - 1 = s - 1 by omega, h3 _ (by omega), hb.resolve_left s0]; decide)
    · rw [up1_ne (by omega)]; exact h2 i hi
    · have q := h4 y e
      refine ⟨?_, q.2⟩
      have : oc o0 = 1 := by rw [e]; rfl
      rw [up1_ne (by omega)]; exact q.1
    · have q := h5 y e
      refine ⟨?_, q.2⟩
      have : oc o1 = 1 := by rw [e]; rfl
      rw [up1_ne (by omega)]; exact q.1
    · show up1 V1 (m + oc o0 + oc o1) _ (m + oc o0 + oc o1) = _
      rw [up1_eq, h6.1]
      have h7 : V1 (m + oc o0 + oc o1 + 1) = cur := h7
      rw [h7]
      rfl
theorem f124 (hS : m_S M K L R) {Q : Option Value → AH → Prop} (hb : s = 0 ∨ Z (s - 1) = 40) (h : fl M I0 J f fc e a dp m s V Z o0 o1 none cur) (hQ : ∀ J', fl M I0 J' f fc e a dp m s V Z o0 none none (cbv 124 o1 fc cur) → Q none (n, t, K, L, J', R)) : a_does (d + 2) 206 [a_rf M, .int 124] (n, t, K, L, J, R) Q := by
  obtain ⟨V1, Z1, h1, h2, h3, h4, h5, h6, h7⟩ := id h
  cases o1 with
  | none =>
    refine jo_none hS h1 (by decide) ?_ (hQ J h)
    cases o0 with
    | some x => exact Or.inr (by show ¬ Z1 (s + 1 + 0 + 0 - 1) = 124; rw [show s + 1 + 0 + 0 - 1 = s by omega, (h4 x rfl).2]; decide)
    | none =>
      by_cases s0 : s = 0
      · exact Or.inl (by show s + 0 + 0 + 0 = 0; omega)
      · exact Or.inr (by show ¬ Z1 (s + 0 + 0 + 0 - 1) = 124; rw [show s + 0 + 0 + 0 - 1 = s - 1 by omega, h3 _ (by omega), hb.resolve_left s0]; decide)
  | some x =>
    have h5 := h5 x rfl
    refine jo_one hS (m := m + oc o0) (s := s + oc o0) h1 (Or.inr (Or.inl rfl)) h5.2 ?_ (fun J' hp => hQ J' ⟨_, Z1, hp, fun i hi => ?_, h3, fun y e => ?_, (fun y e => by cases e), (fun y e => by cases e), ?_⟩)
    · cases o0 with
      | some x => exact Or.inr (by show ¬ Z1 (s + 1 - 1) = 124; rw [show s + 1 - 1 = s by omega, (h4 x rfl).2]; decide)
      | none =>
        by_cases s0 : s = 0
        · exact Or.inl (by show s + 0 = 0; omega)
        · exact Or.inr (by show ¬ Z1 (s + 0 - 1) = 124; rw [show s + 0 - 1 = s - 1 by omega, h3 _ (by omega), hb.resolve_left s0]; decide)
    · rw [up1_ne (by omega)]; exact h2 i hi
    · have q := h4 y e
      refine ⟨?_, q.2⟩
      have : oc o0 = 1 := by rw [e]; rfl
      rw [up1_ne (by omega)]; exact q.1
    · show up1 V1 (m + oc o0) _ (m + oc o0) = _
      rw [up1_eq, h5.1]
      have h7 : V1 (m + oc o0 + 1 + 0) = cur := h7
      rw [Nat.add_zero] at h7
      rw [h7]
      rfl
theorem f47 (hS : m_S M K L R) {Q : Option Value → AH → Prop} (hb : s = 0 ∨ Z (s - 1) = 40) (h : fl M I0 J f fc e a dp m s V Z o0 none none cur) (hQ : ∀ J', fl M I0 J' f fc e a dp m s V Z none none none (cbv 47 o0 fc cur) → Q none (n, t, K, L, J', R)) : a_does (d + 2) 206 [a_rf M, .int 47] (n, t, K, L, J, R) Q := by
  obtain ⟨V1, Z1, h1, h2, h3, h4, h5, h6, h7⟩ := id h
  cases o0 with
  | none =>
    refine jo_none hS h1 (by decide) ?_ (hQ J h)
    by_cases s0 : s = 0
    · exact Or.inl (by show s + 0 + 0 + 0 = 0; omega)
    · exact Or.inr (by show ¬ Z1 (s + 0 + 0 + 0 - 1) = 47; rw [show s + 0 + 0 + 0 - 1 = s - 1 by omega, h3 _ (by omega), hb.resolve_left s0]; decide)
  | some x =>
    have h4 := h4 x rfl
    refine jo_one hS (m := m) (s := s) h1 (Or.inr (Or.inr rfl)) h4.2 ?_ (fun J' hp => hQ J' ⟨_, Z1, hp, fun i hi => ?_, h3, (fun y e => by cases e), (fun y e => by cases e), (fun y e => by cases e), ?_⟩)
    · by_cases s0 : s = 0
      · exact Or.inl s0
      · exact Or.inr (by rw [h3 _ (by omega), hb.resolve_left s0]; decide)
    · rw [up1_ne (by omega)]; exact h2 i hi
    · show up1 V1 m _ m = _
      rw [up1_eq, h4.1]
      have h7 : V1 (m + 1 + 0 + 0) = cur := h7
      rw [Nat.add_zero, Nat.add_zero] at h7
      rw [h7]
      rfl
end XB
end
section
/-! a RULE's reading, flat -/
section XC
variable {f : Nat → Int32} {e : Int32} {q : Int32 → rdT}
theorem xlo_no {q : Int32 → rdT} {c : Int32} {op : Int32 → Int32 → Int32} {k : Nat} {r : rdT} (h : ¬ (r.1 = true ∧ r.2.1 < e ∧ f r.2.1.toNatClampNeg = c)) : xlo f e q c op k r = r := by
  cases k with
  | zero => rfl
  | succ k => unfold xlo; rw [if_neg h]
theorem xlo_fu {q : Int32 → rdT} (hq : ∀ a, a ≤ e → xB e a (q a)) {c : Int32} {op : Int32 → Int32 → Int32} (he : e ≤ 50) : ∀ (k l : Nat) (r : rdT), 0 ≤ r.2.1 → e.toInt ≤ r.2.1.toInt + k → e.toInt ≤ r.2.1.toInt + l → xlo f e q c op k r = xlo f e q c op l r := by
  intro k
  induction k with
  | zero =>
    intro l r h0 h1 h2
    have : ¬ (r.1 = true ∧ r.2.1 < e ∧ f r.2.1.toNatClampNeg = c) := fun w => by
      have := Int32.lt_iff_toInt_lt.mp w.2.1
      omega
    rw [xlo_no this, xlo_no this]
  | succ k ih =>
    intro l r h0 h1 h2
    by_cases w : r.1 = true ∧ r.2.1 < e ∧ f r.2.1.toNatClampNeg = c
    · cases l with
      | zero =>
        have := Int32.lt_iff_toInt_lt.mp w.2.1
        omega
      | succ l =>
        have u0 := Int32.lt_iff_toInt_lt.mp w.2.1
        have u1 := Int32.le_iff_toInt_le.mp h0
        have u2 := Int32.le_iff_toInt_le.mp he
        have z0 : (0 : Int32).toInt = 0 := rfl
        have z1 : (1 : Int32).toInt = 1 := rfl
        have z50 : (50 : Int32).toInt = 50 := rfl
        have et : (r.2.1 + 1).toInt = r.2.1.toInt + 1 := by rw [ti_add (by omega)]; omega
        have hb := hq (r.2.1 + 1) (by rw [Int32.le_iff_toInt_le]; omega)
        have hb1 := Int32.le_iff_toInt_le.mp hb.1
        unfold xlo
        rw [if_pos w, if_pos w]
        refine ih l _ ?_ ?_ ?_
        · show 0 ≤ (q (r.2.1 + 1)).2.1
          rw [Int32.le_iff_toInt_le]
          omega
        · show e.toInt ≤ (q (r.2.1 + 1)).2.1.toInt + k
          omega
        · show e.toInt ≤ (q (r.2.1 + 1)).2.1.toInt + l
          omega
    · rw [xlo_no w, xlo_no w]
theorem xlo_go {q : Int32 → rdT} (hq : ∀ a, a ≤ e → xB e a (q a)) {c : Int32} {op : Int32 → Int32 → Int32} (he : e ≤ 50) {r : rdT} (h0 : 0 ≤ r.2.1) (h : r.1 = true ∧ r.2.1 < e ∧ f r.2.1.toNatClampNeg = c) : xlo f e q c op 50 r = xlo f e q c op 50 ((q (r.2.1 + 1)).1, (q (r.2.1 + 1)).2.1, fun fc => op (r.2.2 fc) ((q (r.2.1 + 1)).2.2 fc)) := by
  have u0 := Int32.lt_iff_toInt_lt.mp h.2.1
  have u1 := Int32.le_iff_toInt_le.mp h0
  have u2 := Int32.le_iff_toInt_le.mp he
  have z0 : (0 : Int32).toInt = 0 := rfl
  have z1 : (1 : Int32).toInt = 1 := rfl
  have z50 : (50 : Int32).toInt = 50 := rfl
  have et : (r.2.1 + 1).toInt = r.2.1.toInt + 1 := by rw [ti_add (by omega)]; omega
  have hb := hq (r.2.1 + 1) (by rw [Int32.le_iff_toInt_le]; omega)
  have hb1 := Int32.le_iff_toInt_le.mp hb.1
  have e1 : xlo f e q c op 50 r = xlo f e q c op 49 ((q (r.2.1 + 1)).1, (q (r.2.1 + 1)).2.1, fun fc => op (r.2.2 fc) ((q (r.2.1 + 1)).2.2 fc)) := by
    conv => lhs; unfold xlo
    rw [if_pos h]
  rw [e1]
  refine xlo_fu hq he 49 50 _ ?_ ?_ ?_
  · show 0 ≤ (q (r.2.1 + 1)).2.1
    rw [Int32.le_iff_toInt_le]
    omega
  · show e.toInt ≤ (q (r.2.1 + 1)).2.1.toInt + 49
    omega
  · show e.toInt ≤ (q (r.2.1 + 1)).2.1.toInt + 50
    omega
/-- what is read further with these waiting -/
def wJ (f : Nat → Int32) (e : Int32) (q : Int32 → rdT) (o0 o1 o2 : Option ((Nat → Int32) → Int32)) (r : rdT) : rdT := xlo f e (xjo f e q 2) 47 (opY 3) 50 (cmb 3 o0 (xlo f e (xjo f e q 1) 124 (opY 2) 50 (cmb 2 o1 (xlo f e (xjo f e q 0) 38 (opY 1) 50 (cmb 1 o2 r)))))
theorem xjo_3 {a : Int32} : xjo f e q 3 a = xlo f e (xjo f e q 2) 47 (opY 3) 50 (xjo f e q 2 a) := by
  conv => lhs; unfold xjo
  have h : sgY (2 + 1) = 47 := by decide
  rw [h]
theorem xjo_2 {a : Int32} : xjo f e q 2 a = xlo f e (xjo f e q 1) 124 (opY 2) 50 (xjo f e q 1 a) := by
  conv => lhs; unfold xjo
  have h : sgY (1 + 1) = 124 := by decide
  rw [h]
theorem xjo_1 {a : Int32} : xjo f e q 1 a = xlo f e (xjo f e q 0) 38 (opY 1) 50 (xjo f e q 0 a) := by
  conv => lhs; unfold xjo
  have h : sgY (0 + 1) = 38 := by decide
  rw [h]
theorem xjo_0 {a : Int32} : xjo f e q 0 a = q a := by
  unfold xjo
  rfl
theorem cmb_n {y : Nat} {r : rdT} : cmb y none r = r := rfl
theorem wJ_0 {a : Int32} : xjo f e q 3 a = (wJ f e q none none none (q a)) := by
  unfold wJ
  rw [xjo_3, xjo_2, xjo_1, xjo_0, cmb_n, cmb_n, cmb_n]
theorem wJ_end {o0 o1 o2 : Option ((Nat → Int32) → Int32)} {r : rdT} (h : ¬ (r.1 = true ∧ r.2.1 < e ∧ (f r.2.1.toNatClampNeg = 38 ∨ f r.2.1.toNatClampNeg = 124 ∨ f r.2.1.toNatClampNeg = 47))) : (wJ f e q o0 o1 o2 r) = cmb 3 o0 (cmb 2 o1 (cmb 1 o2 r)) := by
  have n : ∀ y (o : Option ((Nat → Int32) → Int32)) (x : rdT) (c : Int32), (c = 38 ∨ c = 124 ∨ c = 47) → x.1 = r.1 → x.2.1 = r.2.1 → ¬ ((cmb y o x).1 = true ∧ (cmb y o x).2.1 < e ∧ f (cmb y o x).2.1.toNatClampNeg = c) := fun y o x c hc h1 h2 w => by
    rw [cmb_1, cmb_2, h1, h2] at w
    refine h ⟨w.1, w.2.1, ?_⟩
    rw [w.2.2]
    exact hc
  unfold wJ
  rw [xlo_no (n 1 o2 r 38 (Or.inl rfl) rfl rfl), xlo_no (n 2 o1 _ 124 (Or.inr (Or.inl rfl)) cmb_1 cmb_2), xlo_no (n 3 o0 _ 47 (Or.inr (Or.inr rfl)) (by rw [cmb_1, cmb_1]) (by rw [cmb_2, cmb_2]))]
theorem wJ_38 (hq : ∀ a, a ≤ e → xB e a (q a)) (he : e ≤ 50) {o0 o1 o2 : Option ((Nat → Int32) → Int32)} {r : rdT} (h0 : 0 ≤ r.2.1) (h1 : r.1 = true) (h2 : r.2.1 < e) (h3 : f r.2.1.toNatClampNeg = 38) : (wJ f e q o0 o1 o2 r) = (wJ f e q o0 o1 (some (cmb 1 o2 r).2.2) (q (r.2.1 + 1))) := by
  unfold wJ
  have := xlo_go (f := f) (q := xjo f e q 0) (fun a h => xjo_b hq 0 a h) (c := 38) (op := opY 1) he (r := cmb 1 o2 r) (by rw [cmb_2]; exact h0) ⟨by rw [cmb_1]; exact h1, by rw [cmb_2]; exact h2, by rw [cmb_2]; exact h3⟩
  rw [this, cmb_2]
  rfl
theorem wJ_124 (hq : ∀ a, a ≤ e → xB e a (q a)) (he : e ≤ 50) {o0 o1 o2 : Option ((Nat → Int32) → Int32)} {r : rdT} (h0 : 0 ≤ r.2.1) (h1 : r.1 = true) (h2 : r.2.1 < e) (h3 : f r.2.1.toNatClampNeg = 124) : (wJ f e q o0 o1 o2 r) = (wJ f e q o0 (some (cmb 2 o1 (cmb 1 o2 r)).2.2) none (q (r.2.1 + 1))) := by
  unfold wJ
  rw [xlo_no (f := f) (q := xjo f e q 0) (c := 38) (r := cmb 1 o2 r) (fun w => by rw [cmb_2, h3] at w; exact absurd w.2.2 (by decide))]
  have := xlo_go (f := f) (q := xjo f e q 1) (fun a h => xjo_b hq 1 a h) (c := 124) (op := opY 2) he (r := cmb 2 o1 (cmb 1 o2 r)) (by rw [cmb_2, cmb_2]; exact h0) ⟨by rw [cmb_1, cmb_1]; exact h1, by rw [cmb_2, cmb_2]; exact h2, by rw [cmb_2, cmb_2]; exact h3⟩
  rw [this, cmb_2, cmb_2]
  rfl
theorem wJ_47 (hq : ∀ a, a ≤ e → xB e a (q a)) (he : e ≤ 50) {o0 o1 o2 : Option ((Nat → Int32) → Int32)} {r : rdT} (h0 : 0 ≤ r.2.1) (h1 : r.1 = true) (h2 : r.2.1 < e) (h3 : f r.2.1.toNatClampNeg = 47) : (wJ f e q o0 o1 o2 r) = (wJ f e q (some (cmb 3 o0 (cmb 2 o1 (cmb 1 o2 r))).2.2) none none (q (r.2.1 + 1))) := by
  unfold wJ
  rw [xlo_no (f := f) (q := xjo f e q 0) (c := 38) (r := cmb 1 o2 r) (fun w => by rw [cmb_2, h3] at w; exact absurd w.2.2 (by decide)), xlo_no (f := f) (q := xjo f e q 1) (c := 124) (r := cmb 2 o1 (cmb 1 o2 r)) (fun w => by rw [cmb_2, cmb_2, h3] at w; exact absurd w.2.2 (by decide))]
  have := xlo_go (f := f) (q := xjo f e q 2) (fun a h => xjo_b hq 2 a h) (c := 47) (op := opY 3) he (r := cmb 3 o0 (cmb 2 o1 (cmb 1 o2 r))) (by rw [cmb_2, cmb_2, cmb_2]; exact h0) ⟨by rw [cmb_1, cmb_1, cmb_1]; exact h1, by rw [cmb_2, cmb_2, cmb_2]; exact h2, by rw [cmb_2, cmb_2, cmb_2]; exact h3⟩
  rw [this, cmb_2, cmb_2, cmb_2]
  rfl
theorem cbv_1 {o : Option ((Nat → Int32) → Int32)} {r : rdT} {fc : Nat → Int32} : cbv 38 o fc (r.2.2 fc) = (cmb 1 o r).2.2 fc := by cases o <;> rfl
theorem cbv_2 {o : Option ((Nat → Int32) → Int32)} {r : rdT} {fc : Nat → Int32} : cbv 124 o fc (r.2.2 fc) = (cmb 2 o r).2.2 fc := by cases o <;> rfl
theorem cbv_3 {o : Option ((Nat → Int32) → Int32)} {r : rdT} {fc : Nat → Int32} : cbv 47 o fc (r.2.2 fc) = (cmb 3 o r).2.2 fc := by cases o <;> rfl
end XC
/-! the reference: a RULE, the whole of it -/
section XD
variable {d n t M : Nat} {K L : Nat → Nat} {I I0 J J0 J1 J2 : Nat → Nat → Int32} {R : Nat → Nat → Nat} {P : Option Value → AH → Prop} {f : Nat → Int32} {e : Int32}
variable {fc V Z : Nat → Int32} {a dp : Int32} {m s : Nat}
theorem ps_Zc {Z' : Nat → Int32} (h : ps M I0 J f fc e a 0 dp m s V Z) (hz : ∀ i, i < s → Z i = Z' i) : ps M I0 J f fc e a 0 dp m s V Z' := ⟨h.1, h.2.1, h.2.2.1, h.2.2.2.1, h.2.2.2.2.1, h.2.2.2.2.2.1, h.2.2.2.2.2.2.1, h.2.2.2.2.2.2.2.1, h.2.2.2.2.2.2.2.2.1, h.2.2.2.2.2.2.2.2.2.1, h.2.2.2.2.2.2.2.2.2.2.1, fun i hi => (ps_Z h i hi).trans (hz i hi)⟩
theorem does_mono {D mid : Nat} {as : List Value} {h : AH} {Q Q' : Option Value → AH → Prop} (h1 : a_does D mid as h Q) (h2 : ∀ r h', Q r h' → Q' r h') : a_does D mid as h Q' := by
  obtain ⟨F, r, h', q1, q2⟩ := h1
  exact ⟨F, r, h', q1, h2 r h' q2⟩
/-- on with what comes behind a part -/
def Qc (M d : Nat) (P : Option Value → AH → Prop) : Option Value → AH → Prop := fun r h' => r = none ∧ ∀ c : Option Value, a_at (d + 4) (a_xm a_m202) 17 [some (a_rf M), some (.int 0), c] [] h' P
/-- a FAULT ends it -/
theorem ru_bad (hS : m_S M K L R) {w c : Option Value} (hb : ¬ J M 50 = 0) (hP : P (some (.int 0)) (n, t, K, L, J, R)) : a_at (d + 4) (a_xm a_m202) 17 [some (a_rf M), w, c] [] (n, t, K, L, J, R) P := by
  simp only [q202_17, q202_18, q202_21, q202_332, q202_333, q202_336, q202_373, q202_374, q202_377, q202_393, q202_394, m_0 hS, m_K hS, as_nil, as_i, as_r, Nat.reduceAdd, Nat.reduceLeDiff, z_eq0, z_eq1, z_or, z_em, Classical.not_not, not_false_eq_true, not_true_eq_false, true_and, and_true, false_and, and_false, and_self, true_implies, false_implies, implies_true, Option.toList_some, Option.toList_none, List.cons_append, List.nil_append, Nat.add_eq_zero_iff, a_nl_i, a_nl_r, a_nl_n, true_or, or_true, eq_self, ok_4, ok_5, ok_6, ok_7, ok_9, ok_10, ok_20, ok_21, ok_24, ok_30, ok_48, ok_50, ok_60, ok_80, ok_120, ok_180, ok_192, ok_200, ok_900, ok_1000, ok_84000, hb]
  try simp only [false_implies, true_implies, not_false_eq_true, true_and, and_true, implies_true]
  first
    | exact hP
    | grind
def PT (d n t M : Nat) (K L : Nat → Nat) (I0 : Nat → Nat → Int32) (R : Nat → Nat → Nat) (P : Option Value → AH → Prop) (f fc : Nat → Int32) (e : Int32) (z : Nat) : Prop := ∀ (J : Nat → Nat → Int32) (a dp : Int32) (m s : Nat) (V Z : Nat → Int32) (c : Option Value), ps M I0 J f fc e a 0 dp m s V Z → m ≤ a.toNatClampNeg → s ≤ a.toNatClampNeg → dp.toInt + z = 4 → (∀ J', (xP f e z a).1 = false → xz M I0 J' f fc e (xP f e z a).2.1 1 → P (some (.int 0)) (n, t, K, L, J', R)) → (∀ J' V', (xP f e z a).1 = true → ps M I0 J' f fc e (xP f e z a).2.1 0 dp (m + 1) s V' Z → (∀ i, i < m → V' i = V i) → V' m = (xP f e z a).2.2 fc → a_does (d + 4) 204 [a_rf M] (n, t, K, L, J', R) (Qc M d P)) → a_at (d + 4) (a_xm a_m202) 17 [some (a_rf M), some (.int 1), c] [] (n, t, K, L, J, R) P
/-- what a RULE read behind "(" or from the start on comes to -/
def RZ (d n t M : Nat) (K L : Nat → Nat) (I0 : Nat → Nat → Int32) (R : Nat → Nat → Nat) (P : Option Value → AH → Prop) (f fc : Nat → Int32) (e : Int32) (dp : Int32) (m s : Nat) (V Z : Nat → Int32) (W : rdT) : Prop := (∀ J', W.1 = false → xz M I0 J' f fc e W.2.1 1 → P (some (.int 0)) (n, t, K, L, J', R)) ∧ (∀ J' o0 o1 o2 cur, W.1 = true → fl M I0 J' f fc e W.2.1 dp m s V Z o0 o1 o2 cur → cbv 47 o0 fc (cbv 124 o1 fc (cbv 38 o2 fc cur)) = W.2.2 fc → ¬ (W.2.1 < e ∧ (f W.2.1.toNatClampNeg = 38 ∨ f W.2.1.toNatClampNeg = 124 ∨ f W.2.1.toNatClampNeg = 47)) → ∀ c : Option Value, a_at (d + 4) (a_xm a_m202) 17 [some (a_rf M), some (.int 0), c] [] (n, t, K, L, J', R) P)

theorem fl_ps {o0 o1 o2 : Option ((Nat → Int32) → Int32)} {cur : Int32} (h : fl M I0 J f fc e a dp m s V Z o0 o1 o2 cur) : ∃ V1 Z1, ps M I0 J f fc e a 0 dp (m + oc o0 + oc o1 + oc o2 + 1) (s + oc o0 + oc o1 + oc o2) V1 Z1 := by
  obtain ⟨V1, Z1, h1, -⟩ := h
  exact ⟨V1, Z1, h1⟩
/-- at a sign: it is put on top, and a part is wanted -/
theorem ru_211 (hS : m_S M K L R) {c : Int32} (h : ps M I0 J f fc e a 0 dp m s V Z) (ha : a < e) (hs : s < 50) (hgo : ∀ J', ps M I0 J' f fc e (a + 1) 0 dp m (s + 1) V (up1 Z s c) → a_at (d + 4) (a_xm a_m202) 17 [some (a_rf M), some (.int 1), some (.int c)] [] (n, t, K, L, J', R) P) : a_at (d + 4) (a_xm a_m202) 211 [some (a_rf M), some (.int 0), some (.int c)] [] (n, t, K, L, J, R) P := by
  have h5 := ps_50 h
  have es : (J M 56).toNatClampNeg = s := by rw [ps_sm h, on_t (by omega)]
  have er : 0 ≤ J M 56 ∧ J M 56 < 60 := by rw [ps_sm h]; exact on_r (by omega)
  have hh := hgo (a_ui (a_ui (a_ui J (M + 34) s c) M 56 (J M 56 + 1)) M 49 (J M 49 + 1)) ⟨sC_at (sC_signMany (sC_signs (ps_mC h))), vw_fr (ps_vw h) (fun x j p q r => by rw [ui_ap, if_neg (by omega), ui_ap, if_neg (by omega), ui_ap, if_neg (by omega)]), fun j => by rw [ui_ap, if_neg (by omega), ui_ap, if_neg (by omega), ui_ap, if_neg (by omega)]; exact ps_fc h j, by rw [ui_ap, if_pos ⟨rfl, rfl⟩, ps_at h], ⟨by have := ps_a h; have := (ps_vw h).2.1; clear hgo h; grind, by have := ps_a h; have := (ps_vw h).2.1; clear hgo h; grind⟩, by rw [ui_ap, if_neg (by omega), ui_ap, if_neg (by omega), ui_ap, if_neg (by omega)]; exact ps_bad h, by rw [ui_ap, if_neg (by omega), ui_ap, if_neg (by omega), ui_ap, if_neg (by omega)]; exact ps_dp h, by rw [ui_ap, if_neg (by omega), ui_ap, if_neg (by omega), ui_ap, if_neg (by omega)]; exact ps_vm h, by rw [ui_ap, if_neg (by omega), ui_ap, if_pos ⟨rfl, rfl⟩, ps_sm h, on_a], by omega, fun i hi => ?_, fun i hi => ?_⟩
  · simp only [q202_211, q202_212, q202_215, q202_216, q202_219, q202_220, q202_221, q202_222, q202_223, q202_226, q202_227, q202_228, q202_231, q202_232, q202_233, q202_236, q202_237, q202_238, q202_241, q202_242, q202_243, q202_329, m_0 hS, m_K hS, mR_signs hS, mK_signs hS, mL_signs hS, as_nil, as_i, as_r, Nat.reduceAdd, Nat.reduceLeDiff, z_eq0, z_eq1, z_or, z_em, Classical.not_not, not_false_eq_true, not_true_eq_false, true_and, and_true, false_and, and_false, and_self, true_implies, false_implies, implies_true, Option.toList_some, Option.toList_none, List.cons_append, List.nil_append, Nat.add_eq_zero_iff, a_nl_i, a_nl_r, a_nl_n, true_or, or_true, eq_self, ok_4, ok_5, ok_6, ok_7, ok_9, ok_10, ok_20, ok_21, ok_24, ok_30, ok_48, ok_50, ok_60, ok_80, ok_120, ok_180, ok_192, ok_200, ok_900, ok_1000, ok_84000, ui_ap, ne_MM, ne_M0, ne_0M, Nat.reduceEqDiff, reduceIte, if_true, if_false, es, er]
    first
      | exact hh
      | exact ⟨trivial, hh⟩
      | (simp only [true_and]; exact hh)
  · rw [ui_ap, if_neg (by omega), ui_ap, if_neg (by omega), ui_ap, if_neg (by omega)]
    exact ps_V h i hi
  · rw [ui_ap, if_neg (by omega), ui_ap, if_neg (by omega), ui_ap]
    by_cases c : i = s
    · subst c; rw [if_pos ⟨rfl, rfl⟩, up1_eq]
    · rw [if_neg (fun q => c q.2), up1_ne c]
      exact ps_Z h i (by omega)
/-- one more part behind a sign: the flat state again -/
theorem fl_next {o0 o1 o2 : Option ((Nat → Int32) → Int32)} {cur : Int32} {z : Nat} (hpt : PT d n t M K L I0 R P f fc e z) (hS : m_S M K L R) {g : Int32} (hg : g = 38 ∨ g = 124 ∨ g = 47) {x : (Nat → Int32) → Int32} (hx : cur = x fc) (hcase : (g = 38 ∧ o2 = none) ∨ (g = 124 ∧ o2 = none ∧ o1 = none) ∨ (g = 47 ∧ o2 = none ∧ o1 = none ∧ o0 = none)) (h : fl M I0 J f fc e a dp m s V Z o0 o1 o2 cur) (ha : a < e) (hdp : dp.toInt + z = 4) (hm : m + oc o0 + oc o1 + oc o2 + 1 ≤ a.toNatClampNeg) (hs : s + oc o0 + oc o1 + oc o2 ≤ a.toNatClampNeg)
 (hfail : ∀ J', (xP f e z (a + 1)).1 = false → xz M I0 J' f fc e (xP f e z (a + 1)).2.1 1 → P (some (.int 0)) (n, t, K, L, J', R))
 (hsucc : ∀ J', (xP f e z (a + 1)).1 = true → fl M I0 J' f fc e (xP f e z (a + 1)).2.1 dp m s V Z (if g = 47 then some x else o0) (if g = 124 then some x else o1) (if g = 38 then some x else o2) ((xP f e z (a + 1)).2.2 fc) → ∀ c : Option Value, a_at (d + 4) (a_xm a_m202) 17 [some (a_rf M), some (.int 0), c] [] (n, t, K, L, J', R) P) : a_at (d + 4) (a_xm a_m202) 211 [some (a_rf M), some (.int 0), some (.int g)] [] (n, t, K, L, J, R) P := by
  obtain ⟨V1, Z1, h1, h2, h3, h4, h5, h6, h7⟩ := h
  have ha0 := (ps_a h1).1
  have he := (ps_vw h1).2.1
  have la : a.toNatClampNeg < 50 := by
    have := cl_lt (j := 50) ha0 (by clear hpt hfail hsucc h1; grind)
    exact this
  have ea : (a + 1).toNatClampNeg = a.toNatClampNeg + 1 := cl_up ha0 (by clear hpt hfail hsucc h1; grind)
  refine ru_211 hS h1 ha (by omega) (fun J1 p1 => ?_)
  refine hpt J1 (a + 1) dp _ _ V1 _ _ p1 (by omega) (by omega) hdp hfail (fun J2 V2 k1 p2 k2 k3 => ?_)
  refine pe_no hS p2 (Or.inr (by rw [show s + oc o0 + oc o1 + oc o2 + 1 - 1 = s + oc o0 + oc o1 + oc o2 by omega, up1_eq]; rcases hg with rfl | rfl | rfl <;> decide)) ⟨rfl, hsucc J2 k1 ?_⟩
  have gm : oc (if g = 47 then some x else o0) + oc (if g = 124 then some x else o1) + oc (if g = 38 then some x else o2) = oc o0 + oc o1 + oc o2 + 1 := by
    rcases hcase with ⟨rfl, rfl⟩ | ⟨rfl, rfl, rfl⟩ | ⟨rfl, rfl, rfl, rfl⟩ <;> rfl
  refine ⟨V2, up1 Z1 (s + oc o0 + oc o1 + oc o2) g, ?_, fun i hi => ?_, fun i hi => ?_, fun y ey => ?_, fun y ey => ?_, fun y ey => ?_, ?_⟩
  · have e1 : m + oc (if g = 47 then some x else o0) + oc (if g = 124 then some x else o1) + oc (if g = 38 then some x else o2) + 1 = m + oc o0 + oc o1 + oc o2 + 1 + 1 := by omega
    have e2 : s + oc (if g = 47 then some x else o0) + oc (if g = 124 then some x else o1) + oc (if g = 38 then some x else o2) = s + oc o0 + oc o1 + oc o2 + 1 := by omega
    rw [e1, e2]
    exact p2
  · rw [k2 i (by omega)]; exact h2 i hi
  · rw [up1_ne (by omega)]; exact h3 i hi
  · rcases hcase with ⟨rfl, rfl⟩ | ⟨rfl, rfl, rfl⟩ | ⟨rfl, rfl, rfl, rfl⟩
    · have ey : o0 = some y := ey
      have o1' : oc o0 = 1 := by rw [ey]; rfl
      rw [k2 m (by omega), up1_ne (by omega)]
      exact h4 y ey
    · have ey : o0 = some y := ey
      have o1' : oc o0 = 1 := by rw [ey]; rfl
      rw [k2 m (by omega), up1_ne (by omega)]
      exact h4 y ey
    · cases ey
      have h7 : V1 m = cur := h7
      rw [k2 m (by omega), h7, hx]
      exact ⟨rfl, up1_eq⟩
  · rcases hcase with ⟨rfl, rfl⟩ | ⟨rfl, rfl, rfl⟩ | ⟨rfl, rfl, rfl, rfl⟩
    · have ey : o1 = some y := ey
      have o1' : oc o1 = 1 := by rw [ey]; rfl
      show V2 (m + oc o0) = _ ∧ up1 _ _ _ (s + oc o0) = _
      rw [k2 _ (by omega), up1_ne (by omega)]
      exact h5 y ey
    · cases ey
      have h7 : V1 (m + oc o0) = cur := h7
      show V2 (m + oc o0) = _ ∧ up1 _ (s + oc o0) _ (s + oc o0) = _
      rw [k2 _ (by show m + oc o0 < m + oc o0 + 0 + 0 + 1; omega), h7, hx]
      exact ⟨rfl, up1_eq⟩
    · cases ey
  · rcases hcase with ⟨rfl, rfl⟩ | ⟨rfl, rfl, rfl⟩ | ⟨rfl, rfl, rfl, rfl⟩
    · cases ey
      have h7 : V1 (m + oc o0 + oc o1) = cur := h7
      show V2 (m + oc o0 + oc o1) = _ ∧ up1 _ (s + oc o0 + oc o1) _ (s + oc o0 + oc o1) = _
      rw [k2 _ (by show m + oc o0 + oc o1 < m + oc o0 + oc o1 + 0 + 1; omega), h7, hx]
      exact ⟨rfl, up1_eq⟩
    · cases ey
    · cases ey
  · rw [show m + oc (if g = 47 then some x else o0) + oc (if g = 124 then some x else o1) + oc (if g = 38 then some x else o2) = m + oc o0 + oc o1 + oc o2 + 1 by omega]
    exact k3
/-- from behind a part on -/
theorem ru_flat {z : Nat} (hpt : PT d n t M K L I0 R P f fc e z) (hS : m_S M K L R) (hb : s = 0 ∨ Z (s - 1) = 40) (hdp : dp.toInt + z = 4) {W : rdT} (hRZ : RZ d n t M K L I0 R P f fc e dp m s V Z W) : ∀ (k : Nat) (J : Nat → Nat → Int32) (r : rdT) (o0 o1 o2 : Option ((Nat → Int32) → Int32)) (c : Option Value), r.1 = true → fl M I0 J f fc e r.2.1 dp m s V Z o0 o1 o2 (r.2.2 fc) → e.toInt ≤ r.2.1.toInt + k → m + oc o0 + oc o1 + oc o2 + 1 ≤ r.2.1.toNatClampNeg → s + oc o0 + oc o1 + oc o2 ≤ r.2.1.toNatClampNeg → wJ f e (xP f e z) o0 o1 o2 r = W → a_at (d + 4) (a_xm a_m202) 17 [some (a_rf M), some (.int 0), c] [] (n, t, K, L, J, R) P := by
  intro k
  induction k with
  | zero =>
    intro J r o0 o1 o2 c hr h hk hm hs hW
    have hlt : ¬ r.2.1 < e := fun q => by
      have := Int32.lt_iff_toInt_lt.mp q
      omega
    have hw := wJ_end (f := f) (e := e) (q := xP f e z) (o0 := o0) (o1 := o1) (o2 := o2) (r := r) (fun q => hlt q.2.1)
    rw [hW] at hw
    have w1 : W.1 = true := by rw [hw, cmb_1, cmb_1, cmb_1]; exact hr
    have w2 : W.2.1 = r.2.1 := by rw [hw, cmb_2, cmb_2, cmb_2]
    refine hRZ.2 J o0 o1 o2 (r.2.2 fc) w1 (by rw [w2]; exact h) ?_ (fun q => hlt (by rw [← w2]; exact q.1)) c
    rw [hw, cbv_1, cbv_2, cbv_3]
  | succ k ih =>
    intro J r o0 o1 o2 c hr h hk hm hs hW
    by_cases hch : r.2.1 < e ∧ (f r.2.1.toNatClampNeg = 38 ∨ f r.2.1.toNatClampNeg = 124 ∨ f r.2.1.toNatClampNeg = 47)
    · obtain ⟨V1, Z1, h1⟩ := fl_ps h
      have ha := ps_a h1
      have he := (ps_vw h1).2.1
      have hbd := ps_bad h1
      have hat := ps_at h1
      have hE := vw_E (ps_vw h1) (by rw [hat]; exact ha)
      have hT := rT_refl (ps_mC h1).1 hE
      have hvJ := hv_x (ps_vw h1) (by rw [hat]; exact ha.1)
      rw [hat, if_pos hch.1] at hvJ
      have een : J M 48 = e := (ps_vw h1).1
      have hlt2 : J M 49 < J M 48 := by rw [hat, een]; exact hch.1
      have hq := fun a (h : a ≤ e) => xP_b (f := f) (e := e) z a h
      have m1 : r.2.1 + 1 ≤ e := by have := hch.1; clear ih h h1 hRZ hpt hvJ hT hE hW; grind
      have m0 : 0 ≤ r.2.1 + 1 := by have := hch.1; clear ih h h1 hRZ hpt hvJ hT hE hW; grind
      have hub := xP_b (f := f) (e := e) z (r.2.1 + 1) m1
      -- what follows the next part
      have hnx : ∀ (p0 p1 p2 : Option ((Nat → Int32) → Int32)), wJ f e (xP f e z) p0 p1 p2 (xP f e z (r.2.1 + 1)) = W → oc p0 + oc p1 + oc p2 ≤ oc o0 + oc o1 + oc o2 + 1 → (∀ J', (xP f e z (r.2.1 + 1)).1 = false → xz M I0 J' f fc e (xP f e z (r.2.1 + 1)).2.1 1 → P (some (.int 0)) (n, t, K, L, J', R)) ∧ (∀ J', (xP f e z (r.2.1 + 1)).1 = true → fl M I0 J' f fc e (xP f e z (r.2.1 + 1)).2.1 dp m s V Z p0 p1 p2 ((xP f e z (r.2.1 + 1)).2.2 fc) → ∀ c : Option Value, a_at (d + 4) (a_xm a_m202) 17 [some (a_rf M), some (.int 0), c] [] (n, t, K, L, J', R) P) := fun p0 p1 p2 hw hoc => by
        have u0 := Int32.lt_iff_toInt_lt.mp hch.1
        have u1 := Int32.le_iff_toInt_le.mp ha.1
        have u2 := Int32.le_iff_toInt_le.mp he.2
        have u3 := Int32.le_iff_toInt_le.mp hub.1
        have z0 : (0 : Int32).toInt = 0 := rfl
        have z1 : (1 : Int32).toInt = 1 := rfl
        have z50 : (50 : Int32).toInt = 50 := rfl
        have et : (r.2.1 + 1).toInt = r.2.1.toInt + 1 := by rw [ti_add (by omega)]; omega
        have en : r.2.1.toNatClampNeg = r.2.1.toInt.toNat := rfl
        have en2 : (xP f e z (r.2.1 + 1)).2.1.toNatClampNeg = (xP f e z (r.2.1 + 1)).2.1.toInt.toNat := rfl
        refine ⟨fun J' k1 k2 => ?_, fun J' k1 k2 c => ?_⟩
        · have hw2 := wJ_end (f := f) (e := e) (q := xP f e z) (o0 := p0) (o1 := p1) (o2 := p2) (r := xP f e z (r.2.1 + 1)) (fun q => by rw [k1] at q; exact absurd q.1 (by decide))
          rw [hw] at hw2
          exact hRZ.1 J' (by rw [hw2, cmb_1, cmb_1, cmb_1]; exact k1) (by rw [hw2, cmb_2, cmb_2, cmb_2]; exact k2)
        · have hgt := Int32.lt_iff_toInt_lt.mp (hub.2.2 k1)
          exact ih J' (xP f e z (r.2.1 + 1)) p0 p1 p2 c k1 k2 (by omega) (by omega) (by omega) hw
      -- to the sign
      have h181 : ∀ g : Int32, g = f r.2.1.toNatClampNeg → a_at (d + 4) (a_xm a_m202) 181 [some (a_rf M), some (.int 0), some (.int g)] [] (n, t, K, L, J, R) P := fun g hg => by
        simp only [q202_181, q202_182, q202_184, m_0 hS, m_K hS, as_nil, as_i, as_r, Nat.reduceAdd, Nat.reduceLeDiff, z_eq0, z_eq1, z_or, z_em, Classical.not_not, not_false_eq_true, not_true_eq_false, true_and, and_true, false_and, and_false, and_self, true_implies, false_implies, implies_true, Option.toList_some, Option.toList_none, List.cons_append, List.nil_append, Nat.add_eq_zero_iff, a_nl_i, a_nl_r, a_nl_n, true_or, or_true, eq_self, ok_4, ok_5, ok_6, ok_7, ok_9, ok_10, ok_20, ok_21, ok_24, ok_30, ok_48, ok_50, ok_60, ok_80, ok_120, ok_180, ok_192, ok_200, ok_900, ok_1000, ok_84000]
        refine f38 hS hb h (fun J1 h1 => ?_)
        rw [cbv_1] at h1
        have n1 : ¬ (124 : Int32) = 38 := by decide
        have n2 : ¬ (47 : Int32) = 38 := by decide
        have n3 : ¬ (124 : Int32) = 47 := by decide
        have n4 : ¬ (38 : Int32) = 47 := by decide
        have n5 : ¬ (47 : Int32) = 124 := by decide
        have n6 : ¬ (38 : Int32) = 124 := by decide
        rcases hch.2 with q | q | q
        · rw [q] at hg
          subst hg
          have hw := (wJ_38 (f := f) (e := e) (q := xP f e z) (o0 := o0) (o1 := o1) (o2 := o2) hq he.2 ha.1 hr hch.1 q).symm.trans hW
          have hn := hnx o0 o1 (some (cmb 1 o2 r).2.2) hw (by show _ + _ + 1 ≤ _; omega)
          have hgo := fl_next (x := (cmb 1 o2 r).2.2) hpt hS (Or.inl rfl) rfl (Or.inl ⟨rfl, rfl⟩) h1 hch.1 hdp (by show m + oc o0 + oc o1 + 0 + 1 ≤ _; omega) (by show s + oc o0 + oc o1 + 0 ≤ _; omega) hn.1 (fun J' k1 k2 => hn.2 J' k1 (by rw [if_neg n4, if_neg n6, if_pos rfl] at k2; exact k2))
          simp only [q202_187, q202_188, q202_190, q202_199, q202_200, q202_202, as_nil, as_i, as_r, Nat.reduceAdd, Nat.reduceLeDiff, z_eq0, z_eq1, z_or, z_em, Classical.not_not, not_false_eq_true, not_true_eq_false, true_and, and_true, false_and, and_false, and_self, true_implies, false_implies, implies_true, Option.toList_some, Option.toList_none, List.cons_append, List.nil_append, Nat.add_eq_zero_iff, a_nl_i, a_nl_r, a_nl_n, true_or, or_true, eq_self, ok_4, ok_5, ok_6, ok_7, ok_9, ok_10, ok_20, ok_21, ok_24, ok_30, ok_48, ok_50, ok_60, ok_80, ok_120, ok_180, ok_192, ok_200, ok_900, ok_1000, ok_84000, n4]
          first
            | exact hgo
            | exact ⟨fun z => absurd rfl z, fun _ => hgo⟩
            | grind
        · rw [q] at hg
          subst hg
          have hw := (wJ_124 (f := f) (e := e) (q := xP f e z) (o0 := o0) (o1 := o1) (o2 := o2) hq he.2 ha.1 hr hch.1 q).symm.trans hW
          have hn := hnx o0 (some (cmb 2 o1 (cmb 1 o2 r)).2.2) none hw (by show _ + 1 + 0 ≤ _; omega)
          simp only [q202_187, q202_188, q202_190, q202_193, q202_194, q202_196, m_0 hS, m_K hS, as_nil, as_i, as_r, Nat.reduceAdd, Nat.reduceLeDiff, z_eq0, z_eq1, z_or, z_em, Classical.not_not, not_false_eq_true, not_true_eq_false, true_and, and_true, false_and, and_false, and_self, true_implies, false_implies, implies_true, Option.toList_some, Option.toList_none, List.cons_append, List.nil_append, Nat.add_eq_zero_iff, a_nl_i, a_nl_r, a_nl_n, true_or, or_true, eq_self, ok_4, ok_5, ok_6, ok_7, ok_9, ok_10, ok_20, ok_21, ok_24, ok_30, ok_48, ok_50, ok_60, ok_80, ok_120, ok_180, ok_192, ok_200, ok_900, ok_1000, ok_84000, n1]
          refine f124 hS hb h1 (fun J2 h2 => ?_)
          rw [cbv_2] at h2
          have hgo := fl_next (x := (cmb 2 o1 (cmb 1 o2 r)).2.2) hpt hS (Or.inr (Or.inl rfl)) rfl (Or.inr (Or.inl ⟨rfl, rfl, rfl⟩)) h2 hch.1 hdp (by show m + oc o0 + 0 + 0 + 1 ≤ _; omega) (by show s + oc o0 + 0 + 0 ≤ _; omega) hn.1 (fun J' k1 k2 => hn.2 J' k1 (by rw [if_neg n3, if_pos rfl, if_neg n1] at k2; exact k2))
          simp only [q202_199, q202_200, q202_202, as_nil, as_i, as_r, Nat.reduceAdd, Nat.reduceLeDiff, z_eq0, z_eq1, z_or, z_em, Classical.not_not, not_false_eq_true, not_true_eq_false, true_and, and_true, false_and, and_false, and_self, true_implies, false_implies, implies_true, Option.toList_some, Option.toList_none, List.cons_append, List.nil_append, Nat.add_eq_zero_iff, a_nl_i, a_nl_r, a_nl_n, true_or, or_true, eq_self, ok_4, ok_5, ok_6, ok_7, ok_9, ok_10, ok_20, ok_21, ok_24, ok_30, ok_48, ok_50, ok_60, ok_80, ok_120, ok_180, ok_192, ok_200, ok_900, ok_1000, ok_84000, n3]
          first
            | exact hgo
            | exact ⟨fun z => absurd rfl z, fun _ => hgo⟩
            | grind
        · rw [q] at hg
          subst hg
          have hw := (wJ_47 (f := f) (e := e) (q := xP f e z) (o0 := o0) (o1 := o1) (o2 := o2) hq he.2 ha.1 hr hch.1 q).symm.trans hW
          have hn := hnx (some (cmb 3 o0 (cmb 2 o1 (cmb 1 o2 r))).2.2) none none hw (by show 1 + 0 + 0 ≤ _; omega)
          simp only [q202_187, q202_188, q202_190, q202_193, q202_194, q202_196, m_0 hS, m_K hS, as_nil, as_i, as_r, Nat.reduceAdd, Nat.reduceLeDiff, z_eq0, z_eq1, z_or, z_em, Classical.not_not, not_false_eq_true, not_true_eq_false, true_and, and_true, false_and, and_false, and_self, true_implies, false_implies, implies_true, Option.toList_some, Option.toList_none, List.cons_append, List.nil_append, Nat.add_eq_zero_iff, a_nl_i, a_nl_r, a_nl_n, true_or, or_true, eq_self, ok_4, ok_5, ok_6, ok_7, ok_9, ok_10, ok_20, ok_21, ok_24, ok_30, ok_48, ok_50, ok_60, ok_80, ok_120, ok_180, ok_192, ok_200, ok_900, ok_1000, ok_84000, n2]
          refine f124 hS hb h1 (fun J2 h2 => ?_)
          rw [cbv_2] at h2
          simp only [q202_199, q202_200, q202_202, q202_205, q202_206, q202_208, m_0 hS, m_K hS, as_nil, as_i, as_r, Nat.reduceAdd, Nat.reduceLeDiff, z_eq0, z_eq1, z_or, z_em, Classical.not_not, not_false_eq_true, not_true_eq_false, true_and, and_true, false_and, and_false, and_self, true_implies, false_implies, implies_true, Option.toList_some, Option.toList_none, List.cons_append, List.nil_append, Nat.add_eq_zero_iff, a_nl_i, a_nl_r, a_nl_n, true_or, or_true, eq_self, ok_4, ok_5, ok_6, ok_7, ok_9, ok_10, ok_20, ok_21, ok_24, ok_30, ok_48, ok_50, ok_60, ok_80, ok_120, ok_180, ok_192, ok_200, ok_900, ok_1000, ok_84000]
          refine f47 hS hb h2 (fun J3 h3 => ?_)
          rw [cbv_3] at h3
          have hgo := fl_next (x := (cmb 3 o0 (cmb 2 o1 (cmb 1 o2 r))).2.2) hpt hS (Or.inr (Or.inr rfl)) rfl (Or.inr (Or.inr ⟨rfl, rfl, rfl, rfl⟩)) h3 hch.1 hdp (by show m + 0 + 0 + 0 + 1 ≤ _; omega) (by show s + 0 + 0 + 0 ≤ _; omega) hn.1 (fun J' k1 k2 => hn.2 J' k1 (by rw [if_pos rfl, if_neg n5, if_neg n2] at k2; exact k2))
          exact hgo
      rw [q202_17]
      have hle2 := Int32.not_le.mpr hlt2
      simp only [q202_18, q202_21, q202_24, q202_25, q202_28, q202_29, q202_32, q202_33, q202_36, q202_39, q202_40, m_0 hS, m_K hS, as_nil, as_i, as_r, Nat.reduceAdd, Nat.reduceLeDiff, z_eq0, z_eq1, z_or, z_em, Classical.not_not, not_false_eq_true, not_true_eq_false, true_and, and_true, false_and, and_false, and_self, true_implies, false_implies, implies_true, Option.toList_some, Option.toList_none, List.cons_append, List.nil_append, Nat.add_eq_zero_iff, a_nl_i, a_nl_r, a_nl_n, true_or, or_true, eq_self, ok_4, ok_5, ok_6, ok_7, ok_9, ok_10, ok_20, ok_21, ok_24, ok_30, ok_48, ok_50, ok_60, ok_80, ok_120, ok_180, ok_192, ok_200, ok_900, ok_1000, ok_84000, hbd, hlt2, hle2]
      try simp only [true_and, and_true, true_implies, false_implies, implies_true, not_true_eq_false, not_false_eq_true]
      refine ct_here hS hE hT ?_
      rw [hvJ]
      have h181 := h181 _ rfl
      generalize f r.2.1.toNatClampNeg = g at hch h181 ⊢
      clear ih h h1 hRZ hpt hvJ hT hE hW hnx hq hub
      simp only [q202_43, q202_44, q202_45, q202_127, q202_128, q202_163, q202_164, q202_166, q202_169, q202_170, q202_172, q202_175, q202_176, q202_178, as_nil, as_i, as_r, Nat.reduceAdd, Nat.reduceLeDiff, z_eq0, z_eq1, z_or, z_em, Classical.not_not, not_false_eq_true, not_true_eq_false, true_and, and_true, false_and, and_false, and_self, true_implies, false_implies, implies_true, Option.toList_some, Option.toList_none, List.cons_append, List.nil_append, Nat.add_eq_zero_iff, a_nl_i, a_nl_r, a_nl_n, true_or, or_true, eq_self, ok_4, ok_5, ok_6, ok_7, ok_9, ok_10, ok_20, ok_21, ok_24, ok_30, ok_48, ok_50, ok_60, ok_80, ok_120, ok_180, ok_192, ok_200, ok_900, ok_1000, ok_84000]
      grind
    · have hw := wJ_end (f := f) (e := e) (q := xP f e z) (o0 := o0) (o1 := o1) (o2 := o2) (r := r) (fun q => hch q.2)
      rw [hW] at hw
      have w1 : W.1 = true := by rw [hw, cmb_1, cmb_1, cmb_1]; exact hr
      have w2 : W.2.1 = r.2.1 := by rw [hw, cmb_2, cmb_2, cmb_2]
      refine hRZ.2 J o0 o1 o2 (r.2.2 fc) w1 (by rw [w2]; exact h) ?_ (fun q => hch (by rw [← w2]; exact q)) c
      rw [hw, cbv_1, cbv_2, cbv_3]
theorem ru_rule {z : Nat} (hpt : PT d n t M K L I0 R P f fc e z) (hS : m_S M K L R) (hb : s = 0 ∨ Z (s - 1) = 40) (hdp : dp.toInt + z = 4) (h : ps M I0 J f fc e a 0 dp m s V Z) (hm : m ≤ a.toNatClampNeg) (hs : s ≤ a.toNatClampNeg) {W : rdT} (hW : xjo f e (xP f e z) 3 a = W) (hRZ : RZ d n t M K L I0 R P f fc e dp m s V Z W) {c : Option Value} : a_at (d + 4) (a_xm a_m202) 17 [some (a_rf M), some (.int 1), c] [] (n, t, K, L, J, R) P := by
  have ha := ps_a h
  have he := (ps_vw h).2.1
  have hub := xP_b (f := f) (e := e) z a ha.2
  rw [wJ_0] at hW
  refine hpt J a dp m s V Z c h hm hs hdp (fun J' k1 k2 => ?_) (fun J' V' k1 k2 k3 k4 => ?_)
  · have hw2 := wJ_end (f := f) (e := e) (q := xP f e z) (o0 := none) (o1 := none) (o2 := none) (r := xP f e z a) (fun q => by rw [k1] at q; exact absurd q.1 (by decide))
    rw [hW] at hw2
    exact hRZ.1 J' (by rw [hw2]; exact k1) (by rw [hw2]; exact k2)
  · refine pe_no hS k2 (hb.imp id (fun q => by rw [q]; decide)) ⟨rfl, fun c => ?_⟩
    have u1 := Int32.le_iff_toInt_le.mp ha.1
    have u2 := Int32.le_iff_toInt_le.mp he.2
    have hgt := Int32.lt_iff_toInt_lt.mp (hub.2.2 k1)
    have z0 : (0 : Int32).toInt = 0 := rfl
    have z50 : (50 : Int32).toInt = 50 := rfl
    have en : a.toNatClampNeg = a.toInt.toNat := rfl
    have en2 : (xP f e z a).2.1.toNatClampNeg = (xP f e z a).2.1.toInt.toNat := rfl
    exact ru_flat hpt hS hb hdp hRZ 50 J' (xP f e z a) none none none c k1 ⟨V', Z, k2, k3, fun _ _ => rfl, (fun x q => by cases q), (fun x q => by cases q), (fun x q => by cases q), k4⟩ (by omega) (by show m + 0 + 0 + 0 + 1 ≤ _; omega) (by show s + 0 + 0 + 0 ≤ _; omega) hW
theorem pe_all (hS : m_S M K L R) {Q : Option Value → AH → Prop} {b : Int32} : ∀ (s : Nat) (J : Nat → Nat → Int32) (dp : Int32) (V : Nat → Int32), ps M I0 J f fc e a b dp (m + 1) s V Z → (∀ J' dp' s' V', ps M I0 J' f fc e a b dp' (m + 1) s' V' Z → Q none (n, t, K, L, J', R)) → a_does (d + 2) 204 [a_rf M] (n, t, K, L, J, R) Q := by
  intro s
  induction s with
  | zero =>
    intro J dp V h hQ
    exact pe_no hS h (Or.inl rfl) (hQ J dp 0 V h)
  | succ s ih =>
    intro J dp V h hQ
    by_cases c : Z s = 33
    · exact pe_pop hS h c (fun J' h' => ih J' (dp - 1) _ h' hQ)
    · exact pe_no hS h (Or.inr c) (hQ J dp (s + 1) V h)
theorem xC_01 {fc : Nat → Int32} {a : Int32} : (xC f e a).2.2 fc = 0 ∨ (xC f e a).2.2 fc = 1 := by
  have hc : ∀ c x y : Int32, xcmp c x y = 0 ∨ xcmp c x y = 1 := fun c x y => by
    unfold xcmp
    split
    · split
      · exact Or.inr rfl
      · exact Or.inl rfl
    · split
      · split
        · exact Or.inr rfl
        · exact Or.inl rfl
      · split
        · exact Or.inr rfl
        · exact Or.inl rfl
  unfold xC
  split
  · split
    · exact hc _ _ _
    · exact Or.inl rfl
  · exact Or.inl rfl
/-- a part that is a comparison -/
theorem pt_test (hS : m_S M K L R) {z : Nat} (hpart : xP f e z a = xC f e a) {c : Option Value} (h : ps M I0 J f fc e a 0 dp m s V Z) (hm : m ≤ a.toNatClampNeg) (hfail : ∀ J', (xP f e z a).1 = false → xz M I0 J' f fc e (xP f e z a).2.1 1 → P (some (.int 0)) (n, t, K, L, J', R)) (hsucc : ∀ J' V', (xP f e z a).1 = true → ps M I0 J' f fc e (xP f e z a).2.1 0 dp (m + 1) s V' Z → (∀ i, i < m → V' i = V i) → V' m = (xP f e z a).2.2 fc → a_does (d + 4) 204 [a_rf M] (n, t, K, L, J', R) (Qc M d P)) : a_at (d + 4) (a_xm a_m202) 131 [some (a_rf M), some (.int 1), c] [] (n, t, K, L, J, R) P := by
  have ha := ps_a h
  have he := (ps_vw h).2.1
  have hbd := ps_bad h
  have hat := ps_at h
  have h5 := ps_50 h
  have hR := (ps_mC h).1
  have efc : J (M + 32) = fc := funext (ps_fc h)
  have hub := xC_b (f := f) (e := e) ha.2
  rw [hpart] at hfail hsucc
  have ev : (J M 54).toNatClampNeg = m := by rw [ps_vm h, on_t (by omega)]
  have er : 0 ≤ J M 54 ∧ J M 54 < 60 := by rw [ps_vm h]; exact on_r (by omega)
  simp only [q202_131, q202_132, q202_135, q202_136, q202_139, q202_140, m_0 hS, m_K hS, mR_values hS, mK_values hS, mL_values hS, as_nil, as_i, as_r, Nat.reduceAdd, Nat.reduceLeDiff, z_eq0, z_eq1, z_or, z_em, Classical.not_not, not_false_eq_true, not_true_eq_false, true_and, and_true, false_and, and_false, and_self, true_implies, false_implies, implies_true, Option.toList_some, Option.toList_none, List.cons_append, List.nil_append, Nat.add_eq_zero_iff, a_nl_i, a_nl_r, a_nl_n, true_or, or_true, eq_self, ok_4, ok_5, ok_6, ok_7, ok_9, ok_10, ok_20, ok_21, ok_24, ok_30, ok_48, ok_50, ok_60, ok_80, ok_120, ok_180, ok_192, ok_200, ok_900, ok_1000, ok_84000]
  refine xe_readTest hS hR (ps_vw h) (by rw [hat]; exact ha) hbd (fun J1 j1 j2 j3 => ?_)
  rw [hat] at j2 j3 ⊢
  rw [efc]
  have h01 := xC_01 (f := f) (e := e) (fc := fc) (a := a)
  have hand : ∀ x : Int32, (x = 0 ∨ x = 1) → x &&& 1 = x := fun x q => by rcases q with q | q <;> rw [q] <;> rfl
  have e1 := rT_cell j1 (j := 54) (by omega)
  have e2 := rT_cell j1 (j := 56) (by omega)
  have e3 := rT_cell j1 (j := 51) (by omega)
  have e4 := rT_fun j1 (A := (M + 33)) (by omega)
  have e5 := rT_fun j1 (A := (M + 34)) (by omega)
  have e6 := rT_fun j1 (A := (M + 32)) (by omega)
  have ev1 : (J1 M 54).toNatClampNeg = m := by rw [e1, ev]
  have er1 : 0 ≤ J1 M 54 ∧ J1 M 54 < 60 := by rw [e1]; exact er
  have u1 := Int32.le_iff_toInt_le.mp hub.1
  have u2 := Int32.le_iff_toInt_le.mp hub.2.1
  have u3 := Int32.le_iff_toInt_le.mp ha.1
  have u4 := Int32.le_iff_toInt_le.mp ha.2
  have u5 := Int32.le_iff_toInt_le.mp he.2
  have z0 : (0 : Int32).toInt = 0 := rfl
  have z50 : (50 : Int32).toInt = 50 := rfl
  have en : a.toNatClampNeg = a.toInt.toNat := rfl
  -- behind the store
  have hst : ∀ b : Int32, J1 M 50 = b → m + 1 ≤ 51 → ps M I0 (a_ui (a_ui J1 (M + 33) m ((xC f e a).2.2 fc)) M 54 (J1 M 54 + 1)) f fc e (xC f e a).2.1 b dp (m + 1) s (up1 V m ((xC f e a).2.2 fc)) Z := fun b hb m50 => ⟨sC_valueMany (sC_values (mC_T (ps_mC h) j1)), vw_fr (vw_T (ps_vw h) j1) (fun x j p q r => by rw [ui_ap, if_neg (by omega), ui_ap, if_neg (by omega)]), fun j => by rw [ui_ap, if_neg (by omega), ui_ap, if_neg (by omega), e6]; exact ps_fc h j, by rw [ui_ap, if_neg (by omega), ui_ap, if_neg (by omega)]; exact j2, ⟨Int32.le_trans ha.1 hub.1, hub.2.1⟩, by rw [ui_ap, if_neg (by omega), ui_ap, if_neg (by omega)]; exact hb, by rw [ui_ap, if_neg (by omega), ui_ap, if_neg (by omega), e3]; exact ps_dp h, by rw [ui_ap, if_pos ⟨rfl, rfl⟩, e1, ps_vm h, on_a], by rw [ui_ap, if_neg (by omega), ui_ap, if_neg (by omega), e2]; exact ps_sm h, ⟨m50, h5.2⟩, fun i hi => by
      rw [ui_ap, if_neg (by omega), ui_ap]
      by_cases c : i = m
      · subst c; rw [if_pos ⟨rfl, rfl⟩, up1_eq]; exact ⟨rfl, h01⟩
      · rw [if_neg (fun q => c q.2), up1_ne c, e4]; exact ps_V h i (by omega), fun i hi => by
      rw [ui_ap, if_neg (by omega), ui_ap, if_neg (by omega), e5]; exact ps_Z h i hi⟩
  have hgo : a_does (d + 4) 204 [a_rf M] (n, t, K, L, (a_ui (a_ui J1 (M + 33) m ((xC f e a).2.2 fc)) M 54 (J1 M 54 + 1)), R) (Qc M d P) := by
    by_cases ok : (xC f e a).1 = true
    · rw [if_pos ok] at j3
      have hlt := Int32.lt_iff_toInt_lt.mp (hub.2.2 ok)
      exact hsucc _ _ ok (hst 0 j3 (by omega)) (fun i hi => up1_ne (by omega)) up1_eq
    · have ok2 : (xC f e a).1 = false := by cases q : (xC f e a).1; rfl; exact absurd q ok
      rw [if_neg ok] at j3
      refine pe_all hS s _ dp _ (hst 1 j3 (by omega)) (fun J' dp' s' V' h' => ⟨rfl, fun c => ?_⟩)
      exact ru_bad hS (by rw [ps_bad h']; decide) (hfail J' ok2 ⟨ps_mC h', ps_vw h', ps_fc h', ps_at h', ps_bad h'⟩)
  simp only [q202_143, q202_144, q202_145, q202_146, q202_149, q202_150, q202_151, q202_154, q202_155, q202_156, q202_157, m_0 hS, m_K hS, as_nil, as_i, as_r, Nat.reduceAdd, Nat.reduceLeDiff, z_eq0, z_eq1, z_or, z_em, Classical.not_not, not_false_eq_true, not_true_eq_false, true_and, and_true, false_and, and_false, and_self, true_implies, false_implies, implies_true, Option.toList_some, Option.toList_none, List.cons_append, List.nil_append, Nat.add_eq_zero_iff, a_nl_i, a_nl_r, a_nl_n, true_or, or_true, eq_self, ok_4, ok_5, ok_6, ok_7, ok_9, ok_10, ok_20, ok_21, ok_24, ok_30, ok_48, ok_50, ok_60, ok_80, ok_120, ok_180, ok_192, ok_200, ok_900, ok_1000, ok_84000, ui_ap, ne_MM, ne_M0, ne_0M, Nat.reduceEqDiff, reduceIte, if_true, if_false, mK_values hS, mL_values hS, ev, er, hand _ h01]
  refine does_mono hgo (fun r h' q => ?_)
  rw [q.1]
  simp only [q202_160, q202_329, as_nil, as_i, as_r, Nat.reduceAdd, Nat.reduceLeDiff, z_eq0, z_eq1, z_or, z_em, Classical.not_not, not_false_eq_true, not_true_eq_false, true_and, and_true, false_and, and_false, and_self, true_implies, false_implies, implies_true, Option.toList_some, Option.toList_none, List.cons_append, List.nil_append, Nat.add_eq_zero_iff, a_nl_i, a_nl_r, a_nl_n, true_or, or_true, eq_self, ok_4, ok_5, ok_6, ok_7, ok_9, ok_10, ok_20, ok_21, ok_24, ok_30, ok_48, ok_50, ok_60, ok_80, ok_120, ok_180, ok_192, ok_200, ok_900, ok_1000, ok_84000]
  exact q.2 _
theorem ru_246 (hS : m_S M K L R) (hb : s = 0 ∨ Z (s - 1) = 40) {o0 o1 o2 : Option ((Nat → Int32) → Int32)} {cur c : Int32} (h : fl M I0 J f fc e a dp m s V Z o0 o1 o2 cur) (hgo : ∀ J' V', ps M I0 J' f fc e a 0 dp (m + 1) s V' Z → (∀ i, i < m → V' i = V i) → V' m = cbv 47 o0 fc (cbv 124 o1 fc (cbv 38 o2 fc cur)) → a_at (d + 4) (a_xm a_m202) 264 [some (a_rf M), some (.int 0), some (.int c)] [] (n, t, K, L, J', R) P) : a_at (d + 4) (a_xm a_m202) 246 [some (a_rf M), some (.int 0), some (.int c)] [] (n, t, K, L, J, R) P := by
  simp only [q202_246, q202_247, q202_249, m_0 hS, m_K hS, as_nil, as_i, as_r, Nat.reduceAdd, Nat.reduceLeDiff, z_eq0, z_eq1, z_or, z_em, Classical.not_not, not_false_eq_true, not_true_eq_false, true_and, and_true, false_and, and_false, and_self, true_implies, false_implies, implies_true, Option.toList_some, Option.toList_none, List.cons_append, List.nil_append, Nat.add_eq_zero_iff, a_nl_i, a_nl_r, a_nl_n, true_or, or_true, eq_self, ok_4, ok_5, ok_6, ok_7, ok_9, ok_10, ok_20, ok_21, ok_24, ok_30, ok_48, ok_50, ok_60, ok_80, ok_120, ok_180, ok_192, ok_200, ok_900, ok_1000, ok_84000]
  refine f38 (d := d + 2) hS hb h (fun J1 h1 => ?_)
  simp only [q202_252, q202_253, q202_255, m_0 hS, m_K hS, as_nil, as_i, as_r, Nat.reduceAdd, Nat.reduceLeDiff, z_eq0, z_eq1, z_or, z_em, Classical.not_not, not_false_eq_true, not_true_eq_false, true_and, and_true, false_and, and_false, and_self, true_implies, false_implies, implies_true, Option.toList_some, Option.toList_none, List.cons_append, List.nil_append, Nat.add_eq_zero_iff, a_nl_i, a_nl_r, a_nl_n, true_or, or_true, eq_self, ok_4, ok_5, ok_6, ok_7, ok_9, ok_10, ok_20, ok_21, ok_24, ok_30, ok_48, ok_50, ok_60, ok_80, ok_120, ok_180, ok_192, ok_200, ok_900, ok_1000, ok_84000]
  refine f124 (d := d + 2) hS hb h1 (fun J2 h2 => ?_)
  simp only [q202_258, q202_259, q202_261, m_0 hS, m_K hS, as_nil, as_i, as_r, Nat.reduceAdd, Nat.reduceLeDiff, z_eq0, z_eq1, z_or, z_em, Classical.not_not, not_false_eq_true, not_true_eq_false, true_and, and_true, false_and, and_false, and_self, true_implies, false_implies, implies_true, Option.toList_some, Option.toList_none, List.cons_append, List.nil_append, Nat.add_eq_zero_iff, a_nl_i, a_nl_r, a_nl_n, true_or, or_true, eq_self, ok_4, ok_5, ok_6, ok_7, ok_9, ok_10, ok_20, ok_21, ok_24, ok_30, ok_48, ok_50, ok_60, ok_80, ok_120, ok_180, ok_192, ok_200, ok_900, ok_1000, ok_84000]
  refine f47 (d := d + 2) hS hb h2 (fun J3 h3 => ?_)
  obtain ⟨V1, Z1, p1, p2, p3, -, -, -, p7⟩ := h3
  exact hgo J3 V1 (ps_Zc p1 p3) p2 p7
theorem ru_339 (hS : m_S M K L R) (hb : s = 0 ∨ Z (s - 1) = 40) {o0 o1 o2 : Option ((Nat → Int32) → Int32)} {cur : Int32} {w c : Option Value} (h : fl M I0 J f fc e a dp m s V Z o0 o1 o2 cur) (hgo : ∀ J' V', ps M I0 J' f fc e a 0 dp (m + 1) s V' Z → (∀ i, i < m → V' i = V i) → V' m = cbv 47 o0 fc (cbv 124 o1 fc (cbv 38 o2 fc cur)) → a_at (d + 4) (a_xm a_m202) 357 [some (a_rf M), w, c] [] (n, t, K, L, J', R) P) : a_at (d + 4) (a_xm a_m202) 332 [some (a_rf M), w, c] [] (n, t, K, L, J, R) P := by
  obtain ⟨V0, Z0, q0⟩ := fl_ps h
  have hbd := ps_bad q0
  simp only [q202_332, q202_333, q202_336, q202_339, q202_340, q202_342, m_0 hS, m_K hS, as_nil, as_i, as_r, Nat.reduceAdd, Nat.reduceLeDiff, z_eq0, z_eq1, z_or, z_em, Classical.not_not, not_false_eq_true, not_true_eq_false, true_and, and_true, false_and, and_false, and_self, true_implies, false_implies, implies_true, Option.toList_some, Option.toList_none, List.cons_append, List.nil_append, Nat.add_eq_zero_iff, a_nl_i, a_nl_r, a_nl_n, true_or, or_true, eq_self, ok_4, ok_5, ok_6, ok_7, ok_9, ok_10, ok_20, ok_21, ok_24, ok_30, ok_48, ok_50, ok_60, ok_80, ok_120, ok_180, ok_192, ok_200, ok_900, ok_1000, ok_84000, hbd]
  try simp only [true_and, and_true, true_implies, false_implies, implies_true, not_true_eq_false, not_false_eq_true]
  refine f38 (d := d + 2) hS hb h (fun J1 h1 => ?_)
  simp only [q202_345, q202_346, q202_348, m_0 hS, m_K hS, as_nil, as_i, as_r, Nat.reduceAdd, Nat.reduceLeDiff, z_eq0, z_eq1, z_or, z_em, Classical.not_not, not_false_eq_true, not_true_eq_false, true_and, and_true, false_and, and_false, and_self, true_implies, false_implies, implies_true, Option.toList_some, Option.toList_none, List.cons_append, List.nil_append, Nat.add_eq_zero_iff, a_nl_i, a_nl_r, a_nl_n, true_or, or_true, eq_self, ok_4, ok_5, ok_6, ok_7, ok_9, ok_10, ok_20, ok_21, ok_24, ok_30, ok_48, ok_50, ok_60, ok_80, ok_120, ok_180, ok_192, ok_200, ok_900, ok_1000, ok_84000]
  refine f124 (d := d + 2) hS hb h1 (fun J2 h2 => ?_)
  simp only [q202_351, q202_352, q202_354, m_0 hS, m_K hS, as_nil, as_i, as_r, Nat.reduceAdd, Nat.reduceLeDiff, z_eq0, z_eq1, z_or, z_em, Classical.not_not, not_false_eq_true, not_true_eq_false, true_and, and_true, false_and, and_false, and_self, true_implies, false_implies, implies_true, Option.toList_some, Option.toList_none, List.cons_append, List.nil_append, Nat.add_eq_zero_iff, a_nl_i, a_nl_r, a_nl_n, true_or, or_true, eq_self, ok_4, ok_5, ok_6, ok_7, ok_9, ok_10, ok_20, ok_21, ok_24, ok_30, ok_48, ok_50, ok_60, ok_80, ok_120, ok_180, ok_192, ok_200, ok_900, ok_1000, ok_84000]
  refine f47 (d := d + 2) hS hb h2 (fun J3 h3 => ?_)
  obtain ⟨V1, Z1, p1, p2, p3, -, -, -, p7⟩ := h3
  exact hgo J3 V1 (ps_Zc p1 p3) p2 p7
/-- at the loop's head behind a part, what is there -/
theorem ru_head0 (hS : m_S M K L R) {o0 o1 o2 : Option ((Nat → Int32) → Int32)} {cur : Int32} {c : Option Value} (h : fl M I0 J f fc e a dp m s V Z o0 o1 o2 cur) (hch : ¬ (a < e ∧ (f a.toNatClampNeg = 38 ∨ f a.toNatClampNeg = 124 ∨ f a.toNatClampNeg = 47))) (h246 : a < e → a_at (d + 4) (a_xm a_m202) 246 [some (a_rf M), some (.int 0), some (.int (f a.toNatClampNeg))] [] (n, t, K, L, J, R) P) (h332 : a = e → a_at (d + 4) (a_xm a_m202) 332 [some (a_rf M), some (.int 0), c] [] (n, t, K, L, J, R) P) : a_at (d + 4) (a_xm a_m202) 17 [some (a_rf M), some (.int 0), c] [] (n, t, K, L, J, R) P := by
  obtain ⟨V0, Z0, h1⟩ := fl_ps h
  have ha := ps_a h1
  have hbd := ps_bad h1
  have hat := ps_at h1
  have hE := vw_E (ps_vw h1) (by rw [hat]; exact ha)
  have hT := rT_refl (ps_mC h1).1 hE
  have hvJ := hv_x (ps_vw h1) (by rw [hat]; exact ha.1)
  have een : J M 48 = e := (ps_vw h1).1
  rw [q202_17]
  by_cases l : a < e
  · rw [hat, if_pos l] at hvJ
    have h246 := h246 l
    have hlt2 : J M 49 < J M 48 := by rw [hat, een]; exact l
    have hch2 : ¬ (f a.toNatClampNeg = 38 ∨ f a.toNatClampNeg = 124 ∨ f a.toNatClampNeg = 47) := fun q => hch ⟨l, q⟩
    have hle2 := Int32.not_le.mpr hlt2
    simp only [q202_18, q202_21, q202_24, q202_25, q202_28, q202_29, q202_32, q202_33, q202_36, q202_39, q202_40, m_0 hS, m_K hS, as_nil, as_i, as_r, Nat.reduceAdd, Nat.reduceLeDiff, z_eq0, z_eq1, z_or, z_em, Classical.not_not, not_false_eq_true, not_true_eq_false, true_and, and_true, false_and, and_false, and_self, true_implies, false_implies, implies_true, Option.toList_some, Option.toList_none, List.cons_append, List.nil_append, Nat.add_eq_zero_iff, a_nl_i, a_nl_r, a_nl_n, true_or, or_true, eq_self, ok_4, ok_5, ok_6, ok_7, ok_9, ok_10, ok_20, ok_21, ok_24, ok_30, ok_48, ok_50, ok_60, ok_80, ok_120, ok_180, ok_192, ok_200, ok_900, ok_1000, ok_84000, hbd, hlt2, hle2]
    try simp only [true_and, and_true, true_implies, false_implies, implies_true, not_true_eq_false, not_false_eq_true]
    refine ct_here hS hE hT ?_
    rw [hvJ]
    generalize f a.toNatClampNeg = g at hch2 h246 ⊢
    clear h h1 hvJ hT hE hch h332
    simp only [q202_43, q202_44, q202_45, q202_127, q202_128, q202_163, q202_164, q202_166, q202_169, q202_170, q202_172, q202_175, q202_176, q202_178, as_nil, as_i, as_r, Nat.reduceAdd, Nat.reduceLeDiff, z_eq0, z_eq1, z_or, z_em, Classical.not_not, not_false_eq_true, not_true_eq_false, true_and, and_true, false_and, and_false, and_self, true_implies, false_implies, implies_true, Option.toList_some, Option.toList_none, List.cons_append, List.nil_append, Nat.add_eq_zero_iff, a_nl_i, a_nl_r, a_nl_n, true_or, or_true, eq_self, ok_4, ok_5, ok_6, ok_7, ok_9, ok_10, ok_20, ok_21, ok_24, ok_30, ok_48, ok_50, ok_60, ok_80, ok_120, ok_180, ok_192, ok_200, ok_900, ok_1000, ok_84000]
    grind
  · have he : a = e := by clear h h1 hvJ hT hE hch h332 h246; grind
    have h332 := h332 he
    have hge : ¬ J M 49 < J M 48 := by rw [hat, een, he]; exact Int32.lt_irrefl
    simp only [q202_18, q202_21, q202_24, q202_25, q202_28, q202_29, q202_32, q202_33, q202_36, m_0 hS, m_K hS, as_nil, as_i, as_r, Nat.reduceAdd, Nat.reduceLeDiff, z_eq0, z_eq1, z_or, z_em, Classical.not_not, not_false_eq_true, not_true_eq_false, true_and, and_true, false_and, and_false, and_self, true_implies, false_implies, implies_true, Option.toList_some, Option.toList_none, List.cons_append, List.nil_append, Nat.add_eq_zero_iff, a_nl_i, a_nl_r, a_nl_n, true_or, or_true, eq_self, ok_4, ok_5, ok_6, ok_7, ok_9, ok_10, ok_20, ok_21, ok_24, ok_30, ok_48, ok_50, ok_60, ok_80, ok_120, ok_180, ok_192, ok_200, ok_900, ok_1000, ok_84000, hbd, hge]
    try simp only [true_and, and_true, true_implies, false_implies, implies_true, not_true_eq_false, not_false_eq_true]
    first
      | exact h332
      | grind
/-- in brackets -/
theorem pt_rule (hS : m_S M K L R) {z : Nat} (hpt : PT d n t M K L I0 R P f fc e z) {a0 dp0 : Int32} {m s : Nat} {V Z : Nat → Int32} {J : Nat → Nat → Int32} (hdp : (dp0 + 1).toInt + z = 4) (edp : dp0 + 1 - 1 = dp0) (hz1 : Z s = 40) (h : ps M I0 J f fc e (a0 + 1) 0 (dp0 + 1) m (s + 1) V Z) (hm : m ≤ (a0 + 1).toNatClampNeg) (hs : s + 1 ≤ (a0 + 1).toNatClampNeg) (h0 : a0 < e ∧ f a0.toNatClampNeg = 40) {c : Option Value}
 (hfail : ∀ J', (xP f e (z + 1) a0).1 = false → xz M I0 J' f fc e (xP f e (z + 1) a0).2.1 1 → P (some (.int 0)) (n, t, K, L, J', R)) (hsucc : ∀ J' V', (xP f e (z + 1) a0).1 = true → ps M I0 J' f fc e (xP f e (z + 1) a0).2.1 0 dp0 (m + 1) s V' Z → (∀ i, i < m → V' i = V i) → V' m = (xP f e (z + 1) a0).2.2 fc → a_does (d + 4) 204 [a_rf M] (n, t, K, L, J', R) (Qc M d P)) : a_at (d + 4) (a_xm a_m202) 17 [some (a_rf M), some (.int 1), c] [] (n, t, K, L, J, R) P := by
  have hr : ∀ r, r = xjo f e (xP f e z) 3 (a0 + 1) → xP f e (z + 1) a0 = if r.1 = true then (if r.2.1 < e ∧ f r.2.1.toNatClampNeg = 41 then (true, r.2.1 + 1, r.2.2) else (false, r.2.1, fun _ => 0)) else (false, r.2.1, fun _ => 0) := fun r er => by
    subst er
    conv => lhs; unfold xP
    rw [if_pos h0]
  generalize hW : xjo f e (xP f e z) 3 (a0 + 1) = W
  have hr := hr W hW.symm
  refine ru_rule hpt hS (Or.inr (by rw [show s + 1 - 1 = s by omega]; exact hz1)) hdp h hm hs hW ⟨fun J' k1 k2 => ?_, fun J' o0 o1 o2 cur k1 k2 k3 k4 c => ?_⟩
  · have k1' : ¬ W.1 = true := by rw [k1]; decide
    rw [if_neg k1'] at hr
    exact hfail J' (by rw [hr]) (by rw [hr]; exact k2)
  · rw [if_pos k1] at hr
    have hbad : ¬ (W.2.1 < e ∧ f W.2.1.toNatClampNeg = 41) → ∀ J', xz M I0 J' f fc e W.2.1 1 → P (some (.int 0)) (n, t, K, L, J', R) := fun q J' w => by
      rw [if_neg q] at hr
      exact hfail J' (by rw [hr]) (by rw [hr]; exact w)
    have hb : (s + 1) = 0 ∨ Z (s + 1 - 1) = 40 := Or.inr (by rw [show s + 1 - 1 = s by omega]; exact hz1)
    refine ru_head0 hS k2 k4 (fun l => ?_) (fun l => ?_)
    · refine ru_246 hS hb k2 (fun J2 V2 q1 q2 q3 => ?_)
      rw [k3] at q3
      have t := ps_top q1
      have h5 := ps_50 q1
      have hE := vw_E (ps_vw q1) (by rw [ps_at q1]; exact ps_a q1)
      rw [hz1] at t
      obtain ⟨t1, t2, t3⟩ := t
      by_cases c41 : f W.2.1.toNatClampNeg = 41
      · rw [if_pos ⟨l, c41⟩] at hr
        have he := (ps_vw q1).2.1
        have ha := ps_a q1
        have hd := hsucc (a_ui (a_ui (a_ui (a_ui J2 M 50 0) M 56 (J2 M 56 - 1)) M 51 (J2 M 51 - 1)) M 49 (J2 M 49 + 1)) V2 (by rw [hr]) (by
          rw [hr]
          refine ⟨sC_at (sC_deep (sC_signMany (sC_isBad (ps_mC q1)))), vw_fr (ps_vw q1) (fun x j p q r => by simp only [ui_ap]; rw [if_neg (by omega), if_neg (by omega), if_neg (by omega), if_neg (by omega)]), fun j => by rw [ui_ap, if_neg (by omega), ui_ap, if_neg (by omega), ui_ap, if_neg (by omega), ui_ap, if_neg (by omega)]; exact ps_fc q1 j, by rw [ui_ap, if_pos ⟨rfl, rfl⟩, ps_at q1], ⟨by clear hsucc hfail hr k2 q1 hpt h; grind, by clear hsucc hfail hr k2 q1 hpt h; grind⟩, by rw [ui_ap, if_neg (by omega), ui_ap, if_neg (by omega), ui_ap, if_neg (by omega), ui_ap, if_pos ⟨rfl, rfl⟩], by rw [ui_ap, if_neg (by omega), ui_ap, if_pos ⟨rfl, rfl⟩, ps_dp q1, edp], by rw [ui_ap, if_neg (by omega), ui_ap, if_neg (by omega), ui_ap, if_neg (by omega), ui_ap, if_neg (by omega)]; exact ps_vm q1, by rw [ui_ap, if_neg (by omega), ui_ap, if_neg (by omega), ui_ap, if_pos ⟨rfl, rfl⟩, ps_sm q1, on_s], by omega, fun i hi => ?_, fun i hi => ?_⟩
          · rw [ui_ap, if_neg (by omega), ui_ap, if_neg (by omega), ui_ap, if_neg (by omega), ui_ap, if_neg (by omega)]
            exact ps_V q1 i hi
          · rw [ui_ap, if_neg (by omega), ui_ap, if_neg (by omega), ui_ap, if_neg (by omega), ui_ap, if_neg (by omega)]
            exact ps_Z q1 i (by omega)) q2 (by rw [hr, q3])
        rw [c41]
        simp only [q202_264, q202_265, q202_266, q202_268, q202_271, q202_272, q202_275, q202_277, q202_280, q202_281, q202_284, q202_285, q202_288, q202_289, q202_292, q202_295, q202_296, q202_297, q202_300, q202_301, q202_302, q202_305, q202_306, q202_307, q202_310, q202_311, q202_312, q202_315, q202_316, q202_317, q202_320, q202_321, q202_322, q202_325, q202_326, m_0 hS, m_K hS, sp_topSign hS, as_nil, as_i, as_r, Nat.reduceAdd, Nat.reduceLeDiff, z_eq0, z_eq1, z_or, z_em, Classical.not_not, not_false_eq_true, not_true_eq_false, true_and, and_true, false_and, and_false, and_self, true_implies, false_implies, implies_true, Option.toList_some, Option.toList_none, List.cons_append, List.nil_append, Nat.add_eq_zero_iff, a_nl_i, a_nl_r, a_nl_n, true_or, or_true, eq_self, ok_4, ok_5, ok_6, ok_7, ok_9, ok_10, ok_20, ok_21, ok_24, ok_30, ok_48, ok_50, ok_60, ok_80, ok_120, ok_180, ok_192, ok_200, ok_900, ok_1000, ok_84000, ui_ap, ne_MM, ne_M0, ne_0M, Nat.reduceEqDiff, reduceIte, if_true, if_false, t1, t2, t3]
        try simp only [true_and, and_true, true_implies, false_implies, implies_true, not_true_eq_false, not_false_eq_true]
        refine does_mono hd (fun r h' q => ?_)
        rw [q.1]
        simp only [q202_329, as_nil, as_i, as_r, Nat.reduceAdd, Nat.reduceLeDiff, z_eq0, z_eq1, z_or, z_em, Classical.not_not, not_false_eq_true, not_true_eq_false, true_and, and_true, false_and, and_false, and_self, true_implies, false_implies, implies_true, Option.toList_some, Option.toList_none, List.cons_append, List.nil_append, Nat.add_eq_zero_iff, a_nl_i, a_nl_r, a_nl_n, true_or, or_true, eq_self, ok_4, ok_5, ok_6, ok_7, ok_9, ok_10, ok_20, ok_21, ok_24, ok_30, ok_48, ok_50, ok_60, ok_80, ok_120, ok_180, ok_192, ok_200, ok_900, ok_1000, ok_84000]
        exact q.2 _
      · have hp := hbad (fun q => c41 q.2) (a_ui J2 M 50 1) ⟨sC_isBad (ps_mC q1), vw_fr (ps_vw q1) (fun x j p q r => by rw [ui_ap, if_neg (by omega)]), fun j => by rw [ui_ap, if_neg (by omega)]; exact ps_fc q1 j, by rw [ui_ap, if_neg (by omega)]; exact ps_at q1, by rw [ui_ap, if_pos ⟨rfl, rfl⟩]⟩
        have hh := ru_bad (d := d) (J := a_ui J2 M 50 1) (w := some (.int 0)) (c := some (.int (f W.2.1.toNatClampNeg))) hS (by rw [ui_ap, if_pos ⟨rfl, rfl⟩]; decide) hp
        have n1 : ¬ (1 : Int32) = 0 := by decide
        simp only [q202_264, q202_265, q202_266, q202_268, q202_271, q202_272, q202_275, q202_277, q202_280, q202_281, q202_284, q202_285, q202_288, q202_289, q202_292, q202_329, m_0 hS, m_K hS, sp_topSign hS, as_nil, as_i, as_r, Nat.reduceAdd, Nat.reduceLeDiff, z_eq0, z_eq1, z_or, z_em, Classical.not_not, not_false_eq_true, not_true_eq_false, true_and, and_true, false_and, and_false, and_self, true_implies, false_implies, implies_true, Option.toList_some, Option.toList_none, List.cons_append, List.nil_append, Nat.add_eq_zero_iff, a_nl_i, a_nl_r, a_nl_n, true_or, or_true, eq_self, ok_4, ok_5, ok_6, ok_7, ok_9, ok_10, ok_20, ok_21, ok_24, ok_30, ok_48, ok_50, ok_60, ok_80, ok_120, ok_180, ok_192, ok_200, ok_900, ok_1000, ok_84000, ui_ap, ne_MM, ne_M0, ne_0M, Nat.reduceEqDiff, reduceIte, if_true, if_false, c41, t1, t2, t3, n1]
        first
          | exact hh
          | grind
    · refine ru_339 hS hb k2 (fun J2 V2 q1 q2 q3 => ?_)
      have h5 := ps_50 q1
      have hsm : 0 < J2 M 56 := by
        rw [ps_sm q1, Int32.lt_iff_toInt_lt, on_i (by omega)]
        have z0 : (0 : Int32).toInt = 0 := rfl
        omega
      have hp := hbad (fun q => absurd q.1 (by rw [l]; exact Int32.lt_irrefl)) (a_ui J2 M 50 1) ⟨sC_isBad (ps_mC q1), vw_fr (ps_vw q1) (fun x j p q r => by rw [ui_ap, if_neg (by omega)]), fun j => by rw [ui_ap, if_neg (by omega)]; exact ps_fc q1 j, by rw [ui_ap, if_neg (by omega)]; exact ps_at q1, by rw [ui_ap, if_pos ⟨rfl, rfl⟩]⟩
      have n1 : ¬ (1 : Int32) = 0 := by decide
      have hsm2 : ¬ J2 M 56 ≤ 0 := Int32.not_le.mpr hsm
      simp only [q202_357, q202_358, q202_359, q202_362, q202_365, q202_366, q202_369, q202_370, q202_373, q202_374, q202_377, q202_393, q202_394, m_0 hS, m_K hS, as_nil, as_i, as_r, Nat.reduceAdd, Nat.reduceLeDiff, z_eq0, z_eq1, z_or, z_em, Classical.not_not, not_false_eq_true, not_true_eq_false, true_and, and_true, false_and, and_false, and_self, true_implies, false_implies, implies_true, Option.toList_some, Option.toList_none, List.cons_append, List.nil_append, Nat.add_eq_zero_iff, a_nl_i, a_nl_r, a_nl_n, true_or, or_true, eq_self, ok_4, ok_5, ok_6, ok_7, ok_9, ok_10, ok_20, ok_21, ok_24, ok_30, ok_48, ok_50, ok_60, ok_80, ok_120, ok_180, ok_192, ok_200, ok_900, ok_1000, ok_84000, ui_ap, ne_MM, ne_M0, ne_0M, Nat.reduceEqDiff, reduceIte, if_true, if_false, hsm2, n1]
      first
        | exact hp
        | grind
theorem pt_all (hS : m_S M K L R) : ∀ z, PT d n t M K L I0 R P f fc e z := by
  intro z
  induction z with
  | zero =>
    intro J a dp m s V Z c h hm hs hdp hfail hsucc
    have ha := ps_a h
    have he := (ps_vw h).2.1
    have hbd := ps_bad h
    have hat := ps_at h
    have h5 := ps_50 h
    have hE := vw_E (ps_vw h) (by rw [hat]; exact ha)
    have hT := rT_refl (ps_mC h).1 hE
    have hvJ := hv_x (ps_vw h) (by rw [hat]; exact ha.1)
    rw [hat] at hvJ
    have een : J M 48 = e := (ps_vw h).1
    have n10 : ¬ (1 : Int32) = 0 := by decide
    have z4 : (4 : Int32).toInt = 4 := rfl
    rw [q202_17]
    simp only [q202_18, q202_21, q202_24, q202_25, q202_39, q202_40, m_0 hS, m_K hS, as_nil, as_i, as_r, Nat.reduceAdd, Nat.reduceLeDiff, z_eq0, z_eq1, z_or, z_em, Classical.not_not, not_false_eq_true, not_true_eq_false, true_and, and_true, false_and, and_false, and_self, true_implies, false_implies, implies_true, Option.toList_some, Option.toList_none, List.cons_append, List.nil_append, Nat.add_eq_zero_iff, a_nl_i, a_nl_r, a_nl_n, true_or, or_true, eq_self, ok_4, ok_5, ok_6, ok_7, ok_9, ok_10, ok_20, ok_21, ok_24, ok_30, ok_48, ok_50, ok_60, ok_80, ok_120, ok_180, ok_192, ok_200, ok_900, ok_1000, ok_84000, hbd, n10]
    try simp only [true_and, and_true, true_implies, false_implies, implies_true, not_true_eq_false, not_false_eq_true]
    refine ct_here hS hE hT ?_
    by_cases hA : a < e ∧ (f a.toNatClampNeg = 33 ∨ f a.toNatClampNeg = 40)
    · have hr : xP f e 0 a = (false, a, fun _ => 0) := by
        unfold xP
        rw [if_pos hA]
      have d4 : dp = 4 := Int32.toInt_inj.mp (by rw [z4]; omega)
      have hp := hfail (a_ui J M 50 1) (by rw [hr]) (by rw [hr]; exact ⟨sC_isBad (ps_mC h), vw_fr (ps_vw h) (fun x j p q r => by rw [ui_ap, if_neg (by omega)]), fun j => by rw [ui_ap, if_neg (by omega)]; exact ps_fc h j, by rw [ui_ap, if_neg (by omega)]; exact hat, by rw [ui_ap, if_pos ⟨rfl, rfl⟩]⟩)
      have hh := fun c => ru_bad (d := d) (J := a_ui J M 50 1) (w := some (.int 1)) (c := c) hS (by rw [ui_ap, if_pos ⟨rfl, rfl⟩]; decide) hp
      have hdd : J M 51 = 4 := by rw [ps_dp h, d4]
      rw [hvJ, if_pos hA.1]
      have h60 : a_at (d + 4) (a_xm a_m202) 60 [some (a_rf M), some (.int 1), some (.int (f a.toNatClampNeg))] [] (n, t, K, L, J, R) P := by
        have hh := hh (some (.int (f a.toNatClampNeg)))
        simp only [q202_60, q202_61, q202_62, q202_65, q202_66, q202_69, q202_70, q202_73, q202_74, q202_77, q202_78, q202_81, q202_329, m_0 hS, m_K hS, as_nil, as_i, as_r, Nat.reduceAdd, Nat.reduceLeDiff, z_eq0, z_eq1, z_or, z_em, Classical.not_not, not_false_eq_true, not_true_eq_false, true_and, and_true, false_and, and_false, and_self, true_implies, false_implies, implies_true, Option.toList_some, Option.toList_none, List.cons_append, List.nil_append, Nat.add_eq_zero_iff, a_nl_i, a_nl_r, a_nl_n, true_or, or_true, eq_self, ok_4, ok_5, ok_6, ok_7, ok_9, ok_10, ok_20, ok_21, ok_24, ok_30, ok_48, ok_50, ok_60, ok_80, ok_120, ok_180, ok_192, ok_200, ok_900, ok_1000, ok_84000, ui_ap, ne_MM, ne_M0, ne_0M, Nat.reduceEqDiff, reduceIte, if_true, if_false, hdd, n10]
        first
          | exact hh
          | grind
      have hA2 := hA.2
      generalize f a.toNatClampNeg = g at hA2 h60 ⊢
      clear h hfail hsucc hT hE hvJ hh hp hA hr
      simp only [q202_43, q202_44, q202_45, q202_48, q202_49, q202_51, q202_54, q202_55, q202_57, as_nil, as_i, as_r, Nat.reduceAdd, Nat.reduceLeDiff, z_eq0, z_eq1, z_or, z_em, Classical.not_not, not_false_eq_true, not_true_eq_false, true_and, and_true, false_and, and_false, and_self, true_implies, false_implies, implies_true, Option.toList_some, Option.toList_none, List.cons_append, List.nil_append, Nat.add_eq_zero_iff, a_nl_i, a_nl_r, a_nl_n, true_or, or_true, eq_self, ok_4, ok_5, ok_6, ok_7, ok_9, ok_10, ok_20, ok_21, ok_24, ok_30, ok_48, ok_50, ok_60, ok_80, ok_120, ok_180, ok_192, ok_200, ok_900, ok_1000, ok_84000, n10]
      grind
    · have hpart := xP_c (z := 0) hA
      have h131 := fun c => pt_test (c := c) hS hpart h hm hfail hsucc
      rw [hvJ]
      have hg : ¬ ((if a < e then f a.toNatClampNeg else -1) = 33) ∧ ¬ ((if a < e then f a.toNatClampNeg else -1) = 40) := by
        by_cases l : a < e
        · rw [if_pos l]
          exact ⟨fun q => hA ⟨l, Or.inl q⟩, fun q => hA ⟨l, Or.inr q⟩⟩
        · rw [if_neg l]
          decide
      have h131 := h131 (some (.int (if a < e then f a.toNatClampNeg else -1)))
      generalize (if a < e then f a.toNatClampNeg else -1) = g at hg h131 ⊢
      clear h hfail hsucc hT hE hvJ hA hpart
      simp only [q202_43, q202_44, q202_45, q202_48, q202_49, q202_51, q202_54, q202_55, q202_57, q202_127, q202_128, as_nil, as_i, as_r, Nat.reduceAdd, Nat.reduceLeDiff, z_eq0, z_eq1, z_or, z_em, Classical.not_not, not_false_eq_true, not_true_eq_false, true_and, and_true, false_and, and_false, and_self, true_implies, false_implies, implies_true, Option.toList_some, Option.toList_none, List.cons_append, List.nil_append, Nat.add_eq_zero_iff, a_nl_i, a_nl_r, a_nl_n, true_or, or_true, eq_self, ok_4, ok_5, ok_6, ok_7, ok_9, ok_10, ok_20, ok_21, ok_24, ok_30, ok_48, ok_50, ok_60, ok_80, ok_120, ok_180, ok_192, ok_200, ok_900, ok_1000, ok_84000, n10, hg]
      first
        | exact h131
        | grind
  | succ z ih =>
    intro J a dp m s V Z c h hm hs hdp hfail hsucc
    have ha := ps_a h
    have he := (ps_vw h).2.1
    have hbd := ps_bad h
    have hat := ps_at h
    have h5 := ps_50 h
    have hE := vw_E (ps_vw h) (by rw [hat]; exact ha)
    have hT := rT_refl (ps_mC h).1 hE
    have hvJ := hv_x (ps_vw h) (by rw [hat]; exact ha.1)
    rw [hat] at hvJ
    have een : J M 48 = e := (ps_vw h).1
    have n10 : ¬ (1 : Int32) = 0 := by decide
    have z4 : (4 : Int32).toInt = 4 := rfl
    rw [q202_17]
    simp only [q202_18, q202_21, q202_24, q202_25, q202_39, q202_40, m_0 hS, m_K hS, as_nil, as_i, as_r, Nat.reduceAdd, Nat.reduceLeDiff, z_eq0, z_eq1, z_or, z_em, Classical.not_not, not_false_eq_true, not_true_eq_false, true_and, and_true, false_and, and_false, and_self, true_implies, false_implies, implies_true, Option.toList_some, Option.toList_none, List.cons_append, List.nil_append, Nat.add_eq_zero_iff, a_nl_i, a_nl_r, a_nl_n, true_or, or_true, eq_self, ok_4, ok_5, ok_6, ok_7, ok_9, ok_10, ok_20, ok_21, ok_24, ok_30, ok_48, ok_50, ok_60, ok_80, ok_120, ok_180, ok_192, ok_200, ok_900, ok_1000, ok_84000, hbd, n10]
    try simp only [true_and, and_true, true_implies, false_implies, implies_true, not_true_eq_false, not_false_eq_true]
    refine ct_here hS hE hT ?_
    by_cases hA : a < e ∧ (f a.toNatClampNeg = 33 ∨ f a.toNatClampNeg = 40)
    · have ad : a.toNatClampNeg < 50 := by
        have := cl_lt (j := 50) ha.1 (by have := hA.1; clear h hfail hsucc ih hT hE hvJ; grind)
        exact this
      have ea : (a + 1).toNatClampNeg = a.toNatClampNeg + 1 := cl_up ha.1 (by have := hA.1; clear h hfail hsucc ih hT hE hvJ; grind)
      have ddp : (dp + 1).toInt = dp.toInt + 1 := by
        have z1 : (1 : Int32).toInt = 1 := rfl
        have := Int32.le_toInt dp
        rw [ti_add (by omega)]
        omega
      have edp : dp + 1 - 1 = dp := by clear h hfail hsucc ih hT hE hvJ; grind
      have nd4 : ¬ J M 51 = 4 := by
        rw [ps_dp h]
        intro q
        rw [q, z4] at hdp
        omega
      have es : (J M 56).toNatClampNeg = s := by rw [ps_sm h, on_t (by omega)]
      have er : 0 ≤ J M 56 ∧ J M 56 < 60 := by rw [ps_sm h]; exact on_r (by omega)
      have hpu : ∀ g : Int32, ps M I0 (a_ui (a_ui (a_ui (a_ui (a_ui J M 50 0) M 51 (J M 51 + 1)) (M + 34) s g) M 56 (J M 56 + 1)) M 49 (J M 49 + 1)) f fc e (a + 1) 0 (dp + 1) m (s + 1) V (up1 Z s g) := fun g => ⟨sC_at (sC_signMany (sC_signs (sC_deep (sC_isBad (ps_mC h))))), vw_fr (ps_vw h) (fun x j p q r => by rw [ui_ap, if_neg (by omega), ui_ap, if_neg (by omega), ui_ap, if_neg (by omega), ui_ap, if_neg (by omega), ui_ap, if_neg (by omega)]), fun j => by rw [ui_ap, if_neg (by omega), ui_ap, if_neg (by omega), ui_ap, if_neg (by omega), ui_ap, if_neg (by omega), ui_ap, if_neg (by omega)]; exact ps_fc h j, by rw [ui_ap, if_pos ⟨rfl, rfl⟩, hat], ⟨by have := hA.1; clear h hfail hsucc ih hT hE hvJ; grind, by have := hA.1; clear h hfail hsucc ih hT hE hvJ; grind⟩, by rw [ui_ap, if_neg (by omega), ui_ap, if_neg (by omega), ui_ap, if_neg (by omega), ui_ap, if_neg (by omega), ui_ap, if_pos ⟨rfl, rfl⟩], by rw [ui_ap, if_neg (by omega), ui_ap, if_neg (by omega), ui_ap, if_neg (by omega), ui_ap, if_pos ⟨rfl, rfl⟩, ps_dp h], by rw [ui_ap, if_neg (by omega), ui_ap, if_neg (by omega), ui_ap, if_neg (by omega), ui_ap, if_neg (by omega), ui_ap, if_neg (by omega)]; exact ps_vm h, by rw [ui_ap, if_neg (by omega), ui_ap, if_pos ⟨rfl, rfl⟩, ps_sm h, on_a], by omega, fun i hi => by rw [ui_ap, if_neg (by omega), ui_ap, if_neg (by omega), ui_ap, if_neg (by omega), ui_ap, if_neg (by omega), ui_ap, if_neg (by omega)]; exact ps_V h i hi, fun i hi => by
        rw [ui_ap, if_neg (by omega), ui_ap, if_neg (by omega), ui_ap]
        by_cases c : i = s
        · subst c; rw [if_pos ⟨rfl, rfl⟩, up1_eq]
        · rw [if_neg (fun q => c q.2), up1_ne c, ui_ap, if_neg (by omega), ui_ap, if_neg (by omega)]
          exact ps_Z h i (by omega)⟩
      have h60 : a_at (d + 4) (a_xm a_m202) 60 [some (a_rf M), some (.int 1), some (.int (f a.toNatClampNeg))] [] (n, t, K, L, J, R) P := by
        have hgo : a_at (d + 4) (a_xm a_m202) 17 [some (a_rf M), some (.int 1), some (.int (f a.toNatClampNeg))] [] (n, t, K, L, (a_ui (a_ui (a_ui (a_ui (a_ui J M 50 0) M 51 (J M 51 + 1)) (M + 34) s (f a.toNatClampNeg)) M 56 (J M 56 + 1)) M 49 (J M 49 + 1)), R) P := by
          rcases hA.2 with q | q
          · rw [q]
            have hr : xP f e (z + 1) a = ((xP f e z (a + 1)).1, (xP f e z (a + 1)).2.1, fun fc => 1 - (xP f e z (a + 1)).2.2 fc) := by
              conv => lhs; unfold xP
              rw [if_neg (fun w => by rw [q] at w; exact absurd w.2 (by decide)), if_pos ⟨hA.1, q⟩]
            rw [hr] at hfail hsucc
            refine ih _ (a + 1) (dp + 1) m (s + 1) V (up1 Z s 33) _ (hpu 33) (by omega) (by omega) (by omega) hfail (fun J2 V2 k1 k2 k3 k4 => ?_)
            refine pe_pop hS k2 up1_eq (fun J3 k5 => ?_)
            rw [edp] at k5
            refine hsucc J3 (up1 V2 m (1 - V2 m)) k1 (ps_Zc k5 (fun i hi => up1_ne (by omega))) (fun i hi => by rw [up1_ne (by omega)]; exact k3 i hi) ?_
            rw [up1_eq, k4]
          · rw [q]
            exact pt_rule hS ih (by omega) edp up1_eq (hpu 40) (by omega) (by omega) ⟨hA.1, q⟩ hfail (fun J2 V2 k1 k2 k3 k4 => hsucc J2 V2 k1 (ps_Zc k2 (fun i hi => up1_ne (by omega))) k3 k4)
        simp only [q202_60, q202_61, q202_62, q202_65, q202_66, q202_69, q202_70, q202_73, q202_74, q202_77, q202_78, q202_81, q202_84, q202_85, q202_86, q202_89, q202_90, q202_91, q202_94, q202_95, q202_98, q202_99, q202_102, q202_103, q202_104, q202_105, q202_106, q202_109, q202_110, q202_111, q202_114, q202_115, q202_116, q202_119, q202_120, q202_121, q202_124, q202_329, m_0 hS, m_K hS, mR_signs hS, mK_signs hS, mL_signs hS, as_nil, as_i, as_r, Nat.reduceAdd, Nat.reduceLeDiff, z_eq0, z_eq1, z_or, z_em, Classical.not_not, not_false_eq_true, not_true_eq_false, true_and, and_true, false_and, and_false, and_self, true_implies, false_implies, implies_true, Option.toList_some, Option.toList_none, List.cons_append, List.nil_append, Nat.add_eq_zero_iff, a_nl_i, a_nl_r, a_nl_n, true_or, or_true, eq_self, ok_4, ok_5, ok_6, ok_7, ok_9, ok_10, ok_20, ok_21, ok_24, ok_30, ok_48, ok_50, ok_60, ok_80, ok_120, ok_180, ok_192, ok_200, ok_900, ok_1000, ok_84000, ui_ap, ne_MM, ne_M0, ne_0M, Nat.reduceEqDiff, reduceIte, if_true, if_false, es, nd4, er]
        try simp only [true_and, and_true, true_implies, false_implies, implies_true, not_true_eq_false, not_false_eq_true]
        first
          | exact hgo
          | grind
      rw [hvJ, if_pos hA.1]
      have hA2 := hA.2
      generalize f a.toNatClampNeg = g at hA2 h60 ⊢
      clear h hfail hsucc hT hE hvJ hA hpu ih
      simp only [q202_43, q202_44, q202_45, q202_48, q202_49, q202_51, q202_54, q202_55, q202_57, as_nil, as_i, as_r, Nat.reduceAdd, Nat.reduceLeDiff, z_eq0, z_eq1, z_or, z_em, Classical.not_not, not_false_eq_true, not_true_eq_false, true_and, and_true, false_and, and_false, and_self, true_implies, false_implies, implies_true, Option.toList_some, Option.toList_none, List.cons_append, List.nil_append, Nat.add_eq_zero_iff, a_nl_i, a_nl_r, a_nl_n, true_or, or_true, eq_self, ok_4, ok_5, ok_6, ok_7, ok_9, ok_10, ok_20, ok_21, ok_24, ok_30, ok_48, ok_50, ok_60, ok_80, ok_120, ok_180, ok_192, ok_200, ok_900, ok_1000, ok_84000, n10]
      grind
    · have hpart := xP_c (z := z + 1) hA
      have h131 := fun c => pt_test (c := c) hS hpart h hm hfail hsucc
      rw [hvJ]
      have hg : ¬ ((if a < e then f a.toNatClampNeg else -1) = 33) ∧ ¬ ((if a < e then f a.toNatClampNeg else -1) = 40) := by
        by_cases l : a < e
        · rw [if_pos l]
          exact ⟨fun q => hA ⟨l, Or.inl q⟩, fun q => hA ⟨l, Or.inr q⟩⟩
        · rw [if_neg l]
          decide
      have h131 := h131 (some (.int (if a < e then f a.toNatClampNeg else -1)))
      generalize (if a < e then f a.toNatClampNeg else -1) = g at hg h131 ⊢
      clear h hfail hsucc ih hT hE hvJ hA hpart
      simp only [q202_43, q202_44, q202_45, q202_48, q202_49, q202_51, q202_54, q202_55, q202_57, q202_127, q202_128, as_nil, as_i, as_r, Nat.reduceAdd, Nat.reduceLeDiff, z_eq0, z_eq1, z_or, z_em, Classical.not_not, not_false_eq_true, not_true_eq_false, true_and, and_true, false_and, and_false, and_self, true_implies, false_implies, implies_true, Option.toList_some, Option.toList_none, List.cons_append, List.nil_append, Nat.add_eq_zero_iff, a_nl_i, a_nl_r, a_nl_n, true_or, or_true, eq_self, ok_4, ok_5, ok_6, ok_7, ok_9, ok_10, ok_20, ok_21, ok_24, ok_30, ok_48, ok_50, ok_60, ok_80, ok_120, ok_180, ok_192, ok_200, ok_900, ok_1000, ok_84000, n10, hg]
      first
        | exact h131
        | grind
end XD
end
section
/-! the reference: readRule, just so -/
section XE
variable {d n t M : Nat} {K L : Nat → Nat} {I I0 J J0 J1 J2 : Nat → Nat → Int32} {R : Nat → Nat → Nat} {P : Option Value → AH → Prop} {f : Nat → Int32} {e : Int32}
variable {fc : Nat → Int32} {a : Int32}
theorem xe_readRule (hS : m_S M K L R) (hC : mC M I0 I) (hvw : vw M I f e) (hfc : ∀ j, I (M + 32) j = fc j) (hat : I M 49 = a) (ha : 0 ≤ a ∧ a ≤ e) (hb : I M 50 = 0) (hP : ∀ J, xz M I0 J f fc e (xR f e a).2.1 (if (xR f e a).1 = true ∧ (xR f e a).2.1 = e then 0 else 1) → P (some (.int (if (xR f e a).1 = true ∧ (xR f e a).2.1 = e then (xR f e a).2.2 fc else 0))) (n, t, K, L, J, R)) : a_does (d + 5) 202 [a_rf M] (n, t, K, L, I, R) P := by
  have hV := fun (V Z : Nat → Int32) => (⟨sC_signMany (sC_valueMany (sC_deep hC)), vw_fr hvw (fun x j p q r => by rw [ui_ap, if_neg (by omega), ui_ap, if_neg (by omega), ui_ap, if_neg (by omega)]), fun j => by rw [ui_ap, if_neg (by omega), ui_ap, if_neg (by omega), ui_ap, if_neg (by omega)]; exact hfc j, by rw [ui_ap, if_neg (by omega), ui_ap, if_neg (by omega), ui_ap, if_neg (by omega)]; exact hat, ha, by rw [ui_ap, if_neg (by omega), ui_ap, if_neg (by omega), ui_ap, if_neg (by omega)]; exact hb, by rw [ui_ap, if_neg (by omega), ui_ap, if_neg (by omega), ui_ap, if_pos ⟨rfl, rfl⟩], by rw [ui_ap, if_neg (by omega), ui_ap, if_pos ⟨rfl, rfl⟩]; rfl, by rw [ui_ap, if_pos ⟨rfl, rfl⟩]; rfl, by omega, fun i hi => by omega, fun i hi => by omega⟩ : ps M I0 (a_ui (a_ui (a_ui I M 51 0) M 54 0) M 56 0) f fc e a 0 0 0 0 V Z)
  rw [a_enter1 (M := a_m202) rfl (a_cat_rf a_cat_nil) (show 1 ≤ 3 by decide)]
  show a_at _ (a_xm a_m202) 0 [some (a_rf M), none, none] [] _ _
  simp only [q202_0, q202_1, q202_2, q202_5, q202_6, q202_7, q202_10, q202_11, q202_12, q202_15, q202_16, m_0 hS, m_K hS, as_nil, as_i, as_r, Nat.reduceAdd, Nat.reduceLeDiff, z_eq0, z_eq1, z_or, z_em, Classical.not_not, not_false_eq_true, not_true_eq_false, true_and, and_true, false_and, and_false, and_self, true_implies, false_implies, implies_true, Option.toList_some, Option.toList_none, List.cons_append, List.nil_append, Nat.add_eq_zero_iff, a_nl_i, a_nl_r, a_nl_n, true_or, or_true, eq_self, ok_4, ok_5, ok_6, ok_7, ok_9, ok_10, ok_20, ok_21, ok_24, ok_30, ok_48, ok_50, ok_60, ok_80, ok_120, ok_180, ok_192, ok_200, ok_900, ok_1000, ok_84000]
  refine ru_rule (d := d) (z := 4) (W := (xR f e a)) (pt_all hS 4) hS (Or.inl rfl) (by decide) (hV (fun _ => 0) (fun _ => 0)) (Nat.zero_le _) (Nat.zero_le _) rfl ⟨fun J' k1 k2 => ?_, fun J' o0 o1 o2 cur k1 k2 k3 k4 c => ?_⟩
  · have hn : ¬ ((xR f e a).1 = true ∧ (xR f e a).2.1 = e) := fun w => by rw [k1] at w; exact absurd w.1 (by decide)
    have hp := hP J' (by rw [if_neg hn]; exact k2)
    rw [if_neg hn] at hp
    exact hp
  · refine ru_head0 hS k2 k4 (fun l => ?_) (fun l => ?_)
    · refine ru_246 hS (Or.inl rfl) k2 (fun J2 V2 q1 q2 q3 => ?_)
      have hn : ¬ ((xR f e a).1 = true ∧ (xR f e a).2.1 = e) := fun w => by rw [w.2] at l; exact absurd l Int32.lt_irrefl
      have hp := hP (a_ui J2 M 50 1) (by rw [if_neg hn]; exact ⟨sC_isBad (ps_mC q1), vw_fr (ps_vw q1) (fun x j p q r => by rw [ui_ap, if_neg (by omega)]), fun j => by rw [ui_ap, if_neg (by omega)]; exact ps_fc q1 j, by rw [ui_ap, if_neg (by omega)]; exact ps_at q1, by rw [ui_ap, if_pos ⟨rfl, rfl⟩]⟩)
      rw [if_neg hn] at hp
      have hh := ru_bad (d := d) (J := a_ui J2 M 50 1) (w := some (.int 0)) (c := some (.int (f (xR f e a).2.1.toNatClampNeg))) hS (by rw [ui_ap, if_pos ⟨rfl, rfl⟩]; decide) hp
      have hsm : J2 M 56 = 0 := ps_sm q1
      have n1 : ¬ (1 : Int32) = 0 := by decide
      have n2 : ¬ (0 : Int32) = 40 := by decide
      by_cases c41 : f (xR f e a).2.1.toNatClampNeg = 41
      · simp only [q202_264, q202_265, q202_266, q202_268, q202_271, q202_272, q202_275, q202_277, q202_280, q202_281, q202_284, q202_285, q202_288, q202_289, q202_292, q202_329, m_0 hS, m_K hS, sp_topSign hS, as_nil, as_i, as_r, Nat.reduceAdd, Nat.reduceLeDiff, z_eq0, z_eq1, z_or, z_em, Classical.not_not, not_false_eq_true, not_true_eq_false, true_and, and_true, false_and, and_false, and_self, true_implies, false_implies, implies_true, Option.toList_some, Option.toList_none, List.cons_append, List.nil_append, Nat.add_eq_zero_iff, a_nl_i, a_nl_r, a_nl_n, true_or, or_true, eq_self, ok_4, ok_5, ok_6, ok_7, ok_9, ok_10, ok_20, ok_21, ok_24, ok_30, ok_48, ok_50, ok_60, ok_80, ok_120, ok_180, ok_192, ok_200, ok_900, ok_1000, ok_84000, ui_ap, ne_MM, ne_M0, ne_0M, Nat.reduceEqDiff, reduceIte, if_true, if_false, c41, hsm, n1, n2] at hh ⊢
        first
          | exact hh
          | grind
      · simp only [q202_264, q202_265, q202_266, q202_268, q202_271, q202_272, q202_275, q202_277, q202_280, q202_281, q202_284, q202_285, q202_288, q202_289, q202_292, q202_329, m_0 hS, m_K hS, sp_topSign hS, as_nil, as_i, as_r, Nat.reduceAdd, Nat.reduceLeDiff, z_eq0, z_eq1, z_or, z_em, Classical.not_not, not_false_eq_true, not_true_eq_false, true_and, and_true, false_and, and_false, and_self, true_implies, false_implies, implies_true, Option.toList_some, Option.toList_none, List.cons_append, List.nil_append, Nat.add_eq_zero_iff, a_nl_i, a_nl_r, a_nl_n, true_or, or_true, eq_self, ok_4, ok_5, ok_6, ok_7, ok_9, ok_10, ok_20, ok_21, ok_24, ok_30, ok_48, ok_50, ok_60, ok_80, ok_120, ok_180, ok_192, ok_200, ok_900, ok_1000, ok_84000, ui_ap, ne_MM, ne_M0, ne_0M, Nat.reduceEqDiff, reduceIte, if_true, if_false, c41, hsm, n1, n2] at hh ⊢
        first
          | exact hh
          | grind
    · refine ru_339 hS (Or.inl rfl) k2 (fun J2 V2 q1 q2 q3 => ?_)
      have hy : (xR f e a).1 = true ∧ (xR f e a).2.1 = e := ⟨k1, l⟩
      have hp := hP (a_ui J2 M 50 0) (by rw [if_pos hy]; exact ⟨sC_isBad (ps_mC q1), vw_fr (ps_vw q1) (fun x j p q r => by rw [ui_ap, if_neg (by omega)]), fun j => by rw [ui_ap, if_neg (by omega)]; exact ps_fc q1 j, by rw [ui_ap, if_neg (by omega)]; exact ps_at q1, by rw [ui_ap, if_pos ⟨rfl, rfl⟩]⟩)
      rw [if_pos hy, ← k3, ← q3] at hp
      have hsm : J2 M 56 = 0 := ps_sm q1
      have n0 : (0 : Int32) ≤ 0 := by decide
      have n1 : ¬ (1 : Int32) = 0 := by decide
      obtain ⟨v1, v2⟩ := ps_V q1 0 (by decide)
      have hv : a_ui J2 M 50 0 (M + 33) 0 = V2 0 := by rw [ui_ap, if_neg (by omega)]; exact v1
      have ok0 : (0 : Int32) ≤ 0 ∧ (0 : Int32) < 60 := by decide
      have zn : (0 : Int32).toNatClampNeg = 0 := rfl
      clear hP q1 k2 hV
      rcases v2 with v2 | v2
      · rw [v2] at hp hv
        simp only [q202_357, q202_358, q202_359, q202_362, q202_365, q202_366, q202_369, q202_370, q202_373, q202_374, q202_377, q202_380, q202_381, q202_384, q202_385, q202_386, q202_389, q202_390, q202_393, q202_394, m_0 hS, m_K hS, mR_values hS, mK_values hS, mL_values hS, as_nil, as_i, as_r, Nat.reduceAdd, Nat.reduceLeDiff, z_eq0, z_eq1, z_or, z_em, Classical.not_not, not_false_eq_true, not_true_eq_false, true_and, and_true, false_and, and_false, and_self, true_implies, false_implies, implies_true, Option.toList_some, Option.toList_none, List.cons_append, List.nil_append, Nat.add_eq_zero_iff, a_nl_i, a_nl_r, a_nl_n, true_or, or_true, eq_self, ok_4, ok_5, ok_6, ok_7, ok_9, ok_10, ok_20, ok_21, ok_24, ok_30, ok_48, ok_50, ok_60, ok_80, ok_120, ok_180, ok_192, ok_200, ok_900, ok_1000, ok_84000, ui_ap, ne_MM, ne_M0, ne_0M, Nat.reduceEqDiff, reduceIte, if_true, if_false, hsm, n0, zn, v1, v2]
        grind
      · rw [v2] at hp hv
        simp only [q202_357, q202_358, q202_359, q202_362, q202_365, q202_366, q202_369, q202_370, q202_373, q202_374, q202_377, q202_380, q202_381, q202_384, q202_385, q202_386, q202_389, q202_390, q202_393, q202_394, m_0 hS, m_K hS, mR_values hS, mK_values hS, mL_values hS, as_nil, as_i, as_r, Nat.reduceAdd, Nat.reduceLeDiff, z_eq0, z_eq1, z_or, z_em, Classical.not_not, not_false_eq_true, not_true_eq_false, true_and, and_true, false_and, and_false, and_self, true_implies, false_implies, implies_true, Option.toList_some, Option.toList_none, List.cons_append, List.nil_append, Nat.add_eq_zero_iff, a_nl_i, a_nl_r, a_nl_n, true_or, or_true, eq_self, ok_4, ok_5, ok_6, ok_7, ok_9, ok_10, ok_20, ok_21, ok_24, ok_30, ok_48, ok_50, ok_60, ok_80, ok_120, ok_180, ok_192, ok_200, ok_900, ok_1000, ok_84000, ui_ap, ne_MM, ne_M0, ne_0M, Nat.reduceEqDiff, reduceIte, if_true, if_false, hsm, n0, zn, v1, v2, n1]
        grind
end XE
/-! the reference: feed, just so -/
section XF
variable {d n t M : Nat} {K L : Nat → Nat} {I I0 J J0 J1 J2 : Nat → Nat → Int32} {R : Nat → Nat → Nat} {P : Option Value → AH → Prop} {f : Nat → Int32} {e : Int32}
def bX (w : Int64) (k : Int32) : Int32 := ((w >>> ((8 * k).toInt64 &&& 63)) &&& 255).toInt32
/-- a row with k bytes of w from t0 on -/
def byP (g g0 : Nat → Int32) (w : Int64) (t0 k : Int32) : Prop := ∀ j, g j = if t0.toNatClampNeg ≤ j ∧ j < (t0 + k).toNatClampNeg then bX w (Int32.ofNat (j - t0.toNatClampNeg)) else g0 j
theorem byP_0 {g0 : Nat → Int32} {w : Int64} {t0 : Int32} : byP g0 g0 w t0 0 := fun j => by
  rw [Int32.add_zero, if_neg (by omega)]
theorem byP_s {g g0 g1 : Nat → Int32} {w : Int64} {t0 k : Int32} (h : byP g g0 w t0 k) (h0 : 0 ≤ t0 ∧ t0 ≤ 50) (hk : 0 ≤ k ∧ k ≤ 8) (h1 : ∀ j, g1 j = if j = (t0 + k).toNatClampNeg then bX w k else g j) : byP g1 g0 w t0 (k + 1) := fun j => by
  have e0 := Int32.le_iff_toInt_le.mp h0.1
  have e1 := Int32.le_iff_toInt_le.mp h0.2
  have e2 := Int32.le_iff_toInt_le.mp hk.1
  have e3 := Int32.le_iff_toInt_le.mp hk.2
  have z0 : (0 : Int32).toInt = 0 := rfl
  have z1 : (1 : Int32).toInt = 1 := rfl
  have z8 : (8 : Int32).toInt = 8 := rfl
  have z50 : (50 : Int32).toInt = 50 := rfl
  have k1 : (k + 1).toInt = k.toInt + 1 := by rw [ti_add (by omega)]; omega
  have t1 : (t0 + k).toInt = t0.toInt + k.toInt := by rw [ti_add (by omega)]
  have t2 : (t0 + (k + 1)).toInt = t0.toInt + k.toInt + 1 := by rw [ti_add (by omega)]; omega
  have n1 : (t0 + k).toNatClampNeg = (t0 + k).toInt.toNat := rfl
  have n2 : (t0 + (k + 1)).toNatClampNeg = (t0 + (k + 1)).toInt.toNat := rfl
  have n0 : t0.toNatClampNeg = t0.toInt.toNat := rfl
  rw [h1, h]
  by_cases c : j = (t0 + k).toNatClampNeg
  · rw [if_pos c, if_pos (by omega)]
    have : Int32.ofNat (j - t0.toNatClampNeg) = k := by
      rw [on_cl hk.1]
      congr 1
      have n3 : k.toNatClampNeg = k.toInt.toNat := rfl
      omega
    rw [this]
  · rw [if_neg c]
    by_cases c2 : t0.toNatClampNeg ≤ j ∧ j < (t0 + k).toNatClampNeg
    · rw [if_pos c2, if_pos (by omega)]
    · rw [if_neg c2, if_neg (by omega)]
theorem lx_feed_39 (hS : m_S M K L R) {m t0 : Int32} {w : Int64} (h0 : 0 ≤ t0) (h1 : 1 ≤ m ∧ m ≤ 8) (h2 : t0 + m ≤ 50) (h3 : t0 ≤ 50) (hP : ∀ J, mR M J → (∀ x j, ¬ x = (M + 27) → ¬ (x = M ∧ j = 40) → J x j = I x j) → J M 40 = t0 + m → byP (J (M + 27)) (I (M + 27)) w t0 m → P (some (.int (t0 + m))) (n, t, K, L, J, R)) : ∀ k : Int32, k ≤ 8 → ∀ J, 0 ≤ k → k ≤ m → mR M J → (∀ x j, ¬ x = (M + 27) → ¬ (x = M ∧ j = 40) → J x j = I x j) → J M 40 = t0 + k → byP (J (M + 27)) (I (M + 27)) w t0 k → a_at d (a_xm a_m200) 39 [some (a_rf M), some (.int m), some (.long w), none, some (.int k)] [] (n, t, K, L, J, R) P := by
  refine up_ind 8 (fun k hk ih => ?_)
  intro J q0 q1 hRJ hF q2 hB
  have hend : ¬ k < m → P (some (.int (J M 40))) (n, t, K, L, J, R) := fun e => by
    have : k = m := by clear ih hP hF hB; grind
    subst this
    have hp := hP J hRJ hF q2 hB
    rw [q2]
    exact hp
  have hgo : k < m → a_at d (a_xm a_m200) 39 [some (a_rf M), some (.int m), some (.long w), none, some (.int (k + 1))] [] (n, t, K, L, (a_ui (a_ui J (M + 27) (J M 40).toNatClampNeg (bX w k)) M 40 (J M 40 + 1)), R) P := fun e => by
    refine ih (by clear ih hP hF hB; grind) _ (by clear ih hP hF hB; grind) (by clear ih hP hF hB; grind) (sR_tapeMany (sR_tape hRJ) (by rw [q2]; clear ih hP hF hB; grind)) (fun x j p r => by rw [ui_ap, if_neg r, ui_ap, if_neg (fun z => p z.1)]; exact hF x j p r) (by rw [ui_ap, if_pos ⟨rfl, rfl⟩, q2, Int32.add_assoc]) (byP_s hB ⟨h0, h3⟩ ⟨q0, hk⟩ (fun j => by rw [ui_ap, if_neg (by omega), ui_ap, q2]; simp only [true_and]))
  have g : 0 ≤ J M 40 ∧ (k < m → J M 40 < 50) := by rw [q2]; clear ih hP hF hB hend hgo; grind
  clear ih hP hF hB q2
  rw [q200_39]
  unfold bX at hgo
  simp only [q200_41, q200_42, q200_45, q200_46, q200_49, q200_50, q200_53, q200_54, q200_56, q200_58, q200_59, q200_60, q200_63, q200_64, q200_65, q200_66, q200_67, q200_68, q200_71, q200_72, q200_73, q200_76, q200_79, q200_82, q200_83, q200_86, m_0 hS, m_K hS, mR_tape hS, mK_tape hS, mL_tape hS, as_nil, as_i, as_r, Nat.reduceAdd, Nat.reduceLeDiff, z_eq0, z_eq1, z_or, z_em, Classical.not_not, not_false_eq_true, not_true_eq_false, true_and, and_true, false_and, and_false, and_self, true_implies, false_implies, implies_true, Option.toList_some, Option.toList_none, List.cons_append, List.nil_append, Nat.add_eq_zero_iff, a_nl_i, a_nl_r, a_nl_n, true_or, or_true, eq_self, ok_4, ok_5, ok_6, ok_7, ok_9, ok_10, ok_20, ok_21, ok_24, ok_30, ok_48, ok_50, ok_60, ok_80, ok_120, ok_180, ok_192, ok_200, ok_900, ok_1000, ok_84000, ui_ap, ne_MM, ne_M0, ne_0M, Nat.reduceEqDiff, reduceIte, if_true, if_false]
  clear hS
  grind
theorem pe_feed (hS : m_S M K L R) (hR : mR M I) {m : Int32} {w : Int64} (hb : 0 ≤ I M 40 ∧ I M 40 ≤ 50) (h1 : m < 1 → P (some (.int (-4))) (n, t, K, L, (a_ui I (M + 23) 4 (I (M + 23) 4 + 1)), R)) (h2 : ¬ m < 1 → (8 < m ∨ 50 < I M 40 + m) → P (some (.int (-6))) (n, t, K, L, (a_ui I (M + 23) 6 (I (M + 23) 6 + 1)), R)) (hP : ¬ m < 1 → ¬ (8 < m ∨ 50 < I M 40 + m) → ∀ J, mR M J → (∀ x j, ¬ x = (M + 27) → ¬ (x = M ∧ j = 40) → J x j = I x j) → J M 40 = I M 40 + m → byP (J (M + 27)) (I (M + 27)) w (I M 40) m → P (some (.int (I M 40 + m))) (n, t, K, L, J, R)) : a_does (d + 16) 200 [a_rf M, .int m, .long w] (n, t, K, L, I, R) P := by
  have hl : ¬ m < 1 → ¬ 8 < m → I M 40 + m ≤ 50 → a_at (d + 15) (a_xm a_m200) 39 [some (a_rf M), some (.int m), some (.long w), none, some (.int 0)] [] (n, t, K, L, I, R) P := fun q1 q2 q3 => by
    refine lx_feed_39 hS hb.1 ⟨Int32.not_lt.mp q1, Int32.not_lt.mp q2⟩ q3 hb.2 (hP q1 (fun z => z.elim q2 (fun z => absurd q3 (Int32.not_le.mpr z)))) 0 (by decide) I (by decide) (by clear h1 h2 hP; grind) hR (fun _ _ _ _ => rfl) (by rw [Int32.add_zero]) byP_0
  have g6 : ¬ m < 1 → (8 < m ∨ ¬ I M 40 + m ≤ 50) → P (some (.int (-6))) (n, t, K, L, (a_ui I (M + 23) 6 (I (M + 23) 6 + 1)), R) := fun q1 q2 => h2 q1 (q2.imp id (fun z => Int32.not_le.mp z))
  clear hP h2
  rw [a_enter (M := a_m200) rfl (by rw [a_len_ril]; decide)]
  show a_at _ (a_xm a_m200) 0 (a_init [a_rf M, .int m, .long w] 5) [] _ _
  rw [a_init_ril]
  simp only [q200_0, q200_1, q200_2, q200_5, q200_6, q200_8, q200_11, q200_12, q200_13, q200_15, q200_18, q200_19, q200_22, q200_23, q200_24, q200_26, q200_29, q200_30, q200_32, q200_35, q200_36, q200_37, m_0 hS, m_K hS, sp_refuse_1 hS, sp_refuse_2 hS, sp_refuse_3 hS, sp_refuse_4 hS, sp_refuse_5 hS, sp_refuse_6 hS, as_nil, as_i, as_r, Nat.reduceAdd, Nat.reduceLeDiff, z_eq0, z_eq1, z_or, z_em, Classical.not_not, not_false_eq_true, not_true_eq_false, true_and, and_true, false_and, and_false, and_self, true_implies, false_implies, implies_true, Option.toList_some, Option.toList_none, List.cons_append, List.nil_append, Nat.add_eq_zero_iff, a_nl_i, a_nl_r, a_nl_n, true_or, or_true, eq_self, ok_4, ok_5, ok_6, ok_7, ok_9, ok_10, ok_20, ok_21, ok_24, ok_30, ok_48, ok_50, ok_60, ok_80, ok_120, ok_180, ok_192, ok_200, ok_900, ok_1000, ok_84000]
  clear hS
  grind
end XF
/-! the reference: text, just so -/
section XG
variable {d n t M : Nat} {K L : Nat → Nat} {I I0 J J0 J1 J2 : Nat → Nat → Int32} {R : Nat → Nat → Nat} {P : Option Value → AH → Prop} {f : Nat → Int32} {e : Int32}
theorem lx_text_186 (hS : m_S M K L R) {s k t0 e : Int32} (he : 0 ≤ e ∧ e ≤ 50) (ht : 0 ≤ t0 ∧ t0 < 20) {J0 : Nat → Nat → Int32} (hR : mR M J0) (h0e : J0 M 48 = e) (h0t : J0 M 41 = t0) (hP : ∀ J, mR M J → (∀ x j, ¬ x = (M + 28) → ¬ x = (M + 29) → ¬ x = (M + 30) → ¬ x = (M + 31) → ¬ (x = M ∧ j = 41) → J x j = J0 x j) → J M 41 = t0 + 1 → (∀ j, J (M + 28) j = if 50 * t0.toNatClampNeg ≤ j ∧ j < 50 * t0.toNatClampNeg + e.toNatClampNeg then J0 (M + 27) (j - 50 * t0.toNatClampNeg) else J0 (M + 28) j) → (∀ j, J (M + 29) j = if j = t0.toNatClampNeg then e else J0 (M + 29) j) → (∀ j, J (M + 30) j = if j = t0.toNatClampNeg then s else J0 (M + 30) j) → (∀ j, J (M + 31) j = if j = t0.toNatClampNeg then 1000000 else J0 (M + 31) j) → P (some (.int (t0 + 1 - 1))) (n, t, K, L, J, R)) : ∀ i : Int32, i ≤ 50 → ∀ J, 0 ≤ i → i ≤ e → mR M J → (∀ x j, ¬ x = (M + 28) → J x j = J0 x j) → (∀ j, J (M + 28) j = if 50 * t0.toNatClampNeg ≤ j ∧ j < 50 * t0.toNatClampNeg + i.toNatClampNeg then J0 (M + 27) (j - 50 * t0.toNatClampNeg) else J0 (M + 28) j) → a_at d (a_xm a_m201) 186 [some (a_rf M), some (.int s), some (.int k), some (.int i)] [] (n, t, K, L, J, R) P := by
  refine up_ind 50 (fun i hk ih => ?_)
  intro J q0 q1 hRJ hF hW
  have eE : J M 48 = e := (hF _ _ (by omega)).trans h0e
  have eT : J M 41 = t0 := (hF _ _ (by omega)).trans h0t
  have z0 : (0 : Int32).toInt = 0 := rfl
  have z20 : (20 : Int32).toInt = 20 := rfl
  have z50 : (50 : Int32).toInt = 50 := rfl
  have u0 := Int32.le_iff_toInt_le.mp ht.1
  have u1 := Int32.lt_iff_toInt_lt.mp ht.2
  have u2 := Int32.le_iff_toInt_le.mp q0
  have u3 := Int32.le_iff_toInt_le.mp hk
  have n0 : t0.toNatClampNeg = t0.toInt.toNat := rfl
  have ni : i.toNatClampNeg = i.toInt.toNat := rfl
  have t1 : (50 * t0).toInt = 50 * t0.toInt := by
    rw [Int32.toInt_mul, z50]
    simp only [Int.bmod_def]
    omega
  have t2 : (50 * t0 + i).toInt = 50 * t0.toInt + i.toInt := by rw [ti_add (by omega), t1]
  have n2 : (50 * t0 + i).toNatClampNeg = 50 * t0.toNatClampNeg + i.toNatClampNeg := by
    show (50 * t0 + i).toInt.toNat = _
    rw [t2]
    omega
  have hend : ¬ i < e → a_at d (a_xm a_m201) 220 [some (a_rf M), some (.int s), some (.int k), some (.int i)] [] (n, t, K, L, J, R) P := fun w => by
    have ie : i = e := by clear ih hP hF hW hRJ hR; grind
    have hp := hP (a_ui (a_ui (a_ui (a_ui J (M + 29) t0.toNatClampNeg e) (M + 30) t0.toNatClampNeg s) (M + 31) t0.toNatClampNeg 1000000) M 41 (t0 + 1)) (sR_texts (sR_struckFrom (sR_textFrom (sR_writtenMany hRJ he))) (by clear ih hP hF hW hRJ hR; grind)) (fun x j p1 p2 p3 p4 p5 => by rw [ui_ap, if_neg p5, ui_ap, if_neg (fun z => p4 z.1), ui_ap, if_neg (fun z => p3 z.1), ui_ap, if_neg (fun z => p2 z.1)]; exact hF x j p1) (by rw [ui_ap, if_pos ⟨rfl, rfl⟩]) (fun j => by rw [ui_ap, if_neg (by omega), ui_ap, if_neg (by omega), ui_ap, if_neg (by omega), ui_ap, if_neg (by omega), hW, ie]) (fun j => by
        rw [ui_ap, if_neg (by omega), ui_ap, if_neg (by omega), ui_ap, if_neg (by omega), ui_ap, hF _ _ (by omega)]
        simp only [true_and]) (fun j => by
        rw [ui_ap, if_neg (by omega), ui_ap, if_neg (by omega), ui_ap, ui_ap, if_neg (by omega : ¬ ((M + 30) = (M + 29) ∧ _)), hF _ _ (by omega)]
        simp only [true_and]) (fun j => by
        rw [ui_ap, if_neg (by omega), ui_ap, ui_ap, if_neg (by omega : ¬ ((M + 31) = (M + 30) ∧ _)), ui_ap, if_neg (by omega : ¬ ((M + 31) = (M + 29) ∧ _)), hF _ _ (by omega)]
        simp only [true_and])
    have r20 : 0 ≤ t0 ∧ t0 < 20 := ht
    clear ih hP hF hW hRJ hR
    simp only [q201_220, q201_221, q201_224, q201_225, q201_228, q201_229, q201_232, q201_233, q201_234, q201_237, q201_238, q201_241, q201_242, q201_243, q201_244, q201_247, q201_248, q201_251, q201_254, q201_255, q201_256, q201_257, q201_260, q201_261, q201_262, q201_265, q201_266, q201_269, q201_270, q201_271, m_0 hS, m_K hS, mR_writtenMany hS, mK_writtenMany hS, mL_writtenMany hS, mR_textFrom hS, mK_textFrom hS, mL_textFrom hS, mR_struckFrom hS, mK_struckFrom hS, mL_struckFrom hS, as_nil, as_i, as_r, Nat.reduceAdd, Nat.reduceLeDiff, z_eq0, z_eq1, z_or, z_em, Classical.not_not, not_false_eq_true, not_true_eq_false, true_and, and_true, false_and, and_false, and_self, true_implies, false_implies, implies_true, Option.toList_some, Option.toList_none, List.cons_append, List.nil_append, Nat.add_eq_zero_iff, a_nl_i, a_nl_r, a_nl_n, true_or, or_true, eq_self, ok_4, ok_5, ok_6, ok_7, ok_9, ok_10, ok_20, ok_21, ok_24, ok_30, ok_48, ok_50, ok_60, ok_80, ok_120, ok_180, ok_192, ok_200, ok_900, ok_1000, ok_84000, ui_ap, ne_MM, ne_M0, ne_0M, Nat.reduceEqDiff, reduceIte, if_true, if_false, eE, eT, r20]
    try simp only [true_and, and_true]
    first
      | exact hp
      | grind
  have hgo : i < e → a_at d (a_xm a_m201) 186 [some (a_rf M), some (.int s), some (.int k), some (.int (i + 1))] [] (n, t, K, L, (a_ui J (M + 28) (50 * t0 + i).toNatClampNeg (J (M + 27) i.toNatClampNeg)), R) P := fun w => by
    have ei : (i + 1).toNatClampNeg = i.toNatClampNeg + 1 := cl_up q0 (by clear ih hP hF hW hRJ hR; grind)
    refine ih (by clear ih hP hF hW hRJ hR; grind) _ (by clear ih hP hF hW hRJ hR; grind) (by clear ih hP hF hW hRJ hR; grind) (sR_written hRJ) (fun x j p => by rw [ui_ap, if_neg (fun z => p z.1)]; exact hF x j p) (fun j => ?_)
    rw [ui_ap, n2, ei, hF (M + 27) _ (by omega)]
    by_cases c : j = 50 * t0.toNatClampNeg + i.toNatClampNeg
    · rw [if_pos ⟨rfl, c⟩, if_pos (by omega), c]
      congr 1
      omega
    · rw [if_neg (fun z => c z.2), hW]
      by_cases c2 : 50 * t0.toNatClampNeg ≤ j ∧ j < 50 * t0.toNatClampNeg + i.toNatClampNeg
      · rw [if_pos c2, if_pos (by omega)]
      · rw [if_neg c2, if_neg (by omega)]
  have hok : i < e → (0 ≤ 50 * t0 + i ∧ 50 * t0 + i < 1000) ∧ (0 ≤ i ∧ i < 50) := fun w => by
    have u4 := Int32.lt_iff_toInt_lt.mp w
    have u5 := Int32.le_iff_toInt_le.mp he.2
    have z1000 : (1000 : Int32).toInt = 1000 := rfl
    rw [Int32.le_iff_toInt_le, Int32.lt_iff_toInt_lt, t2]
    refine ⟨by omega, q0, ?_⟩
    rw [Int32.lt_iff_toInt_lt]
    omega
  clear ih hP hF hW hRJ hR
  rw [q201_186]
  simp only [q201_187, q201_188, q201_191, q201_194, q201_195, q201_198, q201_200, q201_201, q201_204, q201_205, q201_206, q201_207, q201_208, q201_211, q201_212, q201_213, q201_214, q201_217, m_0 hS, m_K hS, mR_written hS, mK_written hS, mL_written hS, mR_tape hS, mK_tape hS, mL_tape hS, as_nil, as_i, as_r, Nat.reduceAdd, Nat.reduceLeDiff, z_eq0, z_eq1, z_or, z_em, Classical.not_not, not_false_eq_true, not_true_eq_false, true_and, and_true, false_and, and_false, and_self, true_implies, false_implies, implies_true, Option.toList_some, Option.toList_none, List.cons_append, List.nil_append, Nat.add_eq_zero_iff, a_nl_i, a_nl_r, a_nl_n, true_or, or_true, eq_self, ok_4, ok_5, ok_6, ok_7, ok_9, ok_10, ok_20, ok_21, ok_24, ok_30, ok_48, ok_50, ok_60, ok_80, ok_120, ok_180, ok_192, ok_200, ok_900, ok_1000, ok_84000, eE, eT]
  clear hS
  grind
theorem pe_text (hS : m_S M K L R) (hR : mR M I) {s : Int32} (h1 : ¬ (0 ≤ s ∧ s ≤ 199) → P (some (.int (-1))) (n, t, K, L, (a_ui I (M + 23) 1 (I (M + 23) 1 + 1)), R)) (h2 : (0 ≤ s ∧ s ≤ 199) → I M 41 = 20 → P (some (.int (-6))) (n, t, K, L, (a_ui I (M + 23) 6 (I (M + 23) 6 + 1)), R)) (h3 : (0 ≤ s ∧ s ≤ 199) → ¬ I M 41 = 20 → (xT (I (M + 27)) (I M 40)).1 = false → ∀ J, mR M J → (∀ x j, ¬ sC M x j → ¬ x = (M + 28) → ¬ x = (M + 29) → ¬ x = (M + 30) → ¬ x = (M + 31) → ¬ (x = M ∧ (j = 40 ∨ j = 41)) → J x j = I x j) → J M 40 = 0 → J M 41 = I M 41 → (∀ x j, (x = (M + 28) ∨ x = (M + 29) ∨ x = (M + 30) ∨ x = (M + 31)) → J x j = I x j) → P (some (.int (-20 - (xT (I (M + 27)) (I M 40)).2.1))) (n, t, K, L, J, R)) (h4 : (0 ≤ s ∧ s ≤ 199) → ¬ I M 41 = 20 → (xT (I (M + 27)) (I M 40)).1 = true → ∀ J, mR M J → (∀ x j, ¬ sC M x j → ¬ x = (M + 28) → ¬ x = (M + 29) → ¬ x = (M + 30) → ¬ x = (M + 31) → ¬ (x = M ∧ (j = 40 ∨ j = 41)) → J x j = I x j) → J M 40 = 0 → J M 41 = I M 41 + 1 → (∀ j, J (M + 28) j = if 50 * (I M 41).toNatClampNeg ≤ j ∧ j < 50 * (I M 41).toNatClampNeg + (I M 40).toNatClampNeg then I (M + 27) (j - 50 * (I M 41).toNatClampNeg) else I (M + 28) j) → (∀ j, J (M + 29) j = if j = (I M 41).toNatClampNeg then (I M 40) else I (M + 29) j) → (∀ j, J (M + 30) j = if j = (I M 41).toNatClampNeg then s else I (M + 30) j) → (∀ j, J (M + 31) j = if j = (I M 41).toNatClampNeg then 1000000 else I (M + 31) j) → P (some (.int (I M 41 + 1 - 1))) (n, t, K, L, J, R)) : a_does (d + 16) 201 [a_rf M, .int s] (n, t, K, L, I, R) P := by
  have gT := rg_tapeMany hR
  have gX := rg_texts hR
  have gB := rg_base hR
  by_cases hs : 0 ≤ s ∧ s ≤ 199
  · by_cases hx : I M 41 = 20
    · have h2 := h2 hs hx
      clear h1 h3 h4
      rw [a_enter1 (M := a_m201) rfl (a_cat_rf (a_cat_int a_cat_nil)) (show 2 ≤ 4 by decide)]
      show a_at _ (a_xm a_m201) 0 [some (a_rf M), some (.int s), none, none] [] _ _
      simp only [q201_0, q201_1, q201_4, q201_7, q201_8, q201_9, q201_12, q201_13, q201_14, q201_17, q201_19, q201_22, q201_23, q201_25, q201_28, m_0 hS, m_K hS, sp_isShift, sp_refuse_1 hS, sp_refuse_2 hS, sp_refuse_3 hS, sp_refuse_4 hS, sp_refuse_5 hS, sp_refuse_6 hS, as_nil, as_i, as_r, Nat.reduceAdd, Nat.reduceLeDiff, z_eq0, z_eq1, z_or, z_em, Classical.not_not, not_false_eq_true, not_true_eq_false, true_and, and_true, false_and, and_false, and_self, true_implies, false_implies, implies_true, Option.toList_some, Option.toList_none, List.cons_append, List.nil_append, Nat.add_eq_zero_iff, a_nl_i, a_nl_r, a_nl_n, true_or, or_true, eq_self, ok_4, ok_5, ok_6, ok_7, ok_9, ok_10, ok_20, ok_21, ok_24, ok_30, ok_48, ok_50, ok_60, ok_80, ok_120, ok_180, ok_192, ok_200, ok_900, ok_1000, ok_84000, hs, hx]
      grind
    · have h3 := h3 hs hx
      have h4 := h4 hs hx
      -- the reader is set
      have hC : mC M (a_ui (a_ui (a_ui (a_ui (a_ui I M 46 0) M 48 (I M 40)) M 40 0) M 50 0) M 49 0) (a_ui (a_ui (a_ui (a_ui (a_ui I M 46 0) M 48 (I M 40)) M 40 0) M 50 0) M 49 0) := mC_refl (sR_at (sR_isBad (sR_tapeMany (sR_end (sR_isTold hR)) (by decide))))
      have hvw : ∀ a, vw M (a_ui (a_ui (a_ui (a_ui (a_ui (a_ui I M 46 0) M 48 (I M 40)) M 40 0) M 50 0) M 49 0) M 49 a) (I (M + 27)) (I M 40) := fun a => ⟨by rw [ui_ap, if_neg (by omega), ui_ap, if_neg (by omega), ui_ap, if_neg (by omega), ui_ap, if_neg (by omega), ui_ap, if_pos ⟨rfl, rfl⟩], gT, by rw [ui_ap, if_neg (by omega), ui_ap, if_neg (by omega), ui_ap, if_neg (by omega), ui_ap, if_neg (by omega), ui_ap, if_neg (by omega), ui_ap, if_neg (by omega)]; exact gB, fun j j0 j1 => by
        rw [show a_ui (a_ui (a_ui (a_ui (a_ui (a_ui I M 46 0) M 48 (I M 40)) M 40 0) M 50 0) M 49 0) M 49 a M 46 = 0 by rw [ui_ap, if_neg (by omega), ui_ap, if_neg (by omega), ui_ap, if_neg (by omega), ui_ap, if_neg (by omega), ui_ap, if_neg (by omega), ui_ap, if_pos ⟨rfl, rfl⟩], if_pos rfl, ui_ap, if_neg (by omega), ui_ap, if_neg (by omega), ui_ap, if_neg (by omega), ui_ap, if_neg (by omega), ui_ap, if_neg (by omega), ui_ap, if_neg (by omega)]⟩
      have hfr : ∀ J, mC M (a_ui (a_ui (a_ui (a_ui (a_ui I M 46 0) M 48 (I M 40)) M 40 0) M 50 0) M 49 0) J → ∀ x j, ¬ sC M x j → ¬ (x = M ∧ j = 40) → J x j = I x j := fun J hJ x j q1 q2 => by
        rw [hJ.2 x j q1]
        unfold sC at q1
        rw [ui_ap, if_neg (by omega), ui_ap, if_neg (by omega), ui_ap, if_neg q2, ui_ap, if_neg (by omega), ui_ap, if_neg (by omega)]
      have hbad : (xT (I (M + 27)) (I M 40)).1 = false → ∀ J, mC M (a_ui (a_ui (a_ui (a_ui (a_ui I M 46 0) M 48 (I M 40)) M 40 0) M 50 0) M 49 0) J → J M 49 = (xT (I (M + 27)) (I M 40)).2.1 → P (some (.int (-20 - J M 49))) (n, t, K, L, J, R) := fun w J hJ hat => by
        rw [hat]
        exact h3 w J hJ.1 (fun x j p p1 p2 p3 p4 p5 => hfr J hJ x j p (by omega)) (by rw [hJ.2 _ _ (by unfold sC; omega), ui_ap, if_neg (by omega), ui_ap, if_neg (by omega), ui_ap, if_pos ⟨rfl, rfl⟩]) (hfr J hJ _ _ (by unfold sC; omega) (by omega)) (fun x j q => hfr J hJ x j (by unfold sC; omega) (by omega))
      have e20 : (-20 : Int32) - 0 = -20 := by decide
      have e21 : (-20 : Int32) - 1 = -21 := by decide
      have c2 : (2 : Int32).toInt = 2 := rfl
      have z1 : (1 : Int32).toNatClampNeg = 1 := rfl
      have z0 : (0 : Int32).toNatClampNeg = 0 := rfl
      have n10 : ¬ (1 : Int32) = 0 := by decide
      have hC1 : mC M (a_ui (a_ui (a_ui (a_ui (a_ui I M 46 0) M 48 (I M 40)) M 40 0) M 50 0) M 49 0) (a_ui (a_ui (a_ui (a_ui (a_ui (a_ui I M 46 0) M 48 (I M 40)) M 40 0) M 50 0) M 49 0) M 49 1) := sC_at hC
      have hC2 : mC M (a_ui (a_ui (a_ui (a_ui (a_ui I M 46 0) M 48 (I M 40)) M 40 0) M 50 0) M 49 0) (a_ui (a_ui (a_ui (a_ui (a_ui (a_ui (a_ui I M 46 0) M 48 (I M 40)) M 40 0) M 50 0) M 49 0) M 49 1) M 49 2) := sC_at hC1
      have b0 : (a_ui (a_ui (a_ui (a_ui (a_ui I M 46 0) M 48 (I M 40)) M 40 0) M 50 0) M 49 0) M 49 = 0 := by rw [ui_ap, if_pos ⟨rfl, rfl⟩]
      have b1 : a_ui (a_ui (a_ui (a_ui (a_ui (a_ui I M 46 0) M 48 (I M 40)) M 40 0) M 50 0) M 49 0) M 49 1 M 49 = 1 := by rw [ui_ap, if_pos ⟨rfl, rfl⟩]
      have b2 : a_ui (a_ui (a_ui (a_ui (a_ui (a_ui (a_ui I M 46 0) M 48 (I M 40)) M 40 0) M 50 0) M 49 0) M 49 1) M 49 2 M 49 = 2 := by rw [ui_ap, if_pos ⟨rfl, rfl⟩]
      have d2 : a_ui (a_ui (a_ui (a_ui (a_ui (a_ui (a_ui I M 46 0) M 48 (I M 40)) M 40 0) M 50 0) M 49 0) M 49 1) M 49 2 M 50 = 0 := by rw [ui_ap, if_neg (by omega), ui_ap, if_neg (by omega), ui_ap, if_neg (by omega), ui_ap, if_pos ⟨rfl, rfl⟩]
      have f2 : ∀ j, a_ui (a_ui (a_ui (a_ui (a_ui (a_ui (a_ui I M 46 0) M 48 (I M 40)) M 40 0) M 50 0) M 49 0) M 49 1) M 49 2 (M + 32) j = I (M + 32) j := fun j => by rw [ui_ap, if_neg (by omega), ui_ap, if_neg (by omega), ui_ap, if_neg (by omega), ui_ap, if_neg (by omega), ui_ap, if_neg (by omega), ui_ap, if_neg (by omega), ui_ap, if_neg (by omega)]
      have w0 : vw M (a_ui (a_ui (a_ui (a_ui (a_ui I M 46 0) M 48 (I M 40)) M 40 0) M 50 0) M 49 0) (I (M + 27)) (I M 40) := ⟨by rw [ui_ap, if_neg (by omega), ui_ap, if_neg (by omega), ui_ap, if_neg (by omega), ui_ap, if_pos ⟨rfl, rfl⟩], gT, by rw [ui_ap, if_neg (by omega), ui_ap, if_neg (by omega), ui_ap, if_neg (by omega), ui_ap, if_neg (by omega), ui_ap, if_neg (by omega)]; exact gB, fun j j0 j1 => by
        rw [show (a_ui (a_ui (a_ui (a_ui (a_ui I M 46 0) M 48 (I M 40)) M 40 0) M 50 0) M 49 0) M 46 = 0 by rw [ui_ap, if_neg (by omega), ui_ap, if_neg (by omega), ui_ap, if_neg (by omega), ui_ap, if_neg (by omega), ui_ap, if_pos ⟨rfl, rfl⟩], if_pos rfl, ui_ap, if_neg (by omega), ui_ap, if_neg (by omega), ui_ap, if_neg (by omega), ui_ap, if_neg (by omega), ui_ap, if_neg (by omega)]⟩
      have wat : ∀ (J : Nat → Nat → Int32) (a : Int32), vw M J (I (M + 27)) (I M 40) → vw M (a_ui J M 49 a) (I (M + 27)) (I M 40) := fun J a h => vw_fr h (fun x j p q r => by rw [ui_ap, if_neg (by omega)])
      have w1 := wat _ 1 w0
      have w2 := wat _ 2 w1
      have hv0 := hv_x w0 (by rw [b0]; decide)
      have hv1 := hv_x w1 (by rw [b1]; decide)
      rw [b0, z0] at hv0
      rw [b1, z1] at hv1
      -- behind the reading
      have hfin : ∀ (J : Nat → Nat → Int32) (k : Int32) (u : Option Value), mC M (a_ui (a_ui (a_ui (a_ui (a_ui I M 46 0) M 48 (I M 40)) M 40 0) M 50 0) M 49 0) J → vw M J (I (M + 27)) (I M 40) → J M 49 = (xT (I (M + 27)) (I M 40)).2.1 → J M 50 = (if (xT (I (M + 27)) (I M 40)).1 = true then 0 else 1) → a_at (d + 15) (a_xm a_m201) 169 [some (a_rf M), some (.int s), some (.int k), u] [] (n, t, K, L, J, R) P := fun J k u hJ hw hat hb => by
        by_cases ok : (xT (I (M + 27)) (I M 40)).1 = true
        · rw [if_pos ok] at hb
          have h186 : ∀ k : Int32, a_at (d + 15) (a_xm a_m201) 186 [some (a_rf M), some (.int s), some (.int k), some (.int 0)] [] (n, t, K, L, J, R) P := fun k => by
            refine lx_text_186 hS gT ⟨gX.1, by clear h3 h4 hbad hfr hC hC1 hC2 w0 w1 w2 wat hR hv0 hv1 hJ hw; grind⟩ hJ.1 hw.1 (hfr J hJ _ _ (by unfold sC; omega) (by omega)) (fun J2 r1 r2 r3 r4 r5 r6 r7 => ?_) 0 (by decide) J (by decide) gT.1 hJ.1 (fun _ _ _ => rfl) (fun j => by rw [if_neg (by rw [z0]; omega)])
            refine h4 ok J2 r1 (fun x j p p1 p2 p3 p4 p5 => (r2 x j p1 p2 p3 p4 (by omega)).trans (hfr J hJ x j p (by omega))) ((r2 _ _ (by omega) (by omega) (by omega) (by omega) (by omega)).trans (by rw [hJ.2 _ _ (by unfold sC; omega), ui_ap, if_neg (by omega), ui_ap, if_neg (by omega), ui_ap, if_pos ⟨rfl, rfl⟩])) r3 (fun j => ?_) (fun j => ?_) (fun j => ?_) (fun j => ?_)
            · rw [r4, hfr J hJ (M + 27) _ (by unfold sC; omega) (by omega), hfr J hJ (M + 28) _ (by unfold sC; omega) (by omega)]
            · rw [r5, hfr J hJ (M + 29) _ (by unfold sC; omega) (by omega)]
            · rw [r6, hfr J hJ (M + 30) _ (by unfold sC; omega) (by omega)]
            · rw [r7, hfr J hJ (M + 31) _ (by unfold sC; omega) (by omega)]
          have h186 := h186 k
          clear h3 h4 hbad hfr hC hC1 hC2 w0 w1 w2 wat hR hv0 hv1 hJ hw
          simp only [q201_169, q201_170, q201_173, q201_184, q201_185, m_0 hS, m_K hS, as_nil, as_i, as_r, Nat.reduceAdd, Nat.reduceLeDiff, z_eq0, z_eq1, z_or, z_em, Classical.not_not, not_false_eq_true, not_true_eq_false, true_and, and_true, false_and, and_false, and_self, true_implies, false_implies, implies_true, Option.toList_some, Option.toList_none, List.cons_append, List.nil_append, Nat.add_eq_zero_iff, a_nl_i, a_nl_r, a_nl_n, true_or, or_true, eq_self, ok_4, ok_5, ok_6, ok_7, ok_9, ok_10, ok_20, ok_21, ok_24, ok_30, ok_48, ok_50, ok_60, ok_80, ok_120, ok_180, ok_192, ok_200, ok_900, ok_1000, ok_84000, hb]
          try simp only [true_and, and_true, true_implies, false_implies, implies_true, not_true_eq_false, not_false_eq_true]
          exact h186
        · have ok2 : (xT (I (M + 27)) (I M 40)).1 = false := by cases q : (xT (I (M + 27)) (I M 40)).1; rfl; exact absurd q ok
          rw [if_neg ok] at hb
          have hp := hbad ok2 J hJ hat
          clear h3 h4 hbad hfr hC hC1 hC2 w0 w1 w2 wat hR hv0 hv1 hJ hw
          simp only [q201_169, q201_170, q201_173, q201_176, q201_178, q201_179, q201_182, q201_183, m_0 hS, m_K hS, as_nil, as_i, as_r, Nat.reduceAdd, Nat.reduceLeDiff, z_eq0, z_eq1, z_or, z_em, Classical.not_not, not_false_eq_true, not_true_eq_false, true_and, and_true, false_and, and_false, and_self, true_implies, false_implies, implies_true, Option.toList_some, Option.toList_none, List.cons_append, List.nil_append, Nat.add_eq_zero_iff, a_nl_i, a_nl_r, a_nl_n, true_or, or_true, eq_self, ok_4, ok_5, ok_6, ok_7, ok_9, ok_10, ok_20, ok_21, ok_24, ok_30, ok_48, ok_50, ok_60, ok_80, ok_120, ok_180, ok_192, ok_200, ok_900, ok_1000, ok_84000, hb, n10]
          first
            | exact hp
            | grind
      -- behind sum or rule, with the FAULT known
      have hset : ∀ (J : Nat → Nat → Int32) (r : rdT) (b : Int32) (k : Int32) (u : Option Value), mC M (a_ui (a_ui (a_ui (a_ui (a_ui I M 46 0) M 48 (I M 40)) M 40 0) M 50 0) M 49 0) J → vw M J (I (M + 27)) (I M 40) → J M 49 = r.2.1 → (xT (I (M + 27)) (I M 40)) = (if r.2.1 = (I M 40) then r else (false, r.2.1, r.2.2)) → b = (if r.1 = true ∧ r.2.1 = (I M 40) then 0 else 1) → a_at (d + 15) (a_xm a_m201) 169 [some (a_rf M), some (.int s), some (.int k), u] [] (n, t, K, L, (a_ui J M 50 b), R) P := fun J r b k u jC jw jat hxt hb => by
        refine hfin _ k u (sC_isBad jC) (vw_fr jw (fun x j p q r => by rw [ui_ap, if_neg (by omega)])) ?_ ?_
        · rw [ui_ap, if_neg (by omega), jat, hxt]
          by_cases c : r.2.1 = (I M 40)
          · rw [if_pos c]
          · rw [if_neg c]
        · rw [ui_ap, if_pos ⟨rfl, rfl⟩, hb, hxt]
          by_cases c : r.2.1 = (I M 40)
          · rw [if_pos c]
            by_cases c1 : r.1 = true
            · rw [if_pos ⟨c1, c⟩, if_pos c1]
            · rw [if_neg (fun z => c1 z.1), if_neg c1]
          · rw [if_neg c, if_neg (fun z => c z.2)]
            rfl
      have nh := fun (J : Nat → Nat → Int32) (w : vw M J (I (M + 27)) (I M 40)) => (by rw [w.1]; exact gT.2 : J M 48 ≤ 50)
      have h83 : 0 < (I M 40) ∧ ((I (M + 27)) 0 = 66 ∨ (I (M + 27)) 0 = 87 ∨ (I (M + 27)) 0 = 79) → a_at (d + 15) (a_xm a_m201) 83 [some (a_rf M), some (.int s), some (.int ((I (M + 27)) 0)), none] [] (n, t, K, L, (a_ui (a_ui (a_ui (a_ui (a_ui I M 46 0) M 48 (I M 40)) M 40 0) M 50 0) M 49 0), R) P := fun cl => by
        simp only [q201_83, q201_84, q201_85, q201_88, q201_89, m_0 hS, m_K hS, as_nil, as_i, as_r, Nat.reduceAdd, Nat.reduceLeDiff, z_eq0, z_eq1, z_or, z_em, Classical.not_not, not_false_eq_true, not_true_eq_false, true_and, and_true, false_and, and_false, and_self, true_implies, false_implies, implies_true, Option.toList_some, Option.toList_none, List.cons_append, List.nil_append, Nat.add_eq_zero_iff, a_nl_i, a_nl_r, a_nl_n, true_or, or_true, eq_self, ok_4, ok_5, ok_6, ok_7, ok_9, ok_10, ok_20, ok_21, ok_24, ok_30, ok_48, ok_50, ok_60, ok_80, ok_120, ok_180, ok_192, ok_200, ok_900, ok_1000, ok_84000, ui_ap, ne_MM, ne_M0, ne_0M, Nat.reduceEqDiff, reduceIte, if_true, if_false]
        refine ct_hereC hS hC1.1 (by rw [b1]; decide) (nh _ w1) ?_
        rw [hv1]
        by_cases c58 : 1 < (I M 40) ∧ (I (M + 27)) 1 = 58
        · have m2 : (2 : Int32) ≤ (I M 40) := by have := c58.1; clear h3 h4 hbad hfr hC hC1 hC2 w0 w1 w2 wat hR hv0 hv1 hfin hset c58 cl; grind
          rw [if_pos c58.1, c58.2]
          by_cases c79 : (I (M + 27)) 0 = 79
          · have hxt : (xT (I (M + 27)) (I M 40)) = if (xS (I (M + 27)) (I M 40) 2).2.1 = (I M 40) then xS (I (M + 27)) (I M 40) 2 else (false, (xS (I (M + 27)) (I M 40) 2).2.1, (xS (I (M + 27)) (I M 40) 2).2.2) := by
              unfold xT
              rw [if_pos cl, if_pos c58, if_pos c79]
            have hub := xS_b (f := (I (M + 27))) m2
            rw [c79]
            simp only [q201_92, q201_94, q201_97, q201_99, q201_100, q201_101, q201_102, q201_105, q201_106, q201_108, q201_111, q201_112, m_0 hS, m_K hS, as_nil, as_i, as_r, Nat.reduceAdd, Nat.reduceLeDiff, z_eq0, z_eq1, z_or, z_em, Classical.not_not, not_false_eq_true, not_true_eq_false, true_and, and_true, false_and, and_false, and_self, true_implies, false_implies, implies_true, Option.toList_some, Option.toList_none, List.cons_append, List.nil_append, Nat.add_eq_zero_iff, a_nl_i, a_nl_r, a_nl_n, true_or, or_true, eq_self, ok_4, ok_5, ok_6, ok_7, ok_9, ok_10, ok_20, ok_21, ok_24, ok_30, ok_48, ok_50, ok_60, ok_80, ok_120, ok_180, ok_192, ok_200, ok_900, ok_1000, ok_84000, ui_ap, ne_MM, ne_M0, ne_0M, Nat.reduceEqDiff, reduceIte, if_true, if_false]
            try simp only [true_and, and_true, true_implies, false_implies, implies_true, not_true_eq_false, not_false_eq_true]
            refine xe_readSum hS hC2.1 w2 (by rw [b2]; exact ⟨by decide, m2⟩) d2 (fun J j1 j2 j3 => ?_)
            rw [b2] at j2 j3 ⊢
            generalize xS (I (M + 27)) (I M 40) 2 = r at j2 j3 hxt hub ⊢
            have jC := mC_T hC2 j1
            have jw := vw_T w2 j1
            have een : J M 48 = (I M 40) := jw.1
            have hs0 := fun k u => hset J r 0 k u jC jw j2 hxt
            have hs1 := fun k u => hset J r 1 k u jC jw j2 hxt
            by_cases ok : r.1 = true ∧ r.2.1 = (I M 40)
            · have hs0 := fun k u => hs0 k u (by rw [if_pos ok])
              rw [if_pos ok.1] at j3
              have hge : ¬ J M 49 < J M 48 := by rw [j2, een, ok.2]; exact Int32.lt_irrefl
              clear h3 h4 hbad hfr hC hC1 hC2 w0 w1 w2 wat hR hv0 hv1 hfin hset hs1 jC jw
              simp only [q201_115, q201_116, q201_117, q201_118, q201_121, q201_124, q201_125, q201_128, q201_129, q201_132, q201_135, q201_136, q201_139, q201_140, q201_143, m_0 hS, m_K hS, as_nil, as_i, as_r, Nat.reduceAdd, Nat.reduceLeDiff, z_eq0, z_eq1, z_or, z_em, Classical.not_not, not_false_eq_true, not_true_eq_false, true_and, and_true, false_and, and_false, and_self, true_implies, false_implies, implies_true, Option.toList_some, Option.toList_none, List.cons_append, List.nil_append, Nat.add_eq_zero_iff, a_nl_i, a_nl_r, a_nl_n, true_or, or_true, eq_self, ok_4, ok_5, ok_6, ok_7, ok_9, ok_10, ok_20, ok_21, ok_24, ok_30, ok_48, ok_50, ok_60, ok_80, ok_120, ok_180, ok_192, ok_200, ok_900, ok_1000, ok_84000, ui_ap, ne_MM, ne_M0, ne_0M, Nat.reduceEqDiff, reduceIte, if_true, if_false, j3, hge]
              try simp only [true_and, and_true, true_implies, false_implies, implies_true, not_true_eq_false, not_false_eq_true]
              first
                | exact hs0 _ _
                | grind
            · have hs1 := fun k u => hs1 k u (by rw [if_neg ok])
              have hbb : ¬ J M 50 = 0 ∨ J M 49 < J M 48 := by
                by_cases c1 : r.1 = true
                · refine Or.inr ?_
                  rw [j2, een]
                  have q1 := hub.2.1
                  have q2 : ¬ r.2.1 = (I M 40) := fun z => ok ⟨c1, z⟩
                  clear h3 h4 hbad hfr hC hC1 hC2 w0 w1 w2 wat hR hv0 hv1 hfin hset hs0 hs1 jC jw hxt ok
                  grind
                · rw [if_neg c1] at j3
                  exact Or.inl (by rw [j3]; decide)
              clear h3 h4 hbad hfr hC hC1 hC2 w0 w1 w2 wat hR hv0 hv1 hfin hset hs0 jC jw j3
              simp only [q201_115, q201_116, q201_117, q201_118, q201_121, q201_124, q201_125, q201_128, q201_129, q201_132, q201_135, q201_136, q201_139, q201_140, q201_143, m_0 hS, m_K hS, as_nil, as_i, as_r, Nat.reduceAdd, Nat.reduceLeDiff, z_eq0, z_eq1, z_or, z_em, Classical.not_not, not_false_eq_true, not_true_eq_false, true_and, and_true, false_and, and_false, and_self, true_implies, false_implies, implies_true, Option.toList_some, Option.toList_none, List.cons_append, List.nil_append, Nat.add_eq_zero_iff, a_nl_i, a_nl_r, a_nl_n, true_or, or_true, eq_self, ok_4, ok_5, ok_6, ok_7, ok_9, ok_10, ok_20, ok_21, ok_24, ok_30, ok_48, ok_50, ok_60, ok_80, ok_120, ok_180, ok_192, ok_200, ok_900, ok_1000, ok_84000, ui_ap, ne_MM, ne_M0, ne_0M, Nat.reduceEqDiff, reduceIte, if_true, if_false]
              grind
          · have hxt : (xT (I (M + 27)) (I M 40)) = if (xR (I (M + 27)) (I M 40) 2).2.1 = (I M 40) then xR (I (M + 27)) (I M 40) 2 else (false, (xR (I (M + 27)) (I M 40) 2).2.1, (xR (I (M + 27)) (I M 40) 2).2.2) := by
              unfold xT
              rw [if_pos cl, if_pos c58, if_neg c79]
            simp only [q201_92, q201_94, q201_97, q201_99, q201_100, q201_101, q201_102, q201_105, q201_106, q201_108, q201_146, q201_147, q201_148, m_0 hS, m_K hS, as_nil, as_i, as_r, Nat.reduceAdd, Nat.reduceLeDiff, z_eq0, z_eq1, z_or, z_em, Classical.not_not, not_false_eq_true, not_true_eq_false, true_and, and_true, false_and, and_false, and_self, true_implies, false_implies, implies_true, Option.toList_some, Option.toList_none, List.cons_append, List.nil_append, Nat.add_eq_zero_iff, a_nl_i, a_nl_r, a_nl_n, true_or, or_true, eq_self, ok_4, ok_5, ok_6, ok_7, ok_9, ok_10, ok_20, ok_21, ok_24, ok_30, ok_48, ok_50, ok_60, ok_80, ok_120, ok_180, ok_192, ok_200, ok_900, ok_1000, ok_84000, ui_ap, ne_MM, ne_M0, ne_0M, Nat.reduceEqDiff, reduceIte, if_true, if_false, c79]
            try simp only [true_and, and_true, true_implies, false_implies, implies_true, not_true_eq_false, not_false_eq_true]
            refine xe_readRule (I0 := (a_ui (a_ui (a_ui (a_ui (a_ui I M 46 0) M 48 (I M 40)) M 40 0) M 50 0) M 49 0)) (fc := I (M + 32)) hS hC2 w2 f2 b2 ⟨by decide, m2⟩ d2 (fun J hz => ?_)
            obtain ⟨jC, jw, -, j2, j3⟩ := hz
            generalize xR (I (M + 27)) (I M 40) 2 = r at j2 j3 hxt ⊢
            by_cases ok : r.1 = true ∧ r.2.1 = (I M 40)
            · have hs0 := fun k u => hset J r 0 k u jC jw j2 hxt (by rw [if_pos ok])
              rw [if_pos ok] at j3
              rw [if_pos ok]
              generalize r.2.2 (I (M + 32)) = v
              clear h3 h4 hbad hfr hC hC1 hC2 w0 w1 w2 wat hR hv0 hv1 hfin hset jC jw
              simp only [q201_151, q201_154, q201_155, q201_158, q201_161, q201_162, q201_165, q201_166, m_0 hS, m_K hS, as_nil, as_i, as_r, Nat.reduceAdd, Nat.reduceLeDiff, z_eq0, z_eq1, z_or, z_em, Classical.not_not, not_false_eq_true, not_true_eq_false, true_and, and_true, false_and, and_false, and_self, true_implies, false_implies, implies_true, Option.toList_some, Option.toList_none, List.cons_append, List.nil_append, Nat.add_eq_zero_iff, a_nl_i, a_nl_r, a_nl_n, true_or, or_true, eq_self, ok_4, ok_5, ok_6, ok_7, ok_9, ok_10, ok_20, ok_21, ok_24, ok_30, ok_48, ok_50, ok_60, ok_80, ok_120, ok_180, ok_192, ok_200, ok_900, ok_1000, ok_84000, ui_ap, ne_MM, ne_M0, ne_0M, Nat.reduceEqDiff, reduceIte, if_true, if_false, j3]
              grind
            · have hs1 := fun k u => hset J r 1 k u jC jw j2 hxt (by rw [if_neg ok])
              rw [if_neg ok] at j3
              rw [if_neg ok]
              clear h3 h4 hbad hfr hC hC1 hC2 w0 w1 w2 wat hR hv0 hv1 hfin hset jC jw
              simp only [q201_151, q201_154, q201_155, q201_158, q201_161, q201_162, q201_165, q201_166, m_0 hS, m_K hS, as_nil, as_i, as_r, Nat.reduceAdd, Nat.reduceLeDiff, z_eq0, z_eq1, z_or, z_em, Classical.not_not, not_false_eq_true, not_true_eq_false, true_and, and_true, false_and, and_false, and_self, true_implies, false_implies, implies_true, Option.toList_some, Option.toList_none, List.cons_append, List.nil_append, Nat.add_eq_zero_iff, a_nl_i, a_nl_r, a_nl_n, true_or, or_true, eq_self, ok_4, ok_5, ok_6, ok_7, ok_9, ok_10, ok_20, ok_21, ok_24, ok_30, ok_48, ok_50, ok_60, ok_80, ok_120, ok_180, ok_192, ok_200, ok_900, ok_1000, ok_84000, ui_ap, ne_MM, ne_M0, ne_0M, Nat.reduceEqDiff, reduceIte, if_true, if_false, j3, n10]
              try simp only [true_and, and_true, true_implies, false_implies, implies_true, not_true_eq_false, not_false_eq_true]
              first
                | exact hs1 _ _
                | grind
        · have hxt : (xT (I (M + 27)) (I M 40)) = (false, 1, fun _ => 0) := by
            unfold xT
            rw [if_pos cl, if_neg c58]
          have hp := hbad (by rw [hxt]) _ hC1 (by rw [b1, hxt])
          rw [b1, e21] at hp
          have n58 : ¬ (if 1 < (I M 40) then (I (M + 27)) 1 else -1) = 58 := by
            by_cases l : 1 < (I M 40)
            · rw [if_pos l]; exact fun z => c58 ⟨l, z⟩
            · rw [if_neg l]; decide
          generalize (if 1 < (I M 40) then (I (M + 27)) 1 else -1) = g at n58 ⊢
          clear h3 h4 hbad hfr hC hC1 hC2 w0 w1 w2 wat hR hv0 hv1 hfin hset
          simp only [q201_92, q201_94, q201_97, q201_99, as_nil, as_i, as_r, Nat.reduceAdd, Nat.reduceLeDiff, z_eq0, z_eq1, z_or, z_em, Classical.not_not, not_false_eq_true, not_true_eq_false, true_and, and_true, false_and, and_false, and_self, true_implies, false_implies, implies_true, Option.toList_some, Option.toList_none, List.cons_append, List.nil_append, Nat.add_eq_zero_iff, a_nl_i, a_nl_r, a_nl_n, true_or, or_true, eq_self, ok_4, ok_5, ok_6, ok_7, ok_9, ok_10, ok_20, ok_21, ok_24, ok_30, ok_48, ok_50, ok_60, ok_80, ok_120, ok_180, ok_192, ok_200, ok_900, ok_1000, ok_84000, n58]
          first
            | exact hp
            | grind
      rw [a_enter1 (M := a_m201) rfl (a_cat_rf (a_cat_int a_cat_nil)) (show 2 ≤ 4 by decide)]
      show a_at _ (a_xm a_m201) 0 [some (a_rf M), some (.int s), none, none] [] _ _
      have n10 : ¬ (1 : Int32) = 0 := by decide
      simp only [q201_0, q201_1, q201_4, q201_7, q201_8, q201_9, q201_12, q201_13, q201_14, q201_17, q201_19, q201_22, q201_23, q201_25, q201_28, q201_29, q201_30, q201_31, q201_34, q201_35, q201_36, q201_39, q201_42, q201_43, q201_44, q201_47, q201_48, q201_49, q201_52, q201_53, q201_54, q201_57, q201_58, m_0 hS, m_K hS, sp_isShift, sp_refuse_1 hS, sp_refuse_2 hS, sp_refuse_3 hS, sp_refuse_4 hS, sp_refuse_5 hS, sp_refuse_6 hS, as_nil, as_i, as_r, Nat.reduceAdd, Nat.reduceLeDiff, z_eq0, z_eq1, z_or, z_em, Classical.not_not, not_false_eq_true, not_true_eq_false, true_and, and_true, false_and, and_false, and_self, true_implies, false_implies, implies_true, Option.toList_some, Option.toList_none, List.cons_append, List.nil_append, Nat.add_eq_zero_iff, a_nl_i, a_nl_r, a_nl_n, true_or, or_true, eq_self, ok_4, ok_5, ok_6, ok_7, ok_9, ok_10, ok_20, ok_21, ok_24, ok_30, ok_48, ok_50, ok_60, ok_80, ok_120, ok_180, ok_192, ok_200, ok_900, ok_1000, ok_84000, ui_ap, ne_MM, ne_M0, ne_0M, Nat.reduceEqDiff, reduceIte, if_true, if_false, hs, hx, n10]
      try simp only [true_and, and_true, true_implies, false_implies, implies_true, not_true_eq_false, not_false_eq_true]
      refine ct_hereC hS hC.1 (by rw [b0]; decide) (nh _ w0) ?_
      rw [hv0]
      by_cases cl : 0 < (I M 40) ∧ ((I (M + 27)) 0 = 66 ∨ (I (M + 27)) 0 = 87 ∨ (I (M + 27)) 0 = 79)
      · have h83 := h83 cl
        rw [if_pos cl.1]
        have cl2 := cl.2
        generalize (I (M + 27)) 0 = g at cl2 h83 ⊢
        clear h3 h4 hbad hfr hC hC1 hC2 w0 w1 w2 wat hR hv0 hv1 hfin hset cl
        simp only [q201_61, q201_62, q201_63, q201_65, q201_68, q201_69, q201_71, q201_74, q201_75, q201_77, as_nil, as_i, as_r, Nat.reduceAdd, Nat.reduceLeDiff, z_eq0, z_eq1, z_or, z_em, Classical.not_not, not_false_eq_true, not_true_eq_false, true_and, and_true, false_and, and_false, and_self, true_implies, false_implies, implies_true, Option.toList_some, Option.toList_none, List.cons_append, List.nil_append, Nat.add_eq_zero_iff, a_nl_i, a_nl_r, a_nl_n, true_or, or_true, eq_self, ok_4, ok_5, ok_6, ok_7, ok_9, ok_10, ok_20, ok_21, ok_24, ok_30, ok_48, ok_50, ok_60, ok_80, ok_120, ok_180, ok_192, ok_200, ok_900, ok_1000, ok_84000]
        grind
      · have hxt : (xT (I (M + 27)) (I M 40)) = (false, 0, fun _ => 0) := by
          unfold xT
          rw [if_neg cl]
        have hp := hbad (by rw [hxt]) _ hC (by rw [b0, hxt])
        rw [b0, e20] at hp
        have ng : ¬ (if 0 < (I M 40) then (I (M + 27)) 0 else -1) = 66 ∧ ¬ (if 0 < (I M 40) then (I (M + 27)) 0 else -1) = 87 ∧ ¬ (if 0 < (I M 40) then (I (M + 27)) 0 else -1) = 79 := by
          by_cases l : 0 < (I M 40)
          · rw [if_pos l]; exact ⟨fun z => cl ⟨l, Or.inl z⟩, fun z => cl ⟨l, Or.inr (Or.inl z)⟩, fun z => cl ⟨l, Or.inr (Or.inr z)⟩⟩
          · rw [if_neg l]; decide
        generalize (if 0 < (I M 40) then (I (M + 27)) 0 else -1) = g at ng ⊢
        clear h3 h4 hbad hfr hC hC1 hC2 w0 w1 w2 wat hR hv0 hv1 hfin hset h83 cl
        simp only [q201_61, q201_62, q201_63, q201_65, q201_68, q201_69, q201_71, q201_74, q201_75, q201_77, q201_80, q201_82, as_nil, as_i, as_r, Nat.reduceAdd, Nat.reduceLeDiff, z_eq0, z_eq1, z_or, z_em, Classical.not_not, not_false_eq_true, not_true_eq_false, true_and, and_true, false_and, and_false, and_self, true_implies, false_implies, implies_true, Option.toList_some, Option.toList_none, List.cons_append, List.nil_append, Nat.add_eq_zero_iff, a_nl_i, a_nl_r, a_nl_n, true_or, or_true, eq_self, ok_4, ok_5, ok_6, ok_7, ok_9, ok_10, ok_20, ok_21, ok_24, ok_30, ok_48, ok_50, ok_60, ok_80, ok_120, ok_180, ok_192, ok_200, ok_900, ok_1000, ok_84000, ng]
        first
          | exact hp
          | grind
  · have h1 := h1 hs
    clear h2 h3 h4
    rw [a_enter1 (M := a_m201) rfl (a_cat_rf (a_cat_int a_cat_nil)) (show 2 ≤ 4 by decide)]
    show a_at _ (a_xm a_m201) 0 [some (a_rf M), some (.int s), none, none] [] _ _
    simp only [q201_0, q201_1, q201_4, q201_7, q201_8, q201_9, q201_12, m_0 hS, m_K hS, sp_isShift, sp_refuse_1 hS, sp_refuse_2 hS, sp_refuse_3 hS, sp_refuse_4 hS, sp_refuse_5 hS, sp_refuse_6 hS, as_nil, as_i, as_r, Nat.reduceAdd, Nat.reduceLeDiff, z_eq0, z_eq1, z_or, z_em, Classical.not_not, not_false_eq_true, not_true_eq_false, true_and, and_true, false_and, and_false, and_self, true_implies, false_implies, implies_true, Option.toList_some, Option.toList_none, List.cons_append, List.nil_append, Nat.add_eq_zero_iff, a_nl_i, a_nl_r, a_nl_n, true_or, or_true, eq_self, ok_4, ok_5, ok_6, ok_7, ok_9, ok_10, ok_20, ok_21, ok_24, ok_30, ok_48, ok_50, ok_60, ok_80, ok_120, ok_180, ok_192, ok_200, ok_900, ok_1000, ok_84000, hs]
    grind
end XG
end

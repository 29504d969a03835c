/-! the reference: reading, just so -/
section XA
variable {d n t M : Nat} {K L : Nat → Nat} {I I0 J J0 J1 J2 : Nat → Nat → Int32} {R : Nat → Nat → Nat} {P : Option Value → AH → Prop} {f : Nat → Int32} {e : Int32}
/-- what the reader has before it: f up to e -/
def vw (M : Nat) (J : Nat → Nat → Int32) (f : Nat → Int32) (e : Int32) : Prop := J M 48 = e ∧ (0 ≤ e ∧ e ≤ 50) ∧ (0 ≤ J M 47 ∧ J M 47 ≤ 950) ∧ ∀ j : Int32, 0 ≤ j → j < e → (if J M 46 = 0 then J (M + 27) j.toNatClampNeg else J (M + 28) (J M 47 + j).toNatClampNeg) = f j.toNatClampNeg
theorem hv_x (h : vw M I f e) (h0 : 0 ≤ I M 49) : hv M I = if I M 49 < e then f (I M 49).toNatClampNeg else -1 := by
  unfold hv
  rw [h.1]
  by_cases c : I M 49 < e
  · rw [if_neg (Int32.not_le.mpr c), if_pos c]
    exact h.2.2.2 _ h0 c
  · rw [if_pos (Int32.not_lt.mp c), if_neg c]
theorem fv_x (c : Int32) : fv c = if xft c = -9 then -1 else xft c := by
  unfold fv xft
  grind (splits := 60)
theorem vw_T (h : vw M I f e) (h2 : rT M I J) : vw M J f e := by
  unfold vw at h ⊢
  rw [rT_cell h2 (j := 48) (by omega), rT_cell h2 (j := 47) (by omega), rT_cell h2 (j := 46) (by omega), rT_fun h2 (A := (M + 27)) (by omega), rT_fun h2 (A := (M + 28)) (by omega)]
  exact h
theorem rT_tr (h : rT M I J) (h2 : rT M J J2) : rT M I J2 := ⟨h2.1, fun x j hx => (h2.2.1 x j hx).trans (h.2.1 x j hx), Int32.le_trans h.2.2.1 h2.2.2.1, h2.2.2.2⟩
theorem vw_E (h : vw M I f e) (h0 : 0 ≤ I M 49 ∧ I M 49 ≤ e) : rE M I := by
  obtain ⟨h1, h2, h3, -⟩ := h
  unfold rE
  rw [h1]
  refine ⟨⟨h0.1, ?_⟩, h2.2, h3⟩
  clear h1 h3
  grind
theorem xe_readUnit_56 (hS : m_S M K L R) (hE : rE M I) (hvw : vw M I f e) {c b : Int32} {D : Int32 × Int32} (hP : ∀ J, rT M I J → J M 49 = D.1 → J M 50 = b → P (some (.int D.2)) (n, t, K, L, J, R)) : ∀ k : Int32, k ≤ 3 → ∀ v J, 0 ≤ k → rT M I J → (0 ≤ J M 49 ∧ J M 49 ≤ e) → J M 50 = b → xdg f e (3 - k.toNatClampNeg) (J M 49) v = D → a_at (d + 1) (a_xm a_m197) 56 [some (a_rf M), some (.int c), some (.int v), some (.int k)] [] (n, t, K, L, J, R) P := by
  refine up_ind 3 (fun k hk ih => ?_)
  intro v J h0 hT ha hb hD
  have hvJ := hv_x (vw_T hvw hT) ha.1
  have hexit : ¬ (k < 3 ∧ 48 ≤ hv M J ∧ hv M J ≤ 57) → P (some (.int v)) (n, t, K, L, J, R) := fun q => by
    have hD2 : D = (J M 49, v) := by
      rw [← hD]
      by_cases c3 : k < 3
      · have i3 : k.toNatClampNeg < 3 := show _ < (3 : Int32).toNatClampNeg from cl_lt h0 c3
        rw [show 3 - k.toNatClampNeg = (2 - k.toNatClampNeg) + 1 by omega]
        unfold xdg
        rw [if_neg (fun w => q ⟨c3, by rw [hvJ, if_pos w.1]; exact w.2⟩)]
      · have : k = 3 := by clear ih hP hT hD q hvJ; grind
        subst this
        rfl
    have hp := hP J hT (by rw [hD2]) hb
    rw [hD2] at hp
    exact hp
  have hgo : k < 3 → 48 ≤ hv M J → hv M J ≤ 57 → a_at (d + 1) (a_xm a_m197) 56 [some (a_rf M), some (.int c), some (.int (10 * v + hv M J - 48)), some (.int (k + 1))] [] (n, t, K, L, (a_ui J M 49 (J M 49 + 1)), R) P := fun c3 c4 c5 => by
    have i3 : k.toNatClampNeg < 3 := show _ < (3 : Int32).toNatClampNeg from cl_lt h0 c3
    have ei : (k + 1).toNatClampNeg = k.toNatClampNeg + 1 := cl_up h0 (by clear ih hP hT hD hexit hvJ; grind)
    have cA : J M 49 < e := by
      refine Classical.byContradiction (fun w => ?_)
      rw [hvJ, if_neg w] at c4
      exact absurd c4 (by decide)
    have he := hvw.2.1
    rw [hvJ, if_pos cA] at c4 c5 ⊢
    refine ih c3 _ _ (by clear ih hP hT hD hexit hvJ; grind) (sT_at hT ⟨by clear ih hP hT hD hexit hvJ; grind, by clear ih hP hT hD hexit hvJ; grind⟩) (by rw [ui_ap, if_pos ⟨rfl, rfl⟩]; clear ih hP hT hD hexit hvJ; grind) (by rw [ui_ap, if_neg (by omega)]; exact hb) ?_
    rw [show 3 - k.toNatClampNeg = (3 - (k.toNatClampNeg + 1)) + 1 by omega] at hD
    unfold xdg at hD
    rw [if_pos ⟨cA, c4, c5⟩] at hD
    rw [ei, ← hD, ui_ap, if_pos ⟨rfl, rfl⟩, Int32.mul_comm 10 v]
  clear ih hP hD hvJ
  rw [q197_56]
  repeat' first
    | with_reducible apply And.intro
    | with_reducible assumption
    | with_reducible intro _
    | refine ct_here hS hE hT ?_
    | refine hexit ?_
    | refine hgo ?_ ?_ ?_
    | simp only [q197_57, q197_58, q197_61, q197_62, q197_65, q197_67, q197_69, q197_72, q197_75, q197_77, q197_78, q197_79, q197_80, q197_83, q197_84, q197_86, q197_87, q197_88, q197_89, q197_90, q197_93, q197_94, q197_95, q197_98, q197_101, q197_104, q197_105, m_0 hS, m_K hS, sp_in, as_nil, as_i, as_r, Nat.reduceAdd, Nat.reduceLeDiff, z_eq0, z_eq1, z_or, z_em, Classical.not_not, not_false_eq_true, not_true_eq_false, true_and, and_true, false_and, and_false, and_self, true_implies, false_implies, implies_true, Option.toList_some, Option.toList_none, List.cons_append, List.nil_append, Nat.add_eq_zero_iff, a_nl_i, a_nl_r, a_nl_n, true_or, or_true, eq_self, ok_4, ok_5, ok_6, ok_7, ok_9, ok_10, ok_20, ok_21, ok_24, ok_30, ok_48, ok_50, ok_60, ok_80, ok_120, ok_180, ok_192, ok_200, ok_900, ok_1000, ok_84000]
  all_goals ((try clear hexit); (try clear hgo); (try clear hT); (try clear hS); (try clear hE); grind [ui_ap])
theorem xe_readUnit (hS : m_S M K L R) (hR : mR M I) (hvw : vw M I f e) (ha : 0 ≤ I M 49 ∧ I M 49 ≤ e) (hb : I M 50 = 0) (hP : ∀ J, rT M I J → J M 49 = (xU f e (I M 49)).2.1 → J M 50 = (if (xU f e (I M 49)).1 = true then 0 else 1) → P (some (.int ((xU f e (I M 49)).2.2 (I (M + 32))))) (n, t, K, L, J, R)) : a_does (d + 2) 197 [a_rf M] (n, t, K, L, I, R) P := by
  have hE := vw_E hvw ha
  have hT := rT_refl hR hE
  have hvI := hv_x hvw ha.1
  have he := hvw.2.1
  -- no fact stands there
  have hloop : ¬ (I M 49 < e ∧ ¬ xft (f (I M 49).toNatClampNeg) = -9) → ∀ c b, (b = if 48 ≤ hv M I ∧ hv M I ≤ 57 then 0 else 1) → a_at (d + 1) (a_xm a_m197) 56 [some (a_rf M), some (.int c), some (.int 0), some (.int 0)] [] (n, t, K, L, (a_ui I M 50 b), R) P := fun q c b eb => by
    refine xe_readUnit_56 hS hE hvw (b := b) (D := xdg f e 3 (I M 49) 0) (fun J j1 j2 j3 => ?_) 0 (by decide) 0 _ (by decide) (sT_isBad hT) (by rw [ui_ap, if_neg (by omega)]; exact ha) (by rw [ui_ap, if_pos ⟨rfl, rfl⟩]) (by rw [ui_ap, if_neg (by omega)]; rfl)
    by_cases w : I M 49 < e ∧ 48 ≤ f (I M 49).toNatClampNeg ∧ f (I M 49).toNatClampNeg ≤ 57
    · have hr : xU f e (I M 49) = (true, (xdg f e 3 (I M 49) 0).1, fun _ => (xdg f e 3 (I M 49) 0).2) := by
        unfold xU
        rw [if_neg q, if_pos w]
      have b0 : b = 0 := by rw [eb, hvI, if_pos w.1, if_pos w.2]
      have hp := hP J j1 (by rw [j2, hr]) (by rw [j3, hr, b0]; rfl)
      rw [hr] at hp
      exact hp
    · have hz : xdg f e 3 (I M 49) 0 = (I M 49, 0) := by
        conv => lhs; unfold xdg
        rw [if_neg w]
      have hr : xU f e (I M 49) = (false, I M 49, fun _ => 0) := by
        unfold xU
        rw [if_neg q, if_neg w]
      have b1 : b = 1 := by
        rw [eb, hvI]
        by_cases l : I M 49 < e
        · rw [if_pos l, if_neg (fun z => w ⟨l, z⟩)]
        · rw [if_neg l, if_neg (by decide)]
      have hp := hP J j1 (by rw [j2, hr, hz]) (by rw [j3, hr, b1]; rfl)
      rw [hr] at hp
      rw [hz]
      exact hp
  by_cases hA : I M 49 < e ∧ ¬ xft (f (I M 49).toNatClampNeg) = -9
  · have hr : xU f e (I M 49) = (true, I M 49 + 1, fun fc => fc (xft (f (I M 49).toNatClampNeg)).toNatClampNeg) := if_pos hA
    have hf : fv (hv M I) = xft (f (I M 49).toNatClampNeg) := by rw [hvI, if_pos hA.1, fv_x, if_neg hA.2]
    have h9 := (xft_r (f (I M 49).toNatClampNeg)).resolve_left hA.2
    have hge : ¬ fv (hv M I) < 0 := by rw [hf]; exact Int32.not_lt.mpr h9.1
    have hok : 0 ≤ fv (hv M I) ∧ fv (hv M I) < 9 := by rw [hf]; clear hP hloop hr hf hge; grind
    have hp := hP (a_ui I M 49 (I M 49 + 1)) (sT_at hT ⟨by clear hP hloop hr hf hge hok; grind, by clear hP hloop hr hf hge hok; grind⟩) (by rw [hr, ui_ap, if_pos ⟨rfl, rfl⟩]) (by rw [hr, ui_ap, if_neg (by omega)]; exact hb)
    rw [hr] at hp
    have hp : P (some (.int (I (M + 32) (fv (hv M I)).toNatClampNeg))) (n, t, K, L, (a_ui I M 49 (I M 49 + 1)), R) := by
      rw [hf]
      exact hp
    have hE2 : rE M (a_ui I M 49 (I M 49 + 1)) → True := fun _ => trivial
    rw [a_enter1 (M := a_m197) rfl (a_cat_rf a_cat_nil) (show 1 ≤ 4 by decide)]
    show a_at _ (a_xm a_m197) 0 [some (a_rf M), none, none, none] [] _ _
    simp only [q197_0, q197_1, m_0 hS, m_K hS, as_nil, as_i, as_r, Nat.reduceAdd, Nat.reduceLeDiff, z_eq0, z_eq1, z_or, z_em, Classical.not_not, not_false_eq_true, not_true_eq_false, true_and, and_true, false_and, and_false, and_self, true_implies, false_implies, implies_true, Option.toList_some, Option.toList_none, List.cons_append, List.nil_append, Nat.add_eq_zero_iff, a_nl_i, a_nl_r, a_nl_n, true_or, or_true, eq_self, ok_4, ok_5, ok_6, ok_7, ok_9, ok_10, ok_20, ok_21, ok_24, ok_30, ok_48, ok_50, ok_60, ok_80, ok_120, ok_180, ok_192, ok_200, ok_900, ok_1000, ok_84000]
    refine ct_here hS hE hT ?_
    simp only [q197_4, q197_5, q197_6, as_nil, as_i, as_r, Nat.reduceAdd, Nat.reduceLeDiff, z_eq0, z_eq1, z_or, z_em, Classical.not_not, not_false_eq_true, not_true_eq_false, true_and, and_true, false_and, and_false, and_self, true_implies, false_implies, implies_true, Option.toList_some, Option.toList_none, List.cons_append, List.nil_append, Nat.add_eq_zero_iff, a_nl_i, a_nl_r, a_nl_n, true_or, or_true, eq_self, ok_4, ok_5, ok_6, ok_7, ok_9, ok_10, ok_20, ok_21, ok_24, ok_30, ok_48, ok_50, ok_60, ok_80, ok_120, ok_180, ok_192, ok_200, ok_900, ok_1000, ok_84000]
    refine ct_factOf ?_
    simp only [q197_9, q197_12, q197_13, q197_14, q197_17, q197_18, q197_19, q197_22, q197_23, q197_26, q197_27, m_0 hS, m_K hS, mR_facts hS, mK_facts hS, mL_facts hS, as_nil, as_i, as_r, Nat.reduceAdd, Nat.reduceLeDiff, z_eq0, z_eq1, z_or, z_em, Classical.not_not, not_false_eq_true, not_true_eq_false, true_and, and_true, false_and, and_false, and_self, true_implies, false_implies, implies_true, Option.toList_some, Option.toList_none, List.cons_append, List.nil_append, Nat.add_eq_zero_iff, a_nl_i, a_nl_r, a_nl_n, true_or, or_true, eq_self, ok_4, ok_5, ok_6, ok_7, ok_9, ok_10, ok_20, ok_21, ok_24, ok_30, ok_48, ok_50, ok_60, ok_80, ok_120, ok_180, ok_192, ok_200, ok_900, ok_1000, ok_84000, ui_ap, ne_MM, ne_M0, ne_0M, Nat.reduceEqDiff, reduceIte, if_true, if_false, hge]
    try simp only [false_implies, true_implies, not_false_eq_true, true_and]
    refine ct_factOf ?_
    simp only [q197_30, q197_31, as_nil, as_i, as_r, Nat.reduceAdd, Nat.reduceLeDiff, z_eq0, z_eq1, z_or, z_em, Classical.not_not, not_false_eq_true, not_true_eq_false, true_and, and_true, false_and, and_false, and_self, true_implies, false_implies, implies_true, Option.toList_some, Option.toList_none, List.cons_append, List.nil_append, Nat.add_eq_zero_iff, a_nl_i, a_nl_r, a_nl_n, true_or, or_true, eq_self, ok_4, ok_5, ok_6, ok_7, ok_9, ok_10, ok_20, ok_21, ok_24, ok_30, ok_48, ok_50, ok_60, ok_80, ok_120, ok_180, ok_192, ok_200, ok_900, ok_1000, ok_84000, ui_ap, ne_MM, ne_M0, ne_0M, Nat.reduceEqDiff, reduceIte, if_true, if_false, mK_facts hS, mL_facts hS]
    exact ⟨hok, hp⟩
  · have hf : fv (hv M I) = -1 := by
      rw [hvI]
      by_cases l : I M 49 < e
      · have : xft (f (I M 49).toNatClampNeg) = -9 := Classical.byContradiction (fun z => hA ⟨l, z⟩)
        rw [if_pos l, fv_x, if_pos this]
      · rw [if_neg l]
        exact fv_m
    have hlt : fv (hv M I) < 0 := by rw [hf]; decide
    have hl := hloop hA (hv M I)
    rw [a_enter1 (M := a_m197) rfl (a_cat_rf a_cat_nil) (show 1 ≤ 4 by decide)]
    show a_at _ (a_xm a_m197) 0 [some (a_rf M), none, none, none] [] _ _
    simp only [q197_0, q197_1, m_0 hS, m_K hS, as_nil, as_i, as_r, Nat.reduceAdd, Nat.reduceLeDiff, z_eq0, z_eq1, z_or, z_em, Classical.not_not, not_false_eq_true, not_true_eq_false, true_and, and_true, false_and, and_false, and_self, true_implies, false_implies, implies_true, Option.toList_some, Option.toList_none, List.cons_append, List.nil_append, Nat.add_eq_zero_iff, a_nl_i, a_nl_r, a_nl_n, true_or, or_true, eq_self, ok_4, ok_5, ok_6, ok_7, ok_9, ok_10, ok_20, ok_21, ok_24, ok_30, ok_48, ok_50, ok_60, ok_80, ok_120, ok_180, ok_192, ok_200, ok_900, ok_1000, ok_84000]
    refine ct_here hS hE hT ?_
    simp only [q197_4, q197_5, q197_6, as_nil, as_i, as_r, Nat.reduceAdd, Nat.reduceLeDiff, z_eq0, z_eq1, z_or, z_em, Classical.not_not, not_false_eq_true, not_true_eq_false, true_and, and_true, false_and, and_false, and_self, true_implies, false_implies, implies_true, Option.toList_some, Option.toList_none, List.cons_append, List.nil_append, Nat.add_eq_zero_iff, a_nl_i, a_nl_r, a_nl_n, true_or, or_true, eq_self, ok_4, ok_5, ok_6, ok_7, ok_9, ok_10, ok_20, ok_21, ok_24, ok_30, ok_48, ok_50, ok_60, ok_80, ok_120, ok_180, ok_192, ok_200, ok_900, ok_1000, ok_84000]
    refine ct_factOf ?_
    by_cases w : 48 ≤ hv M I ∧ hv M I ≤ 57
    · have hl := hl 0 (by rw [if_pos w])
      simp only [q197_9, q197_32, q197_33, q197_34, q197_36, q197_38, q197_41, q197_44, q197_45, q197_48, q197_49, q197_52, q197_53, q197_54, q197_55, m_0 hS, m_K hS, sp_in, as_nil, as_i, as_r, Nat.reduceAdd, Nat.reduceLeDiff, z_eq0, z_eq1, z_or, z_em, Classical.not_not, not_false_eq_true, not_true_eq_false, true_and, and_true, false_and, and_false, and_self, true_implies, false_implies, implies_true, Option.toList_some, Option.toList_none, List.cons_append, List.nil_append, Nat.add_eq_zero_iff, a_nl_i, a_nl_r, a_nl_n, true_or, or_true, eq_self, ok_4, ok_5, ok_6, ok_7, ok_9, ok_10, ok_20, ok_21, ok_24, ok_30, ok_48, ok_50, ok_60, ok_80, ok_120, ok_180, ok_192, ok_200, ok_900, ok_1000, ok_84000, hlt, w]
      first
        | exact hl
        | exact ⟨fun _ => hl, fun z => absurd trivial z⟩
        | grind
    · have hl := hl 1 (by rw [if_neg w])
      simp only [q197_9, q197_32, q197_33, q197_34, q197_36, q197_38, q197_41, q197_44, q197_45, q197_48, q197_49, q197_52, q197_53, q197_54, q197_55, m_0 hS, m_K hS, sp_in, as_nil, as_i, as_r, Nat.reduceAdd, Nat.reduceLeDiff, z_eq0, z_eq1, z_or, z_em, Classical.not_not, not_false_eq_true, not_true_eq_false, true_and, and_true, false_and, and_false, and_self, true_implies, false_implies, implies_true, Option.toList_some, Option.toList_none, List.cons_append, List.nil_append, Nat.add_eq_zero_iff, a_nl_i, a_nl_r, a_nl_n, true_or, or_true, eq_self, ok_4, ok_5, ok_6, ok_7, ok_9, ok_10, ok_20, ok_21, ok_24, ok_30, ok_48, ok_50, ok_60, ok_80, ok_120, ok_180, ok_192, ok_200, ok_900, ok_1000, ok_84000, hlt, w]
      first
        | exact hl
        | exact ⟨fun _ => hl, fun z => absurd trivial z⟩
        | grind
theorem xe_readSum_5 (hS : m_S M K L R) (hvw : vw M I f e) (hE : rE M I) {V : rdT} (hP : ∀ J, rT M I J → J M 49 = V.2.1 → J M 50 = (if V.1 = true then 0 else 1) → P (some (.int (V.2.2 (I (M + 32))))) (n, t, K, L, J, R)) : ∀ (k : Nat) (J : Nat → Nat → Int32) (r : rdT) (c w : Option Value), rT M I J → J M 49 = r.2.1 → (0 ≤ r.2.1 ∧ r.2.1 ≤ e) → J M 50 = (if r.1 = true then 0 else 1) → e.toInt ≤ r.2.1.toInt + k → xsu f e k r = V → a_at (d + 2) (a_xm a_m196) 5 [some (a_rf M), some (.int (r.2.2 (I (M + 32)))), c, w] [] (n, t, K, L, J, R) P := by
  intro k
  induction k with
  | zero =>
    intro J r c w hT hA ha hB hk hV
    have hV : r = V := hV
    have hvJ := hv_x (vw_T hvw hT) (by rw [hA]; exact ha.1)
    have hlt : ¬ r.2.1 < e := fun q => by
      have := Int32.lt_iff_toInt_lt.mp q
      omega
    rw [hA, if_neg hlt] at hvJ
    have hp := hP J hT (by rw [hA, hV]) (by rw [hB, hV])
    rw [← hV] at hp
    have m1 : ¬ (-1 : Int32) = 43 := by decide
    have m2 : ¬ (-1 : Int32) = 45 := by decide
    have m3 : ¬ (-1 : Int32) = 42 := by decide
    clear hP hV
    have hexit : P (some (.int (r.2.2 (I (M + 32))))) (n, t, K, L, J, R) := hp
    rw [q196_5]
    repeat' first
      | with_reducible apply And.intro
      | with_reducible assumption
      | with_reducible intro _
      | refine ct_here hS hE hT ?_
      | rw [hvJ]
      | exact hexit
      | simp only [q196_6, q196_9, q196_12, q196_13, q196_16, q196_18, q196_21, q196_22, q196_25, q196_27, q196_30, q196_31, q196_34, q196_36, q196_90, q196_91, m_0 hS, m_K hS, as_nil, as_i, as_r, Nat.reduceAdd, Nat.reduceLeDiff, z_eq0, z_eq1, z_or, z_em, Classical.not_not, not_false_eq_true, not_true_eq_false, true_and, and_true, false_and, and_false, and_self, true_implies, false_implies, implies_true, Option.toList_some, Option.toList_none, List.cons_append, List.nil_append, Nat.add_eq_zero_iff, a_nl_i, a_nl_r, a_nl_n, true_or, or_true, eq_self, ok_4, ok_5, ok_6, ok_7, ok_9, ok_10, ok_20, ok_21, ok_24, ok_30, ok_48, ok_50, ok_60, ok_80, ok_120, ok_180, ok_192, ok_200, ok_900, ok_1000, ok_84000]
    all_goals ((try clear hexit); (try clear hp); (try clear hT); (try clear hS); (try clear hE); (try clear hvw); grind [ui_ap])
  | succ k ih =>
    intro J r c w hT hA ha hB hk hV
    have hvJ := hv_x (vw_T hvw hT) (by rw [hA]; exact ha.1)
    rw [hA] at hvJ
    have he := hvw.2.1
    have hexit : ¬ (J M 50 = 0 ∧ (hv M J = 43 ∨ hv M J = 45 ∨ hv M J = 42)) → P (some (.int (r.2.2 (I (M + 32))))) (n, t, K, L, J, R) := fun q => by
      have hV2 : r = V := by
        rw [← hV]
        unfold xsu
        rw [if_neg]
        intro z
        refine q ⟨by rw [hB, if_pos z.1], ?_⟩
        rw [hvJ, if_pos z.2.1]
        exact z.2.2
      have hp := hP J hT (by rw [hA, hV2]) (by rw [hB, hV2])
      rw [← hV2] at hp
      exact hp
    have h39 : J M 50 = 0 → (hv M J = 43 ∨ hv M J = 45 ∨ hv M J = 42) → a_at (d + 2) (a_xm a_m196) 39 [some (a_rf M), some (.int (r.2.2 (I (M + 32)))), c, w] [] (n, t, K, L, J, R) P := fun q1 q2 => by
      have r1 : r.1 = true := by
        refine Classical.byContradiction (fun z => ?_)
        rw [hB, if_neg z] at q1
        exact absurd q1 (by decide)
      have cA : r.2.1 < e := by
        refine Classical.byContradiction (fun z => ?_)
        rw [hvJ, if_neg z] at q2
        rcases q2 with q2 | q2 | q2 <;> exact absurd q2 (by decide)
      have hvf : hv M J = f r.2.1.toNatClampNeg := by rw [hvJ, if_pos cA]
      have m1 : r.2.1 + 1 ≤ e := by clear ih hP hT hV hexit hvJ; grind
      have m0 : 0 ≤ r.2.1 + 1 := by clear ih hP hT hV hexit hvJ; grind
      have hT2 : rT M I (a_ui J M 49 (J M 49 + 1)) := sT_at hT ⟨by rw [hA]; clear ih hP hT hV hexit hvJ; grind, by rw [hA]; clear ih hP hT hV hexit hvJ; grind⟩
      have n4 : a_ui J M 49 (J M 49 + 1) M 49 = r.2.1 + 1 := by rw [ui_ap, if_pos ⟨rfl, rfl⟩, hA]
      have nf : a_ui J M 49 (J M 49 + 1) (M + 32) = I (M + 32) := rT_fun hT2 (by omega)
      have hub := xU_b (f := f) m1
      simp only [q196_39, q196_40, m_0 hS, m_K hS, as_nil, as_i, as_r, Nat.reduceAdd, Nat.reduceLeDiff, z_eq0, z_eq1, z_or, z_em, Classical.not_not, not_false_eq_true, not_true_eq_false, true_and, and_true, false_and, and_false, and_self, true_implies, false_implies, implies_true, Option.toList_some, Option.toList_none, List.cons_append, List.nil_append, Nat.add_eq_zero_iff, a_nl_i, a_nl_r, a_nl_n, true_or, or_true, eq_self, ok_4, ok_5, ok_6, ok_7, ok_9, ok_10, ok_20, ok_21, ok_24, ok_30, ok_48, ok_50, ok_60, ok_80, ok_120, ok_180, ok_192, ok_200, ok_900, ok_1000, ok_84000]
      refine ct_here hS hE hT ?_
      simp only [q196_43, q196_44, q196_45, q196_46, q196_49, q196_50, q196_51, q196_54, q196_55, m_0 hS, m_K hS, as_nil, as_i, as_r, Nat.reduceAdd, Nat.reduceLeDiff, z_eq0, z_eq1, z_or, z_em, Classical.not_not, not_false_eq_true, not_true_eq_false, true_and, and_true, false_and, and_false, and_self, true_implies, false_implies, implies_true, Option.toList_some, Option.toList_none, List.cons_append, List.nil_append, Nat.add_eq_zero_iff, a_nl_i, a_nl_r, a_nl_n, true_or, or_true, eq_self, ok_4, ok_5, ok_6, ok_7, ok_9, ok_10, ok_20, ok_21, ok_24, ok_30, ok_48, ok_50, ok_60, ok_80, ok_120, ok_180, ok_192, ok_200, ok_900, ok_1000, ok_84000, ui_ap, ne_MM, ne_M0, ne_0M, Nat.reduceEqDiff, reduceIte, if_true, if_false]
      refine xe_readUnit hS hT2.1 (vw_T hvw hT2) (by rw [n4]; exact ⟨m0, m1⟩) (by rw [ui_ap, if_neg (by omega)]; exact q1) (fun J2 j1 j2 j3 => ?_)
      rw [n4] at j2 j3 ⊢
      rw [nf]
      have hgo := ih J2 ((xU f e (r.2.1 + 1)).1, (xU f e (r.2.1 + 1)).2.1, fun fc => xar (f r.2.1.toNatClampNeg) (r.2.2 fc) ((xU f e (r.2.1 + 1)).2.2 fc)) (some (.int (hv M J))) (some (.int ((xU f e (r.2.1 + 1)).2.2 (I (M + 32))))) (rT_tr hT2 j1) j2 ⟨Int32.le_trans m0 hub.1, hub.2.1⟩ j3 (by
        have u1 := Int32.le_iff_toInt_le.mp hub.1
        have u2 := Int32.lt_iff_toInt_lt.mp cA
        have u3 := Int32.le_iff_toInt_le.mp he.2
        have u4 := Int32.le_iff_toInt_le.mp ha.1
        have z0 : (0 : Int32).toInt = 0 := rfl
        have z1 : (1 : Int32).toInt = 1 := rfl
        have z50 : (50 : Int32).toInt = 50 := rfl
        rw [ti_add (by omega)] at u1
        show e.toInt ≤ (xU f e (r.2.1 + 1)).2.1.toInt + k
        omega) (by
        rw [← hV]
        conv => rhs; unfold xsu
        rw [if_pos ⟨r1, cA, by rw [← hvf]; exact q2⟩])
      rw [hvf] at q2
      rw [hvf] at hgo ⊢
      clear ih hP hT hV hexit hvJ hvf hT2 hub
      rcases q2 with q2 | q2 | q2
      · have e43 : xar (f r.2.1.toNatClampNeg) (r.2.2 (I (M + 32))) ((xU f e (r.2.1 + 1)).2.2 (I (M + 32))) = r.2.2 (I (M + 32)) + (xU f e (r.2.1 + 1)).2.2 (I (M + 32)) := by rw [q2]; rfl
        dsimp only at hgo
        rw [e43] at hgo
        simp only [q196_58, q196_59, q196_60, q196_62, q196_65, q196_66, q196_67, q196_68, q196_71, q196_72, q196_74, q196_77, q196_78, q196_79, q196_80, q196_83, q196_84, q196_85, q196_86, q196_87, as_nil, as_i, as_r, Nat.reduceAdd, Nat.reduceLeDiff, z_eq0, z_eq1, z_or, z_em, Classical.not_not, not_false_eq_true, not_true_eq_false, true_and, and_true, false_and, and_false, and_self, true_implies, false_implies, implies_true, Option.toList_some, Option.toList_none, List.cons_append, List.nil_append, Nat.add_eq_zero_iff, a_nl_i, a_nl_r, a_nl_n, true_or, or_true, eq_self, ok_4, ok_5, ok_6, ok_7, ok_9, ok_10, ok_20, ok_21, ok_24, ok_30, ok_48, ok_50, ok_60, ok_80, ok_120, ok_180, ok_192, ok_200, ok_900, ok_1000, ok_84000, q2] at hgo ⊢
        first
          | exact hgo
          | grind
      · have e45 : xar (f r.2.1.toNatClampNeg) (r.2.2 (I (M + 32))) ((xU f e (r.2.1 + 1)).2.2 (I (M + 32))) = r.2.2 (I (M + 32)) - (xU f e (r.2.1 + 1)).2.2 (I (M + 32)) := by rw [q2]; rfl
        dsimp only at hgo
        rw [e45] at hgo
        have n1 : ¬ (45 : Int32) = 43 := by decide
        simp only [q196_58, q196_59, q196_60, q196_62, q196_65, q196_66, q196_67, q196_68, q196_71, q196_72, q196_74, q196_77, q196_78, q196_79, q196_80, q196_83, q196_84, q196_85, q196_86, q196_87, as_nil, as_i, as_r, Nat.reduceAdd, Nat.reduceLeDiff, z_eq0, z_eq1, z_or, z_em, Classical.not_not, not_false_eq_true, not_true_eq_false, true_and, and_true, false_and, and_false, and_self, true_implies, false_implies, implies_true, Option.toList_some, Option.toList_none, List.cons_append, List.nil_append, Nat.add_eq_zero_iff, a_nl_i, a_nl_r, a_nl_n, true_or, or_true, eq_self, ok_4, ok_5, ok_6, ok_7, ok_9, ok_10, ok_20, ok_21, ok_24, ok_30, ok_48, ok_50, ok_60, ok_80, ok_120, ok_180, ok_192, ok_200, ok_900, ok_1000, ok_84000, q2, n1] at hgo ⊢
        first
          | exact hgo
          | grind
      · have e42 : xar (f r.2.1.toNatClampNeg) (r.2.2 (I (M + 32))) ((xU f e (r.2.1 + 1)).2.2 (I (M + 32))) = r.2.2 (I (M + 32)) * (xU f e (r.2.1 + 1)).2.2 (I (M + 32)) := by rw [q2]; rfl
        dsimp only at hgo
        rw [e42] at hgo
        have n1 : ¬ (42 : Int32) = 43 := by decide
        have n2 : ¬ (42 : Int32) = 45 := by decide
        simp only [q196_58, q196_59, q196_60, q196_62, q196_65, q196_66, q196_67, q196_68, q196_71, q196_72, q196_74, q196_77, q196_78, q196_79, q196_80, q196_83, q196_84, q196_85, q196_86, q196_87, as_nil, as_i, as_r, Nat.reduceAdd, Nat.reduceLeDiff, z_eq0, z_eq1, z_or, z_em, Classical.not_not, not_false_eq_true, not_true_eq_false, true_and, and_true, false_and, and_false, and_self, true_implies, false_implies, implies_true, Option.toList_some, Option.toList_none, List.cons_append, List.nil_append, Nat.add_eq_zero_iff, a_nl_i, a_nl_r, a_nl_n, true_or, or_true, eq_self, ok_4, ok_5, ok_6, ok_7, ok_9, ok_10, ok_20, ok_21, ok_24, ok_30, ok_48, ok_50, ok_60, ok_80, ok_120, ok_180, ok_192, ok_200, ok_900, ok_1000, ok_84000, q2, n1, n2] at hgo ⊢
        first
          | exact hgo
          | grind
    clear ih hP hV hvJ
    rw [q196_5]
    repeat' first
      | with_reducible apply And.intro
      | with_reducible assumption
      | with_reducible intro _
      | refine ct_here hS hE hT ?_
      | refine h39 ?_ ?_
      | refine hexit ?_
      | simp only [q196_6, q196_9, q196_12, q196_13, q196_16, q196_18, q196_21, q196_22, q196_25, q196_27, q196_30, q196_31, q196_34, q196_36, q196_90, q196_91, m_0 hS, m_K hS, as_nil, as_i, as_r, Nat.reduceAdd, Nat.reduceLeDiff, z_eq0, z_eq1, z_or, z_em, Classical.not_not, not_false_eq_true, not_true_eq_false, true_and, and_true, false_and, and_false, and_self, true_implies, false_implies, implies_true, Option.toList_some, Option.toList_none, List.cons_append, List.nil_append, Nat.add_eq_zero_iff, a_nl_i, a_nl_r, a_nl_n, true_or, or_true, eq_self, ok_4, ok_5, ok_6, ok_7, ok_9, ok_10, ok_20, ok_21, ok_24, ok_30, ok_48, ok_50, ok_60, ok_80, ok_120, ok_180, ok_192, ok_200, ok_900, ok_1000, ok_84000]
    all_goals ((try clear hexit); (try clear h39); (try clear hT); (try clear hS); (try clear hE); (try clear hvw); grind [ui_ap])
theorem xe_readSum (hS : m_S M K L R) (hR : mR M I) (hvw : vw M I f e) (ha : 0 ≤ I M 49 ∧ I M 49 ≤ e) (hb : I M 50 = 0) (hP : ∀ J, rT M I J → J M 49 = (xS f e (I M 49)).2.1 → J M 50 = (if (xS f e (I M 49)).1 = true then 0 else 1) → P (some (.int ((xS f e (I M 49)).2.2 (I (M + 32))))) (n, t, K, L, J, R)) : a_does (d + 3) 196 [a_rf M] (n, t, K, L, I, R) P := by
  have hub := xU_b (f := f) ha.2
  have he := hvw.2.1
  rw [a_enter1 (M := a_m196) rfl (a_cat_rf a_cat_nil) (show 1 ≤ 4 by decide)]
  show a_at _ (a_xm a_m196) 0 [some (a_rf M), none, none, none] [] _ _
  simp only [q196_0, q196_1, m_0 hS, m_K hS, as_nil, as_i, as_r, Nat.reduceAdd, Nat.reduceLeDiff, z_eq0, z_eq1, z_or, z_em, Classical.not_not, not_false_eq_true, not_true_eq_false, true_and, and_true, false_and, and_false, and_self, true_implies, false_implies, implies_true, Option.toList_some, Option.toList_none, List.cons_append, List.nil_append, Nat.add_eq_zero_iff, a_nl_i, a_nl_r, a_nl_n, true_or, or_true, eq_self, ok_4, ok_5, ok_6, ok_7, ok_9, ok_10, ok_20, ok_21, ok_24, ok_30, ok_48, ok_50, ok_60, ok_80, ok_120, ok_180, ok_192, ok_200, ok_900, ok_1000, ok_84000]
  refine xe_readUnit hS hR hvw ha hb (fun J j1 j2 j3 => ?_)
  simp only [q196_4, as_nil, as_i, as_r, Nat.reduceAdd, Nat.reduceLeDiff, z_eq0, z_eq1, z_or, z_em, Classical.not_not, not_false_eq_true, not_true_eq_false, true_and, and_true, false_and, and_false, and_self, true_implies, false_implies, implies_true, Option.toList_some, Option.toList_none, List.cons_append, List.nil_append, Nat.add_eq_zero_iff, a_nl_i, a_nl_r, a_nl_n, true_or, or_true, eq_self, ok_4, ok_5, ok_6, ok_7, ok_9, ok_10, ok_20, ok_21, ok_24, ok_30, ok_48, ok_50, ok_60, ok_80, ok_120, ok_180, ok_192, ok_200, ok_900, ok_1000, ok_84000]
  refine xe_readSum_5 hS hvw (vw_E hvw ha) hP 50 J _ none none j1 j2 ⟨Int32.le_trans ha.1 hub.1, hub.2.1⟩ j3 (by
    have u1 := Int32.le_iff_toInt_le.mp hub.1
    have u3 := Int32.le_iff_toInt_le.mp he.2
    have u4 := Int32.le_iff_toInt_le.mp ha.1
    have z0 : (0 : Int32).toInt = 0 := rfl
    have z50 : (50 : Int32).toInt = 50 := rfl
    omega) rfl
theorem xe_readTest (hS : m_S M K L R) (hR : mR M I) (hvw : vw M I f e) (ha : 0 ≤ I M 49 ∧ I M 49 ≤ e) (hb : I M 50 = 0) (hP : ∀ J, rT M I J → J M 49 = (xC f e (I M 49)).2.1 → J M 50 = (if (xC f e (I M 49)).1 = true then 0 else 1) → P (some (.int ((xC f e (I M 49)).2.2 (I (M + 32))))) (n, t, K, L, J, R)) : a_does (d + 4) 203 [a_rf M] (n, t, K, L, I, R) P := by
  have hE := vw_E hvw ha
  have hsb := xS_b (f := f) ha.2
  have he := hvw.2.1
  have hrC : ∀ r, r = xS f e (I M 49) → xC f e (I M 49) = if r.1 = true then (if i3 f e r.2.1 60 61 62 then ((xS f e (r.2.1 + 1)).1, (xS f e (r.2.1 + 1)).2.1, fun fc => xcmp (f r.2.1.toNatClampNeg) (r.2.2 fc) ((xS f e (r.2.1 + 1)).2.2 fc)) else (false, r.2.1, fun _ => 0)) else (false, r.2.1, fun _ => 0) := fun r e => by
    subst e
    rfl
  rw [a_enter1 (M := a_m203) rfl (a_cat_rf a_cat_nil) (show 1 ≤ 4 by decide)]
  show a_at _ (a_xm a_m203) 0 [some (a_rf M), none, none, none] [] _ _
  simp only [q203_0, q203_1, m_0 hS, m_K hS, as_nil, as_i, as_r, Nat.reduceAdd, Nat.reduceLeDiff, z_eq0, z_eq1, z_or, z_em, Classical.not_not, not_false_eq_true, not_true_eq_false, true_and, and_true, false_and, and_false, and_self, true_implies, false_implies, implies_true, Option.toList_some, Option.toList_none, List.cons_append, List.nil_append, Nat.add_eq_zero_iff, a_nl_i, a_nl_r, a_nl_n, true_or, or_true, eq_self, ok_4, ok_5, ok_6, ok_7, ok_9, ok_10, ok_20, ok_21, ok_24, ok_30, ok_48, ok_50, ok_60, ok_80, ok_120, ok_180, ok_192, ok_200, ok_900, ok_1000, ok_84000]
  refine xe_readSum hS hR hvw ha hb (fun J hT hA hB => ?_)
  generalize hr : xS f e (I M 49) = r at hA hB hsb ⊢
  have hrC := hrC r hr.symm
  have hr0 : 0 ≤ r.2.1 := Int32.le_trans ha.1 hsb.1
  have hvJ := hv_x (vw_T hvw hT) (by rw [hA]; exact hr0)
  rw [hA] at hvJ
  have hbad : ∀ J2, rT M I J2 → J2 M 49 = r.2.1 → J2 M 50 = 1 → xC f e (I M 49) = (false, r.2.1, fun _ => 0) → P (some (.int 0)) (n, t, K, L, J2, R) := fun J2 j1 j2 j3 w => by
    have hp := hP J2 j1 (by rw [j2, w]) (by rw [j3, w]; rfl)
    rw [w] at hp
    exact hp
  have h35 : ¬ (r.1 = true ∧ i3 f e r.2.1 60 61 62) → P (some (.int 0)) (n, t, K, L, (a_ui J M 50 1), R) := fun q => by
    refine hbad _ (sT_isBad hT) (by rw [ui_ap, if_neg (by omega)]; exact hA) (by rw [ui_ap, if_pos ⟨rfl, rfl⟩]) ?_
    rw [hrC]
    by_cases r1 : r.1 = true
    · rw [if_pos r1, if_neg (fun z => q ⟨r1, z⟩)]
    · rw [if_neg r1]
  simp only [q203_4, q203_5, q203_6, m_0 hS, m_K hS, as_nil, as_i, as_r, Nat.reduceAdd, Nat.reduceLeDiff, z_eq0, z_eq1, z_or, z_em, Classical.not_not, not_false_eq_true, not_true_eq_false, true_and, and_true, false_and, and_false, and_self, true_implies, false_implies, implies_true, Option.toList_some, Option.toList_none, List.cons_append, List.nil_append, Nat.add_eq_zero_iff, a_nl_i, a_nl_r, a_nl_n, true_or, or_true, eq_self, ok_4, ok_5, ok_6, ok_7, ok_9, ok_10, ok_20, ok_21, ok_24, ok_30, ok_48, ok_50, ok_60, ok_80, ok_120, ok_180, ok_192, ok_200, ok_900, ok_1000, ok_84000]
  refine ct_here hS hE hT ?_
  by_cases q : r.1 = true ∧ i3 f e r.2.1 60 61 62
  · obtain ⟨r1, cA, q2⟩ := q
    rw [if_pos r1] at hB hrC
    rw [if_pos ⟨cA, q2⟩] at hrC
    have hvf : hv M J = f r.2.1.toNatClampNeg := by rw [hvJ, if_pos cA]
    have m1 : r.2.1 + 1 ≤ e := by clear hP hT hrC hvJ hbad h35 hr; grind
    have m0 : 0 ≤ r.2.1 + 1 := by clear hP hT hrC hvJ hbad h35 hr; grind
    have hT2 : rT M I (a_ui J M 49 (J M 49 + 1)) := sT_at hT ⟨by rw [hA]; clear hP hT hrC hvJ hbad h35 hr; grind, by rw [hA]; clear hP hT hrC hvJ hbad h35 hr; grind⟩
    have n4 : a_ui J M 49 (J M 49 + 1) M 49 = r.2.1 + 1 := by rw [ui_ap, if_pos ⟨rfl, rfl⟩, hA]
    have nf : a_ui J M 49 (J M 49 + 1) (M + 32) = I (M + 32) := rT_fun hT2 (by omega)
    have h42 : a_at (d + 3) (a_xm a_m203) 42 [some (a_rf M), some (.int (r.2.2 (I (M + 32)))), some (.int (f r.2.1.toNatClampNeg)), none] [] (n, t, K, L, J, R) P := by
      simp only [q203_42, q203_43, q203_44, q203_47, q203_48, q203_49, q203_52, q203_53, m_0 hS, m_K hS, as_nil, as_i, as_r, Nat.reduceAdd, Nat.reduceLeDiff, z_eq0, z_eq1, z_or, z_em, Classical.not_not, not_false_eq_true, not_true_eq_false, true_and, and_true, false_and, and_false, and_self, true_implies, false_implies, implies_true, Option.toList_some, Option.toList_none, List.cons_append, List.nil_append, Nat.add_eq_zero_iff, a_nl_i, a_nl_r, a_nl_n, true_or, or_true, eq_self, ok_4, ok_5, ok_6, ok_7, ok_9, ok_10, ok_20, ok_21, ok_24, ok_30, ok_48, ok_50, ok_60, ok_80, ok_120, ok_180, ok_192, ok_200, ok_900, ok_1000, ok_84000, ui_ap, ne_MM, ne_M0, ne_0M, Nat.reduceEqDiff, reduceIte, if_true, if_false]
      refine xe_readSum hS hT2.1 (vw_T hvw hT2) (by rw [n4]; exact ⟨m0, m1⟩) (by rw [ui_ap, if_neg (by omega)]; exact hB) (fun J2 j1 j2 j3 => ?_)
      rw [n4] at j2 j3 ⊢
      rw [nf]
      have hp := hP J2 (rT_tr hT2 j1) (by rw [j2, hrC]) (by rw [j3, hrC])
      rw [hrC] at hp
      clear hP hT hrC hvJ hbad h35 hr hT2 j1 hvw hE
      rcases q2 with q2 | q2 | q2
      · have ev : xcmp (f r.2.1.toNatClampNeg) (r.2.2 (I (M + 32))) ((xS f e (r.2.1 + 1)).2.2 (I (M + 32))) = if r.2.2 (I (M + 32)) < (xS f e (r.2.1 + 1)).2.2 (I (M + 32)) then 1 else 0 := by rw [q2]; rfl
        have hp : P (some (.int (xcmp (f r.2.1.toNatClampNeg) (r.2.2 (I (M + 32))) ((xS f e (r.2.1 + 1)).2.2 (I (M + 32)))))) (n, t, K, L, J2, R) := hp
        rw [ev] at hp
        simp only [q203_56, q203_57, q203_58, q203_60, q203_63, q203_64, q203_65, q203_68, q203_69, q203_72, q203_73, q203_76, q203_77, q203_79, q203_82, q203_83, q203_84, q203_87, q203_88, q203_91, q203_92, q203_95, q203_96, q203_97, q203_100, q203_101, q203_104, q203_105, as_nil, as_i, as_r, Nat.reduceAdd, Nat.reduceLeDiff, z_eq0, z_eq1, z_or, z_em, Classical.not_not, not_false_eq_true, not_true_eq_false, true_and, and_true, false_and, and_false, and_self, true_implies, false_implies, implies_true, Option.toList_some, Option.toList_none, List.cons_append, List.nil_append, Nat.add_eq_zero_iff, a_nl_i, a_nl_r, a_nl_n, true_or, or_true, eq_self, ok_4, ok_5, ok_6, ok_7, ok_9, ok_10, ok_20, ok_21, ok_24, ok_30, ok_48, ok_50, ok_60, ok_80, ok_120, ok_180, ok_192, ok_200, ok_900, ok_1000, ok_84000, q2] at hp ⊢
        grind
      · have ev : xcmp (f r.2.1.toNatClampNeg) (r.2.2 (I (M + 32))) ((xS f e (r.2.1 + 1)).2.2 (I (M + 32))) = if r.2.2 (I (M + 32)) = (xS f e (r.2.1 + 1)).2.2 (I (M + 32)) then 1 else 0 := by rw [q2]; rfl
        have hp : P (some (.int (xcmp (f r.2.1.toNatClampNeg) (r.2.2 (I (M + 32))) ((xS f e (r.2.1 + 1)).2.2 (I (M + 32)))))) (n, t, K, L, J2, R) := hp
        rw [ev] at hp
        have n1 : ¬ (61 : Int32) = 60 := by decide
        simp only [q203_56, q203_57, q203_58, q203_60, q203_63, q203_64, q203_65, q203_68, q203_69, q203_72, q203_73, q203_76, q203_77, q203_79, q203_82, q203_83, q203_84, q203_87, q203_88, q203_91, q203_92, q203_95, q203_96, q203_97, q203_100, q203_101, q203_104, q203_105, as_nil, as_i, as_r, Nat.reduceAdd, Nat.reduceLeDiff, z_eq0, z_eq1, z_or, z_em, Classical.not_not, not_false_eq_true, not_true_eq_false, true_and, and_true, false_and, and_false, and_self, true_implies, false_implies, implies_true, Option.toList_some, Option.toList_none, List.cons_append, List.nil_append, Nat.add_eq_zero_iff, a_nl_i, a_nl_r, a_nl_n, true_or, or_true, eq_self, ok_4, ok_5, ok_6, ok_7, ok_9, ok_10, ok_20, ok_21, ok_24, ok_30, ok_48, ok_50, ok_60, ok_80, ok_120, ok_180, ok_192, ok_200, ok_900, ok_1000, ok_84000, q2, n1] at hp ⊢
        grind
      · have ev : xcmp (f r.2.1.toNatClampNeg) (r.2.2 (I (M + 32))) ((xS f e (r.2.1 + 1)).2.2 (I (M + 32))) = if (xS f e (r.2.1 + 1)).2.2 (I (M + 32)) < r.2.2 (I (M + 32)) then 1 else 0 := by rw [q2]; rfl
        have hp : P (some (.int (xcmp (f r.2.1.toNatClampNeg) (r.2.2 (I (M + 32))) ((xS f e (r.2.1 + 1)).2.2 (I (M + 32)))))) (n, t, K, L, J2, R) := hp
        rw [ev] at hp
        have n1 : ¬ (62 : Int32) = 60 := by decide
        have n2 : ¬ (62 : Int32) = 61 := by decide
        simp only [q203_56, q203_57, q203_58, q203_60, q203_63, q203_64, q203_65, q203_68, q203_69, q203_72, q203_73, q203_76, q203_77, q203_79, q203_82, q203_83, q203_84, q203_87, q203_88, q203_91, q203_92, q203_95, q203_96, q203_97, q203_100, q203_101, q203_104, q203_105, as_nil, as_i, as_r, Nat.reduceAdd, Nat.reduceLeDiff, z_eq0, z_eq1, z_or, z_em, Classical.not_not, not_false_eq_true, not_true_eq_false, true_and, and_true, false_and, and_false, and_self, true_implies, false_implies, implies_true, Option.toList_some, Option.toList_none, List.cons_append, List.nil_append, Nat.add_eq_zero_iff, a_nl_i, a_nl_r, a_nl_n, true_or, or_true, eq_self, ok_4, ok_5, ok_6, ok_7, ok_9, ok_10, ok_20, ok_21, ok_24, ok_30, ok_48, ok_50, ok_60, ok_80, ok_120, ok_180, ok_192, ok_200, ok_900, ok_1000, ok_84000, q2, n1, n2] at hp ⊢
        grind
    rw [hvf]
    clear hP hT hrC hvJ hbad h35 hr hT2 hvf hvw hE
    simp only [q203_9, q203_10, q203_11, q203_14, q203_17, q203_18, q203_20, q203_23, q203_24, q203_26, q203_29, q203_30, q203_32, m_0 hS, m_K hS, as_nil, as_i, as_r, Nat.reduceAdd, Nat.reduceLeDiff, z_eq0, z_eq1, z_or, z_em, Classical.not_not, not_false_eq_true, not_true_eq_false, true_and, and_true, false_and, and_false, and_self, true_implies, false_implies, implies_true, Option.toList_some, Option.toList_none, List.cons_append, List.nil_append, Nat.add_eq_zero_iff, a_nl_i, a_nl_r, a_nl_n, true_or, or_true, eq_self, ok_4, ok_5, ok_6, ok_7, ok_9, ok_10, ok_20, ok_21, ok_24, ok_30, ok_48, ok_50, ok_60, ok_80, ok_120, ok_180, ok_192, ok_200, ok_900, ok_1000, ok_84000, hB]
    grind
  · have hp := h35 q
    rw [hvJ]
    have hB2 : ¬ J M 50 = 0 ∨ ¬ i3 f e r.2.1 60 61 62 := by
      by_cases r1 : r.1 = true
      · exact Or.inr (fun z => q ⟨r1, z⟩)
      · rw [if_neg r1] at hB
        exact Or.inl (by rw [hB]; decide)
    have hB3 : ¬ J M 50 = 0 ∨ (¬ (if r.2.1 < e then f r.2.1.toNatClampNeg else -1) = 60 ∧ ¬ (if r.2.1 < e then f r.2.1.toNatClampNeg else -1) = 61 ∧ ¬ (if r.2.1 < e then f r.2.1.toNatClampNeg else -1) = 62) := by
      refine hB2.imp id (fun z => ?_)
      by_cases l : r.2.1 < e
      · rw [if_pos l]
        exact ⟨fun w => z ⟨l, Or.inl w⟩, fun w => z ⟨l, Or.inr (Or.inl w)⟩, fun w => z ⟨l, Or.inr (Or.inr w)⟩⟩
      · rw [if_neg l]
        decide
    generalize (if r.2.1 < e then f r.2.1.toNatClampNeg else -1) = c at hB3 ⊢
    clear hP hT hrC hvJ hbad h35 hr hB hB2 hvw hE q
    simp only [q203_9, q203_10, q203_11, q203_14, q203_17, q203_18, q203_20, q203_23, q203_24, q203_26, q203_29, q203_30, q203_32, q203_35, q203_36, q203_37, q203_40, q203_41, m_0 hS, m_K hS, as_nil, as_i, as_r, Nat.reduceAdd, Nat.reduceLeDiff, z_eq0, z_eq1, z_or, z_em, Classical.not_not, not_false_eq_true, not_true_eq_false, true_and, and_true, false_and, and_false, and_self, true_implies, false_implies, implies_true, Option.toList_some, Option.toList_none, List.cons_append, List.nil_append, Nat.add_eq_zero_iff, a_nl_i, a_nl_r, a_nl_n, true_or, or_true, eq_self, ok_4, ok_5, ok_6, ok_7, ok_9, ok_10, ok_20, ok_21, ok_24, ok_30, ok_48, ok_50, ok_60, ok_80, ok_120, ok_180, ok_192, ok_200, ok_900, ok_1000, ok_84000]
    grind
end XA
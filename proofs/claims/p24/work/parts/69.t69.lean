/-! AGAIN: the reference -/
section YJ0
variable {d n t M : Nat} {K L : Nat → Nat} {I I0 J J0 J1 J2 : Nat → Nat → Int32} {R : Nat → Nat → Nat} {P : Option Value → AH → Prop} {f : Nat → Int32} {e : Int32}
variable {Y Z W : Nat → Nat → Int32}
/-- who had a place and has none -/
def lqB (Y Z : Nat → Nat → Int32) (x : Int32) : Bool := decide (0 ≤ Y 20 x.toNatClampNeg ∧ ¬ 0 ≤ Z 20 x.toNatClampNeg)
theorem agS_20 {x n : Nat} : ∀ (k : Nat) (a : Int32) (p : (Nat → Nat → Int32) × (Nat → Int32) × Nat), 0 ≤ a → a.toNatClampNeg + k = n → n ≤ 30 → x < a.toNatClampNeg → (agS k a p).1 20 x = p.1 20 x := by
  intro k
  induction k with
  | zero => intro a p _ _ _ _; rfl
  | succ k ih =>
    intro a p h0 h1 h2 hx
    have w : a < 30 := cl_lt2 h0 (by decide) (by rw [show (30 : Int32).toNatClampNeg = 30 from rfl]; omega)
    obtain ⟨-, s2, -, s4⟩ := lp_st h0 w
    unfold agS
    rw [ih (a + 1) _ s2 (by omega) h2 (by omega)]
    by_cases c : agB p.1 a = true
    · rw [if_pos c]
      exact un_o (Or.inr (by omega))
    · rw [if_neg c]
/-- the row is that of who lost a place -/
theorem agS_or {n : Nat} (h2 : n ≤ 30) : ∀ (k : Nat) (a : Int32) (W : Nat → Nat → Int32) (o : Nat → Int32) (m : Nat), 0 ≤ a → a.toNatClampNeg + k = n → sbE Y W → (∀ j, a.toNatClampNeg ≤ j → W 20 j = Y 20 j) → (agS k a (W, o, m)).2 = orF Y (lqB Y (agS k a (W, o, m)).1) k a (o, m) := by
  intro k
  induction k with
  | zero => intro a W o m _ _ _ _; rfl
  | succ k ih =>
    intro a W o m h0 h1 hb hW
    have w : a < 30 := cl_lt2 h0 (by decide) (by rw [show (30 : Int32).toNatClampNeg = 30 from rfl]; omega)
    obtain ⟨-, s2, -, s4⟩ := lp_st h0 w
    have e20 : ∀ p, (agS k (a + 1) p).1 20 a.toNatClampNeg = p.1 20 a.toNatClampNeg := fun p => agS_20 (n := n) k (a + 1) p s2 (by omega) h2 (by omega)
    unfold agS orF
    by_cases c : agB W a = true
    · have hq : lqB Y (agS k (a + 1) (unY W a, inS W a m o, m + 1)).1 a = true := decide_eq_true ⟨by rw [← hW _ (Nat.le_refl _)]; exact (of_decide_eq_true c).1.1, by rw [e20]; show ¬ 0 ≤ unY W a 20 a.toNatClampNeg; rw [un_a (Or.inl rfl)]; decide⟩
      have hi := ih (a + 1) (unY W a) (inS W a m o) (m + 1) s2 (by omega) (sb_tr hb unY_b) (fun j hj => by rw [un_o (Or.inr (by omega))]; exact hW j (by omega))
      rw [if_pos c, if_pos hq, hi, inS_b hb]
    · have hq : ¬ lqB Y (agS k (a + 1) (W, o, m)).1 a = true := fun q => by
        have := of_decide_eq_true q
        rw [e20] at this
        exact this.2 (by show 0 ≤ W 20 a.toNatClampNeg; rw [hW _ (Nat.le_refl _)]; exact this.1)
      have hi := ih (a + 1) W o m s2 (by omega) hb (fun j hj => hW j (by omega))
      rw [if_neg c, if_neg hq, hi]
theorem orF_b (hb : sbE Y W) {q : Int32 → Bool} : ∀ (k : Nat) (a : Int32) (p : (Nat → Int32) × Nat), orF W q k a p = orF Y q k a p := by
  intro k
  induction k with
  | zero => intro a p; rfl
  | succ k ih =>
    intro a p
    unfold orF
    rw [ih, inS_b hb]
theorem agP_or (h17 : 0 ≤ Y 0 17 ∧ Y 0 17 ≤ 30) : (agP Y).2 = orF Y (lqB Y (agP Y).1) (Y 0 17).toNatClampNeg 0 (fun _ => 0, 0) := by
  have l30 := cl_le0 h17.1 h17.2
  exact agS_or (Y := Y) (n := (Y 0 17).toNatClampNeg) l30 (Y 0 17).toNatClampNeg 0 Y (fun _ => 0) 0 (by decide) (by rw [show (0 : Int32).toNatClampNeg = 0 from rfl, Nat.zero_add]) (fun _ _ _ => rfl) (fun _ _ => rfl)
/-- finding an order changes the row alone -/
def foP (M : Nat) (I J : Nat → Nat → Int32) : Prop := mR M J ∧ ∀ x j, ¬ x = (M + 40) → ¬ (x = M ∧ j = 64) → J x j = I x j
theorem fo_order (h : foP M I J) {k : Nat} {v : Int32} (hv : 0 ≤ v ∧ v ≤ 29) : foP M I (a_ui J (M + 40) k v) := ⟨sR_order h.1 hv, fun x j h1 h2 => by rw [ui_ap, if_neg (fun e => h1 e.1)]; exact h.2 x j h1 h2⟩
theorem fo_orderMany (h : foP M I J) {v : Int32} : foP M I (a_ui J M 64 v) := ⟨sR_orderMany h.1, fun x j h1 h2 => by rw [ui_ap, if_neg (fun e => h2 e)]; exact h.2 x j h1 h2⟩
theorem lf_findOrder_29 (hS : m_S M K L R) {g a m : Int32} (ha : 0 ≤ a ∧ a < 30) (hm : m ≤ a) (hN : ∀ J p, foP M I0 J → J M 64 = m + 1 → a_at (d + 3) (a_xm a_m236) 7 [some (a_rf M), some (.int g), some (.int (a + 1)), some (.int p)] [] (n, t, K, L, J, R) P) : ∀ p : Int32, 0 ≤ p → ∀ J, p ≤ m → J M 64 = m → foP M I0 J → a_at (d + 3) (a_xm a_m236) 29 [some (a_rf M), some (.int g), some (.int a), some (.int p)] [] (n, t, K, L, J, R) P := by
  refine dn_ind 0 (fun p hp ih => ?_)
  intro J hpm hJ hF
  have hR := hF.1
  have g1 := rg_order hR
  have g2 := g1 (p - 1).toNatClampNeg
  rw [q236_29]
  repeat' first
    | with_reducible apply And.intro
    | with_reducible assumption
    | with_reducible intro _
    | with_reducible apply ih
    | with_reducible apply hN
    | with_reducible apply fo_order
    | with_reducible apply fo_orderMany
    | with_reducible apply ct_goesAhead hS hR
    | simp only [q236_0, q236_1, q236_2, q236_5, q236_6, q236_8, q236_9, q236_12, q236_15, q236_16, q236_17, q236_18, q236_19, q236_20, q236_21, q236_24, q236_25, q236_28, q236_30, q236_33, q236_34, q236_35, q236_36, q236_39, q236_40, q236_41, q236_42, q236_43, q236_46, q236_49, q236_50, q236_53, q236_54, q236_55, q236_58, q236_59, q236_60, q236_61, q236_62, q236_63, q236_66, q236_69, q236_70, q236_73, q236_74, q236_75, q236_76, q236_77, q236_78, q236_81, q236_82, q236_83, q236_86, q236_89, q236_92, m_0 hS, m_K hS, mR_order hS, mK_order hS, mL_order hS, as_nil, as_i, as_r, Nat.reduceAdd, Nat.reduceLeDiff, z_eq0, z_eq1, z_or, z_em, Classical.not_not, not_false_eq_true, not_true_eq_false, true_and, and_true, false_and, and_false, and_self, true_implies, false_implies, implies_true, Option.toList_some, Option.toList_none, List.cons_append, List.nil_append, Nat.add_eq_zero_iff, a_nl_i, a_nl_r, a_nl_n, true_or, or_true, eq_self, ok_4, ok_5, ok_6, ok_7, ok_9, ok_10, ok_20, ok_21, ok_24, ok_30, ok_48, ok_50, ok_60, ok_80, ok_120, ok_180, ok_192, ok_200, ok_900, ok_1000, ok_84000]
  all_goals grind [ui_ap]
theorem lf_findOrder_7 (hS : m_S M K L R) {g : Int32} (hP : ∀ J, foP M I0 J → P none (n, t, K, L, J, R)) : ∀ a : Int32, a ≤ 30 → ∀ J p, 0 ≤ a → foP M I0 J → (0 ≤ J M 64 ∧ J M 64 ≤ a) → a_at (d + 3) (a_xm a_m236) 7 [some (a_rf M), some (.int g), some (.int a), p] [] (n, t, K, L, J, R) P := by
  refine up_ind 30 (fun a ha ih => ?_)
  intro J p h0 hF hm
  have g1 := rg_asks hF.1
  rw [q236_7]
  repeat' first
    | with_reducible apply And.intro
    | with_reducible assumption
    | with_reducible intro _
    | with_reducible apply ih
    | with_reducible apply hP
    | with_reducible apply lf_findOrder_29 hS (I0 := I0) (m := J M 64)
    | simp only [q236_0, q236_1, q236_2, q236_5, q236_6, q236_8, q236_9, q236_12, q236_15, q236_16, q236_17, q236_18, q236_19, q236_20, q236_21, q236_24, q236_25, q236_28, q236_30, q236_33, q236_34, q236_35, q236_36, q236_39, q236_40, q236_41, q236_42, q236_43, q236_46, q236_49, q236_50, q236_53, q236_54, q236_55, q236_58, q236_59, q236_60, q236_61, q236_62, q236_63, q236_66, q236_69, q236_70, q236_73, q236_74, q236_75, q236_76, q236_77, q236_78, q236_81, q236_82, q236_83, q236_86, q236_89, q236_92, m_0 hS, m_K hS, mR_order hS, mK_order hS, mL_order hS, as_nil, as_i, as_r, Nat.reduceAdd, Nat.reduceLeDiff, z_eq0, z_eq1, z_or, z_em, Classical.not_not, not_false_eq_true, not_true_eq_false, true_and, and_true, false_and, and_false, and_self, true_implies, false_implies, implies_true, Option.toList_some, Option.toList_none, List.cons_append, List.nil_append, Nat.add_eq_zero_iff, a_nl_i, a_nl_r, a_nl_n, true_or, or_true, eq_self, ok_4, ok_5, ok_6, ok_7, ok_9, ok_10, ok_20, ok_21, ok_24, ok_30, ok_48, ok_50, ok_60, ok_80, ok_120, ok_180, ok_192, ok_200, ok_900, ok_1000, ok_84000]
  all_goals grind [ui_ap]
theorem cf_findOrder (hS : m_S M K L R) (hR : mR M I) {g : Int32} (hP : ∀ J, foP M I J → P none (n, t, K, L, J, R)) : a_does (d + 4) 236 [a_rf M, .int g] (n, t, K, L, I, R) P := by
  have hF : foP M I I := ⟨hR, fun _ _ _ _ => rfl⟩
  rw [a_enter1 (M := a_m236) rfl (a_cat_rf (a_cat_int a_cat_nil)) (show 2 ≤ 4 by decide)]
  show a_at _ (a_xm a_m236) 0 [some (a_rf M), some (.int g), none, none] [] _ _
  repeat' first
    | with_reducible apply And.intro
    | with_reducible assumption
    | with_reducible intro _
    | with_reducible apply lf_findOrder_7 hS hP
    | with_reducible apply fo_orderMany
    | simp only [q236_0, q236_1, q236_2, q236_5, q236_6, q236_8, q236_9, q236_12, q236_15, q236_16, q236_17, q236_18, q236_19, q236_20, q236_21, q236_24, q236_25, q236_28, q236_30, q236_33, q236_34, q236_35, q236_36, q236_39, q236_40, q236_41, q236_42, q236_43, q236_46, q236_49, q236_50, q236_53, q236_54, q236_55, q236_58, q236_59, q236_60, q236_61, q236_62, q236_63, q236_66, q236_69, q236_70, q236_73, q236_74, q236_75, q236_76, q236_77, q236_78, q236_81, q236_82, q236_83, q236_86, q236_89, q236_92, m_0 hS, m_K hS, mR_order hS, mK_order hS, mL_order hS, as_nil, as_i, as_r, Nat.reduceAdd, Nat.reduceLeDiff, z_eq0, z_eq1, z_or, z_em, Classical.not_not, not_false_eq_true, not_true_eq_false, true_and, and_true, false_and, and_false, and_self, true_implies, false_implies, implies_true, Option.toList_some, Option.toList_none, List.cons_append, List.nil_append, Nat.add_eq_zero_iff, a_nl_i, a_nl_r, a_nl_n, true_or, or_true, eq_self, ok_4, ok_5, ok_6, ok_7, ok_9, ok_10, ok_20, ok_21, ok_24, ok_30, ok_48, ok_50, ok_60, ok_80, ok_120, ok_180, ok_192, ok_200, ok_900, ok_1000, ok_84000]
  all_goals grind [ui_ap]
theorem xt_fitsNoMore (hS : m_S M K L R) (hm : moY Y) (h17 : 0 ≤ Y 0 17 ∧ Y 0 17 ≤ 30) (h10 : ∀ j, 0 ≤ Y 10 j ∧ Y 10 j ≤ 4) (hg : gs M I0 I Y) {a : Int32} (ha : 0 ≤ a ∧ a < 30) (hl1 : 1 ≤ Y 10 a.toNatClampNeg) (hP : ∀ J, mC M I J → P (some (.int (if agB Y a = true then 1 else 0))) (n, t, K, L, J, R)) : a_does (d + 11) 248 [a_rf M, .int a] (n, t, K, L, I, R) P := by
  have e20 : I (M + 20) a.toNatClampNeg = Y 20 a.toNatClampNeg := hg.2.2.1 20 _ (by unfold ps1; omega)
  have e21 : I (M + 21) a.toNatClampNeg = Y 21 a.toNatClampNeg := hg.2.2.1 21 _ (by unfold ps1; omega)
  have e0 : I M 0 = Y 0 0 := hg.2.2.1 0 0 (by unfold ps1; omega)
  have es : (agB Y a = true) = ((0 ≤ Y 20 a.toNatClampNeg ∧ ¬ Y 21 a.toNatClampNeg * 8 < Y 0 0) ∧ ¬ ftY Y a (Y 20 a.toNatClampNeg) (Y 21 a.toNatClampNeg) = 0) := propext ⟨fun q => of_decide_eq_true q, fun q => decide_eq_true q⟩
  simp only [es] at hP
  by_cases c1 : 0 ≤ Y 20 a.toNatClampNeg
  · by_cases c2 : Y 21 a.toNatClampNeg * 8 < Y 0 0
    · have hp := hP I (mC_refl hg.1)
      rw [if_neg (fun q => q.1.2 c2)] at hp
      rw [Int32.mul_comm] at c2
      clear hP hm hg
      rw [a_enter1 (M := a_m248) rfl (a_cat_rf (a_cat_int a_cat_nil)) (show 2 ≤ 2 by decide)]
      show a_at _ (a_xm a_m248) 0 [some (a_rf M), some (.int a)] [] _ _
      simp only [q248_0, q248_1, q248_2, q248_5, q248_8, q248_9, q248_10, q248_13, q248_14, q248_15, q248_18, q248_45, q248_46, m_0 hS, m_K hS, mR_atShift hS, mK_atShift hS, mL_atShift hS, sp_hasPlace hS, sp_isBegun hS, as_nil, as_i, as_r, Nat.reduceAdd, Nat.reduceLeDiff, z_eq0, z_eq1, z_or, z_em, Classical.not_not, not_false_eq_true, not_true_eq_false, true_and, and_true, false_and, and_false, and_self, true_implies, false_implies, implies_true, Option.toList_some, Option.toList_none, List.cons_append, List.nil_append, Nat.add_eq_zero_iff, a_nl_i, a_nl_r, a_nl_n, true_or, or_true, eq_self, ok_4, ok_5, ok_6, ok_7, ok_9, ok_10, ok_20, ok_21, ok_24, ok_30, ok_48, ok_50, ok_60, ok_80, ok_120, ok_180, ok_192, ok_200, ok_900, ok_1000, ok_84000, e20, e21, e0, c1, c2, ha]
      try simp only [true_and, and_true, true_implies, false_implies, implies_true, not_true_eq_false, not_false_eq_true]
      first
        | exact hp
        | exact ⟨by decide, hp⟩
        | grind
    · have a30 : a.toNatClampNeg < 30 := a_lt30 ha
      obtain ⟨⟨p1, p2, p3⟩, p4⟩ := hm.2.2.2.1 _ a30 c1
      have hcall : a_does (d + 10) 221 [a_rf M, .int a, .int (Y 20 a.toNatClampNeg), .int (Y 21 a.toNatClampNeg)] (n, t, K, L, I, R) (fun r h' => a_at (d + 10) (a_xm a_m248) 38 [some (a_rf M), some (.int a)] (r.toList ++ []) h' P) := by
        refine xt_fitOf (d := d) hS (moP_of hg.1 hm hg.2.2) (mC_refl hg.1) ha ⟨c1, p4⟩ ⟨p1, by clear hP es; grind⟩ (fun J hJ => ?_)
        rw [ftY_p h17 h10 hg.2.2]
        have hp := hP J hJ
        clear hP hm hg es
        by_cases cf : ftY Y a (Y 20 a.toNatClampNeg) (Y 21 a.toNatClampNeg) = 0
        · rw [if_neg (fun q => q.2 cf)] at hp
          simp only [q248_38, q248_41, q248_42, q248_45, q248_46, as_nil, as_i, as_r, Nat.reduceAdd, Nat.reduceLeDiff, z_eq0, z_eq1, z_or, z_em, Classical.not_not, not_false_eq_true, not_true_eq_false, true_and, and_true, false_and, and_false, and_self, true_implies, false_implies, implies_true, Option.toList_some, Option.toList_none, List.cons_append, List.nil_append, Nat.add_eq_zero_iff, a_nl_i, a_nl_r, a_nl_n, true_or, or_true, eq_self, ok_4, ok_5, ok_6, ok_7, ok_9, ok_10, ok_20, ok_21, ok_24, ok_30, ok_48, ok_50, ok_60, ok_80, ok_120, ok_180, ok_192, ok_200, ok_900, ok_1000, ok_84000, cf]
          try simp only [true_and, and_true, true_implies, false_implies, implies_true, not_true_eq_false, not_false_eq_true]
          first
            | exact hp
            | grind
        · rw [if_pos ⟨⟨c1, c2⟩, cf⟩] at hp
          simp only [q248_38, q248_41, q248_42, q248_45, q248_46, as_nil, as_i, as_r, Nat.reduceAdd, Nat.reduceLeDiff, z_eq0, z_eq1, z_or, z_em, Classical.not_not, not_false_eq_true, not_true_eq_false, true_and, and_true, false_and, and_false, and_self, true_implies, false_implies, implies_true, Option.toList_some, Option.toList_none, List.cons_append, List.nil_append, Nat.add_eq_zero_iff, a_nl_i, a_nl_r, a_nl_n, true_or, or_true, eq_self, ok_4, ok_5, ok_6, ok_7, ok_9, ok_10, ok_20, ok_21, ok_24, ok_30, ok_48, ok_50, ok_60, ok_80, ok_120, ok_180, ok_192, ok_200, ok_900, ok_1000, ok_84000, cf]
          try simp only [true_and, and_true, true_implies, false_implies, implies_true, not_true_eq_false, not_false_eq_true]
          first
            | exact hp
            | grind
      rw [Int32.mul_comm] at c2
      clear hP hm hg es
      rw [a_enter1 (M := a_m248) rfl (a_cat_rf (a_cat_int a_cat_nil)) (show 2 ≤ 2 by decide)]
      show a_at _ (a_xm a_m248) 0 [some (a_rf M), some (.int a)] [] _ _
      simp only [q248_0, q248_1, q248_2, q248_5, q248_8, q248_9, q248_10, q248_13, q248_14, q248_15, q248_18, q248_21, q248_22, q248_23, q248_24, q248_27, q248_28, q248_29, q248_30, q248_33, q248_34, q248_35, m_0 hS, m_K hS, mR_atShift hS, mK_atShift hS, mL_atShift hS, mR_atBench hS, mK_atBench hS, mL_atBench hS, sp_hasPlace hS, sp_isBegun hS, as_nil, as_i, as_r, Nat.reduceAdd, Nat.reduceLeDiff, z_eq0, z_eq1, z_or, z_em, Classical.not_not, not_false_eq_true, not_true_eq_false, true_and, and_true, false_and, and_false, and_self, true_implies, false_implies, implies_true, Option.toList_some, Option.toList_none, List.cons_append, List.nil_append, Nat.add_eq_zero_iff, a_nl_i, a_nl_r, a_nl_n, true_or, or_true, eq_self, ok_4, ok_5, ok_6, ok_7, ok_9, ok_10, ok_20, ok_21, ok_24, ok_30, ok_48, ok_50, ok_60, ok_80, ok_120, ok_180, ok_192, ok_200, ok_900, ok_1000, ok_84000, e20, e21, e0, c1, c2, ha]
      try simp only [true_and, and_true, true_implies, false_implies, implies_true, not_true_eq_false, not_false_eq_true]
      first
        | exact hcall
        | grind
  · have hp := hP I (mC_refl hg.1)
    rw [if_neg (fun q => c1 q.1.1)] at hp
    clear hP hm hg
    rw [a_enter1 (M := a_m248) rfl (a_cat_rf (a_cat_int a_cat_nil)) (show 2 ≤ 2 by decide)]
    show a_at _ (a_xm a_m248) 0 [some (a_rf M), some (.int a)] [] _ _
    simp only [q248_0, q248_1, q248_2, q248_5, q248_45, q248_46, m_0 hS, m_K hS, sp_hasPlace hS, as_nil, as_i, as_r, Nat.reduceAdd, Nat.reduceLeDiff, z_eq0, z_eq1, z_or, z_em, Classical.not_not, not_false_eq_true, not_true_eq_false, true_and, and_true, false_and, and_false, and_self, true_implies, false_implies, implies_true, Option.toList_some, Option.toList_none, List.cons_append, List.nil_append, Nat.add_eq_zero_iff, a_nl_i, a_nl_r, a_nl_n, true_or, or_true, eq_self, ok_4, ok_5, ok_6, ok_7, ok_9, ok_10, ok_20, ok_21, ok_24, ok_30, ok_48, ok_50, ok_60, ok_80, ok_120, ok_180, ok_192, ok_200, ok_900, ok_1000, ok_84000, e20, c1, ha]
    try simp only [true_and, and_true, true_implies, false_implies, implies_true, not_true_eq_false, not_false_eq_true]
    first
      | exact hp
      | exact ⟨by decide, hp⟩
      | grind
theorem xt_again_70 (hS : m_S M K L R) {I1 : Nat → Nat → Int32} (hm : moY Y) (h17 : 0 ≤ Y 0 17 ∧ Y 0 17 ≤ 30) (h10 : ∀ j, 0 ≤ Y 10 j ∧ Y 10 j ≤ 4) (h6 : 0 ≤ Y 0 6 ∧ Y 0 6 ≤ 6) (hl : ∀ i : Int32, 0 ≤ i → i < Y 0 17 → 1 ≤ Y 10 i.toNatClampNeg) {c : Nat} (hc : c + 130 ≤ 84000) {f g : Int32} (hf : 0 ≤ f ∧ f ≤ 202) (ef : Y 0 0 / 8 + 1 = f) {o : Nat → Int32} {m : Nat} (hm30 : m ≤ 30) (ho : ∀ j, j < m → (0 ≤ o j ∧ o j < Y 0 17) ∧ 0 ≤ Y 20 (o j).toNatClampNeg) (hoi : ∀ i j, i < m → j < m → o i = o j → i = j) {V : (Nat → Nat → Int32) × Nat} (hP : ∀ J, mF M (c + 120) I1 J → gs M I0 J V.1 → sbE Y V.1 → inP V.1 → P (some (.int (Int32.ofNat V.2))) (n, t, K, L, J, R)) : ∀ (k i : Nat) (J W : Nat → Nat → Int32) (mv : Nat) (u v : Option Value), i + k = m → mF M (c + 4 * i) I1 J → gs M I0 J W → sbE Y W → inP W → J M 64 = Int32.ofNat m → (∀ j, j < m → J (M + 40) j = o j) → (∀ j, j < m → J (M + 45) (o j).toNatClampNeg = Y 20 (o j).toNatClampNeg ∧ J (M + 46) (o j).toNatClampNeg = Y 21 (o j).toNatClampNeg) → (∀ j, i ≤ j → j < m → ¬ 0 ≤ W 20 (o j).toNatClampNeg) → mv ≤ i → agM o f 199 Y k i (W, mv) = V → a_at (d + 12) (a_xm a_m247) 70 [some (a_rf M), some (.int g), some (.int (Int32.ofNat mv)), some (.int (Int32.ofNat i)), u, v] [] (n, t, K, L, J, R) P := by
  intro k
  induction k with
  | zero =>
    intro i J W mv u uv hk hF hg hb hi h64 hor hwas hun hmv hV
    have e : (W, mv) = V := hV
    subst e
    have hp := hP J (mF_le hF (by omega)) hg hb hi
    have ei : i = m := by omega
    rw [ei]
    clear hP hF hg hb hi hm hor ho hl hwas hun
    rw [q247_70]
    simp only [q247_71, q247_72, q247_75, q247_160, q247_161, m_0 hS, m_K hS, as_nil, as_i, as_r, Nat.reduceAdd, Nat.reduceLeDiff, z_eq0, z_eq1, z_or, z_em, Classical.not_not, not_false_eq_true, not_true_eq_false, true_and, and_true, false_and, and_false, and_self, true_implies, false_implies, implies_true, Option.toList_some, Option.toList_none, List.cons_append, List.nil_append, Nat.add_eq_zero_iff, a_nl_i, a_nl_r, a_nl_n, true_or, or_true, eq_self, ok_4, ok_5, ok_6, ok_7, ok_9, ok_10, ok_20, ok_21, ok_24, ok_30, ok_48, ok_50, ok_60, ok_80, ok_120, ok_180, ok_192, ok_200, ok_900, ok_1000, ok_84000, h64]
    first
      | exact hp
      | exact ⟨fun _ => hp, fun q => absurd (Int32.le_refl _) q⟩
      | grind
  | succ k ih =>
    intro i J W mv u uv hk hF hg hb hi h64 hor hwas hun hmv hV
    have him : i < m := by omega
    obtain ⟨⟨q1, q2⟩, q3⟩ := ho i him
    have o30 : 0 ≤ o i ∧ o i < 30 := ⟨q1, Int32.lt_of_lt_of_le q2 h17.2⟩
    have w17 : W 0 17 = Y 0 17 := hb 0 17 (by unfold sb; omega)
    have w00 : W 0 0 = Y 0 0 := hb 0 0 (by unfold sb; omega)
    have w10 : W 10 = Y 10 := sbE_r hb (by omega)
    have w6 : W 0 6 = Y 0 6 := hb 0 6 (by unfold sb; omega)
    have hok := on_ok (p := i) (by omega)
    have ei := (on_p (p := i) (by omega)).2.2.1
    have ei1 := (on_p (p := i) (by omega)).2.2.2.2.1
    have ev1 := (on_p (p := mv) (by omega)).2.2.2.2.1
    have nle : ¬ Int32.ofNat m ≤ Int32.ofNat i := Int32.not_le.mpr (by rw [on_lt (by omega) (by omega)]; omega)
    have n8 : ¬ (8 : Int32) = 0 := by decide
    have enow : J M 0 = Y 0 0 := (hg.2.2.1 0 0 (by unfold ps1; omega)).trans w00
    have un := hun i (Nat.le_refl _) him
    have hwi := hwas i him
    have ok1 : okB W (o i) f 199 0 = true := by unfold okB; rw [if_pos rfl]
    have hafter : ∀ v Z, giY W (o i) f 199 true = Z → (v = 0 → ¬ 0 ≤ Z 20 (o i).toNatClampNeg) → sbE Y Z → inP Z → (∀ j, i < j → j < m → ¬ 0 ≤ Z 20 (o j).toNatClampNeg) → ∀ J2, mF M (c + 4 * (i + 1)) I1 J2 → gv M J J2 → gs M I0 J2 Z → (v = 0 ∨ v = 1) → a_at (d + 12) (a_xm a_m247) 105 [some (a_rf M), some (.int g), some (.int (Int32.ofNat mv)), some (.int (Int32.ofNat i)), some (.int (o i)), uv] [.int v] (n, t, K, L, J2, R) P := fun v Z eZ hv hbZ hiZ hunZ J2 f2 v2 g2 hv01 => by
      have e20 : J2 (M + 20) (o i).toNatClampNeg = Z 20 (o i).toNatClampNeg := g2.2.2.1 20 _ (by unfold ps1; omega)
      have e21 : J2 (M + 21) (o i).toNatClampNeg = Z 21 (o i).toNatClampNeg := g2.2.2.1 21 _ (by unfold ps1; omega)
      have g45 : ∀ j, J2 (M + 45) j = J (M + 45) j := fun j => v2 _ _ (by unfold evC; omega) (by unfold sC; omega) (by omega) (by omega)
      have g46 : ∀ j, J2 (M + 46) j = J (M + 46) j := fun j => v2 _ _ (by unfold evC; omega) (by unfold sC; omega) (by omega) (by omega)
      have e45 : J2 (M + 45) (o i).toNatClampNeg = Y 20 (o i).toNatClampNeg := (g45 _).trans hwi.1
      have e46 : J2 (M + 46) (o i).toNatClampNeg = Y 21 (o i).toNatClampNeg := (g46 _).trans hwi.2
      unfold agM at hV
      have e1 : ∀ (x : Nat → Nat → Int32) (y : Nat), (x, y).1 = x ∧ (x, y).2 = y := fun _ _ => ⟨rfl, rfl⟩
      rw [(e1 _ _).1, (e1 _ _).2, eZ] at hV
      have hn := fun mv2 (hmv2 : mv2 ≤ i + 1) (hv2 : agM o f 199 Y k (i + 1) (Z, mv2) = V) => ih (i + 1) J2 Z mv2 (some (.int (o i))) (some (.int v)) (by omega) f2 g2 hbZ hiZ (by rw [gv_orderMany v2]; exact h64) (fun j hj => by
        rw [v2 (M + 40) j (by unfold evC; omega) (by unfold sC; omega) (by omega) (by omega)]
        exact hor j hj) (fun j hj => by rw [g45, g46]; exact hwas j hj) (fun j hj hj2 => hunZ j (by omega) hj2) hmv2 hv2
      by_cases cs : Z 20 (o i).toNatClampNeg = Y 20 (o i).toNatClampNeg ∧ Z 21 (o i).toNatClampNeg = Y 21 (o i).toNatClampNeg
      · rw [if_pos cs] at hV
        have hn := hn mv (by omega) hV
        obtain ⟨c1, c2⟩ := cs
        have v1 : v = 1 := hv01.resolve_left (fun q => hv q (by rw [c1]; exact q3))
        subst v1
        have n10 : ¬ (1 : Int32) = 0 := by decide
        clear ih hP hF hg hb hi hm hor ho hl hV f2 g2 v2 hwas hun hbZ hiZ hunZ
        simp only [q247_105, q247_107, q247_108, q247_110, q247_113, q247_114, q247_117, q247_119, q247_120, q247_121, q247_124, q247_126, q247_127, q247_130, q247_131, q247_134, q247_136, q247_137, q247_138, q247_141, q247_143, q247_144, q247_147, q247_148, q247_151, q247_152, q247_153, q247_154, q247_157, m_0 hS, m_K hS, mR_atBench hS, mK_atBench hS, mL_atBench hS, mR_wasBench hS, mK_wasBench hS, mL_wasBench hS, mR_atShift hS, mK_atShift hS, mL_atShift hS, mR_wasShift hS, mK_wasShift hS, mL_wasShift hS, as_nil, as_i, as_r, Nat.reduceAdd, Nat.reduceLeDiff, z_eq0, z_eq1, z_or, z_em, Classical.not_not, not_false_eq_true, not_true_eq_false, true_and, and_true, false_and, and_false, and_self, true_implies, false_implies, implies_true, Option.toList_some, Option.toList_none, List.cons_append, List.nil_append, Nat.add_eq_zero_iff, a_nl_i, a_nl_r, a_nl_n, true_or, or_true, eq_self, ok_4, ok_5, ok_6, ok_7, ok_9, ok_10, ok_20, ok_21, ok_24, ok_30, ok_48, ok_50, ok_60, ok_80, ok_120, ok_180, ok_192, ok_200, ok_900, ok_1000, ok_84000, n10, e20, e21, e45, e46, c1, c2, o30, ei1, Int32.add_zero]
        try simp only [true_and, and_true, true_implies, false_implies, implies_true, not_true_eq_false, not_false_eq_true]
        first
          | exact hn
          | grind
      · rw [if_neg cs] at hV
        have hn := hn (mv + 1) (by omega) hV
        clear ih hP hF hg hb hi hm hor ho hl hV f2 g2 v2 hwas hun hbZ hiZ hunZ
        rcases hv01 with v0 | v0
        · subst v0
          simp only [q247_105, q247_107, q247_108, q247_110, q247_113, q247_114, q247_117, q247_119, q247_120, q247_121, q247_124, q247_126, q247_127, q247_130, q247_131, q247_134, q247_136, q247_137, q247_138, q247_141, q247_143, q247_144, q247_147, q247_148, q247_151, q247_152, q247_153, q247_154, q247_157, m_0 hS, m_K hS, mR_atBench hS, mK_atBench hS, mL_atBench hS, mR_wasBench hS, mK_wasBench hS, mL_wasBench hS, mR_atShift hS, mK_atShift hS, mL_atShift hS, mR_wasShift hS, mK_wasShift hS, mL_wasShift hS, as_nil, as_i, as_r, Nat.reduceAdd, Nat.reduceLeDiff, z_eq0, z_eq1, z_or, z_em, Classical.not_not, not_false_eq_true, not_true_eq_false, true_and, and_true, false_and, and_false, and_self, true_implies, false_implies, implies_true, Option.toList_some, Option.toList_none, List.cons_append, List.nil_append, Nat.add_eq_zero_iff, a_nl_i, a_nl_r, a_nl_n, true_or, or_true, eq_self, ok_4, ok_5, ok_6, ok_7, ok_9, ok_10, ok_20, ok_21, ok_24, ok_30, ok_48, ok_50, ok_60, ok_80, ok_120, ok_180, ok_192, ok_200, ok_900, ok_1000, ok_84000, ei1, ev1]
          try simp only [true_and, and_true, true_implies, false_implies, implies_true, not_true_eq_false, not_false_eq_true]
          first
            | exact hn
            | grind
        · subst v0
          have n10 : ¬ (1 : Int32) = 0 := by decide
          by_cases c1 : Z 20 (o i).toNatClampNeg = Y 20 (o i).toNatClampNeg
          · have c2 : ¬ Z 21 (o i).toNatClampNeg = Y 21 (o i).toNatClampNeg := fun q => cs ⟨c1, q⟩
            simp only [q247_105, q247_107, q247_108, q247_110, q247_113, q247_114, q247_117, q247_119, q247_120, q247_121, q247_124, q247_126, q247_127, q247_130, q247_131, q247_134, q247_136, q247_137, q247_138, q247_141, q247_143, q247_144, q247_147, q247_148, q247_151, q247_152, q247_153, q247_154, q247_157, m_0 hS, m_K hS, mR_atBench hS, mK_atBench hS, mL_atBench hS, mR_wasBench hS, mK_wasBench hS, mL_wasBench hS, mR_atShift hS, mK_atShift hS, mL_atShift hS, mR_wasShift hS, mK_wasShift hS, mL_wasShift hS, as_nil, as_i, as_r, Nat.reduceAdd, Nat.reduceLeDiff, z_eq0, z_eq1, z_or, z_em, Classical.not_not, not_false_eq_true, not_true_eq_false, true_and, and_true, false_and, and_false, and_self, true_implies, false_implies, implies_true, Option.toList_some, Option.toList_none, List.cons_append, List.nil_append, Nat.add_eq_zero_iff, a_nl_i, a_nl_r, a_nl_n, true_or, or_true, eq_self, ok_4, ok_5, ok_6, ok_7, ok_9, ok_10, ok_20, ok_21, ok_24, ok_30, ok_48, ok_50, ok_60, ok_80, ok_120, ok_180, ok_192, ok_200, ok_900, ok_1000, ok_84000, n10, e20, e21, e45, e46, c1, c2, o30, ei1, ev1]
            try simp only [true_and, and_true, true_implies, false_implies, implies_true, not_true_eq_false, not_false_eq_true]
            first
              | exact hn
              | grind
          · simp only [q247_105, q247_107, q247_108, q247_110, q247_113, q247_114, q247_117, q247_119, q247_120, q247_121, q247_124, q247_126, q247_127, q247_130, q247_131, q247_134, q247_136, q247_137, q247_138, q247_141, q247_143, q247_144, q247_147, q247_148, q247_151, q247_152, q247_153, q247_154, q247_157, m_0 hS, m_K hS, mR_atBench hS, mK_atBench hS, mL_atBench hS, mR_wasBench hS, mK_wasBench hS, mL_wasBench hS, mR_atShift hS, mK_atShift hS, mL_atShift hS, mR_wasShift hS, mK_wasShift hS, mL_wasShift hS, as_nil, as_i, as_r, Nat.reduceAdd, Nat.reduceLeDiff, z_eq0, z_eq1, z_or, z_em, Classical.not_not, not_false_eq_true, not_true_eq_false, true_and, and_true, false_and, and_false, and_self, true_implies, false_implies, implies_true, Option.toList_some, Option.toList_none, List.cons_append, List.nil_append, Nat.add_eq_zero_iff, a_nl_i, a_nl_r, a_nl_n, true_or, or_true, eq_self, ok_4, ok_5, ok_6, ok_7, ok_9, ok_10, ok_20, ok_21, ok_24, ok_30, ok_48, ok_50, ok_60, ok_80, ok_120, ok_180, ok_192, ok_200, ok_900, ok_1000, ok_84000, n10, e20, e21, e45, e46, c1, o30, ei1, ev1]
            try simp only [true_and, and_true, true_implies, false_implies, implies_true, not_true_eq_false, not_false_eq_true]
            first
              | exact hn
              | grind
    have hlo : 1 ≤ W 10 (o i).toNatClampNeg := by rw [w10]; exact hl _ q1 q2
    have hcall := xt_giveFirst (d := d) (n := n) (t := t) (f := f) (e := 199) (w := 0) (P := fun r h' => a_at (d + 12) (a_xm a_m247) 105 [some (a_rf M), some (.int g), some (.int (Int32.ofNat mv)), some (.int (Int32.ofNat i)), some (.int (o i)), uv] (r.toList ++ []) h' P) hS (moY_b hm hb hi) (by rw [w17]; exact h17) (by rw [w10]; exact h10) (by rw [w6]; exact h6) hF (by omega) o30 hlo hf (by decide) hg (fun J2 f2 v2 g2 => by
      have i2 := inP_gi hi (by rw [w6]; exact h6) (a := o i) (f := f) (e := 199) (ok := true) ⟨hlo, by rw [w10]; exact (h10 _).2⟩ ⟨hf.1, Int32.le_trans hf.2 (by decide)⟩ (by decide)
      rw [ok1] at g2
      simp only [ok1, true_and]
      refine hafter _ _ rfl (fun q => ?_) (sb_tr hb i2.2) i2.1 (fun j hj hj2 => ?_) J2 (mF_le f2 (by omega)) v2 g2 (by by_cases cg : 0 ≤ (gnY W (o i) f 199).2; exact Or.inr (if_pos cg); exact Or.inl (if_neg cg))
      · by_cases cg : 0 ≤ (gnY W (o i) f 199).2
        · rw [if_pos cg] at q
          exact absurd q (by decide)
        · unfold giY
          rw [if_neg (fun z => cg z.2)]
          exact un
      · have hne : ¬ (o j).toNatClampNeg = (o i).toNatClampNeg := fun q => by
          have := hoi j i hj2 him (cl_inj (ho j hj2).1.1 q1 q)
          omega
        unfold giY
        by_cases cg : true = true ∧ 0 ≤ (gnY W (o i) f 199).2
        · rw [if_pos cg]
          unfold puY
          rw [if_neg (fun q => hne q.2), if_neg (by omega), if_neg (by omega)]
          exact hun j (by omega) hj2
        · rw [if_neg cg]
          exact hun j (by omega) hj2)
    have hoi2 := hor i him
    clear ih hP hF hg hb hi hm hor ho hl hV hwas hun hafter
    rw [q247_70]
    simp only [q247_71, q247_72, q247_75, q247_78, q247_79, q247_82, q247_83, q247_84, q247_86, q247_87, q247_89, q247_90, q247_93, q247_95, q247_96, q247_97, q247_98, q247_101, q247_102, m_0 hS, m_K hS, mR_order hS, mK_order hS, mL_order hS, as_nil, as_i, as_r, Nat.reduceAdd, Nat.reduceLeDiff, z_eq0, z_eq1, z_or, z_em, Classical.not_not, not_false_eq_true, not_true_eq_false, true_and, and_true, false_and, and_false, and_self, true_implies, false_implies, implies_true, Option.toList_some, Option.toList_none, List.cons_append, List.nil_append, Nat.add_eq_zero_iff, a_nl_i, a_nl_r, a_nl_n, true_or, or_true, eq_self, ok_4, ok_5, ok_6, ok_7, ok_9, ok_10, ok_20, ok_21, ok_24, ok_30, ok_48, ok_50, ok_60, ok_80, ok_120, ok_180, ok_192, ok_200, ok_900, ok_1000, ok_84000, h64, hoi2, ei, hok, nle, n8, enow, ef]
    try simp only [true_and, and_true, true_implies, false_implies, implies_true, not_true_eq_false, not_false_eq_true]
    first
      | exact hcall
      | grind
theorem xt_again_4 (hS : m_S M K L R) {I1 : Nat → Nat → Int32} (hm : moY Y) (h17 : 0 ≤ Y 0 17 ∧ Y 0 17 ≤ 30) (h10 : ∀ j, 0 ≤ Y 10 j ∧ Y 10 j ≤ 4) (hl : ∀ i : Int32, 0 ≤ i → i < Y 0 17 → 1 ≤ Y 10 i.toNatClampNeg) {c : Nat} (hc : c + 130 ≤ 84000) (hN : ∀ J g a, mF M c I1 J → gs M I0 J (agP Y).1 → sbE Y (agP Y).1 → inP (agP Y).1 → (∀ x : Nat, x < (Y 0 17).toNatClampNeg → 0 ≤ Y 20 x → ¬ 0 ≤ (agP Y).1 20 x → J (M + 45) x = Y 20 x ∧ J (M + 46) x = Y 21 x) → (∀ j, j < 32 → (bq g j = true ↔ (j < (Y 0 17).toNatClampNeg ∧ 0 ≤ Y 20 j ∧ ¬ 0 ≤ (agP Y).1 20 j))) → a_at (d + 12) (a_xm a_m247) 61 [some (a_rf M), some (.int g), some (.int a), none, none, none] [] (n, t, K, L, J, R) P) : ∀ a : Int32, a ≤ 30 → ∀ J W g o m, 0 ≤ a → a ≤ Y 0 17 → mF M c I1 J → gs M I0 J W → sbE Y W → inP W → (∀ x : Nat, x < a.toNatClampNeg → 0 ≤ Y 20 x → ¬ 0 ≤ W 20 x → J (M + 45) x = Y 20 x ∧ J (M + 46) x = Y 21 x) → (∀ x : Nat, a.toNatClampNeg ≤ x → W 20 x = Y 20 x ∧ W 21 x = Y 21 x) → (∀ j, j < 32 → (bq g j = true ↔ (j < a.toNatClampNeg ∧ 0 ≤ Y 20 j ∧ ¬ 0 ≤ W 20 j))) → agS ((Y 0 17).toNatClampNeg - a.toNatClampNeg) a (W, o, m) = agP Y → a_at (d + 12) (a_xm a_m247) 4 [some (a_rf M), some (.int g), some (.int a), none, none, none] [] (n, t, K, L, J, R) P := by
  have l30 := cl_le0 h17.1 h17.2
  rw [show (30 : Int32).toNatClampNeg = 30 from rfl] at l30
  refine up_ind 30 (fun a a30 ih => ?_)
  intro J W g o m h0 h1 hF hg hb hi hwas hW hbit hV
  have w17 : W 0 17 = Y 0 17 := hb 0 17 (by unfold sb; omega)
  have w10 : W 10 = Y 10 := sbE_r hb (by omega)
  have e17 : J M 17 = Y 0 17 := (hg.2.2.1 0 17 (by unfold ps1; omega)).trans w17
  have hexit : ¬ a < Y 0 17 → a_at (d + 12) (a_xm a_m247) 61 [some (a_rf M), some (.int g), some (.int a), none, none, none] [] (n, t, K, L, J, R) P := fun w => by
    obtain ⟨e1, e2⟩ := lp_end h1 w
    rw [e1] at hV
    have e9 : (W, o, m) = agP Y := hV
    rw [← e9] at hN
    rw [e2] at hwas hbit
    exact hN J g a hF hg hb hi hwas hbit
  have hcall : a < Y 0 17 → a_does (d + 12) 248 [a_rf M, .int a] (n, t, K, L, J, R) (fun r h' => a_at (d + 12) (a_xm a_m247) 17 [some (a_rf M), some (.int g), some (.int a), none, none, none] (r.toList ++ []) h' P) := fun w => by
    obtain ⟨s1, s2, s3, s4⟩ := lp_st h0 w
    have ha : 0 ≤ a ∧ a < 30 := ⟨h0, Int32.lt_of_lt_of_le w h17.2⟩
    have aT := cl_lt h0 w
    have hW1 : ∀ x : Nat, (a + 1).toNatClampNeg ≤ x → W 20 x = Y 20 x ∧ W 21 x = Y 21 x := fun x hx => hW x (by omega)
    refine xt_fitsNoMore (d := d + 1) hS (moY_b hm hb hi) (by rw [w17]; exact h17) (by rw [w10]; exact h10) hg ha (by rw [w10]; exact hl a h0 w) (fun J1 c1 => ?_)
    have f1 := mF_C hF c1
    have g1 := gs_C hg c1
    have e17' : J1 M 17 = Y 0 17 := (g1.2.2.1 0 17 (by unfold ps1; omega)).trans w17
    have e20 : J1 (M + 20) a.toNatClampNeg = Y 20 a.toNatClampNeg := (g1.2.2.1 20 _ (by unfold ps1; omega)).trans (hW _ (Nat.le_refl _)).1
    have e21 : J1 (M + 21) a.toNatClampNeg = Y 21 a.toNatClampNeg := (g1.2.2.1 21 _ (by unfold ps1; omega)).trans (hW _ (Nat.le_refl _)).2
    have k45 : ∀ j, J1 (M + 45) j = J (M + 45) j := fun j => c1.2 _ _ (by unfold sC; omega)
    have k46 : ∀ j, J1 (M + 46) j = J (M + 46) j := fun j => c1.2 _ _ (by unfold sC; omega)
    rw [s1] at hV
    unfold agS at hV
    have q1 : ∀ (x : Nat → Nat → Int32) (y : (Nat → Int32) × Nat), (x, y).1 = x ∧ (x, y).2 = y := fun _ _ => ⟨rfl, rfl⟩
    have q2 : ∀ (x : Nat → Int32) (y : Nat), (x, y).1 = x ∧ (x, y).2 = y := fun _ _ => ⟨rfl, rfl⟩
    rw [(q1 _ _).1, (q1 _ _).2, (q2 _ _).1, (q2 _ _).2] at hV
    by_cases ag : agB W a = true
    · rw [if_pos ag] at hV ⊢
      have pa : 0 ≤ Y 20 a.toNatClampNeg := by rw [← (hW _ (Nat.le_refl _)).1]; exact (of_decide_eq_true ag).1.1
      have n10 : ¬ (1 : Int32) = 0 := by decide
      have f2 := sF_wasShift (sF_wasBench f1 (k := a.toNatClampNeg) (v := Y 20 a.toNatClampNeg)) (k := a.toNatClampNeg) (v := Y 21 a.toNatClampNeg)
      have g2 := gs_ui (k := 46) (j := a.toNatClampNeg) (v := Y 21 a.toNatClampNeg) (gs_ui (k := 45) (j := a.toNatClampNeg) (v := Y 20 a.toNatClampNeg) g1 (sR_wasBench g1.1) (by omega) ⟨by unfold ps1; omega, by omega⟩) (sR_wasShift (sR_wasBench g1.1)) (by omega) ⟨by unfold ps1; omega, by omega⟩
      generalize eJ : a_ui (a_ui J1 (M + 45) a.toNatClampNeg (Y 20 a.toNatClampNeg)) (M + 46) a.toNatClampNeg (Y 21 a.toNatClampNeg) = J2 at f2 g2
      have e17'' : J2 M 17 = Y 0 17 := (g2.2.2.1 0 17 (by unfold ps1; omega)).trans w17
      have e20' : J2 (M + 20) a.toNatClampNeg = Y 20 a.toNatClampNeg := (g2.2.2.1 20 _ (by unfold ps1; omega)).trans (hW _ (Nat.le_refl _)).1
      have htake : a_does (d + 12) 186 [a_rf M, .int a] (n, t, K, L, J2, R) (fun r h' => a_at (d + 12) (a_xm a_m247) 49 [some (a_rf M), some (.int g), some (.int a), none, none, none] (r.toList ++ []) h' P) := by
        refine xt_takeFrom (d := d + 10) hS f2 (by omega) ha (fun J3 _ f3 y3 => ?_)
        have f3 := f3 (by rw [e17'']; exact w) (by rw [e20']; exact pa)
        have g3 := yR_gs g2 y3 (unY_p g2.2.2 ha)
        have j45 : ∀ j, J3 (M + 45) j = J2 (M + 45) j := fun j => by
          rw [y3.2.2 45 j (by omega) (by unfold mk0; omega)]
          unfold unY
          rw [if_neg (by omega)]
          rfl
        have j46 : ∀ j, J3 (M + 46) j = J2 (M + 46) j := fun j => by
          rw [y3.2.2 46 j (by omega) (by unfold mk0; omega)]
          unfold unY
          rw [if_neg (by omega)]
          rfl
        have hset := fun j hj => bq_set (k := a.toNatClampNeg) (i := j) (by omega) hj g
        rw [← on_cl h0] at hset
        have hn := ih ha.2 J3 (unY W a) (g ||| ((1 : Int32) <<< (a &&& 31))) (inS W a m o) (m + 1) s2 s3 f3 g3 (sb_tr hb unY_b) (inP_un hi) (fun x hx h20 hun => by
          rw [j45, j46, ← eJ]
          by_cases e : x = a.toNatClampNeg
          · rw [ui_ap, if_neg (by omega), ui_ap, if_pos ⟨rfl, e⟩, ui_ap, if_pos ⟨rfl, e⟩, e]
            exact ⟨rfl, rfl⟩
          · rw [ui_ap, if_neg (by omega), ui_ap, if_neg (fun q => e q.2), ui_ap, if_neg (fun q => e q.2), ui_ap, if_neg (by omega), k45, k46]
            rw [un_o (Or.inr e)] at hun
            exact hwas x (by omega) h20 hun) (fun x hx => by
          rw [un_o (Or.inr (by omega)), un_o (Or.inr (by omega))]
          exact hW1 x hx) (fun j hj => by
          rw [hset j hj, Bool.or_eq_true, hbit j hj, s4]
          by_cases e : j = a.toNatClampNeg
          · rw [e, un_a (Or.inl rfl)]
            exact ⟨fun _ => ⟨by omega, pa, by decide⟩, fun _ => Or.inr (decide_eq_true rfl)⟩
          · rw [un_o (Or.inr e)]
            refine ⟨fun r => ?_, fun r => Or.inl ⟨by omega, r.2⟩⟩
            rcases r with r | r
            · exact ⟨by omega, r.2⟩
            · exact absurd (of_decide_eq_true r) e) hV
        clear ih hN hV hexit hm hF hg hb hi hwas hW hbit f1 g1 f2 g2 f3 g3 y3 hW1 hset
        simp only [q247_49, q247_50, q247_51, q247_52, q247_53, q247_54, q247_55, q247_58, as_nil, as_i, as_r, Nat.reduceAdd, Nat.reduceLeDiff, z_eq0, z_eq1, z_or, z_em, Classical.not_not, not_false_eq_true, not_true_eq_false, true_and, and_true, false_and, and_false, and_self, true_implies, false_implies, implies_true, Option.toList_some, Option.toList_none, List.cons_append, List.nil_append, Nat.add_eq_zero_iff, a_nl_i, a_nl_r, a_nl_n, true_or, or_true, eq_self, ok_4, ok_5, ok_6, ok_7, ok_9, ok_10, ok_20, ok_21, ok_24, ok_30, ok_48, ok_50, ok_60, ok_80, ok_120, ok_180, ok_192, ok_200, ok_900, ok_1000, ok_84000]
        exact hn
      clear ih hN hV hexit hm hF hg hb hi hwas hW hbit f1 g1 f2 g2 hW1
      simp only [q247_17, q247_20, q247_21, q247_24, q247_25, q247_26, q247_29, q247_30, q247_31, q247_32, q247_33, q247_36, q247_37, q247_38, q247_41, q247_42, q247_43, q247_44, q247_45, q247_46, m_0 hS, m_K hS, mR_wasBench hS, mK_wasBench hS, mL_wasBench hS, mR_atBench hS, mK_atBench hS, mL_atBench hS, mR_wasShift hS, mK_wasShift hS, mL_wasShift hS, mR_atShift hS, mK_atShift hS, mL_atShift hS, as_nil, as_i, as_r, Nat.reduceAdd, Nat.reduceLeDiff, z_eq0, z_eq1, z_or, z_em, Classical.not_not, not_false_eq_true, not_true_eq_false, true_and, and_true, false_and, and_false, and_self, true_implies, false_implies, implies_true, Option.toList_some, Option.toList_none, List.cons_append, List.nil_append, Nat.add_eq_zero_iff, a_nl_i, a_nl_r, a_nl_n, true_or, or_true, eq_self, ok_4, ok_5, ok_6, ok_7, ok_9, ok_10, ok_20, ok_21, ok_24, ok_30, ok_48, ok_50, ok_60, ok_80, ok_120, ok_180, ok_192, ok_200, ok_900, ok_1000, ok_84000, ui_ap, ne_MM, ne_M0, ne_0M, Nat.reduceEqDiff, reduceIte, if_true, if_false, n10, e20, e21, ha, eJ]
      try simp only [true_and, and_true, true_implies, false_implies, implies_true, not_true_eq_false, not_false_eq_true]
      first
        | exact htake
        | grind
    · rw [if_neg ag] at hV ⊢
      have hn := ih ha.2 J1 W g o m s2 s3 f1 g1 hb hi (fun x hx h20 hun => by
        rw [k45, k46]
        by_cases e : x = a.toNatClampNeg
        · exact absurd (by rw [e, (hW _ (Nat.le_refl _)).1, ← e]; exact h20) hun
        · exact hwas x (by omega) h20 hun) hW1 (fun j hj => by
        rw [hbit j hj, s4]
        refine ⟨fun r => ⟨by omega, r.2⟩, fun r => ⟨?_, r.2⟩⟩
        by_cases e : j = a.toNatClampNeg
        · exact absurd (by rw [e, (hW _ (Nat.le_refl _)).1, ← e]; exact r.2.1) r.2.2
        · omega) hV
      clear ih hN hV hexit hm hF hg hb hi hwas hW hbit f1 g1 hW1
      simp only [q247_17, q247_55, q247_58, as_nil, as_i, as_r, Nat.reduceAdd, Nat.reduceLeDiff, z_eq0, z_eq1, z_or, z_em, Classical.not_not, not_false_eq_true, not_true_eq_false, true_and, and_true, false_and, and_false, and_self, true_implies, false_implies, implies_true, Option.toList_some, Option.toList_none, List.cons_append, List.nil_append, Nat.add_eq_zero_iff, a_nl_i, a_nl_r, a_nl_n, true_or, or_true, eq_self, ok_4, ok_5, ok_6, ok_7, ok_9, ok_10, ok_20, ok_21, ok_24, ok_30, ok_48, ok_50, ok_60, ok_80, ok_120, ok_180, ok_192, ok_200, ok_900, ok_1000, ok_84000]
      try simp only [true_and, and_true, true_implies, false_implies, implies_true, not_true_eq_false, not_false_eq_true]
      first
        | exact hn
        | grind
  clear ih hN hV hm hF hg hb hi hwas hW hbit
  rw [q247_4]
  repeat' first
    | with_reducible apply And.intro
    | with_reducible assumption
    | with_reducible intro _
    | refine hexit ?_
    | refine hcall ?_
    | simp only [q247_5, q247_6, q247_9, q247_12, q247_13, q247_14, m_0 hS, m_K hS, as_nil, as_i, as_r, Nat.reduceAdd, Nat.reduceLeDiff, z_eq0, z_eq1, z_or, z_em, Classical.not_not, not_false_eq_true, not_true_eq_false, true_and, and_true, false_and, and_false, and_self, true_implies, false_implies, implies_true, Option.toList_some, Option.toList_none, List.cons_append, List.nil_append, Nat.add_eq_zero_iff, a_nl_i, a_nl_r, a_nl_n, true_or, or_true, eq_self, ok_4, ok_5, ok_6, ok_7, ok_9, ok_10, ok_20, ok_21, ok_24, ok_30, ok_48, ok_50, ok_60, ok_80, ok_120, ok_180, ok_192, ok_200, ok_900, ok_1000, ok_84000, e17]
  all_goals ((try clear hexit); (try clear hcall); (try clear hS); grind [ui_ap])
/-- AGAIN -/
theorem xt_again (hS : m_S M K L R) {I1 : Nat → Nat → Int32} (hm : moY Y) (h17 : 0 ≤ Y 0 17 ∧ Y 0 17 ≤ 30) (h10 : ∀ j, 0 ≤ Y 10 j ∧ Y 10 j ≤ 4) (h6 : 0 ≤ Y 0 6 ∧ Y 0 6 ≤ 6) (hl : ∀ i : Int32, 0 ≤ i → i < Y 0 17 → 1 ≤ Y 10 i.toNatClampNeg) (hnow : 0 ≤ Y 0 0 ∧ Y 0 0 ≤ 1600) {c : Nat} (hc : c + 130 ≤ 84000) (hF : mF M c I1 I) (hg : gs M I0 I Y) (hP : ∀ J, mF M (c + 120) I1 J → gs M I0 J (agY Y).1 → sbE Y (agY Y).1 → inP (agY Y).1 → P (some (.int (Int32.ofNat (agY Y).2))) (n, t, K, L, J, R)) : a_does (d + 13) 247 [a_rf M] (n, t, K, L, I, R) P := by
  have l30 := cl_le0 h17.1 h17.2
  rw [show (30 : Int32).toNatClampNeg = 30 from rfl] at l30
  have hf := now8s hnow
  have hor := agP_or h17
  have hl4 := xt_again_4 (d := d) (n := n) (t := t) (P := P) (I0 := I0) hS hm h17 h10 hl hc (fun J g a f1 g1 hb hi hwas hbit => by
    simp only [q247_61, q247_62, q247_63, m_0 hS, m_K hS, as_nil, as_i, as_r, Nat.reduceAdd, Nat.reduceLeDiff, z_eq0, z_eq1, z_or, z_em, Classical.not_not, not_false_eq_true, not_true_eq_false, true_and, and_true, false_and, and_false, and_self, true_implies, false_implies, implies_true, Option.toList_some, Option.toList_none, List.cons_append, List.nil_append, Nat.add_eq_zero_iff, a_nl_i, a_nl_r, a_nl_n, true_or, or_true, eq_self, ok_4, ok_5, ok_6, ok_7, ok_9, ok_10, ok_20, ok_21, ok_24, ok_30, ok_48, ok_50, ok_60, ok_80, ok_120, ok_180, ok_192, ok_200, ok_900, ok_1000, ok_84000]
    have w17 : (agP Y).1 0 17 = Y 0 17 := hb 0 17 (by unfold sb; omega)
    have eo : orF (agP Y).1 (btB g) ((agP Y).1 0 17).toNatClampNeg 0 (fun _ => 0, 0) = (agP Y).2 := by
      rw [w17, orF_b hb, hor]
      refine orF_q (n := Y 0 17) (fun x x0 x1 => ?_) _ 0 _ (by decide) h17.1 (by rw [show (0 : Int32).toNatClampNeg = 0 from rfl, Nat.zero_add])
      have hx := cl_lt x0 x1
      rw [bt_bq x0 (by omega)]
      have := hbit x.toNatClampNeg (by omega)
      unfold lqB
      cases q2 : bq g x.toNatClampNeg with
      | true =>
        exact (decide_eq_true (this.mp q2).2).symm
      | false =>
        refine (decide_eq_false (fun q => ?_)).symm
        rw [this.mpr ⟨hx, q⟩] at q2
        cases q2
    have h1 := ct_findOrder (d := d + 8) (g := g) hS f1 (P := fun r h' => r = none ∧ ∃ J, h' = (n, t, K, L, J, R) ∧ mF M c I1 J) (fun J q _ => ⟨rfl, J, rfl, q⟩)
    have h2 := xt_findOrder (d := d + 8) (g := g) hS (moY_b hm hb hi) (by rw [w17]; exact h17) g1 (P := fun r h' => r = none ∧ ∃ J, h' = (n, t, K, L, J, R) ∧ gs M I0 J (agP Y).1 ∧ J M 64 = Int32.ofNat (agP Y).2.2 ∧ (agP Y).2.2 ≤ 30 ∧ (∀ j, j < (agP Y).2.2 → J (M + 40) j = (agP Y).2.1 j)) (fun J q1 q2 q3 q4 => by
      rw [eo] at q2 q3 q4
      exact ⟨rfl, J, rfl, q1, q2, q3, fun j hj => (q4 j hj).1⟩)
    have h3 := cf_findOrder (d := d + 8) (g := g) hS f1.1.1 (P := fun r h' => ∃ J2, h' = (n, t, K, L, J2, R) ∧ foP M J J2) (fun J2 q => ⟨J2, rfl, q⟩)
    refine (does_and (does_and h1 h2) h3).weaken (fun r h' q => ?_)
    obtain ⟨⟨⟨e1, J1, e2, f2⟩, ⟨-, J2, e3, g2, o1, o2, o3⟩⟩, J3, e4, fo⟩ := q
    subst e1
    subst e2
    cases e3
    cases e4
    have hrw : rwP (lqB Y (agP Y).1) (Y 0 17) (agP Y).2 := by
      rw [hor]
      exact rw_or _ 0 _ (by decide) h17.1 (by rw [show (0 : Int32).toNatClampNeg = 0 from rfl, Nat.zero_add]) rw_0
    have k45 : ∀ j, J1 (M + 45) j = J (M + 45) j := fun j => fo.2 _ _ (by omega) (by omega)
    have k46 : ∀ j, J1 (M + 46) j = J (M + 46) j := fun j => fo.2 _ _ (by omega) (by omega)
    have e00 : Int32.ofNat 0 = 0 := rfl
    have hn := fun u v => xt_again_70 (d := d) (P := P) (I0 := I0) (g := g) hS hm h17 h10 h6 hl hc hf rfl (o := (agP Y).2.1) o2 (fun j hj => ⟨(hrw.1 j hj).1, (of_decide_eq_true (hrw.1 j hj).2).1⟩) hrw.2 (V := agY Y) hP (agP Y).2.2 0 J1 (agP Y).1 0 u v (by omega) (mF_le f2 (by omega)) g2 hb hi o1 o3 (fun j hj => by
      rw [k45, k46]
      have q := of_decide_eq_true (hrw.1 j hj).2
      exact hwas _ (cl_lt (hrw.1 j hj).1.1 (hrw.1 j hj).1.2) q.1 q.2) (fun j _ hj => (of_decide_eq_true (hrw.1 j hj).2).2) (Nat.le_refl _) rfl
    rw [e00] at hn
    clear hP hm hg g1 g2 hl hF f1 f2 hwas hbit hrw fo
    simp only [q247_66, q247_67, q247_68, q247_69, as_nil, as_i, as_r, Nat.reduceAdd, Nat.reduceLeDiff, z_eq0, z_eq1, z_or, z_em, Classical.not_not, not_false_eq_true, not_true_eq_false, true_and, and_true, false_and, and_false, and_self, true_implies, false_implies, implies_true, Option.toList_some, Option.toList_none, List.cons_append, List.nil_append, Nat.add_eq_zero_iff, a_nl_i, a_nl_r, a_nl_n, true_or, or_true, eq_self, ok_4, ok_5, ok_6, ok_7, ok_9, ok_10, ok_20, ok_21, ok_24, ok_30, ok_48, ok_50, ok_60, ok_80, ok_120, ok_180, ok_192, ok_200, ok_900, ok_1000, ok_84000]
    exact hn _ _) 0 (by decide) I Y 0 (fun _ => 0) 0 (by decide) h17.1 hF hg (fun _ _ _ => rfl) hm.2.2.2.1 (fun x hx => absurd hx (Nat.not_lt_zero x)) (fun _ _ => ⟨rfl, rfl⟩) (fun j hj => by
    rw [bq_0, show (0 : Int32).toNatClampNeg = 0 from rfl]
    exact ⟨fun q => absurd q Bool.false_ne_true, fun q => absurd q.1 (Nat.not_lt_zero j)⟩) (by rw [lp_0]; rfl)
  clear hP hm hg hl hF
  rw [a_enter1 (M := a_m247) rfl (a_cat_rf a_cat_nil) (show 1 ≤ 6 by decide)]
  show a_at _ (a_xm a_m247) 0 [some (a_rf M), none, none, none, none, none] [] _ _
  simp only [q247_0, q247_1, q247_2, q247_3, as_nil, as_i, as_r, Nat.reduceAdd, Nat.reduceLeDiff, z_eq0, z_eq1, z_or, z_em, Classical.not_not, not_false_eq_true, not_true_eq_false, true_and, and_true, false_and, and_false, and_self, true_implies, false_implies, implies_true, Option.toList_some, Option.toList_none, List.cons_append, List.nil_append, Nat.add_eq_zero_iff, a_nl_i, a_nl_r, a_nl_n, true_or, or_true, eq_self, ok_4, ok_5, ok_6, ok_7, ok_9, ok_10, ok_20, ok_21, ok_24, ok_30, ok_48, ok_50, ok_60, ok_80, ok_120, ok_180, ok_192, ok_200, ok_900, ok_1000, ok_84000]
  exact hl4
end YJ0

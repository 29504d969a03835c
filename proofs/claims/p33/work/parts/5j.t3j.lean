/-! the reference: free hosts -/
/-- who is busy near a SHIFT, of one ASK, of all but one -/
def fbI (Y : Nat → Nat → Int32) (s o : Int32) : Nat → Int32 → Int32 → Int32
  | 0, _, p => p
  | k + 1, i, p => fbI Y s o k (i + 1) (p ||| (if Y 21 o.toNatClampNeg + i - s ≤ Y 0 9 ∧ -(Y 0 9) ≤ Y 21 o.toNatClampNeg + i - s then Y 22 (4 * o + i).toNatClampNeg else 0))
def fbO (Y : Nat → Nat → Int32) (a s : Int32) : Nat → Int32 → Int32 → Int32
  | 0, _, p => p
  | k + 1, o, p => fbO Y a s k (o + 1) (if 0 ≤ Y 20 o.toNatClampNeg ∧ ¬ o = a then fbI Y s o (Y 10 o.toNatClampNeg).toNatClampNeg 0 p else p)
/-- FREE hosts -/
def fhY (Y : Nat → Nat → Int32) (a b s : Int32) : Int32 := Y 6 b.toNatClampNeg &&& (fbO Y a s (Y 0 17).toNatClampNeg 0 0 ^^^ -1)
section YJ
variable {d n t M : Nat} {K L : Nat → Nat} {I I0 J J0 J1 J2 : Nat → Nat → Int32} {R : Nat → Nat → Nat} {P : Option Value → AH → Prop} {f : Nat → Int32} {e : Int32}
theorem n4 {o i : Int32} (h0 : 0 ≤ o ∧ o < 30) (h1 : 0 ≤ i ∧ i < 4) : (4 * o + i).toNatClampNeg = 4 * o.toNatClampNeg + i.toNatClampNeg ∧ 0 ≤ 4 * o + i ∧ 4 * o + i < 120 := by
  have a1 := Int32.le_iff_toInt_le.mp h0.1
  have a2 := Int32.lt_iff_toInt_lt.mp h0.2
  have b1 := Int32.le_iff_toInt_le.mp h1.1
  have b2 := Int32.lt_iff_toInt_lt.mp h1.2
  have w0 : (0 : Int32).toInt = 0 := rfl
  have w30 : (30 : Int32).toInt = 30 := rfl
  have w4 : (4 : Int32).toInt = 4 := rfl
  have w120 : (120 : Int32).toInt = 120 := rfl
  rw [w0] at a1 b1
  rw [w30] at a2
  rw [w4] at b2
  have t1 : (4 * o).toInt = 4 * o.toInt := by
    rw [Int32.toInt_mul, w4, in_bm (by omega) (by omega)]
  have t2 : (4 * o + i).toInt = 4 * o.toInt + i.toInt := by
    rw [Int32.toInt_add, t1, in_bm (by omega) (by omega)]
  refine ⟨?_, ?_, ?_⟩
  · show (4 * o + i).toInt.toNat = 4 * o.toInt.toNat + i.toInt.toNat
    rw [t2]
    omega
  · rw [Int32.le_iff_toInt_le, t2, w0]
    omega
  · rw [Int32.lt_iff_toInt_lt, t2, w120]
    omega
theorem xt_freeHosts_18 (hS : m_S M K L R) (hR : mR M I) {a b s o : Int32} (ho : 0 ≤ o ∧ o < 30) (hp : 0 ≤ I (M + 20) o.toNatClampNeg ∧ ¬ o = a) {V : Int32} (hC : ∀ i w, a_at (d + 1) (a_xm a_m225) 105 [some (a_rf M), some (.int a), some (.int b), some (.int s), some (.int V), some (.int o), some (.int i), w] [] (n, t, K, L, I, R) P) : ∀ i : Int32, i ≤ 4 → ∀ y w, 0 ≤ i → i ≤ I (M + 10) o.toNatClampNeg → fbI (yv M I) s o ((I (M + 10) o.toNatClampNeg).toNatClampNeg - i.toNatClampNeg) i y = V → a_at (d + 1) (a_xm a_m225) 18 [some (a_rf M), some (.int a), some (.int b), some (.int s), some (.int y), some (.int o), some (.int i), w] [] (n, t, K, L, I, R) P := by
  refine up_ind 4 (fun i hi ih => ?_)
  intro y w h0 h1 hV
  have gl := rg_length hR o.toNatClampNeg
  have hexit : ¬ i < I (M + 10) o.toNatClampNeg → a_at (d + 1) (a_xm a_m225) 105 [some (a_rf M), some (.int a), some (.int b), some (.int s), some (.int y), some (.int o), some (.int i), w] [] (n, t, K, L, I, R) P := fun q => by
    have ei : i = I (M + 10) o.toNatClampNeg := by
      clear ih hC hV
      grind
    have hc := hC i w
    rw [← ei, Nat.sub_self] at hV
    rw [← hV] at hc
    exact hc
  have hgo : i < I (M + 10) o.toNatClampNeg → ∀ z w, z = (y ||| (if I (M + 21) o.toNatClampNeg + i - s ≤ I M 9 ∧ -(I M 9) ≤ I (M + 21) o.toNatClampNeg + i - s then I (M + 22) (4 * o + i).toNatClampNeg else 0)) → a_at (d + 1) (a_xm a_m225) 18 [some (a_rf M), some (.int a), some (.int b), some (.int s), some (.int z), some (.int o), some (.int (i + 1)), w] [] (n, t, K, L, I, R) P := fun q z w hz => by
    have i3 := cl_lt h0 q
    have i4 : i < 4 := Int32.lt_of_lt_of_le q gl.2
    have ei : (i + 1).toNatClampNeg = i.toNatClampNeg + 1 := cl_up h0 (by clear ih hC hV hexit hz; grind)
    refine ih i4 z w (by clear ih hC hV hexit hz; grind) (by clear ih hC hV hexit hz; grind) ?_
    rw [← hV, ei, show (I (M + 10) o.toNatClampNeg).toNatClampNeg - i.toNatClampNeg = ((I (M + 10) o.toNatClampNeg).toNatClampNeg - (i.toNatClampNeg + 1)) + 1 by omega, hz]
    rfl
  have h45 : i < I (M + 10) o.toNatClampNeg → a_at (d + 1) (a_xm a_m225) 45 [some (a_rf M), some (.int a), some (.int b), some (.int s), some (.int y), some (.int o), some (.int i), w] [] (n, t, K, L, I, R) P := fun q => by
    have hgo := fun z => hgo q z (some (.int (I (M + 21) o.toNatClampNeg + i - s)))
    have hk : 0 ≤ 4 * o + i ∧ 4 * o + i < 120 := (n4 ho ⟨h0, Int32.lt_of_lt_of_le q gl.2⟩).2
    clear ih hC hV hexit
    by_cases c1 : I (M + 21) o.toNatClampNeg + i - s ≤ I M 9
    · by_cases c2 : -(I M 9) ≤ I (M + 21) o.toNatClampNeg + i - s
      · have hg := hgo _ (by rw [if_pos ⟨c1, c2⟩])
        clear hgo
        repeat' first
          | with_reducible apply And.intro
          | with_reducible assumption
          | with_reducible intro _
          | exact hg
          | simp only [q225_45, q225_46, q225_49, q225_51, q225_52, q225_54, q225_55, q225_56, q225_57, q225_59, q225_61, q225_63, q225_64, q225_67, q225_70, q225_72, q225_73, q225_76, q225_77, q225_80, q225_81, q225_84, q225_85, q225_87, q225_88, q225_90, q225_91, q225_92, q225_95, q225_96, q225_97, q225_99, q225_102, m_0 hS, m_K hS, mR_atShift hS, mK_atShift hS, mL_atShift hS, mR_standing hS, mK_standing hS, mL_standing hS, as_nil, as_i, as_r, Nat.reduceAdd, Nat.reduceLeDiff, z_eq0, z_eq1, z_or, z_em, Classical.not_not, not_false_eq_true, not_true_eq_false, true_and, and_true, false_and, and_false, and_self, true_implies, false_implies, implies_true, Option.toList_some, Option.toList_none, List.cons_append, List.nil_append, Nat.add_eq_zero_iff, a_nl_i, a_nl_r, a_nl_n, true_or, or_true, eq_self, ok_4, ok_5, ok_6, ok_7, ok_9, ok_10, ok_20, ok_21, ok_24, ok_30, ok_48, ok_50, ok_60, ok_80, ok_120, ok_180, ok_192, ok_200, ok_900, ok_1000, ok_84000, c1, c2]
        all_goals ((try clear hg); grind [ui_ap])
      · have hg := hgo _ (by rw [if_neg (fun z => c2 z.2)])
        clear hgo
        repeat' first
          | with_reducible apply And.intro
          | with_reducible assumption
          | with_reducible intro _
          | exact hg
          | simp only [q225_45, q225_46, q225_49, q225_51, q225_52, q225_54, q225_55, q225_56, q225_57, q225_59, q225_61, q225_63, q225_64, q225_67, q225_70, q225_72, q225_73, q225_76, q225_77, q225_80, q225_81, q225_84, q225_85, q225_87, q225_88, q225_90, q225_91, q225_92, q225_95, q225_96, q225_97, q225_99, q225_102, m_0 hS, m_K hS, mR_atShift hS, mK_atShift hS, mL_atShift hS, mR_standing hS, mK_standing hS, mL_standing hS, as_nil, as_i, as_r, Nat.reduceAdd, Nat.reduceLeDiff, z_eq0, z_eq1, z_or, z_em, Classical.not_not, not_false_eq_true, not_true_eq_false, true_and, and_true, false_and, and_false, and_self, true_implies, false_implies, implies_true, Option.toList_some, Option.toList_none, List.cons_append, List.nil_append, Nat.add_eq_zero_iff, a_nl_i, a_nl_r, a_nl_n, true_or, or_true, eq_self, ok_4, ok_5, ok_6, ok_7, ok_9, ok_10, ok_20, ok_21, ok_24, ok_30, ok_48, ok_50, ok_60, ok_80, ok_120, ok_180, ok_192, ok_200, ok_900, ok_1000, ok_84000, c1, c2]
        all_goals ((try clear hg); grind [ui_ap])
    · have hg := hgo _ (by rw [if_neg (fun z => c1 z.1)])
      clear hgo
      repeat' first
        | with_reducible apply And.intro
        | with_reducible assumption
        | with_reducible intro _
        | exact hg
        | simp only [q225_45, q225_46, q225_49, q225_51, q225_52, q225_54, q225_55, q225_56, q225_57, q225_59, q225_61, q225_63, q225_64, q225_67, q225_70, q225_72, q225_73, q225_76, q225_77, q225_80, q225_81, q225_84, q225_85, q225_87, q225_88, q225_90, q225_91, q225_92, q225_95, q225_96, q225_97, q225_99, q225_102, m_0 hS, m_K hS, mR_atShift hS, mK_atShift hS, mL_atShift hS, mR_standing hS, mK_standing hS, mL_standing hS, as_nil, as_i, as_r, Nat.reduceAdd, Nat.reduceLeDiff, z_eq0, z_eq1, z_or, z_em, Classical.not_not, not_false_eq_true, not_true_eq_false, true_and, and_true, false_and, and_false, and_self, true_implies, false_implies, implies_true, Option.toList_some, Option.toList_none, List.cons_append, List.nil_append, Nat.add_eq_zero_iff, a_nl_i, a_nl_r, a_nl_n, true_or, or_true, eq_self, ok_4, ok_5, ok_6, ok_7, ok_9, ok_10, ok_20, ok_21, ok_24, ok_30, ok_48, ok_50, ok_60, ok_80, ok_120, ok_180, ok_192, ok_200, ok_900, ok_1000, ok_84000, c1]
      all_goals ((try clear hg); grind [ui_ap])
  clear ih hC hV hgo
  rw [q225_18]
  simp only [q225_20, q225_21, q225_24, q225_26, q225_27, q225_30, q225_31, q225_33, q225_36, q225_39, q225_41, q225_42, m_0 hS, m_K hS, mR_length hS, mK_length hS, mL_length hS, sp_hasPlace hS, as_nil, as_i, as_r, Nat.reduceAdd, Nat.reduceLeDiff, z_eq0, z_eq1, z_or, z_em, Classical.not_not, not_false_eq_true, not_true_eq_false, true_and, and_true, false_and, and_false, and_self, true_implies, false_implies, implies_true, Option.toList_some, Option.toList_none, List.cons_append, List.nil_append, Nat.add_eq_zero_iff, a_nl_i, a_nl_r, a_nl_n, true_or, or_true, eq_self, ok_4, ok_5, ok_6, ok_7, ok_9, ok_10, ok_20, ok_21, ok_24, ok_30, ok_48, ok_50, ok_60, ok_80, ok_120, ok_180, ok_192, ok_200, ok_900, ok_1000, ok_84000, hp]
  grind
theorem xt_freeHosts_6 (hS : m_S M K L R) (hR : mR M I) {a b s : Int32} {V : Int32} (hC : ∀ o i w, a_at (d + 1) (a_xm a_m225) 111 [some (a_rf M), some (.int a), some (.int b), some (.int s), some (.int V), some (.int o), i, w] [] (n, t, K, L, I, R) P) : ∀ o : Int32, o ≤ 30 → ∀ y i w, 0 ≤ o → o ≤ I M 17 → fbO (yv M I) a s ((I M 17).toNatClampNeg - o.toNatClampNeg) o y = V → a_at (d + 1) (a_xm a_m225) 6 [some (a_rf M), some (.int a), some (.int b), some (.int s), some (.int y), some (.int o), i, w] [] (n, t, K, L, I, R) P := by
  refine up_ind 30 (fun o ho ih => ?_)
  intro y i w h0 h1 hV
  have ga := rg_asks hR
  have gl := rg_length hR o.toNatClampNeg
  have hexit : ¬ o < I M 17 → a_at (d + 1) (a_xm a_m225) 111 [some (a_rf M), some (.int a), some (.int b), some (.int s), some (.int y), some (.int o), i, w] [] (n, t, K, L, I, R) P := fun q => by
    have eo : o = I M 17 := by
      clear ih hC hV
      grind
    have hc := hC o i w
    rw [← eo, Nat.sub_self] at hV
    rw [← hV] at hc
    exact hc
  have hgo : o < I M 17 → ∀ z (i : Int32) w, z = (if 0 ≤ I (M + 20) o.toNatClampNeg ∧ ¬ o = a then fbI (yv M I) s o (I (M + 10) o.toNatClampNeg).toNatClampNeg 0 y else y) → a_at (d + 1) (a_xm a_m225) 105 [some (a_rf M), some (.int a), some (.int b), some (.int s), some (.int z), some (.int o), some (.int i), w] [] (n, t, K, L, I, R) P := fun q z i w hz => by
    have i3 := cl_lt h0 q
    have o30 : o < 30 := by
      clear ih hC hV hexit hz
      grind
    have eo : (o + 1).toNatClampNeg = o.toNatClampNeg + 1 := cl_up h0 (by clear ih hC hV hexit hz; grind)
    have hi := ih o30 z (some (.int i)) w (by clear ih hC hV hexit hz; grind) (by clear ih hC hV hexit hz; grind) (by
      rw [← hV, eo, show (I M 17).toNatClampNeg - o.toNatClampNeg = ((I M 17).toNatClampNeg - (o.toNatClampNeg + 1)) + 1 by omega, hz]
      rfl)
    clear ih hC hV hexit hz
    simp only [q225_105, q225_108, as_nil, as_i, as_r, Nat.reduceAdd, Nat.reduceLeDiff, z_eq0, z_eq1, z_or, z_em, Classical.not_not, not_false_eq_true, not_true_eq_false, true_and, and_true, false_and, and_false, and_self, true_implies, false_implies, implies_true, Option.toList_some, Option.toList_none, List.cons_append, List.nil_append, Nat.add_eq_zero_iff, a_nl_i, a_nl_r, a_nl_n, true_or, or_true, eq_self, ok_4, ok_5, ok_6, ok_7, ok_9, ok_10, ok_20, ok_21, ok_24, ok_30, ok_48, ok_50, ok_60, ok_80, ok_120, ok_180, ok_192, ok_200, ok_900, ok_1000, ok_84000]
    exact hi
  have h18 : o < I M 17 → a_at (d + 1) (a_xm a_m225) 18 [some (a_rf M), some (.int a), some (.int b), some (.int s), some (.int y), some (.int o), some (.int 0), w] [] (n, t, K, L, I, R) P := fun q => by
    have hgo := hgo q
    have o30 : 0 ≤ o ∧ o < 30 := by
      clear ih hC hV hexit hgo
      grind
    by_cases c : 0 ≤ I (M + 20) o.toNatClampNeg ∧ ¬ o = a
    · exact xt_freeHosts_18 (d := d) hS hR o30 c (fun i w => hgo _ i w (by rw [if_pos c])) 0 (by decide) y w (by decide) gl.1 (by rw [show (0 : Int32).toNatClampNeg = 0 from rfl, Nat.sub_zero])
    · have hg := hgo y 0 w (by rw [if_neg c])
      clear ih hC hV hexit hgo
      rw [q225_18]
      simp only [q225_20, q225_21, q225_24, q225_26, q225_27, q225_30, q225_31, q225_33, q225_36, q225_39, q225_41, q225_42, m_0 hS, m_K hS, mR_length hS, mK_length hS, mL_length hS, sp_hasPlace hS, as_nil, as_i, as_r, Nat.reduceAdd, Nat.reduceLeDiff, z_eq0, z_eq1, z_or, z_em, Classical.not_not, not_false_eq_true, not_true_eq_false, true_and, and_true, false_and, and_false, and_self, true_implies, false_implies, implies_true, Option.toList_some, Option.toList_none, List.cons_append, List.nil_append, Nat.add_eq_zero_iff, a_nl_i, a_nl_r, a_nl_n, true_or, or_true, eq_self, ok_4, ok_5, ok_6, ok_7, ok_9, ok_10, ok_20, ok_21, ok_24, ok_30, ok_48, ok_50, ok_60, ok_80, ok_120, ok_180, ok_192, ok_200, ok_900, ok_1000, ok_84000]
      grind
  clear ih hC hV hgo
  rw [q225_6]
  repeat' first
    | with_reducible apply And.intro
    | with_reducible assumption
    | with_reducible intro _
    | refine hexit ?_
    | refine h18 ?_
    | simp only [q225_8, q225_9, q225_12, q225_15, q225_16, m_0 hS, m_K hS, as_nil, as_i, as_r, Nat.reduceAdd, Nat.reduceLeDiff, z_eq0, z_eq1, z_or, z_em, Classical.not_not, not_false_eq_true, not_true_eq_false, true_and, and_true, false_and, and_false, and_self, true_implies, false_implies, implies_true, Option.toList_some, Option.toList_none, List.cons_append, List.nil_append, Nat.add_eq_zero_iff, a_nl_i, a_nl_r, a_nl_n, true_or, or_true, eq_self, ok_4, ok_5, ok_6, ok_7, ok_9, ok_10, ok_20, ok_21, ok_24, ok_30, ok_48, ok_50, ok_60, ok_80, ok_120, ok_180, ok_192, ok_200, ok_900, ok_1000, ok_84000]
  all_goals ((try clear hexit); (try clear h18); (try clear hS); (try clear hR); grind [ui_ap])
theorem xt_freeHosts (hS : m_S M K L R) (hR : mR M I) {a b s : Int32} (hb : 0 ≤ b ∧ b ≤ 5) (hP : P (some (.int (fhY (yv M I) a b s))) (n, t, K, L, I, R)) : a_does (d + 2) 225 [a_rf M, .int a, .int b, .int s] (n, t, K, L, I, R) P := by
  have ga := rg_asks hR
  have hl := xt_freeHosts_6 (d := d) (n := n) (t := t) (P := P) (a := a) (b := b) (s := s) hS hR (V := fbO (yv M I) a s (I M 17).toNatClampNeg 0 0) (fun o i w => by
    change P (some (.int (I (M + 6) b.toNatClampNeg &&& (fbO (yv M I) a s (I M 17).toNatClampNeg 0 0 ^^^ -1)))) (n, t, K, L, I, R) at hP
    simp only [q225_111, q225_112, q225_115, q225_116, q225_117, q225_119, q225_120, q225_121, q225_122, m_0 hS, m_K hS, mR_hostsOf hS, mK_hostsOf hS, mL_hostsOf hS, as_nil, as_i, as_r, Nat.reduceAdd, Nat.reduceLeDiff, z_eq0, z_eq1, z_or, z_em, Classical.not_not, not_false_eq_true, not_true_eq_false, true_and, and_true, false_and, and_false, and_self, true_implies, false_implies, implies_true, Option.toList_some, Option.toList_none, List.cons_append, List.nil_append, Nat.add_eq_zero_iff, a_nl_i, a_nl_r, a_nl_n, true_or, or_true, eq_self, ok_4, ok_5, ok_6, ok_7, ok_9, ok_10, ok_20, ok_21, ok_24, ok_30, ok_48, ok_50, ok_60, ok_80, ok_120, ok_180, ok_192, ok_200, ok_900, ok_1000, ok_84000]
    generalize fbO (yv M I) a s (I M 17).toNatClampNeg 0 0 = z at hP ⊢
    first
      | exact ⟨by grind, hP⟩
      | grind) 0 (by decide) 0 none none (by decide) ga.1 (by rw [show (0 : Int32).toNatClampNeg = 0 from rfl, Nat.sub_zero])
  clear hP
  rw [a_enter1 (M := a_m225) rfl (a_cat_rf (a_cat_int (a_cat_int (a_cat_int a_cat_nil)))) (show 4 ≤ 8 by decide)]
  show a_at _ (a_xm a_m225) 0 [some (a_rf M), some (.int a), some (.int b), some (.int s), none, none, none, none] [] _ _
  repeat' first
    | with_reducible apply And.intro
    | with_reducible assumption
    | with_reducible intro _
    | with_reducible apply hl
    | simp only [q225_0, q225_1, q225_3, q225_4, as_nil, as_i, as_r, Nat.reduceAdd, Nat.reduceLeDiff, z_eq0, z_eq1, z_or, z_em, Classical.not_not, not_false_eq_true, not_true_eq_false, true_and, and_true, false_and, and_false, and_self, true_implies, false_implies, implies_true, Option.toList_some, Option.toList_none, List.cons_append, List.nil_append, Nat.add_eq_zero_iff, a_nl_i, a_nl_r, a_nl_n, true_or, or_true, eq_self, ok_4, ok_5, ok_6, ok_7, ok_9, ok_10, ok_20, ok_21, ok_24, ok_30, ok_48, ok_50, ok_60, ok_80, ok_120, ok_180, ok_192, ok_200, ok_900, ok_1000, ok_84000]
  all_goals grind [ui_ap]
end YJ
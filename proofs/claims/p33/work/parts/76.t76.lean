/-! ask of the reference -/
section ZJ0
variable {d n t M : Nat} {K L : Nat → Nat} {I I0 J J0 J1 J2 : Nat → Nat → Int32} {R : Nat → Nat → Nat} {P : Option Value → AH → Prop} {f : Nat → Int32} {e : Int32}
variable {Y Z W : Nat → Nat → Int32}
theorem gs_ask {M : Nat} (hg : gs M I0 I Y) (h17 : 0 ≤ Y 0 17 ∧ Y 0 17 < 30) {k b m g e x y : Int32} (hx : k = 1 → 0 ≤ x ∧ x ≤ 29) : gs M I0 (a_ui (a_ui (a_ui (a_ui (a_ui (a_ui (a_ui (a_ui (a_ui (a_ui (a_ui (a_ui (a_ui (a_ui (a_ui I (M + 7) (I M 17).toNatClampNeg k) (M + 8) (I M 17).toNatClampNeg (I M 13)) (M + 9) (I M 17).toNatClampNeg (I M 14)) (M + 10) (I M 17).toNatClampNeg (I M 15)) (M + 11) (I M 17).toNatClampNeg (I M 16)) (M + 20) (I M 17).toNatClampNeg (-9)) (M + 21) (I M 17).toNatClampNeg (-9)) M 17 (I M 17 + 1)) (M + 12) (I M 17).toNatClampNeg b) (M + 13) (I M 17).toNatClampNeg m) (M + 14) (I M 17).toNatClampNeg g) (M + 15) (I M 17).toNatClampNeg e) (M + 16) (I M 17).toNatClampNeg x) (M + 17) (I M 17).toNatClampNeg y) M 12 0) (akW Y k b m g e x y) := by
  have e17 : I M 17 = Y 0 17 := hg.2.2.1 0 17 (by unfold ps1; omega)
  have e13 : I M 13 = Y 0 13 := hg.2.2.1 0 13 (by unfold ps1; omega)
  have e14 : I M 14 = Y 0 14 := hg.2.2.1 0 14 (by unfold ps1; omega)
  have e15 : I M 15 = Y 0 15 := hg.2.2.1 0 15 (by unfold ps1; omega)
  have e16 : I M 16 = Y 0 16 := hg.2.2.1 0 16 (by unfold ps1; omega)
  have hR := ask_R hg.1 (k := k) (l := I M 14) (w := I M 16) (p := b) (q := m) (r := g) (s := e) (x := x) (y := y) (by rw [e17]; exact h17.2) (rg_draftGroup hg.1) (rg_draftLong hg.1) hx
  rw [e17, e13, e14, e15, e16] at hR ⊢
  have hyv : yv M (a_ui (a_ui (a_ui (a_ui (a_ui (a_ui (a_ui (a_ui (a_ui (a_ui (a_ui (a_ui (a_ui (a_ui (a_ui I (M + 7) (Y 0 17).toNatClampNeg k) (M + 8) (Y 0 17).toNatClampNeg (Y 0 13)) (M + 9) (Y 0 17).toNatClampNeg (Y 0 14)) (M + 10) (Y 0 17).toNatClampNeg (Y 0 15)) (M + 11) (Y 0 17).toNatClampNeg (Y 0 16)) (M + 20) (Y 0 17).toNatClampNeg (-9)) (M + 21) (Y 0 17).toNatClampNeg (-9)) M 17 (Y 0 17 + 1)) (M + 12) (Y 0 17).toNatClampNeg b) (M + 13) (Y 0 17).toNatClampNeg m) (M + 14) (Y 0 17).toNatClampNeg g) (M + 15) (Y 0 17).toNatClampNeg e) (M + 16) (Y 0 17).toNatClampNeg x) (M + 17) (Y 0 17).toNatClampNeg y) M 12 0) = (upY (upY (upY (upY (upY (upY (upY (upY (upY (upY (upY (upY (upY (upY (upY (yv M I) 7 (Y 0 17).toNatClampNeg k) 8 (Y 0 17).toNatClampNeg (Y 0 13)) 9 (Y 0 17).toNatClampNeg (Y 0 14)) 10 (Y 0 17).toNatClampNeg (Y 0 15)) 11 (Y 0 17).toNatClampNeg (Y 0 16)) 20 (Y 0 17).toNatClampNeg (-9)) 21 (Y 0 17).toNatClampNeg (-9)) 0 17 (Y 0 17 + 1)) 12 (Y 0 17).toNatClampNeg b) 13 (Y 0 17).toNatClampNeg m) 14 (Y 0 17).toNatClampNeg g) 15 (Y 0 17).toNatClampNeg e) 16 (Y 0 17).toNatClampNeg x) 17 (Y 0 17).toNatClampNeg y) 0 12 0) := by rw [yv_up0, yv_up, yv_up, yv_up, yv_up, yv_up, yv_up, yv_up0, yv_up, yv_up, yv_up, yv_up, yv_up, yv_up, yv_up]
  have ab := ak_at (Y := Y) (k := k) (b := b) (m := m) (g := g) (e := e) (x := x) (y := y)
  refine gs_mk2 hg hR (fun z j p => by rw [ui_ap, if_neg (by omega), ui_ap, if_neg (by omega), ui_ap, if_neg (by omega), ui_ap, if_neg (by omega), ui_ap, if_neg (by omega), ui_ap, if_neg (by omega), ui_ap, if_neg (by omega), ui_ap, if_neg (by omega), ui_ap, if_neg (by omega), ui_ap, if_neg (by omega), ui_ap, if_neg (by omega), ui_ap, if_neg (by omega), ui_ap, if_neg (by omega), ui_ap, if_neg (by omega), ui_ap, if_neg (by omega)]) (fun j => ak_no (by omega) (by omega)) (fun j => by rw [ui_ap, if_neg (by omega), ui_ap, if_neg (by omega), ui_ap, if_neg (by omega), ui_ap, if_neg (by omega), ui_ap, if_neg (by omega), ui_ap, if_neg (by omega), ui_ap, if_neg (by omega), ui_ap, if_neg (by omega), ui_ap, if_neg (by omega), ui_ap, if_neg (by omega), ui_ap, if_neg (by omega), ui_ap, if_neg (by omega), ui_ap, if_neg (by omega), ui_ap, if_neg (by omega), ui_ap, if_neg (by omega)]) (fun o o0 o1 o2 => ?_) (fun q j p => ?_)
  · by_cases e : o.toNatClampNeg = (Y 0 17).toNatClampNeg
    · rw [e, ab.2.2.2.2.2.1] at o2
      exact absurd o2 (by decide)
    · exact ⟨ak_no (by omega) (by omega), ak_no (by omega) (by omega)⟩
  · exact (congrFun (congrFun hyv q) j).trans ((up_S (up_S (up_S (up_S (up_S (up_S (up_S (up_S (up_S (up_S (up_S (up_S (up_S (up_S (up_S hg.2.2.1 rfl) rfl) rfl) rfl) rfl) rfl) rfl) rfl) rfl) rfl) rfl) rfl) rfl) rfl) rfl) q j p)
theorem xp_ask (hS : m_S M K L R) {I1 : Nat → Nat → Int32} (hm : okY Y) {c : Nat} (hc : c + 130 ≤ 84000) (hF : mF M c I1 I) (hg : gs M I0 I Y) {k b m g e x y : Int32} (hP : ∀ J, mF M (c + 120) I1 J → gs M I0 J (akY Y k b m g e x y).2 → P (some (.int (akY Y k b m g e x y).1)) (n, t, K, L, J, R)) : a_does (d + 13) 181 [a_rf M, .int k, .int b, .int m, .int g, .int e, .int x, .int y] (n, t, K, L, I, R) P := by
  have hy := hm.1
  have h17 := hy.2.2.2.2.1
  have h10 := hy.2.1
  have h6 := hy.2.2.2.2.2.1
  have hl := hy.2.2.1
  have hrf : ∀ k : Nat, mF M (c + 120) I1 (a_ui I (M + 23) k (I (M + 23) k + 1)) ∧ gs M I0 (a_ui I (M + 23) k (I (M + 23) k + 1)) Y := fun k => ⟨mF_le (sF_refused hF) (by omega), gs_ui hg (sR_refused hg.1) (by omega) ⟨by unfold ps1; omega, by omega⟩⟩
  have e17 : I M 17 = Y 0 17 := hg.2.2.1 0 17 (by unfold ps1; omega)
  have e6 : I M 6 = Y 0 6 := hg.2.2.1 0 6 (by unfold ps1; omega)
  have e0 : I M 0 = Y 0 0 := hg.2.2.1 0 0 (by unfold ps1; omega)
  have m17 : ∀ x : Int32, (x ≤ Y 0 17 - 1) = (x < Y 0 17) := fun x => le_m1 h17
  have m6 : ∀ x : Int32, (x ≤ Y 0 6 - 1) = (x < Y 0 6) := fun x => le_m1 ⟨h6.1, Int32.le_trans h6.2 (by decide)⟩
  have m199 : ∀ x : Int32, (x ≤ 199) = (x < 200) := fun x => propext ⟨fun q => Int32.lt_of_le_of_lt q (by decide), fun q => by clear hP hrf hm hg hF; grind⟩
  have e12 : I M 12 = Y 0 12 := hg.2.2.1 0 12 (by unfold ps1; omega)
  unfold akY at hP
  by_cases c1 : Y 0 12 = 0
  · rw [if_pos c1] at hP
    have hr := hP _ (hrf 5).1 (hrf 5).2
    clear hP hrf hm hy hl hg hF
    rw [a_enter1 (M := a_m181) rfl (a_cat_rf (a_cat_int (a_cat_int (a_cat_int (a_cat_int (a_cat_int (a_cat_int (a_cat_int a_cat_nil)))))))) (show 8 ≤ 9 by decide)]
    show a_at _ (a_xm a_m181) 0 [some (a_rf M), some (.int k), some (.int b), some (.int m), some (.int g), some (.int e), some (.int x), some (.int y), none] [] _ _
    simp only [q181_0, q181_1, q181_4, q181_7, q181_8, q181_10, q181_13, m_0 hS, m_K hS, sp_refuse_1 hS, sp_refuse_2 hS, sp_refuse_3 hS, sp_refuse_4 hS, sp_refuse_5 hS, sp_refuse_6 hS, as_nil, as_i, as_r, Nat.reduceAdd, Nat.reduceLeDiff, z_eq0, z_eq1, z_or, z_em, Classical.not_not, not_false_eq_true, not_true_eq_false, true_and, and_true, false_and, and_false, and_self, true_implies, false_implies, implies_true, Option.toList_some, Option.toList_none, List.cons_append, List.nil_append, Nat.add_eq_zero_iff, a_nl_i, a_nl_r, a_nl_n, true_or, or_true, eq_self, ok_4, ok_5, ok_6, ok_7, ok_9, ok_10, ok_20, ok_21, ok_24, ok_30, ok_48, ok_50, ok_60, ok_80, ok_120, ok_180, ok_192, ok_200, ok_900, ok_1000, ok_84000, e12, c1]
    try simp only [true_and, and_true, true_implies, false_implies, implies_true, not_true_eq_false, not_false_eq_true]
    first
      | exact hr
      | grind
  · rw [if_neg c1] at hP
    by_cases c2 : 0 ≤ k ∧ k ≤ 4
    · rw [if_neg (fun q => q c2)] at hP
      by_cases c3 : b < 0 ∨ m < 0 ∨ e < 0 ∨ (k = 1 ∧ y < 0) ∨ (k = 2 ∧ (x < 0 ∨ y < x))
      · rw [if_pos c3] at hP
        have hr := hP _ (hrf 4).1 (hrf 4).2
        clear hP hrf hm hy hl hg hF
        rw [a_enter1 (M := a_m181) rfl (a_cat_rf (a_cat_int (a_cat_int (a_cat_int (a_cat_int (a_cat_int (a_cat_int (a_cat_int a_cat_nil)))))))) (show 8 ≤ 9 by decide)]
        show a_at _ (a_xm a_m181) 0 [some (a_rf M), some (.int k), some (.int b), some (.int m), some (.int g), some (.int e), some (.int x), some (.int y), none] [] _ _
        simp only [q181_0, q181_1, q181_4, q181_14, q181_15, q181_16, q181_17, q181_20, q181_30, q181_31, q181_34, q181_35, q181_38, q181_40, q181_43, q181_44, q181_45, q181_48, q181_50, q181_53, q181_54, q181_55, q181_58, q181_60, q181_63, q181_65, q181_67, q181_70, q181_71, q181_73, q181_76, m_0 hS, m_K hS, sp_in, sp_refuse_1 hS, sp_refuse_2 hS, sp_refuse_3 hS, sp_refuse_4 hS, sp_refuse_5 hS, sp_refuse_6 hS, as_nil, as_i, as_r, Nat.reduceAdd, Nat.reduceLeDiff, z_eq0, z_eq1, z_or, z_em, Classical.not_not, not_false_eq_true, not_true_eq_false, true_and, and_true, false_and, and_false, and_self, true_implies, false_implies, implies_true, Option.toList_some, Option.toList_none, List.cons_append, List.nil_append, Nat.add_eq_zero_iff, a_nl_i, a_nl_r, a_nl_n, true_or, or_true, eq_self, ok_4, ok_5, ok_6, ok_7, ok_9, ok_10, ok_20, ok_21, ok_24, ok_30, ok_48, ok_50, ok_60, ok_80, ok_120, ok_180, ok_192, ok_200, ok_900, ok_1000, ok_84000, e12, c1, c2]
        try simp only [true_and, and_true, true_implies, false_implies, implies_true, not_true_eq_false, not_false_eq_true]
        grind
      · rw [if_neg c3] at hP
        have b0 : 0 ≤ b := Int32.not_lt.mp (fun w => c3 (Or.inl w))
        have m0 : 0 ≤ m := Int32.not_lt.mp (fun w => c3 (Or.inr (Or.inl w)))
        have e0' : 0 ≤ e := Int32.not_lt.mp (fun w => c3 (Or.inr (Or.inr (Or.inl w))))
        have y1 : k = 1 → 0 ≤ y := fun w => Int32.not_lt.mp (fun z => c3 (Or.inr (Or.inr (Or.inr (Or.inl ⟨w, z⟩)))))
        have y2 : k = 2 → 0 ≤ x ∧ x ≤ y := fun w => ⟨Int32.not_lt.mp (fun z => c3 (Or.inr (Or.inr (Or.inr (Or.inr ⟨w, Or.inl z⟩))))), Int32.not_lt.mp (fun z => c3 (Or.inr (Or.inr (Or.inr (Or.inr ⟨w, Or.inr z⟩)))))⟩
        by_cases c4 : 63 < b ∨ 15 < m ∨ 9 < e ∨ (k = 1 ∧ 30 < y) ∨ (k = 2 ∧ 199 < y) ∨ Y 0 17 = 30
        · rw [if_pos c4] at hP
          have hr := hP _ (hrf 6).1 (hrf 6).2
          clear hP hrf hm hy hl hg hF c3
          rw [a_enter1 (M := a_m181) rfl (a_cat_rf (a_cat_int (a_cat_int (a_cat_int (a_cat_int (a_cat_int (a_cat_int (a_cat_int a_cat_nil)))))))) (show 8 ≤ 9 by decide)]
          show a_at _ (a_xm a_m181) 0 [some (a_rf M), some (.int k), some (.int b), some (.int m), some (.int g), some (.int e), some (.int x), some (.int y), none] [] _ _
          simp only [q181_0, q181_1, q181_4, q181_14, q181_15, q181_16, q181_17, q181_20, q181_30, q181_31, q181_34, q181_35, q181_38, q181_40, q181_43, q181_44, q181_45, q181_48, q181_50, q181_53, q181_54, q181_55, q181_58, q181_60, q181_63, q181_65, q181_67, q181_77, q181_78, q181_80, q181_83, q181_84, q181_86, q181_89, q181_91, q181_93, q181_96, q181_97, q181_98, q181_101, q181_103, q181_105, q181_108, q181_109, q181_110, q181_113, q181_115, q181_118, q181_121, q181_122, q181_125, q181_127, q181_130, q181_131, q181_133, q181_136, m_0 hS, m_K hS, sp_in, sp_refuse_1 hS, sp_refuse_2 hS, sp_refuse_3 hS, sp_refuse_4 hS, sp_refuse_5 hS, sp_refuse_6 hS, as_nil, as_i, as_r, Nat.reduceAdd, Nat.reduceLeDiff, z_eq0, z_eq1, z_or, z_em, Classical.not_not, not_false_eq_true, not_true_eq_false, true_and, and_true, false_and, and_false, and_self, true_implies, false_implies, implies_true, Option.toList_some, Option.toList_none, List.cons_append, List.nil_append, Nat.add_eq_zero_iff, a_nl_i, a_nl_r, a_nl_n, true_or, or_true, eq_self, ok_4, ok_5, ok_6, ok_7, ok_9, ok_10, ok_20, ok_21, ok_24, ok_30, ok_48, ok_50, ok_60, ok_80, ok_120, ok_180, ok_192, ok_200, ok_900, ok_1000, ok_84000, e12, c1, c2, e17, b0, m0, e0', Int32.not_lt.mpr b0, Int32.not_lt.mpr m0, Int32.not_lt.mpr e0']
          try simp only [true_and, and_true, true_implies, false_implies, implies_true, not_true_eq_false, not_false_eq_true]
          by_cases k1 : k = 1
          · have k2 : ¬ k = 2 := by rw [k1]; decide
            have q1 := y1 k1
            rw [k1] at k2
            simp only [k1, q1, k2, Int32.not_lt.mpr q1]
            try simp only [true_and, and_true, true_implies, false_implies, implies_true, not_true_eq_false, not_false_eq_true]
            grind
          · by_cases k2 : k = 2
            · have q1 := y2 k2
              rw [k2] at k1
              simp only [k1, k2, q1, Int32.not_lt.mpr q1.1, Int32.not_lt.mpr q1.2]
              try simp only [true_and, and_true, true_implies, false_implies, implies_true, not_true_eq_false, not_false_eq_true]
              grind
            · simp only [k1, k2]
              try simp only [true_and, and_true, true_implies, false_implies, implies_true, not_true_eq_false, not_false_eq_true]
              grind
        · rw [if_neg c4] at hP
          have b1 : ¬ 63 < b := fun w => c4 (Or.inl w)
          have m1 : ¬ 15 < m := fun w => c4 (Or.inr (Or.inl w))
          have e1 : ¬ 9 < e := fun w => c4 (Or.inr (Or.inr (Or.inl w)))
          have y3 : k = 1 → y ≤ 30 := fun w => Int32.not_lt.mp (fun z => c4 (Or.inr (Or.inr (Or.inr (Or.inl ⟨w, z⟩)))))
          have y4 : k = 2 → y ≤ 199 := fun w => Int32.not_lt.mp (fun z => c4 (Or.inr (Or.inr (Or.inr (Or.inr (Or.inl ⟨w, z⟩))))))
          have n30 : ¬ Y 0 17 = 30 := fun w => c4 (Or.inr (Or.inr (Or.inr (Or.inr (Or.inr w)))))
          by_cases c5 : ¬ (-1 ≤ g ∧ g ≤ 5) ∨ (k = 1 ∧ ¬ (0 ≤ x ∧ x < Y 0 17))
          · rw [if_pos c5] at hP
            have hr := hP _ (hrf 1).1 (hrf 1).2
            clear hP hrf hm hy hl hg hF c3 c4
            rw [a_enter1 (M := a_m181) rfl (a_cat_rf (a_cat_int (a_cat_int (a_cat_int (a_cat_int (a_cat_int (a_cat_int (a_cat_int a_cat_nil)))))))) (show 8 ≤ 9 by decide)]
            show a_at _ (a_xm a_m181) 0 [some (a_rf M), some (.int k), some (.int b), some (.int m), some (.int g), some (.int e), some (.int x), some (.int y), none] [] _ _
            simp only [q181_0, q181_1, q181_4, q181_14, q181_15, q181_16, q181_17, q181_20, q181_30, q181_31, q181_34, q181_35, q181_38, q181_40, q181_43, q181_44, q181_45, q181_48, q181_50, q181_53, q181_54, q181_55, q181_58, q181_60, q181_63, q181_65, q181_67, q181_77, q181_78, q181_80, q181_83, q181_84, q181_86, q181_89, q181_91, q181_93, q181_96, q181_97, q181_98, q181_101, q181_103, q181_105, q181_108, q181_109, q181_110, q181_113, q181_115, q181_118, q181_121, q181_122, q181_125, q181_127, q181_137, q181_139, q181_140, q181_141, q181_144, q181_147, q181_148, q181_149, q181_152, q181_153, q181_155, q181_158, q181_161, q181_162, q181_163, q181_166, m_0 hS, m_K hS, sp_in, sp_isAsk hS, sp_refuse_1 hS, sp_refuse_2 hS, sp_refuse_3 hS, sp_refuse_4 hS, sp_refuse_5 hS, sp_refuse_6 hS, as_nil, as_i, as_r, Nat.reduceAdd, Nat.reduceLeDiff, z_eq0, z_eq1, z_or, z_em, Classical.not_not, not_false_eq_true, not_true_eq_false, true_and, and_true, false_and, and_false, and_self, true_implies, false_implies, implies_true, Option.toList_some, Option.toList_none, List.cons_append, List.nil_append, Nat.add_eq_zero_iff, a_nl_i, a_nl_r, a_nl_n, true_or, or_true, eq_self, ok_4, ok_5, ok_6, ok_7, ok_9, ok_10, ok_20, ok_21, ok_24, ok_30, ok_48, ok_50, ok_60, ok_80, ok_120, ok_180, ok_192, ok_200, ok_900, ok_1000, ok_84000, e12, c1, c2, e17, m17, n30, b0, m0, e0', Int32.not_lt.mpr b0, Int32.not_lt.mpr m0, Int32.not_lt.mpr e0', b1, m1, e1, Int32.not_lt.mp b1, Int32.not_lt.mp m1, Int32.not_lt.mp e1]
            try simp only [true_and, and_true, true_implies, false_implies, implies_true, not_true_eq_false, not_false_eq_true]
            by_cases k1 : k = 1
            · have k2 : ¬ k = 2 := by rw [k1]; decide
              have q1 := y1 k1
              have q3 := y3 k1
              rw [k1] at k2
              simp only [k1, q1, q3, k2, Int32.not_lt.mpr q3, Int32.not_lt.mpr q1]
              try simp only [true_and, and_true, true_implies, false_implies, implies_true, not_true_eq_false, not_false_eq_true]
              grind
            · by_cases k2 : k = 2
              · have q1 := y2 k2
                have q3 := y4 k2
                rw [k2] at k1
                simp only [k1, k2, q1, q3, Int32.not_lt.mpr q3, Int32.not_lt.mpr q1.1, Int32.not_lt.mpr q1.2]
                try simp only [true_and, and_true, true_implies, false_implies, implies_true, not_true_eq_false, not_false_eq_true]
                grind
              · simp only [k1, k2]
                try simp only [true_and, and_true, true_implies, false_implies, implies_true, not_true_eq_false, not_false_eq_true]
                grind
          · rw [if_neg c5] at hP
            have h30 : Y 0 17 < 30 := by clear hP hrf hm hy hl hg hF c3 c4 c5; grind
            have g6 : -1 ≤ g ∧ g ≤ 5 := Classical.byContradiction (fun w => c5 (Or.inl w))
            have hk : k = 1 → 0 ≤ x ∧ x < Y 0 17 := fun w => Classical.byContradiction (fun z => c5 (Or.inr ⟨w, z⟩))
            have hx : k = 1 → 0 ≤ x ∧ x ≤ 29 := fun w => ⟨(hk w).1, by have := (hk w).2; clear hP hrf hm hy hl hg hF c3 c4 c5; grind⟩
            have g17 := rg_asks hg.1
            have g13 := rg_draftGroup hg.1
            have g15 := rg_draftLong hg.1
            have a17 : I M 17 < 30 := by rw [e17]; exact h30
            have hp := hP _ (mF_le (ask_F hF (k := k) (l := I M 14) (w := I M 16) (p := b) (q := m) (r := g) (s := e) (x := x) (y := y) a17 g13 g15 hx) (by omega)) (gs_ask hg ⟨h17.1, h30⟩ hx)
            have h167 : a_at (d + 12) (a_xm a_m181) 167 [some (a_rf M), some (.int k), some (.int b), some (.int m), some (.int g), some (.int e), some (.int x), some (.int y), none] [] (n, t, K, L, I, R) P := by
              rw [← e17] at hp
              clear hP hrf hm hy hl hg hF c3 c4 c5
              simp only [q181_167, q181_168, q181_169, q181_170, q181_173, q181_174, q181_177, q181_178, q181_181, q181_182, q181_185, m_0 hS, m_K hS, as_nil, as_i, as_r, Nat.reduceAdd, Nat.reduceLeDiff, z_eq0, z_eq1, z_or, z_em, Classical.not_not, not_false_eq_true, not_true_eq_false, true_and, and_true, false_and, and_false, and_self, true_implies, false_implies, implies_true, Option.toList_some, Option.toList_none, List.cons_append, List.nil_append, Nat.add_eq_zero_iff, a_nl_i, a_nl_r, a_nl_n, true_or, or_true, eq_self, ok_4, ok_5, ok_6, ok_7, ok_9, ok_10, ok_20, ok_21, ok_24, ok_30, ok_48, ok_50, ok_60, ok_80, ok_120, ok_180, ok_192, ok_200, ok_900, ok_1000, ok_84000]
              refine sp_add hS ⟨g17.1, a17⟩ ?_
              simp only [q181_188, q181_190, q181_191, q181_194, q181_196, q181_197, q181_198, q181_199, q181_202, q181_204, q181_205, q181_206, q181_207, q181_210, q181_212, q181_214, q181_215, q181_216, q181_219, q181_221, q181_223, q181_224, q181_225, q181_228, q181_230, q181_232, q181_233, q181_234, q181_237, q181_239, q181_241, q181_242, q181_243, q181_244, q181_247, q181_249, m_0 hS, m_K hS, mR_benchSet hS, mK_benchSet hS, mL_benchSet hS, mR_modeSet hS, mK_modeSet hS, mL_modeSet hS, mR_gear hS, mK_gear hS, mL_gear hS, mR_danger hS, mK_danger hS, mL_danger hS, mR_xOf hS, mK_xOf hS, mL_xOf hS, mR_yOf hS, mK_yOf hS, mL_yOf hS, as_nil, as_i, as_r, Nat.reduceAdd, Nat.reduceLeDiff, z_eq0, z_eq1, z_or, z_em, Classical.not_not, not_false_eq_true, not_true_eq_false, true_and, and_true, false_and, and_false, and_self, true_implies, false_implies, implies_true, Option.toList_some, Option.toList_none, List.cons_append, List.nil_append, Nat.add_eq_zero_iff, a_nl_i, a_nl_r, a_nl_n, true_or, or_true, eq_self, ok_4, ok_5, ok_6, ok_7, ok_9, ok_10, ok_20, ok_21, ok_24, ok_30, ok_48, ok_50, ok_60, ok_80, ok_120, ok_180, ok_192, ok_200, ok_900, ok_1000, ok_84000]
              repeat refine And.intro (by grind) ?_
              exact hp
            clear hP hrf hm hy hl hg hF c3 c4 c5 hp
            rw [a_enter1 (M := a_m181) rfl (a_cat_rf (a_cat_int (a_cat_int (a_cat_int (a_cat_int (a_cat_int (a_cat_int (a_cat_int a_cat_nil)))))))) (show 8 ≤ 9 by decide)]
            show a_at _ (a_xm a_m181) 0 [some (a_rf M), some (.int k), some (.int b), some (.int m), some (.int g), some (.int e), some (.int x), some (.int y), none] [] _ _
            simp only [q181_0, q181_1, q181_4, q181_14, q181_15, q181_16, q181_17, q181_20, q181_30, q181_31, q181_34, q181_35, q181_38, q181_40, q181_43, q181_44, q181_45, q181_48, q181_50, q181_53, q181_54, q181_55, q181_58, q181_60, q181_63, q181_65, q181_67, q181_77, q181_78, q181_80, q181_83, q181_84, q181_86, q181_89, q181_91, q181_93, q181_96, q181_97, q181_98, q181_101, q181_103, q181_105, q181_108, q181_109, q181_110, q181_113, q181_115, q181_118, q181_121, q181_122, q181_125, q181_127, q181_137, q181_139, q181_140, q181_141, q181_144, q181_147, q181_148, q181_149, q181_152, q181_153, q181_155, q181_158, m_0 hS, m_K hS, sp_in, sp_isAsk hS, as_nil, as_i, as_r, Nat.reduceAdd, Nat.reduceLeDiff, z_eq0, z_eq1, z_or, z_em, Classical.not_not, not_false_eq_true, not_true_eq_false, true_and, and_true, false_and, and_false, and_self, true_implies, false_implies, implies_true, Option.toList_some, Option.toList_none, List.cons_append, List.nil_append, Nat.add_eq_zero_iff, a_nl_i, a_nl_r, a_nl_n, true_or, or_true, eq_self, ok_4, ok_5, ok_6, ok_7, ok_9, ok_10, ok_20, ok_21, ok_24, ok_30, ok_48, ok_50, ok_60, ok_80, ok_120, ok_180, ok_192, ok_200, ok_900, ok_1000, ok_84000, e12, c1, c2, e17, m17, n30, b0, m0, e0', Int32.not_lt.mpr b0, Int32.not_lt.mpr m0, Int32.not_lt.mpr e0', b1, m1, e1, Int32.not_lt.mp b1, Int32.not_lt.mp m1, Int32.not_lt.mp e1, g6]
            try simp only [true_and, and_true, true_implies, false_implies, implies_true, not_true_eq_false, not_false_eq_true]
            by_cases k1 : k = 1
            · have k2 : ¬ k = 2 := by rw [k1]; decide
              have q1 := y1 k1
              have q2 := y3 k1
              have q3 := hk k1
              clear y1 y2 y3 y4 hk hx
              rw [k1] at h167 k2
              simp only [k1, q1, q2, q3, k2, Int32.not_lt.mpr q1, Int32.not_lt.mpr q2]
              try simp only [true_and, and_true, true_implies, false_implies, implies_true, not_true_eq_false, not_false_eq_true]
              first
                | exact h167
                | grind
            · by_cases k2 : k = 2
              · have q1 := y2 k2
                have q2 := y4 k2
                clear y1 y2 y3 y4 hk hx
                rw [k2] at h167 k1
                simp only [k1, k2, q1, q2, Int32.not_lt.mpr q1.1, Int32.not_lt.mpr q1.2, Int32.not_lt.mpr q2]
                try simp only [true_and, and_true, true_implies, false_implies, implies_true, not_true_eq_false, not_false_eq_true]
                first
                  | exact h167
                  | grind
              · simp only [k1, k2]
                try simp only [true_and, and_true, true_implies, false_implies, implies_true, not_true_eq_false, not_false_eq_true]
                first
                  | exact h167
                  | grind
    · rw [if_pos c2] at hP
      have hr := hP _ (hrf 2).1 (hrf 2).2
      clear hP hrf hm hy hl hg hF
      rw [a_enter1 (M := a_m181) rfl (a_cat_rf (a_cat_int (a_cat_int (a_cat_int (a_cat_int (a_cat_int (a_cat_int (a_cat_int a_cat_nil)))))))) (show 8 ≤ 9 by decide)]
      show a_at _ (a_xm a_m181) 0 [some (a_rf M), some (.int k), some (.int b), some (.int m), some (.int g), some (.int e), some (.int x), some (.int y), none] [] _ _
      simp only [q181_0, q181_1, q181_4, q181_14, q181_15, q181_16, q181_17, q181_20, q181_23, q181_24, q181_26, q181_29, m_0 hS, m_K hS, sp_in, sp_refuse_1 hS, sp_refuse_2 hS, sp_refuse_3 hS, sp_refuse_4 hS, sp_refuse_5 hS, sp_refuse_6 hS, as_nil, as_i, as_r, Nat.reduceAdd, Nat.reduceLeDiff, z_eq0, z_eq1, z_or, z_em, Classical.not_not, not_false_eq_true, not_true_eq_false, true_and, and_true, false_and, and_false, and_self, true_implies, false_implies, implies_true, Option.toList_some, Option.toList_none, List.cons_append, List.nil_append, Nat.add_eq_zero_iff, a_nl_i, a_nl_r, a_nl_n, true_or, or_true, eq_self, ok_4, ok_5, ok_6, ok_7, ok_9, ok_10, ok_20, ok_21, ok_24, ok_30, ok_48, ok_50, ok_60, ok_80, ok_120, ok_180, ok_192, ok_200, ok_900, ok_1000, ok_84000, e12, c1]
      try simp only [true_and, and_true, true_implies, false_implies, implies_true, not_true_eq_false, not_false_eq_true]
      grind
end ZJ0
section
/-! owe of the reference -/
section ZL0
variable {d n t M : Nat} {K L : Nat → Nat} {I I0 J J0 J1 J2 : Nat → Nat → Int32} {R : Nat → Nat → Nat} {P : Option Value → AH → Prop} {f : Nat → Int32} {e : Int32}
variable {Y Z W : Nat → Nat → Int32}
theorem coI_b (h : sbE Y Z) {s : Int32} : ∀ (k : Nat) (i b : Int32), coI Z s k i b = coI Y s k i b := by
  intro k
  induction k with
  | zero => intro i b; rfl
  | succ k ih =>
    intro i b
    unfold coI
    rw [wt_b h, sbE_r h (k := 30) (by omega), sbE_r h (k := 31) (by omega), ih]
theorem ohY_c (h : sbE Y Z) (h20 : Z 20 = Y 20) (h21 : Z 21 = Y 21) {a : Int32} : ohY Z a = ohY Y a := by
  unfold ohY owY coY
  rw [h20, h21, sbE_r h (k := 10) (by omega), loY_c h h20 h21, h 0 41 (by unfold sb; omega), coI_b h, wv_b h, fcA_b h]
theorem oh_p (h : psE Y Z) {a : Int32} : ohY Z a = ohY Y a := ohY_c (psE_b h) (pr_r h (k := 20) (by omega)) (pr_r h (k := 21) (by omega))
theorem lo_p (h : psE Y Z) {a : Int32} : loY Z a = loY Y a := loY_c (psE_b h) (pr_r h (k := 20) (by omega)) (pr_r h (k := 21) (by omega))
theorem xp_owe (hS : m_S M K L R) {I1 : Nat → Nat → Int32} (hm : okY Y) {c : Nat} (hc : c + 130 ≤ 84000) (hF : mF M c I1 I) (hg : gs M I0 I Y) {a : Int32} (hbd : 0 ≤ a ∧ a < Y 0 17 → 0 ≤ ohY Y a ∧ ohY Y a ≤ 4) (hP : ∀ J, mF M (c + 120) I1 J → gs M I0 J (oeY Y a).2 → P (some (.int (oeY Y a).1)) (n, t, K, L, J, R)) : a_does (d + 13) 246 [a_rf M, .int a] (n, t, K, L, I, R) P := by
  have hy := hm.1
  have h17 := hy.2.2.2.2.1
  have h10 := hy.2.1
  have h6 := hy.2.2.2.2.2.1
  have hl := hy.2.2.1
  have hrf : ∀ k : Nat, mF M (c + 120) I1 (a_ui I (M + 23) k (I (M + 23) k + 1)) ∧ gs M I0 (a_ui I (M + 23) k (I (M + 23) k + 1)) Y := fun k => ⟨mF_le (sF_refused hF) (by omega), gs_ui hg (sR_refused hg.1) (by omega) ⟨by unfold ps1; omega, by omega⟩⟩
  have e17 : I M 17 = Y 0 17 := hg.2.2.1 0 17 (by unfold ps1; omega)
  have e6 : I M 6 = Y 0 6 := hg.2.2.1 0 6 (by unfold ps1; omega)
  have e0 : I M 0 = Y 0 0 := hg.2.2.1 0 0 (by unfold ps1; omega)
  have m17 : ∀ x : Int32, (x ≤ Y 0 17 - 1) = (x < Y 0 17) := fun x => le_m1 h17
  have m6 : ∀ x : Int32, (x ≤ Y 0 6 - 1) = (x < Y 0 6) := fun x => le_m1 ⟨h6.1, Int32.le_trans h6.2 (by decide)⟩
  have m199 : ∀ x : Int32, (x ≤ 199) = (x < 200) := fun x => propext ⟨fun q => Int32.lt_of_le_of_lt q (by decide), fun q => by clear hP hrf hm hg hF; grind⟩
  have e19 : I (M + 19) a.toNatClampNeg = Y 19 a.toNatClampNeg := hg.2.2.1 19 _ (by unfold ps1; omega)
  obtain ⟨mR0, mk0, ts0, tp0, in0, -⟩ := moP_of hg.1 hm.2.1 hg.2.2
  unfold oeY at hP
  by_cases c1 : 0 ≤ a ∧ a < Y 0 17
  · rw [if_neg (fun q => q c1)] at hP
    have ha : 0 ≤ a ∧ a < 30 := ⟨c1.1, Int32.lt_of_lt_of_le c1.2 h17.2⟩
    by_cases c2 : Y 19 a.toNatClampNeg = 0
    · have hlo : a_does (d + 12) 189 [a_rf M, .int a] (n, t, K, L, I, R) (fun q h' => a_at (d + 12) (a_xm a_m246) 28 [some (a_rf M), some (.int a), none] (q.toList ++ []) h' P) := by
        refine xt_lossOf (d := d + 10) hS mR0 tp0 in0 ha ?_
        rw [lo_p hg.2.2]
        by_cases c3 : loY Y a = 0
        · rw [if_pos (Or.inr (Or.inl c3))] at hP
          have hr := hP _ (hrf 3).1 (hrf 3).2
          clear hP hrf hm hy hl hg hF mR0 mk0 ts0 tp0 in0
          rw [c3]
          simp only [q246_28, q246_39, q246_40, q246_42, q246_45, m_0 hS, m_K hS, sp_refuse_1 hS, sp_refuse_2 hS, sp_refuse_3 hS, sp_refuse_4 hS, sp_refuse_5 hS, sp_refuse_6 hS, as_nil, as_i, as_r, Nat.reduceAdd, Nat.reduceLeDiff, z_eq0, z_eq1, z_or, z_em, Classical.not_not, not_false_eq_true, not_true_eq_false, true_and, and_true, false_and, and_false, and_self, true_implies, false_implies, implies_true, Option.toList_some, Option.toList_none, List.cons_append, List.nil_append, Nat.add_eq_zero_iff, a_nl_i, a_nl_r, a_nl_n, true_or, or_true, eq_self, ok_4, ok_5, ok_6, ok_7, ok_9, ok_10, ok_20, ok_21, ok_24, ok_30, ok_48, ok_50, ok_60, ok_80, ok_120, ok_180, ok_192, ok_200, ok_900, ok_1000, ok_84000]
          try simp only [true_and, and_true, true_implies, false_implies, implies_true, not_true_eq_false, not_false_eq_true]
          first
            | exact hr
            | grind
        · have how : a_does (d + 12) 190 [a_rf M, .int a] (n, t, K, L, I, R) (fun q h' => a_at (d + 12) (a_xm a_m246) 36 [some (a_rf M), some (.int a), none] (q.toList ++ []) h' P) := by
            refine xt_owedOf (d := d + 5) (I0 := I) hS (mC_refl mR0) mk0 ts0 tp0 in0 ha (fun J hJ => ?_)
            rw [oh_p hg.2.2]
            have f1 := mF_C hF hJ
            have g1 := gs_C hg hJ
            have e17J : J M 17 = Y 0 17 := g1.2.2.1 0 17 (by unfold ps1; omega)
            have hrfJ : ∀ k : Nat, mF M (c + 120) I1 (a_ui J (M + 23) k (J (M + 23) k + 1)) ∧ gs M I0 (a_ui J (M + 23) k (J (M + 23) k + 1)) Y := fun k => ⟨mF_le (sF_refused f1) (by omega), gs_ui g1 (sR_refused g1.1) (by omega) ⟨by unfold ps1; omega, by omega⟩⟩
            by_cases c4 : ohY Y a = 0
            · rw [if_pos (Or.inr (Or.inr c4))] at hP
              have hr := hP _ (hrfJ 3).1 (hrfJ 3).2
              clear hP hrf hm hy hl hg hF mR0 mk0 ts0 tp0 in0 f1 g1 hrfJ
              rw [c4]
              simp only [q246_36, q246_39, q246_40, q246_42, q246_45, m_0 hS, m_K hS, sp_refuse_1 hS, sp_refuse_2 hS, sp_refuse_3 hS, sp_refuse_4 hS, sp_refuse_5 hS, sp_refuse_6 hS, as_nil, as_i, as_r, Nat.reduceAdd, Nat.reduceLeDiff, z_eq0, z_eq1, z_or, z_em, Classical.not_not, not_false_eq_true, not_true_eq_false, true_and, and_true, false_and, and_false, and_self, true_implies, false_implies, implies_true, Option.toList_some, Option.toList_none, List.cons_append, List.nil_append, Nat.add_eq_zero_iff, a_nl_i, a_nl_r, a_nl_n, true_or, or_true, eq_self, ok_4, ok_5, ok_6, ok_7, ok_9, ok_10, ok_20, ok_21, ok_24, ok_30, ok_48, ok_50, ok_60, ok_80, ok_120, ok_180, ok_192, ok_200, ok_900, ok_1000, ok_84000]
              try simp only [true_and, and_true, true_implies, false_implies, implies_true, not_true_eq_false, not_false_eq_true]
              first
                | exact hr
                | grind
            · rw [if_neg (fun w => w.elim (fun w => w c2) (fun w => w.elim c3 c4))] at hP
              by_cases c5 : Y 0 17 = 30
              · rw [if_pos c5] at hP
                have hr := hP _ (hrfJ 6).1 (hrfJ 6).2
                clear hP hrf hm hy hl hg hF mR0 mk0 ts0 tp0 in0 f1 g1 hrfJ
                simp only [q246_36, q246_46, q246_47, q246_50, q246_52, q246_55, q246_56, q246_58, q246_61, m_0 hS, m_K hS, sp_refuse_1 hS, sp_refuse_2 hS, sp_refuse_3 hS, sp_refuse_4 hS, sp_refuse_5 hS, sp_refuse_6 hS, as_nil, as_i, as_r, Nat.reduceAdd, Nat.reduceLeDiff, z_eq0, z_eq1, z_or, z_em, Classical.not_not, not_false_eq_true, not_true_eq_false, true_and, and_true, false_and, and_false, and_self, true_implies, false_implies, implies_true, Option.toList_some, Option.toList_none, List.cons_append, List.nil_append, Nat.add_eq_zero_iff, a_nl_i, a_nl_r, a_nl_n, true_or, or_true, eq_self, ok_4, ok_5, ok_6, ok_7, ok_9, ok_10, ok_20, ok_21, ok_24, ok_30, ok_48, ok_50, ok_60, ok_80, ok_120, ok_180, ok_192, ok_200, ok_900, ok_1000, ok_84000, c4, e17J, c5]
                try simp only [true_and, and_true, true_implies, false_implies, implies_true, not_true_eq_false, not_false_eq_true]
                first
                  | exact hr
                  | grind
              · rw [if_neg c5] at hP
                have h30 : Y 0 17 < 30 := by clear hP hrf hm hy hl hg hF mR0 mk0 ts0 tp0 in0 f1 g1 hrfJ; grind
                have aN : ¬ (Y 0 17).toNatClampNeg = a.toNatClampNeg := by have := cl_lt c1.1 c1.2; omega
                obtain ⟨mR1, mk1, ts1, tp1, in1, -⟩ := moP_of g1.1 hm.2.1 g1.2.2
                have eJ : ∀ k, 1 ≤ k ∧ k ≤ 21 → J (M + k) a.toNatClampNeg = Y k a.toNatClampNeg := fun k hk => g1.2.2.1 k _ (by unfold ps1; omega)
                have ow2 : a_does (d + 12) 190 [a_rf M, .int a] (n, t, K, L, J, R) (fun q h' => a_at (d + 12) (a_xm a_m246) 81 [some (a_rf M), some (.int a), none] (q.toList ++ [.int (Y 9 a.toNatClampNeg), .int (Y 8 a.toNatClampNeg), .int 5, a_rf M]) h' P) := by
                  refine xt_owedOf (d := d + 5) (I0 := J) hS (mC_refl mR1) mk1 ts1 tp1 in1 ha (fun J2 hJ2 => ?_)
                  rw [oh_p g1.2.2]
                  have f2 := mF_C f1 hJ2
                  have g2 := gs_C g1 hJ2
                  have e17K : J2 M 17 = Y 0 17 := g2.2.2.1 0 17 (by unfold ps1; omega)
                  have eK : ∀ k, 1 ≤ k ∧ k ≤ 21 → J2 (M + k) a.toNatClampNeg = Y k a.toNatClampNeg := fun k hk => g2.2.2.1 k _ (by unfold ps1; omega)
                  have g8 := rg_group g2.1 a.toNatClampNeg
                  rw [eK 8 (by omega)] at g8
                  have F := add_F (l := Y 9 a.toNatClampNeg) (w := Y 11 a.toNatClampNeg) f2 (by rw [e17K]; exact h30) g8 (hbd c1)
                  rw [e17K] at F
                  have F5 := mF_le (c' := c + 120) (sF_wasOwed (k := a.toNatClampNeg) (v := 1) (sF_danger (k := (Y 0 17).toNatClampNeg) (v := Y 15 a.toNatClampNeg) (sF_gear (k := (Y 0 17).toNatClampNeg) (v := Y 14 a.toNatClampNeg) (sF_modeSet (k := (Y 0 17).toNatClampNeg) (v := Y 13 a.toNatClampNeg) (sF_benchSet (k := (Y 0 17).toNatClampNeg) (v := Y 12 a.toNatClampNeg) F))))) (by omega)
                  have hyv : yv M (a_ui (a_ui (a_ui (a_ui (a_ui (a_ui (a_ui (a_ui (a_ui (a_ui (a_ui (a_ui (a_ui J2 (M + 7) (Y 0 17).toNatClampNeg 5) (M + 8) (Y 0 17).toNatClampNeg (Y 8 a.toNatClampNeg)) (M + 9) (Y 0 17).toNatClampNeg (Y 9 a.toNatClampNeg)) (M + 10) (Y 0 17).toNatClampNeg (ohY Y a)) (M + 11) (Y 0 17).toNatClampNeg (Y 11 a.toNatClampNeg)) (M + 20) (Y 0 17).toNatClampNeg (-9)) (M + 21) (Y 0 17).toNatClampNeg (-9)) M 17 (Y 0 17 + 1)) (M + 12) (Y 0 17).toNatClampNeg (Y 12 a.toNatClampNeg)) (M + 13) (Y 0 17).toNatClampNeg (Y 13 a.toNatClampNeg)) (M + 14) (Y 0 17).toNatClampNeg (Y 14 a.toNatClampNeg)) (M + 15) (Y 0 17).toNatClampNeg (Y 15 a.toNatClampNeg)) (M + 19) a.toNatClampNeg 1) = (upY (upY (upY (upY (upY (upY (upY (upY (upY (upY (upY (upY (upY (yv M J2) 7 (Y 0 17).toNatClampNeg 5) 8 (Y 0 17).toNatClampNeg (Y 8 a.toNatClampNeg)) 9 (Y 0 17).toNatClampNeg (Y 9 a.toNatClampNeg)) 10 (Y 0 17).toNatClampNeg (ohY Y a)) 11 (Y 0 17).toNatClampNeg (Y 11 a.toNatClampNeg)) 20 (Y 0 17).toNatClampNeg (-9)) 21 (Y 0 17).toNatClampNeg (-9)) 0 17 (Y 0 17 + 1)) 12 (Y 0 17).toNatClampNeg (Y 12 a.toNatClampNeg)) 13 (Y 0 17).toNatClampNeg (Y 13 a.toNatClampNeg)) 14 (Y 0 17).toNatClampNeg (Y 14 a.toNatClampNeg)) 15 (Y 0 17).toNatClampNeg (Y 15 a.toNatClampNeg)) 19 a.toNatClampNeg 1) := by rw [yv_up, yv_up, yv_up, yv_up, yv_up, yv_up0, yv_up, yv_up, yv_up, yv_up, yv_up, yv_up, yv_up]
                  have oat := oe_at (Y := Y) aN
                  have G : gs M I0 (a_ui (a_ui (a_ui (a_ui (a_ui (a_ui (a_ui (a_ui (a_ui (a_ui (a_ui (a_ui (a_ui J2 (M + 7) (Y 0 17).toNatClampNeg 5) (M + 8) (Y 0 17).toNatClampNeg (Y 8 a.toNatClampNeg)) (M + 9) (Y 0 17).toNatClampNeg (Y 9 a.toNatClampNeg)) (M + 10) (Y 0 17).toNatClampNeg (ohY Y a)) (M + 11) (Y 0 17).toNatClampNeg (Y 11 a.toNatClampNeg)) (M + 20) (Y 0 17).toNatClampNeg (-9)) (M + 21) (Y 0 17).toNatClampNeg (-9)) M 17 (Y 0 17 + 1)) (M + 12) (Y 0 17).toNatClampNeg (Y 12 a.toNatClampNeg)) (M + 13) (Y 0 17).toNatClampNeg (Y 13 a.toNatClampNeg)) (M + 14) (Y 0 17).toNatClampNeg (Y 14 a.toNatClampNeg)) (M + 15) (Y 0 17).toNatClampNeg (Y 15 a.toNatClampNeg)) (M + 19) a.toNatClampNeg 1) (oeW Y a) := by
                    refine gs_mk2 g2 F5.1.1 (fun z j p => by rw [ui_ap, if_neg (by omega), ui_ap, if_neg (by omega), ui_ap, if_neg (by omega), ui_ap, if_neg (by omega), ui_ap, if_neg (by omega), ui_ap, if_neg (by omega), ui_ap, if_neg (by omega), ui_ap, if_neg (by omega), ui_ap, if_neg (by omega), ui_ap, if_neg (by omega), ui_ap, if_neg (by omega), ui_ap, if_neg (by omega), ui_ap, if_neg (by omega)]) (fun j => ?_) (fun j => by rw [ui_ap, if_neg (by omega), ui_ap, if_neg (by omega), ui_ap, if_neg (by omega), ui_ap, if_neg (by omega), ui_ap, if_neg (by omega), ui_ap, if_neg (by omega), ui_ap, if_neg (by omega), ui_ap, if_neg (by omega), ui_ap, if_neg (by omega), ui_ap, if_neg (by omega), ui_ap, if_neg (by omega), ui_ap, if_neg (by omega), ui_ap, if_neg (by omega)]) (fun o o0 o1 o2 => ?_) (fun q j p => (congrFun (congrFun hyv q) j).trans ((up_S (up_S (up_S (up_S (up_S (up_S (up_S (up_S (up_S (up_S (up_S (up_S (up_S g2.2.2.1 rfl) rfl) rfl) rfl) rfl) rfl) rfl) rfl) rfl) rfl) rfl) rfl) rfl) q j p))
                    · rw [oe_no (by omega) (by omega), up_no (by omega)]
                    · by_cases e : o.toNatClampNeg = (Y 0 17).toNatClampNeg
                      · rw [e, oat.2.2.2.2.2.1] at o2
                        exact absurd o2 (by decide)
                      · exact ⟨by rw [oe_no (by omega) (by omega), up_no (by omega)], by rw [oe_no (by omega) (by omega), up_no (by omega)]⟩
                  have hp := hP _ F5 G
                  have n17 : 0 ≤ Y 0 17 ∧ Y 0 17 < 30 := ⟨h17.1, h30⟩
                  have aNf : (a.toNatClampNeg = (Y 0 17).toNatClampNeg) = False := eq_false (fun w => aN w.symm)
                  have n19 : ∀ k, 1 ≤ k ∧ k ≤ 21 → J2 (M + k) a.toNatClampNeg = Y k a.toNatClampNeg := eK
                  have a11 : (1 : Int32) &&& 1 = 1 := by decide
                  clear hP hrf hm hy hl hg hF mR0 mk0 ts0 tp0 in0 f1 g1 hrfJ mR1 mk1 ts1 tp1 in1 f2 g2 F F5 G hyv oat
                  simp only [q246_81, q246_82, q246_85, q246_86, q246_87, m_0 hS, m_K hS, mR_wants hS, mK_wants hS, mL_wants hS, as_nil, as_i, as_r, Nat.reduceAdd, Nat.reduceLeDiff, z_eq0, z_eq1, z_or, z_em, Classical.not_not, not_false_eq_true, not_true_eq_false, true_and, and_true, false_and, and_false, and_self, true_implies, false_implies, implies_true, Option.toList_some, Option.toList_none, List.cons_append, List.nil_append, Nat.add_eq_zero_iff, a_nl_i, a_nl_r, a_nl_n, true_or, or_true, eq_self, ok_4, ok_5, ok_6, ok_7, ok_9, ok_10, ok_20, ok_21, ok_24, ok_30, ok_48, ok_50, ok_60, ok_80, ok_120, ok_180, ok_192, ok_200, ok_900, ok_1000, ok_84000, eK 11 (by decide), ha]
                  try simp only [true_and, and_true, true_implies, false_implies, implies_true, not_true_eq_false, not_false_eq_true]
                  refine sp_add hS (by rw [e17K]; exact n17) ?_
                  rw [e17K]
                  simp only [q246_90, q246_91, q246_92, q246_95, q246_96, q246_97, q246_100, q246_101, q246_102, q246_103, q246_104, q246_107, q246_108, q246_109, q246_112, q246_113, q246_114, q246_115, q246_116, q246_119, q246_120, q246_121, q246_124, q246_125, q246_126, q246_127, q246_128, q246_131, q246_132, q246_133, q246_136, q246_137, q246_138, q246_139, q246_140, q246_143, q246_144, q246_145, q246_146, q246_147, m_0 hS, m_K hS, mR_benchSet hS, mK_benchSet hS, mL_benchSet hS, mR_modeSet hS, mK_modeSet hS, mL_modeSet hS, mR_gear hS, mK_gear hS, mL_gear hS, mR_danger hS, mK_danger hS, mL_danger hS, mR_wasOwed hS, mK_wasOwed hS, mL_wasOwed hS, as_nil, as_i, as_r, Nat.reduceAdd, Nat.reduceLeDiff, z_eq0, z_eq1, z_or, z_em, Classical.not_not, not_false_eq_true, not_true_eq_false, true_and, and_true, false_and, and_false, and_self, true_implies, false_implies, implies_true, Option.toList_some, Option.toList_none, List.cons_append, List.nil_append, Nat.add_eq_zero_iff, a_nl_i, a_nl_r, a_nl_n, true_or, or_true, eq_self, ok_4, ok_5, ok_6, ok_7, ok_9, ok_10, ok_20, ok_21, ok_24, ok_30, ok_48, ok_50, ok_60, ok_80, ok_120, ok_180, ok_192, ok_200, ok_900, ok_1000, ok_84000, ui_ap, ne_MM, ne_M0, ne_0M, Nat.reduceEqDiff, reduceIte, if_true, if_false, n17, ha, aNf, eK 12 (by decide), eK 13 (by decide), eK 14 (by decide), eK 15 (by decide), a11]
                  try simp only [true_and, and_true, true_implies, false_implies, implies_true, not_true_eq_false, not_false_eq_true]
                  first
                    | exact hp
                    | grind
                clear hP hrf hm hy hl hg hF mR0 mk0 ts0 tp0 in0 f1 g1 hrfJ mR1 mk1 ts1 tp1 in1
                simp only [q246_36, q246_46, q246_47, q246_50, q246_52, q246_62, q246_63, q246_64, q246_65, q246_68, q246_69, q246_70, q246_71, q246_74, q246_75, q246_76, q246_77, q246_78, m_0 hS, m_K hS, mR_group hS, mK_group hS, mL_group hS, mR_land hS, mK_land hS, mL_land hS, as_nil, as_i, as_r, Nat.reduceAdd, Nat.reduceLeDiff, z_eq0, z_eq1, z_or, z_em, Classical.not_not, not_false_eq_true, not_true_eq_false, true_and, and_true, false_and, and_false, and_self, true_implies, false_implies, implies_true, Option.toList_some, Option.toList_none, List.cons_append, List.nil_append, Nat.add_eq_zero_iff, a_nl_i, a_nl_r, a_nl_n, true_or, or_true, eq_self, ok_4, ok_5, ok_6, ok_7, ok_9, ok_10, ok_20, ok_21, ok_24, ok_30, ok_48, ok_50, ok_60, ok_80, ok_120, ok_180, ok_192, ok_200, ok_900, ok_1000, ok_84000, c4, e17J, c5, ha, eJ 8 (by decide), eJ 9 (by decide)]
                try simp only [true_and, and_true, true_implies, false_implies, implies_true, not_true_eq_false, not_false_eq_true]
                first
                  | exact ow2
                  | grind
          clear hP hrf hm hy hl hg hF mR0 mk0 ts0 tp0 in0
          simp only [q246_28, q246_31, q246_32, q246_33, m_0 hS, m_K hS, as_nil, as_i, as_r, Nat.reduceAdd, Nat.reduceLeDiff, z_eq0, z_eq1, z_or, z_em, Classical.not_not, not_false_eq_true, not_true_eq_false, true_and, and_true, false_and, and_false, and_self, true_implies, false_implies, implies_true, Option.toList_some, Option.toList_none, List.cons_append, List.nil_append, Nat.add_eq_zero_iff, a_nl_i, a_nl_r, a_nl_n, true_or, or_true, eq_self, ok_4, ok_5, ok_6, ok_7, ok_9, ok_10, ok_20, ok_21, ok_24, ok_30, ok_48, ok_50, ok_60, ok_80, ok_120, ok_180, ok_192, ok_200, ok_900, ok_1000, ok_84000, c3]
          try simp only [true_and, and_true, true_implies, false_implies, implies_true, not_true_eq_false, not_false_eq_true]
          first
            | exact how
            | grind
      clear hP hrf hm hy hl hg hF mR0 mk0 ts0 tp0 in0
      rw [a_enter1 (M := a_m246) rfl (a_cat_rf (a_cat_int a_cat_nil)) (show 2 ≤ 3 by decide)]
      show a_at _ (a_xm a_m246) 0 [some (a_rf M), some (.int a), none] [] _ _
      simp only [q246_0, q246_1, q246_2, q246_5, q246_14, q246_15, q246_18, q246_19, q246_20, q246_23, q246_24, q246_25, m_0 hS, m_K hS, mR_wasOwed hS, mK_wasOwed hS, mL_wasOwed hS, sp_isAsk hS, as_nil, as_i, as_r, Nat.reduceAdd, Nat.reduceLeDiff, z_eq0, z_eq1, z_or, z_em, Classical.not_not, not_false_eq_true, not_true_eq_false, true_and, and_true, false_and, and_false, and_self, true_implies, false_implies, implies_true, Option.toList_some, Option.toList_none, List.cons_append, List.nil_append, Nat.add_eq_zero_iff, a_nl_i, a_nl_r, a_nl_n, true_or, or_true, eq_self, ok_4, ok_5, ok_6, ok_7, ok_9, ok_10, ok_20, ok_21, ok_24, ok_30, ok_48, ok_50, ok_60, ok_80, ok_120, ok_180, ok_192, ok_200, ok_900, ok_1000, ok_84000, e17, m17, c1, ha, e19, c2]
      try simp only [true_and, and_true, true_implies, false_implies, implies_true, not_true_eq_false, not_false_eq_true]
      first
        | exact hlo
        | grind
    · rw [if_pos (Or.inl c2)] at hP
      have hr := hP _ (hrf 3).1 (hrf 3).2
      clear hP hrf hm hy hl hg hF mR0 mk0 ts0 tp0 in0
      rw [a_enter1 (M := a_m246) rfl (a_cat_rf (a_cat_int a_cat_nil)) (show 2 ≤ 3 by decide)]
      show a_at _ (a_xm a_m246) 0 [some (a_rf M), some (.int a), none] [] _ _
      simp only [q246_0, q246_1, q246_2, q246_5, q246_14, q246_15, q246_18, q246_19, q246_20, q246_39, q246_40, q246_42, q246_45, m_0 hS, m_K hS, mR_wasOwed hS, mK_wasOwed hS, mL_wasOwed hS, sp_isAsk hS, sp_refuse_1 hS, sp_refuse_2 hS, sp_refuse_3 hS, sp_refuse_4 hS, sp_refuse_5 hS, sp_refuse_6 hS, as_nil, as_i, as_r, Nat.reduceAdd, Nat.reduceLeDiff, z_eq0, z_eq1, z_or, z_em, Classical.not_not, not_false_eq_true, not_true_eq_false, true_and, and_true, false_and, and_false, and_self, true_implies, false_implies, implies_true, Option.toList_some, Option.toList_none, List.cons_append, List.nil_append, Nat.add_eq_zero_iff, a_nl_i, a_nl_r, a_nl_n, true_or, or_true, eq_self, ok_4, ok_5, ok_6, ok_7, ok_9, ok_10, ok_20, ok_21, ok_24, ok_30, ok_48, ok_50, ok_60, ok_80, ok_120, ok_180, ok_192, ok_200, ok_900, ok_1000, ok_84000, e17, m17, c1, ha, e19, c2]
      try simp only [true_and, and_true, true_implies, false_implies, implies_true, not_true_eq_false, not_false_eq_true]
      first
        | exact hr
        | grind
  · rw [if_pos c1] at hP
    have hr := hP _ (hrf 1).1 (hrf 1).2
    clear hP hrf hm hy hl hg hF mR0 mk0 ts0 tp0 in0
    rw [a_enter1 (M := a_m246) rfl (a_cat_rf (a_cat_int a_cat_nil)) (show 2 ≤ 3 by decide)]
    show a_at _ (a_xm a_m246) 0 [some (a_rf M), some (.int a), none] [] _ _
    simp only [q246_0, q246_1, q246_2, q246_5, q246_8, q246_9, q246_10, q246_13, m_0 hS, m_K hS, sp_isAsk hS, sp_refuse_1 hS, sp_refuse_2 hS, sp_refuse_3 hS, sp_refuse_4 hS, sp_refuse_5 hS, sp_refuse_6 hS, as_nil, as_i, as_r, Nat.reduceAdd, Nat.reduceLeDiff, z_eq0, z_eq1, z_or, z_em, Classical.not_not, not_false_eq_true, not_true_eq_false, true_and, and_true, false_and, and_false, and_self, true_implies, false_implies, implies_true, Option.toList_some, Option.toList_none, List.cons_append, List.nil_append, Nat.add_eq_zero_iff, a_nl_i, a_nl_r, a_nl_n, true_or, or_true, eq_self, ok_4, ok_5, ok_6, ok_7, ok_9, ok_10, ok_20, ok_21, ok_24, ok_30, ok_48, ok_50, ok_60, ok_80, ok_120, ok_180, ok_192, ok_200, ok_900, ok_1000, ok_84000, e17, m17, c1]
    try simp only [true_and, and_true, true_implies, false_implies, implies_true, not_true_eq_false, not_false_eq_true]
    first
      | exact hr
      | grind
end ZL0
end
section
/-! what a TEXT says hangs on its bytes -/
section ZM0
variable {f g : Nat → Int32} {e : Int32}
theorem xdg_c (H : ∀ a : Int32, a < e → f a.toNatClampNeg = g a.toNatClampNeg) : ∀ (k : Nat) (a v : Int32), xdg f e k a v = xdg g e k a v := by
  intro k
  induction k with
  | zero => intro a v; rfl
  | succ k ih =>
    intro a v
    unfold xdg
    by_cases c : a < e
    · rw [H a c, ih]
    · rw [if_neg (fun q => c q.1), if_neg (fun q => c q.1)]
theorem xU_cg (H : ∀ a : Int32, a < e → f a.toNatClampNeg = g a.toNatClampNeg) (a : Int32) : xU f e a = xU g e a := by
  unfold xU
  rw [xdg_c H]
  by_cases c : a < e
  · rw [H a c]
  · rw [if_neg (fun q => c q.1), if_neg (fun q => c q.1), if_neg (fun q => c q.1), if_neg (fun q => c q.1)]
theorem i3_cg (H : ∀ a : Int32, a < e → f a.toNatClampNeg = g a.toNatClampNeg) (a x y z : Int32) : i3 f e a x y z ↔ i3 g e a x y z := by
  unfold i3
  by_cases c : a < e
  · rw [H a c]
  · exact ⟨fun q => absurd q.1 c, fun q => absurd q.1 c⟩
theorem xsu_cg (H : ∀ a : Int32, a < e → f a.toNatClampNeg = g a.toNatClampNeg) : ∀ (k : Nat) (r : rdT), xsu f e k r = xsu g e k r := by
  intro k
  induction k with
  | zero => intro r; rfl
  | succ k ih =>
    intro r
    unfold xsu
    by_cases c : r.1 = true ∧ i3 f e r.2.1 43 45 42
    · rw [if_pos c, if_pos ⟨c.1, (i3_cg H _ _ _ _).mp c.2⟩, H _ c.2.1, xU_cg H, ih]
    · rw [if_neg c, if_neg (fun q => c ⟨q.1, (i3_cg H _ _ _ _).mpr q.2⟩)]
theorem xS_cg (H : ∀ a : Int32, a < e → f a.toNatClampNeg = g a.toNatClampNeg) (a : Int32) : xS f e a = xS g e a := by
  unfold xS
  rw [xU_cg H, xsu_cg H]
theorem xC_cg (H : ∀ a : Int32, a < e → f a.toNatClampNeg = g a.toNatClampNeg) (a : Int32) : xC f e a = xC g e a := by
  unfold xC
  rw [xS_cg H a]
  by_cases c : i3 f e (xS g e a).2.1 60 61 62
  · rw [if_pos c, if_pos ((i3_cg H _ _ _ _).mp c), H _ c.1, xS_cg H]
  · rw [if_neg c, if_neg (fun q => c ((i3_cg H _ _ _ _).mpr q))]
theorem xlo_cg (H : ∀ a : Int32, a < e → f a.toNatClampNeg = g a.toNatClampNeg) {q : Int32 → rdT} {c : Int32} {op : Int32 → Int32 → Int32} : ∀ (k : Nat) (r : rdT), xlo f e q c op k r = xlo g e q c op k r := by
  intro k
  induction k with
  | zero => intro r; rfl
  | succ k ih =>
    intro r
    unfold xlo
    by_cases d : r.2.1 < e
    · rw [H _ d, ih]
    · rw [if_neg (fun q => d q.2.1), if_neg (fun q => d q.2.1)]
theorem xjo_cg (H : ∀ a : Int32, a < e → f a.toNatClampNeg = g a.toNatClampNeg) {q : Int32 → rdT} : ∀ (y : Nat), xjo f e q y = xjo g e q y := by
  intro y
  induction y with
  | zero => rfl
  | succ y ih =>
    funext a
    unfold xjo
    rw [ih, xlo_cg H]
theorem xP_cg (H : ∀ a : Int32, a < e → f a.toNatClampNeg = g a.toNatClampNeg) : ∀ (z : Nat), xP f e z = xP g e z := by
  intro z
  induction z with
  | zero =>
    funext a
    unfold xP
    rw [xC_cg H]
    by_cases c : a < e
    · rw [H a c]
    · rw [if_neg (fun q => c q.1), if_neg (fun q => c q.1)]
  | succ z ih =>
    funext a
    unfold xP
    rw [xC_cg H, ih, xjo_cg H]
    by_cases c : a < e
    · rw [H a c]
      by_cases d : (xjo g e (xP g e z) 3 (a + 1)).2.1 < e
      · rw [H _ d]
      · rw [if_neg (c := (xjo g e (xP g e z) 3 (a + 1)).2.1 < e ∧ f (xjo g e (xP g e z) 3 (a + 1)).2.1.toNatClampNeg = 41) (fun q => d q.1), if_neg (c := (xjo g e (xP g e z) 3 (a + 1)).2.1 < e ∧ g (xjo g e (xP g e z) 3 (a + 1)).2.1.toNatClampNeg = 41) (fun q => d q.1)]
    · rw [if_neg (fun q => c q.1), if_neg (fun q => c q.1), if_neg (fun q => c q.1), if_neg (fun q => c q.1)]
theorem xT_cg (H : ∀ a : Int32, a < e → f a.toNatClampNeg = g a.toNatClampNeg) : xT f e = xT g e := by
  have h0 : 0 < e → f 0 = g 0 := fun q => H 0 q
  have h1 : 1 < e → f 1 = g 1 := fun q => H 1 q
  have hR : xR f e 2 = xR g e 2 := by
    unfold xR
    rw [xP_cg H, xjo_cg H]
  unfold xT
  rw [hR, xS_cg H]
  by_cases c : 0 < e
  · rw [h0 c]
    by_cases d : 1 < e
    · rw [h1 d]
    · rw [if_neg (c := 1 < e ∧ f 1 = 58) (fun q => d q.1), if_neg (c := 1 < e ∧ g 1 = 58) (fun q => d q.1)]
  · rw [if_neg (fun q => c q.1), if_neg (fun q => c q.1)]
/-- bytes below the end alone count -/
theorem xT_nat (h0 : 0 ≤ e) (h : ∀ j : Nat, j < e.toNatClampNeg → f j = g j) : xT f e = xT g e := by
  by_cases c : 0 < e
  · refine xT_cg (fun a ha => h _ ?_)
    by_cases d : 0 ≤ a
    · exact cl_lt d ha
    · have e1 : a.toNatClampNeg = 0 := by
        have := Int32.lt_iff_toInt_lt.mp (Int32.not_le.mp d)
        have c0 : (0 : Int32).toInt = 0 := rfl
        show a.toInt.toNat = 0
        omega
      have := cl_lt (show (0 : Int32) ≤ 0 by decide) c
      rw [e1]
      exact this
  · unfold xT
    rw [if_neg (fun q => c q.1), if_neg (fun q => c q.1)]
end ZM0
section ZM1
variable {d n t C c : Nat} {K L : Nat → Nat} {I I0 J J0 J1 J2 : Nat → Nat → Int32} {R : Nat → Nat → Nat} {P : Option Value → AH → Prop}
variable {Y Z W : Nat → Nat → Int32} {R' R1 : Nat → Nat → Nat} {K' L' : Nat → Nat}
/-- the words behind a TEXT -/
def txW (Y : Nat → Nat → Int32) (s : Int32) : Nat → Nat → Int32 := fun k j => if k = 0 ∧ j = 40 then 0 else if k = 0 ∧ j = 41 then Y 0 41 + 1 else if k = 28 ∧ 50 * (Y 0 41).toNatClampNeg ≤ j ∧ j < 50 * (Y 0 41).toNatClampNeg + (Y 0 40).toNatClampNeg then Y 27 (j - 50 * (Y 0 41).toNatClampNeg) else if k = 29 ∧ j = (Y 0 41).toNatClampNeg then Y 0 40 else if k = 30 ∧ j = (Y 0 41).toNatClampNeg then s else if k = 31 ∧ j = (Y 0 41).toNatClampNeg then 1000000 else Y k j
def txY (Y : Nat → Nat → Int32) (s : Int32) : Nat → Nat → Int32 := if ¬ (0 ≤ s ∧ s ≤ 199) ∨ Y 0 41 = 20 then Y else if (xT (Y 27) (Y 0 40)).1 = true then txW Y s else upY Y 0 40 0
theorem tw_no {s : Int32} {k j : Nat} (h : ¬ (k = 0 ∧ (j = 40 ∨ j = 41))) (h2 : ¬ (28 ≤ k ∧ k ≤ 31)) : txW Y s k j = Y k j := by
  unfold txW
  rw [if_neg (by omega), if_neg (by omega), if_neg (by omega), if_neg (by omega), if_neg (by omega), if_neg (by omega)]
theorem tw_ne {s : Int32} {k j : Nat} (h : 29 ≤ k ∧ k ≤ 31) (h2 : ¬ j = (Y 0 41).toNatClampNeg) : txW Y s k j = Y k j := by
  unfold txW
  rw [if_neg (by omega), if_neg (by omega), if_neg (by omega), if_neg (by omega), if_neg (by omega), if_neg (by omega)]
theorem tw_28 {s : Int32} {j : Nat} : txW Y s 28 j = if 50 * (Y 0 41).toNatClampNeg ≤ j ∧ j < 50 * (Y 0 41).toNatClampNeg + (Y 0 40).toNatClampNeg then Y 27 (j - 50 * (Y 0 41).toNatClampNeg) else Y 28 j := by
  unfold txW
  rw [if_neg (by omega), if_neg (by omega)]
  by_cases e : 50 * (Y 0 41).toNatClampNeg ≤ j ∧ j < 50 * (Y 0 41).toNatClampNeg + (Y 0 40).toNatClampNeg
  · rw [if_pos ⟨rfl, e⟩, if_pos e]
  · rw [if_neg (fun q => e q.2), if_neg (by omega), if_neg (by omega), if_neg (by omega), if_neg e]
theorem tw_at {s : Int32} : txW Y s 29 (Y 0 41).toNatClampNeg = Y 0 40 ∧ txW Y s 30 (Y 0 41).toNatClampNeg = s ∧ txW Y s 31 (Y 0 41).toNatClampNeg = 1000000 ∧ txW Y s 0 40 = 0 ∧ txW Y s 0 41 = Y 0 41 + 1 := by
  unfold txW
  simp
theorem cu_text (hT : cT C K L I R) (hu : cuP C K L I R Y) {X : Nat} {s : Int32} (h41 : Y 0 41 < 20) (h40 : 0 ≤ Y 0 40 ∧ Y 0 40 ≤ 50) (hst1 : (xT (Y 27) (Y 0 40)).1 = true) (kX : K X = 11) (hX : ∀ i : Int32, 0 ≤ i → i < Y 0 41 → ¬ R (C + 8) i.toNatClampNeg = X) (g0 : I X 0 = Y 27 0) (g1 : I X 1 = s) (g3 : I X 3 = 200) (g4 : I X 4 = 0) (hvs : ∀ fc, vs (I (R X 2)) fc (Int32.ofNat (L (R X 2))) 60 0 0 (fun _ => 0) = (xT (Y 27) (Y 0 40)).2.2 fc) (hsep : ∀ b : Int32, 0 ≤ b → b < Y 0 6 → (R X 2 < (R (C + 16) b.toNatClampNeg) + 1 ∨ (R (C + 16) b.toNatClampNeg) + 3 < R X 2) ∧ ¬ R X 2 = R (R (C + 16) b.toNatClampNeg) 5) : cuP C K L (a_ui (a_ui I (C + 7) 3 (Y 0 41 + 1)) (C + 11) 2 0) (a_ur R (C + 8) (Y 0 41).toNatClampNeg X) (txW Y s) := by
  have hS := hT.s
  have X1 := (hT.g_txt X kX).1
  have X2 := (hT.g_txt X kX).2.1
  have X3 := (hT.g_txt X kX).2.2.1
  obtain ⟨b29, b30, b31, b40, b41⟩ := tw_at (Y := Y) (s := s)
  obtain ⟨⟨⟨p1, p2, p3⟩, ⟨q1, q2, q3, q4⟩, ⟨r1, r2, r3, r4⟩, ⟨x1, x2⟩, hy⟩, hse, ⟨sM, sT, ⟨d1, d2⟩, sY⟩, hno, hst⟩ := hu
  have t0 := hy.1.1
  have hT20 : 0 ≤ Y 0 41 ∧ Y 0 41 < 20 := ⟨t0, h41⟩
  obtain ⟨-, u0, u1, nT⟩ := lp_st hT20.1 hT20.2
  have le50 : (Y 0 40).toNatClampNeg ≤ 50 := by
    have := cl_le0 h40.1 h40.2
    rw [show (50 : Int32).toNatClampNeg = 50 from rfl] at this
    exact this
  have hlt : ∀ o : Int32, 0 ≤ o → o < Y 0 41 + 1 → ¬ o = Y 0 41 → o < Y 0 41 := fun o o0 o1 e => by clear sM sT sY hst hvs hsep x2 r3 r4 q4 p3 hy hse; grind
  have zr : ∀ k, ¬ k = 0 → ¬ (28 ≤ k ∧ k ≤ 31) → txW Y s k = Y k := fun k h h2 => funext (fun j => tw_no (by omega) h2)
  have z0 : ∀ j, ¬ j = 40 → ¬ j = 41 → txW Y s 0 j = Y 0 j := fun j h h' => tw_no (by omega) (by omega)
  have cin : ∀ k j, ¬ (k = 7 ∧ j = 3) → ¬ (k = 11 ∧ j = 2) → (a_ui (a_ui I (C + 7) 3 (Y 0 41 + 1)) (C + 11) 2 0) (C + k) j = I (C + k) j := fun k j h h2 => by rw [ui_ap, if_neg (by omega), ui_ap, if_neg (by omega)]
  have c0 : (a_ui (a_ui I (C + 7) 3 (Y 0 41 + 1)) (C + 11) 2 0) C 10 = I C 10 := cin 0 10 (by omega) (by omega)
  have jx : ∀ x j, C + 43 < x → (a_ui (a_ui I (C + 7) 3 (Y 0 41 + 1)) (C + 11) 2 0) x j = I x j := fun x j hx => by rw [ui_ap, if_neg (by omega), ui_ap, if_neg (by omega)]
  have rin : ∀ x j, ¬ (x = C + 8 ∧ j = (Y 0 41).toNatClampNeg) → (a_ur R (C + 8) (Y 0 41).toNatClampNeg X) x j = R x j := fun x j h => by rw [ur_ap, if_neg h]
  have rX : (a_ur R (C + 8) (Y 0 41).toNatClampNeg X) (C + 8) (Y 0 41).toNatClampNeg = X := by rw [ur_ap, if_pos ⟨rfl, rfl⟩]
  have ro : ∀ o : Int32, 0 ≤ o → o < Y 0 41 → (a_ur R (C + 8) (Y 0 41).toNatClampNeg X) (C + 8) o.toNatClampNeg = R (C + 8) o.toNatClampNeg := fun o o0 o1 => rin _ _ (by have := cl_lt o0 o1; omega)
  have rob : ∀ x j, C + 96 < x → (a_ur R (C + 8) (Y 0 41).toNatClampNeg X) x j = R x j := fun x j hx => rin _ _ (by omega)
  have wtn : xT (wtY (txW Y s) (Y 0 41).toNatClampNeg) (txW Y s 29 (Y 0 41).toNatClampNeg) = (xT (Y 27) (Y 0 40)) := by
    rw [b29]
    refine xT_nat h40.1 (fun j hj => ?_)
    show txW Y s 28 (50 * (Y 0 41).toNatClampNeg + j) = Y 27 j
    rw [tw_28, if_pos (by omega)]
    congr 1
    omega
  have wto : ∀ k : Nat, k < (Y 0 41).toNatClampNeg → wtY (txW Y s) k 0 = wtY Y k 0 ∧ xT (wtY (txW Y s) k) (txW Y s 29 k) = xT (wtY Y k) (Y 29 k) := fun k hk => by
    have g := sY.2.2.2.2.1 k hk
    have e29 : txW Y s 29 k = Y 29 k := tw_ne (by omega) (by omega)
    have g50 := cl_le0 g.2.1 g.2.2
    rw [show (50 : Int32).toNatClampNeg = 50 from rfl] at g50
    have ej : ∀ j, j < 50 → wtY (txW Y s) k j = wtY Y k j := fun j hj => by
      show txW Y s 28 (50 * k + j) = Y 28 (50 * k + j)
      rw [tw_28, if_neg (by omega)]
    refine ⟨ej 0 (by omega), ?_⟩
    rw [e29]
    exact xT_nat g.2.1 (fun j hj => ej j (by omega))
  have wh : ∀ b : Int32, 0 ≤ b → b < Y 0 6 → whC C (a_ui (a_ui I (C + 7) 3 (Y 0 41 + 1)) (C + 11) 2 0) (a_ur R (C + 8) (Y 0 41).toNatClampNeg X) b = whC C I R b := fun b b0 b1 => by
    have g := hT.g_bnc _ (q3 b b0 b1).1
    unfold whC
    rw [rin (C + 16) _ (by omega), rob _ _ g.1]
    exact funext (fun j => jx _ _ (by have := g.2.1.1; omega))
  have sn : ∀ b : Int32, 0 ≤ b → b < Y 0 6 → snC C (a_ui (a_ui I (C + 7) 3 (Y 0 41 + 1)) (C + 11) 2 0) (a_ur R (C + 8) (Y 0 41).toNatClampNeg X) b = snC C I R b := fun b b0 b1 => by
    have g := hT.g_bnc _ (q3 b b0 b1).1
    unfold snC
    rw [rin (C + 16) _ (by omega), rob _ _ g.1]
    exact funext (fun j => jx _ _ (by have := g.2.2.1.1; omega))
  have ea : ∀ o : Int32, 0 ≤ o → o < Y 0 17 → ∀ j, (a_ui (a_ui I (C + 7) 3 (Y 0 41 + 1)) (C + 11) 2 0) (R (C + 15) o.toNatClampNeg) j = I (R (C + 15) o.toNatClampNeg) j := fun o o0 o1 j => jx _ _ (by have := (hT.g_ask _ (r2 o o0 o1).1).1; omega)
  obtain ⟨ec, eh⟩ := cmk_e (Y := Y) (Z := txW Y s) (fun k j hk => tw_no (by unfold kK at hk; omega) (by unfold kK at hk; omega))
  refine ⟨⟨⟨by rw [cin _ _ (by omega) (by omega), z0 0 (by omega) (by omega)]; exact p1, fun j => by rw [cin _ _ (by omega) (by omega), zr 1 (by omega) (by omega)]; exact p2 j, lsP_e p3 (fun j => cin _ _ (by omega) (by omega)) (fun k j hk => tw_no (by unfold kL at hk; omega) (by unfold kL at hk; omega))⟩, ⟨by rw [cin _ _ (by omega) (by omega), z0 6 (by omega) (by omega)]; exact q1, by rw [cin _ _ (by omega) (by omega), z0 9 (by omega) (by omega)]; exact q2, fun b b0 b1 => ?_, ?_⟩, ⟨by rw [cin _ _ (by omega) (by omega), z0 17 (by omega) (by omega)]; exact r1, fun o o0 o1 => ?_, fun o o0 o1 => ?_, fun o o0 o1 => ?_⟩, ⟨by rw [ui_ap, if_neg (by omega), ui_ap, if_pos ⟨rfl, rfl⟩, b41], fun k k0 k1 => ?_⟩, ?_⟩, ?_, ⟨siM_e sM (fun k j hk => cin _ _ (by omega) (by omega)) (fun k j hk => tw_no (by unfold kM at hk; omega) (by unfold kM at hk; omega)), ?_, ?_, ?_⟩, ?_, ?_⟩
  · rw [z0 6 (by omega) (by omega)] at b1
    obtain ⟨k1, k2, k3, k4⟩ := q3 b b0 b1
    have g := (hT.g_bnc _ k1).1
    rw [rin (C + 16) _ (by omega), jx _ _ (by omega), jx _ _ (by omega), zr 5 (by omega) (by omega), zr 6 (by omega) (by omega)]
    exact ⟨k1, k2, k3, k4⟩
  · have hq : plP (whC C (a_ui (a_ui I (C + 7) 3 (Y 0 41 + 1)) (C + 11) 2 0) (a_ur R (C + 8) (Y 0 41).toNatClampNeg X)) (snC C (a_ui (a_ui I (C + 7) 3 (Y 0 41 + 1)) (C + 11) 2 0) (a_ur R (C + 8) (Y 0 41).toNatClampNeg X)) Y := plP_eq q4 wh sn
    unfold plP at hq ⊢
    rw [z0 17 (by omega) (by omega), z0 6 (by omega) (by omega), zr 20 (by omega) (by omega), zr 21 (by omega) (by omega), zr 10 (by omega) (by omega), zr 22 (by omega) (by omega)]
    exact hq
  · rw [z0 17 (by omega) (by omega)] at o1
    rw [rin _ _ (by omega), ea o o0 o1]
    exact r2 o o0 o1
  · rw [z0 17 (by omega) (by omega)] at o1
    rw [rin _ _ (by omega), ea o o0 o1, ec, eh]
    exact r3 o o0 o1
  · rw [z0 17 (by omega) (by omega)] at o1
    have hl := r4 o o0 o1
    have er : ∀ k, 7 ≤ k ∧ k ≤ 21 → txW Y s k = Y k := fun k hk => zr k (by omega) (by omega)
    rw [rin _ _ (by omega)]
    unfold alP at hl ⊢
    simp only [ea o o0 o1]
    rw [er 7 (by omega), er 8 (by omega), er 9 (by omega), er 10 (by omega), er 11 (by omega), er 12 (by omega), er 13 (by omega), er 14 (by omega), er 15 (by omega), er 16 (by omega), er 17 (by omega), er 18 (by omega), er 19 (by omega), er 20 (by omega), er 21 (by omega)]
    exact hl
  · rw [b41] at k1
    by_cases e : k = Y 0 41
    · have hcd : (a_ui (a_ui I (C + 7) 3 (Y 0 41 + 1)) (C + 11) 2 0) (R X 2) = I (R X 2) := funext (fun j => jx _ _ (by omega))
      rw [e, rX, rob _ _ X1, jx _ _ (by omega), jx _ _ (by omega), jx _ _ (by omega), hcd, g0, g1, g3, b30, b31]
      refine ⟨kX, by omega, ?_, rfl, fun s' s0 s1 => ⟨fun _ => Int32.lt_of_le_of_lt s1 (by decide), fun _ => Int32.lt_of_le_of_lt s1 (by decide)⟩, fun fc => ?_⟩
      · show Y 27 0 = txW Y s 28 (50 * (Y 0 41).toNatClampNeg + 0)
        have h2 := xT_two hst1
        have := cl_lt (show (0 : Int32) ≤ 0 by decide) (show 0 < Y 0 40 from Int32.lt_of_lt_of_le (by decide) h2)
        rw [show (0 : Int32).toNatClampNeg = 0 from rfl] at this
        rw [tw_28, if_pos (by omega), Nat.add_zero, Nat.sub_self]
      · rw [hvs fc]
        unfold wvY
        rw [wtn]
    · have ho := hlt k k0 k1 e
      have kN := cl_lt k0 ho
      obtain ⟨k11, k12, k13, k14, k15, k16⟩ := x2 k k0 ho
      have g := hT.g_txt _ k11
      obtain ⟨w1, w2⟩ := wto _ kN
      have wv : ∀ fc, wvY (txW Y s) k.toNatClampNeg fc = wvY Y k.toNatClampNeg fc := fun fc => by
        unfold wvY
        rw [w2]
      have hcd : (a_ui (a_ui I (C + 7) 3 (Y 0 41 + 1)) (C + 11) 2 0) (R (R (C + 8) k.toNatClampNeg) 2) = I (R (R (C + 8) k.toNatClampNeg) 2) := funext (fun j => jx _ _ (by omega))
      rw [ro k k0 ho, rob _ _ g.1, jx _ _ (by omega), jx _ _ (by omega), jx _ _ (by omega), hcd, w1, tw_ne (k := 30) (by omega) (by omega), tw_ne (k := 31) (by omega) (by omega)]
      exact ⟨k11, k12, k13, k14, k15, fun fc => by rw [wv]; exact k16 fc⟩
  · obtain ⟨h1, h2, h3, h4, h5, h6, h7, h8, h9, h10⟩ := hy
    refine ⟨by rw [b41]; exact ⟨u0, u1⟩, by rw [zr 10 (by omega) (by omega)]; exact h2, by rw [z0 17 (by omega) (by omega), zr 10 (by omega) (by omega)]; exact h3, by rw [z0 9 (by omega) (by omega)]; exact h4, by rw [z0 17 (by omega) (by omega)]; exact h5, by rw [z0 6 (by omega) (by omega)]; exact h6, ?_, ?_, ?_, by rw [z0 17 (by omega) (by omega), zr 7 (by omega) (by omega), zr 16 (by omega) (by omega)]; exact h10⟩
    · unfold inP at h7 ⊢
      rw [zr 20 (by omega) (by omega), zr 21 (by omega) (by omega), zr 10 (by omega) (by omega)]
      exact h7
    · unfold mkP at h8 ⊢
      rw [zr 38 (by omega) (by omega), zr 36 (by omega) (by omega)]
      exact h8
    · unfold hbP at h9 ⊢
      rw [zr 6 (by omega) (by omega)]
      exact h9
  · obtain ⟨s1, s2, s3, s4⟩ := hse
    have bq1 : ∀ b : Int32, 0 ≤ b → b < Y 0 6 → C + 96 < (R (C + 16) b.toNatClampNeg) := fun b b0 b1 => (hT.g_bnc _ (q3 b b0 b1).1).1
    unfold seP
    rw [z0 6 (by omega) (by omega), b41]
    refine ⟨fun b b0 b1 => ?_, fun b c b0 b1 c0 c1 e => ?_, fun k b k0 k1 b0 b1 => ?_, fun b c b0 b1 c0 c1 => ?_⟩
    · rw [rin (C + 16) _ (by omega), rob _ _ (bq1 b b0 b1), rob _ _ (bq1 b b0 b1), rob _ _ (bq1 b b0 b1)]
      exact s1 b b0 b1
    · rw [rin (C + 16) b.toNatClampNeg (by omega), rin (C + 16) c.toNatClampNeg (by omega)] at e
      exact s2 b c b0 b1 c0 c1 e
    · rw [rin (C + 16) _ (by omega), rob _ _ (bq1 b b0 b1)]
      by_cases e : k = Y 0 41
      · rw [e, rX, rob _ _ X1]
        exact hsep b b0 b1
      · have ho := hlt k k0 k1 e
        rw [ro k k0 ho, rob _ _ (hT.g_txt _ (x2 k k0 ho).1).1]
        exact s3 k b k0 ho b0 b1
    · rw [rin (C + 16) b.toNatClampNeg (by omega), rin (C + 16) c.toNatClampNeg (by omega), rob _ _ (bq1 b b0 b1)]
      exact s4 b c b0 b1 c0 c1
  · obtain ⟨⟨t1, t2⟩, ⟨t3, t4⟩, t5, t6⟩ := sT
    refine ⟨⟨by rw [cin _ _ (by omega) (by omega), z0 2 (by omega) (by omega)]; exact t1, fun j hj => ?_⟩, ⟨by rw [ui_ap, if_pos ⟨rfl, rfl⟩, b40], fun j => by rw [cin _ _ (by omega) (by omega), zr 27 (by omega) (by omega)]; exact t4 j⟩, by rw [c0, z0 79 (by omega) (by omega)]; exact t5, fun j hj => ?_⟩
    · rw [z0 2 (by omega) (by omega)] at hj
      rw [cin _ _ (by omega) (by omega), cin _ _ (by omega) (by omega), cin _ _ (by omega) (by omega), zr 2 (by omega) (by omega), zr 3 (by omega) (by omega), zr 4 (by omega) (by omega)]
      exact t2 j hj
    · rw [z0 79 (by omega) (by omega)] at hj
      rw [cin _ _ (by omega) (by omega), zr 52 (by omega) (by omega)]
      exact t6 j hj
  · unfold siD
    rw [rin C 11 (by omega), z0 12 (by omega) (by omega)]
    refine ⟨d1, fun hd => ?_⟩
    obtain ⟨e1, e2, e3, e4⟩ := d2 hd
    have ej : ∀ j, (a_ui (a_ui I (C + 7) 3 (Y 0 41 + 1)) (C + 11) 2 0) (R C 11) j = I (R C 11) j := fun j => jx _ _ (by have := (hT.g_ask _ e1).1; omega)
    simp only [ej]
    rw [z0 13 (by omega) (by omega), z0 14 (by omega) (by omega), z0 15 (by omega) (by omega), z0 16 (by omega) (by omega), z0 17 (by omega) (by omega)]
    refine ⟨e1, e2, e3, fun i i0 i1 => ?_⟩
    rw [rin _ _ (by omega)]
    exact e4 i i0 i1
  · obtain ⟨y1, y2, y3, y4, y5, y6, y7, y8⟩ := sY
    unfold siY
    rw [zr 38 (by omega) (by omega), zr 37 (by omega) (by omega), zr 47 (by omega) (by omega), zr 2 (by omega) (by omega), zr 3 (by omega) (by omega), zr 4 (by omega) (by omega), z0 0 (by omega) (by omega), z0 2 (by omega) (by omega), z0 17 (by omega) (by omega)]
    refine ⟨y1, y2, y3, y4, fun x hx => ?_, y6, y7, y8⟩
    rw [b41, nT] at hx
    by_cases e : x = (Y 0 41).toNatClampNeg
    · rw [e, wtn, b29]
      exact ⟨hst1, h40⟩
    · rw [(wto x (by omega)).2, tw_ne (by omega) e]
      exact y5 x (by omega)
  · unfold noP at hno ⊢
    rw [zr 20 (by omega) (by omega), zr 21 (by omega) (by omega)]
    exact hno
  · unfold stP
    rw [b41]
    refine ⟨fun i i0 i1 => ?_, fun i o i0 i1 o0 o1 e => ?_⟩
    · by_cases e : i = Y 0 41
      · rw [e, rX, jx _ _ (by omega), g4, b31]
        exact ⟨fun q => absurd rfl q, fun q => absurd q (by decide)⟩
      · have ho := hlt i i0 i1 e
        have := cl_lt i0 ho
        rw [ro i i0 ho, jx _ _ (by have := (hT.g_txt _ (x2 i i0 ho).1).1; omega), tw_ne (by omega) (by omega)]
        exact hst.1 i i0 ho
    · by_cases e1 : i = Y 0 41
      · by_cases e2 : o = Y 0 41
        · rw [e1, e2]
        · have ho := hlt o o0 o1 e2
          rw [e1, rX, ro o o0 ho] at e
          exact absurd e.symm (hX o o0 ho)
      · have hi := hlt i i0 i1 e1
        by_cases e2 : o = Y 0 41
        · rw [e2, rX, ro i i0 hi] at e
          exact absurd e (hX i i0 hi)
        · have ho := hlt o o0 o1 e2
          rw [ro i i0 hi, ro o o0 ho] at e
          exact hst.2 i o i0 hi o0 ho e
end ZM1
end
section
/-! text -/
section ZN0
variable {d n t C c n0 n' n'' t' : Nat} {K L K0 L0 K' L' K'' L'' : Nat → Nat} {I I0 J J0 J1 J2 : Nat → Nat → Int32} {R R0 R' R'' : Nat → Nat → Nat} {P : Option Value → AH → Prop}
variable {Y Z : Nat → Nat → Int32}
theorem ce_letter (hS : cS C K L R) (h : 0 < I (C + 11) 2) (hP : P (some (.int (I (C + 12) 0))) (n, t, K, L, I, R)) : a_does (d + 1) 80 [a_rf (C + 11)] (n, t, K, L, I, R) P := by
  have h' : ¬ I (C + 11) 2 ≤ 0 := Int32.not_le.mpr h
  rw [a_enter1 (M := a_m80) rfl (a_cat_rf a_cat_nil) (show 1 ≤ 1 by decide)]
  show a_at _ (a_xm a_m80) 0 [some (a_rf (C + 11))] [] _ _
  simp only [q80_0, q80_1, q80_4, q80_7, q80_8, q80_11, q80_12, q80_13, q80_16, q80_18, k_11 hS, z_11, r_11_0 hS, k_12 hS, l_12 hS, z_12, as_nil, as_i, as_r, Nat.reduceAdd, Nat.reduceLeDiff, z_eq0, z_eq1, z_or, z_em, Classical.not_not, not_false_eq_true, not_true_eq_false, true_and, and_true, false_and, and_false, and_self, true_implies, false_implies, implies_true, Option.toList_some, Option.toList_none, List.cons_append, List.nil_append, Nat.add_eq_zero_iff, a_nl_i, a_nl_r, a_nl_n, true_or, or_true, eq_self, a_isRA_22, a_isRA_24, a_isRA_32, a_isA_20, ok_4, ok_5, ok_6, ok_7, ok_9, ok_20, ok_21, ok_30, ok_50, ok_180, ok_192, ok_200, h, h', cn00]
  try simp only [true_and, and_true, true_implies, false_implies, implies_true, not_true_eq_false, not_false_eq_true]
  first
    | exact hP
    | grind
theorem ce_written (hH : cH C c (n + 1) t K L I R) (hP : ∀ J, cH C (c + 1) (n + 1 + 1) (t + (I (C + 11) 3).toNatClampNeg) (a_up K (n + 1) 20) (a_up L (n + 1) (I (C + 11) 3).toNatClampNeg) J (a_zr R (n + 1)) → (∀ x j, x < n + 1 → J x j = I x j) → (∀ j, j < (I (C + 11) 3).toNatClampNeg → J (n + 1) j = I (C + 13) j) → P (some (a_rf (n + 1))) (n + 1 + 1, t + (I (C + 11) 3).toNatClampNeg, (a_up K (n + 1) 20), (a_up L (n + 1) (I (C + 11) 3).toNatClampNeg), J, (a_zr R (n + 1)))) : a_does (d + 1) 81 [a_rf (C + 11)] (n + 1, t, K, L, I, R) P := by
  have hZ := cZ_refl hH
  have hT := hZ.2.1.1
  have hS := hT.s
  have fr := hZ.2.1.2.1
  have hC := hZ.2.1.2.2.1
  have g := hT.g_code
  have f0 : (n + 1 = 0) = False := eq_false (by omega)
  have e0 := Int32.le_iff_toInt_le.mp g.1
  have e1 := Int32.le_iff_toInt_le.mp g.2
  have c0 : (0 : Int32).toInt = 0 := rfl
  have c50 : (50 : Int32).toInt = 50 := rfl
  have hm : (I (C + 11) 3).toNatClampNeg ≤ 50 := by
    show (I (C + 11) 3).toInt.toNat ≤ 50
    omega
  have h6 : (I (C + 11) 3).toNatClampNeg ≤ 1000000 := by omega
  have hn0 : (I (C + 11) 3 < 0) = False := eq_false (Int32.not_lt.mpr g.1)
  have n11 : (C + 11 = n + 1) = False := eq_false (by omega)
  have n13 : (C + 13 = n + 1) = False := eq_false (by omega)
  rw [a_enter1 (M := a_m81) rfl (a_cat_rf a_cat_nil) (show 1 ≤ 2 by decide)]
  show a_at _ (a_xm a_m81) 0 [some (a_rf (C + 11)), none] [] _ _
  simp only [q81_0, q81_1, q81_4, q81_6, q81_7, q81_8, q81_11, q81_12, q81_13, q81_14, q81_15, k_11 hS, z_11, r_11_1 hS, k_13 hS, l_13 hS, z_13, as_nil, as_i, as_r, Nat.reduceAdd, Nat.reduceLeDiff, z_eq0, z_eq1, z_or, z_em, Classical.not_not, not_false_eq_true, not_true_eq_false, true_and, and_true, false_and, and_false, and_self, true_implies, false_implies, implies_true, Option.toList_some, Option.toList_none, List.cons_append, List.nil_append, Nat.add_eq_zero_iff, a_nl_i, a_nl_r, a_nl_n, true_or, or_true, eq_self, a_isRA_22, a_isRA_24, a_isRA_32, a_isA_20, ok_4, ok_5, ok_6, ok_7, ok_9, ok_20, ok_21, ok_30, ok_50, ok_180, ok_192, ok_200, up_ap, up_eq, zi_ap, zr_ap, if_true, if_false, hn0, h6, n11, n13, f0, a_copy_eq, a_kd_eq, a_ln_eq, cn00, lt00, Nat.zero_add]
  generalize hk : (I (C + 11) 3).toNatClampNeg = k at hm hP ⊢
  simp only [q81_18, q81_21, q81_22, as_nil, as_i, as_r, Nat.reduceAdd, Nat.reduceLeDiff, z_eq0, z_eq1, z_or, z_em, Classical.not_not, not_false_eq_true, not_true_eq_false, true_and, and_true, false_and, and_false, and_self, true_implies, false_implies, implies_true, Option.toList_some, Option.toList_none, List.cons_append, List.nil_append, Nat.add_eq_zero_iff, a_nl_i, a_nl_r, a_nl_n, true_or, or_true, eq_self, a_isRA_22, a_isRA_24, a_isRA_32, a_isA_20, ok_4, ok_5, ok_6, ok_7, ok_9, ok_20, ok_21, ok_30, ok_50, ok_180, ok_192, ok_200, up_ap, up_eq, zi_ap, zr_ap, if_true, if_false, k_11 hS, z_11, k_13 hS, l_13 hS, z_13, hn0, hk, n11, n13, f0, a_copy_eq, a_kd_eq, a_ln_eq, cn00, lt00, Nat.zero_add, Nat.le_refl, hm]
  have ix : ∀ x j, x < n + 1 → a_ci (a_zi I (n + 1)) (C + 13) (n + 1) 0 0 k x j = I x j := fun x j hx => by rw [ci_ne (by omega), zi_ne (by omega)]
  have iy : ∀ j, j < k → a_ci (a_zi I (n + 1)) (C + 13) (n + 1) 0 0 k (n + 1) j = I (C + 13) j := fun j hj => by
    unfold a_ci va_cpy
    rw [if_pos rfl, if_pos ⟨by omega, by omega⟩, zi_ne (by omega)]
    congr 1
    omega
  have z := cZ_new (m := 1) (s := k) (K' := a_up K (n + 1) 20) (L' := a_up L (n + 1) k) (J := a_ci (a_zi I (n + 1)) (C + 13) (n + 1) 0 0 k) (R' := a_zr R (n + 1)) hZ (by decide) (by omega) (fun x hx => up_ne (by omega)) (fun x hx => up_ne (by omega)) ix (fun x j hx => zr_ne (by omega)) (fun x hx => by rw [up_ne (by omega)]; exact fr x (by omega)) (fun a h1 h2 => by
    by_cases e : a = n + 1
    · rw [e, up_eq] at h2; cases h2
    · rw [up_ne e, fr a (by omega)] at h2; cases h2) (fun a h1 h2 => by
    by_cases e : a = n + 1
    · rw [e, up_eq] at h2; cases h2
    · rw [up_ne e, fr a (by omega)] at h2; cases h2) (fun a h1 h2 => by
    by_cases e : a = n + 1
    · rw [e, up_eq] at h2; cases h2
    · rw [up_ne e, fr a (by omega)] at h2; cases h2)
  exact hP _ z.2.1 ix iy
theorem ce_addText (hH : cH C c (n + 1) t K L I R) {x : Nat} (hx : K x = 20) (x1 : C + 96 < x) (hl : L x ≤ 50) {p q : Int32} (hc : ¬ 20 ≤ I (C + 7) 3) (hP : ∀ J, cH C (c + 1) (n + 1 + 1) (t + 5) (a_up K (n + 1) 11) (a_up L (n + 1) 5) J (a_ur (a_zr R (n + 1)) (n + 1) 2 x) → (∀ y j, y < n + 1 → J y j = I y j) → (J (n + 1) 0 = p ∧ J (n + 1) 1 = q ∧ J (n + 1) 3 = 200 ∧ J (n + 1) 4 = 0) → cH C (c + 1) (n + 1 + 1) (t + 5) (a_up K (n + 1) 11) (a_up L (n + 1) 5) J (a_ur (a_ur (a_zr R (n + 1)) (n + 1) 2 x) (C + 8) (I (C + 7) 3).toNatClampNeg (n + 1)) → P (some (.int (I (C + 7) 3 + 1 - 1))) (n + 1 + 1, t + 5, (a_up K (n + 1) 11), (a_up L (n + 1) 5), a_ui J (C + 7) 3 (I (C + 7) 3 + 1), a_ur (a_ur (a_zr R (n + 1)) (n + 1) 2 x) (C + 8) (I (C + 7) 3).toNatClampNeg (n + 1))) : a_does (d + 2) 82 [a_rf (C + 7), .int p, .int q, a_rf x] (n + 1, t, K, L, I, R) P := by
  have hZ := cZ_refl hH
  have hT := hZ.2.1.1
  have hS := hT.s
  have fr := hZ.2.1.2.1
  have hC := hZ.2.1.2.2.1
  have g := hT.g_texts
  have xl := kn_lt fr hx (by decide)
  have hc' : I (C + 7) 3 < 20 := Int32.not_le.mp hc
  have g0 : 0 ≤ I (C + 7) 3 := g.1
  have f0 : (n + 1 = 0) = False := eq_false (by omega)
  have n7 : (C + 7 = n + 1) = False := eq_false (by omega)
  have n8 : (C + 8 = n + 1) = False := eq_false (by omega)
  rw [a_enter1 (M := a_m82) rfl (a_cat_rf (a_cat_int (a_cat_int (a_cat_rf a_cat_nil)))) (show 4 ≤ 4 by decide)]
  show a_at _ (a_xm a_m82) 0 [some (a_rf (C + 7)), some (.int p), some (.int q), some (a_rf x)] [] _ _
  simp only [q82_0, q82_1, q82_4, q82_6, q82_9, q82_11, q82_12, q82_13, q82_16, q82_17, q82_20, q82_23, q82_24, q82_25, q82_26, q82_27, k_7 hS, z_7, r_7_0 hS, k_8 hS, l_8 hS, z_8, as_nil, as_i, as_r, Nat.reduceAdd, Nat.reduceLeDiff, z_eq0, z_eq1, z_or, z_em, Classical.not_not, not_false_eq_true, not_true_eq_false, true_and, and_true, false_and, and_false, and_self, true_implies, false_implies, implies_true, Option.toList_some, Option.toList_none, List.cons_append, List.nil_append, Nat.add_eq_zero_iff, a_nl_i, a_nl_r, a_nl_n, true_or, or_true, eq_self, a_isRA_22, a_isRA_24, a_isRA_32, a_isA_20, ok_4, ok_5, ok_6, ok_7, ok_9, ok_20, ok_21, ok_30, ok_50, ok_180, ok_192, ok_200, up_ap, up_eq, zi_ap, zr_ap, if_true, if_false, hc', hc, n7, n8, f0]
  rw [a_enter1 (M := a_m83) rfl (a_cat_rf (a_cat_int (a_cat_int (a_cat_rf a_cat_nil)))) (show 4 ≤ 4 by decide)]
  show a_at _ (a_xm a_m83) 0 [some (a_rf (n+1)), some (.int p), some (.int q), some (a_rf x)] [] _ _
  simp only [q83_0, as_nil, as_i, as_r, Nat.reduceAdd, Nat.reduceLeDiff, z_eq0, z_eq1, z_or, z_em, Classical.not_not, not_false_eq_true, not_true_eq_false, true_and, and_true, false_and, and_false, and_self, true_implies, false_implies, implies_true, Option.toList_some, Option.toList_none, List.cons_append, List.nil_append, Nat.add_eq_zero_iff, a_nl_i, a_nl_r, a_nl_n, true_or, or_true, eq_self, a_isRA_22, a_isRA_24, a_isRA_32, a_isA_20, ok_4, ok_5, ok_6, ok_7, ok_9, ok_20, ok_21, ok_30, ok_50, ok_180, ok_192, ok_200]
  rw [q83_1 (show ¬ n + 1 = 0 by omega) (show a_sum [] ≤ 8 by decide)]
  simp only [q83_4, q83_5, q83_6, q83_9, q83_10, q83_11, q83_14, q83_15, q83_16, q83_19, q83_20, q83_23, q83_26, as_nil, as_i, as_r, Nat.reduceAdd, Nat.reduceLeDiff, z_eq0, z_eq1, z_or, z_em, Classical.not_not, not_false_eq_true, not_true_eq_false, true_and, and_true, false_and, and_false, and_self, true_implies, false_implies, implies_true, Option.toList_some, Option.toList_none, List.cons_append, List.nil_append, Nat.add_eq_zero_iff, a_nl_i, a_nl_r, a_nl_n, true_or, or_true, eq_self, a_isRA_22, a_isRA_24, a_isRA_32, a_isA_20, ok_4, ok_5, ok_6, ok_7, ok_9, ok_20, ok_21, ok_30, ok_50, ok_180, ok_192, ok_200, up_ap, up_eq, Nat.add_left_cancel_iff, Nat.add_right_cancel_iff, Nat.reduceEqDiff, if_true, if_false, f0]
  generalize hi : a_ui (a_ui (a_ui (a_zi I (n + 1)) (n + 1) 0 p) (n + 1) 1 q) (n + 1) 3 200 = I5
  have ix : ∀ x j, x < n + 1 → I5 x j = I x j := fun x j hx => by
    have e : ¬ x = n + 1 := by omega
    rw [← hi]
    simp [ui_ap, zi_ap, e]
  have i4 : I5 (n + 1) 0 = p ∧ I5 (n + 1) 1 = q ∧ I5 (n + 1) 3 = 200 ∧ I5 (n + 1) 4 = 0 := by rw [← hi]; simp [ui_ap, zi_ap]
  clear hi
  have z := cZ_new (m := 1) (s := 5) (K' := a_up K (n + 1) 11) (L' := a_up L (n + 1) 5) (J := I5) (R' := a_ur (a_zr R (n + 1)) (n + 1) 2 x) hZ (by decide) (by decide) (fun x hx => up_ne (by omega)) (fun x hx => up_ne (by omega)) ix (fun x j hx => by rw [ur_ap, if_neg (by omega), zr_ne (by omega)]) (fun x hx => by rw [up_ne (by omega)]; exact fr x (by omega)) (fun a h1 h2 => by
    by_cases e : a = n + 1
    · rw [e, up_eq] at h2; cases h2
    · rw [up_ne e, fr a (by omega)] at h2; cases h2) (fun a h1 h2 => by
    by_cases e : a = n + 1
    · rw [e, up_eq] at h2; cases h2
    · rw [up_ne e, fr a (by omega)] at h2; cases h2) (fun a h1 h2 => by
    by_cases e : a = n + 1
    · subst e
      rw [ur_ap, if_pos ⟨rfl, rfl⟩, up_ne (by omega), up_ne (by omega)]
      exact ⟨by omega, x1, hx, hl⟩
    · rw [up_ne e, fr a (by omega)] at h2; cases h2)
  have z2 := cH_R8 z.2.1 (j := (I (C + 7) 3).toNatClampNeg) (Or.inr (up_eq (f := K) (a := n + 1) (v := 11)))
  have e5 : I5 (C + 7) 3 = I (C + 7) 3 := ix _ _ (by omega)
  have hfin := hP _ z.2.1 ix i4 z2
  have hS := z.2.1.1.s
  have k11 : a_up K (n + 1) 11 (n + 1) = 11 := up_eq
  simp only [q82_30, q82_31, q82_32, q82_33, q82_36, q82_37, q82_38, q82_41, q82_42, q82_45, q82_46, q82_47, k_7 hS, z_7, as_nil, as_i, as_r, Nat.reduceAdd, Nat.reduceLeDiff, z_eq0, z_eq1, z_or, z_em, Classical.not_not, not_false_eq_true, not_true_eq_false, true_and, and_true, false_and, and_false, and_self, true_implies, false_implies, implies_true, Option.toList_some, Option.toList_none, List.cons_append, List.nil_append, Nat.add_eq_zero_iff, a_nl_i, a_nl_r, a_nl_n, true_or, or_true, eq_self, a_isRA_22, a_isRA_24, a_isRA_32, a_isA_20, ok_4, ok_5, ok_6, ok_7, ok_9, ok_20, ok_21, ok_30, ok_50, ok_180, ok_192, ok_200, ui_ap, cc_ne, cc_n0, cc_0n, Nat.reduceEqDiff, reduceIte, if_true, if_false, k_8 hS, l_8 hS, z_8, e5, k11, hc', g0]
  repeat' first
    | with_reducible apply And.intro
    | exact hfin
    | (right; rfl)
    | decide
theorem ev_vs {cd cd' fc : Nat → Int32} {cs v : Int32} (h : evK cd fc 0 cs v) (hd : ∀ j, j < cs.toNatClampNeg → cd' j = cd j) : vs cd' fc (Int32.ofNat cs.toNatClampNeg) 60 0 0 (fun _ => 0) = v := by
  obtain ⟨⟨h0, h1, h2⟩, h3⟩ := h
  have h4 : cs.toNatClampNeg ≤ 50 := by
    have := cl_le0 (Int32.le_of_lt h1) h2
    rw [show (50 : Int32).toNatClampNeg = 50 from rfl] at this
    exact this
  rw [← on_cl (Int32.le_of_lt h1)]
  have q := h3 cd' cs (60 - cs.toNatClampNeg) 0 (fun _ => 0) (fun j _ hj => hd j hj) (Int32.le_refl _) (by decide) (by decide)
  rw [show (0 : Int32).toNatClampNeg = 0 from rfl, show 60 - cs.toNatClampNeg + (cs.toNatClampNeg - 0) = 60 by omega] at q
  rw [q, show 60 - cs.toNatClampNeg = (59 - cs.toNatClampNeg) + 1 by omega]
  unfold vs
  rw [if_pos (Int32.le_refl _), if_neg (by decide)]
  unfold up1
  rw [if_pos rfl]
theorem ge_text (hH : cH C c (n + 1) t K L I R) (hu : cuP C K L I R Y) {s : Int32} (hP : ∀ w n' t' K' L' J R', cH C (c + 4) (n' + 1) t' K' L' J R' → cuP C K' L' J R' (txY Y s) → P (some (.int w)) (n' + 1, t', K', L', J, R')) : a_does (d + 70) 68 [a_rf C, .int s] (n + 1, t, K, L, I, R) P := by
  have hT := hH.1
  have hS := hT.s
  have hc := hu.1
  have e41 : I (C + 7) 3 = Y 0 41 := hc.2.2.2.1.1
  have e40 : I (C + 11) 2 = Y 0 40 := hu.2.2.1.2.1.2.1.1
  have e27 : I (C + 12) = Y 27 := funext hu.2.2.1.2.1.2.1.2
  have g7 := hT.g_texts
  have g40 := hT.g_size
  rw [e41] at g7
  rw [e40] at g40
  have hC := hH.2.2.1
  unfold txY at hP
  have hr1 : ¬ (0 ≤ s ∧ s ≤ 199) → ∀ J, rfQ C c (n + 1) t K L I R J → P (some (.int (-1))) (n + 1, t, K, L, J, R) := fun q J z => by
    rw [if_pos (Or.inl q)] at hP
    exact hP _ n t K L J R (cH_le z.1 (by omega)) (cu_re hH hu z)
  have hr2 : (0 ≤ s ∧ s ≤ 199) → 20 ≤ I (C + 7) 3 → ∀ J, rfQ C c (n + 1) t K L I R J → P (some (.int (-6))) (n + 1, t, K, L, J, R) := fun q q2 J z => by
    rw [e41] at q2
    rw [if_pos (Or.inr (by clear hP hu hc; grind))] at hP
    exact hP _ n t K L J R (cH_le z.1 (by omega)) (cu_re hH hu z)
  have hgo : (0 ≤ s ∧ s ≤ 199) → ¬ 20 ≤ I (C + 7) 3 → a_at (d + 69) (a_xm a_m68) 32 [some (a_rf C), some (.int s), none, none] [] (n + 1, t, K, L, I, R) P := fun q1 q2 => by
    have q2' := q2
    rw [e41] at q2'
    rw [if_neg (fun w => w.elim (fun w => w q1) (fun w => q2' (by rw [w]; decide)))] at hP
    simp only [q68_32, q68_33, q68_36, k_0 hS, z_C hS, r_0_2 hS, k_11 hS, z_11, as_nil, as_i, as_r, Nat.reduceAdd, Nat.reduceLeDiff, z_eq0, z_eq1, z_or, z_em, Classical.not_not, not_false_eq_true, not_true_eq_false, true_and, and_true, false_and, and_false, and_self, true_implies, false_implies, implies_true, Option.toList_some, Option.toList_none, List.cons_append, List.nil_append, Nat.add_eq_zero_iff, a_nl_i, a_nl_r, a_nl_n, true_or, or_true, eq_self, a_isRA_22, a_isRA_24, a_isRA_32, a_isA_20, ok_4, ok_5, ok_6, ok_7, ok_9, ok_20, ok_21, ok_30, ok_50, ok_180, ok_192, ok_200]
    refine ce_read (d := d + 8) hT (fun J t1 t2 t3 => ?_)
    have hS := t1.1.s
    have hHJ := cH_J hH t1.1
    rw [e27, e40] at t3 t2 ⊢
    have hJ0 : ∀ k j, ¬ k = 13 → ¬ (k = 11 ∧ (j = 3 ∨ j = 4)) → J (C + k) j = I (C + k) j := fun k j h h2 => t1.2 _ _ (by omega) (by omega)
    have hJ : ∀ k j, ¬ k = 13 ∧ ¬ (k = 11 ∧ (j = 3 ∨ j = 4)) → J (C + k) j = I (C + k) j := fun k j hk => hJ0 k j hk.1 hk.2
    have hX : ∀ x j, C + 43 < x → J x j = I x j := fun x j hx => t1.2 _ _ (by omega) (by omega)
    by_cases ok : (xT (Y 27) (Y 0 40)).1 = true
    · rw [if_pos ok] at hP
      have n10 : ¬ (1 : Int32) = 0 := by decide
      have hz : ∀ k j : Nat, ¬ (k = 0 ∧ j = 1000) → Y k j = Y k j := fun _ _ _ => rfl
      have huJ : cuP C K L J R Y := cu_gen hT hu ⟨fun k hk => funext (fun j => hz k j (by omega)), fun j hj => hz 0 j (by omega)⟩ (fE_of hH hX ⟨hJ 14 4 (by omega), hJ 14 5 (by omega)⟩ (hJ 7 3 (by omega))) (by rw [hJ 1 6 (by omega), hz 0 0 (by omega)]; exact hu.1.1.1) (fun j => by rw [hJ 2 j (by omega), hz 1 j (by omega)]; exact hu.1.1.2.1 j) (lsP_e hu.1.1.2.2 (fun j => hJ 3 j (by omega)) (fun k j hk => hz k j (by unfold kL at hk; omega))) ⟨by rw [hJ 14 6 (by omega), hz 0 9 (by omega)]; exact hu.1.2.1.2.1, by rw [hz 0 9 (by omega)]; exact hu.1.2.2.2.2.2.2.2.1⟩ (mr_e hu.1.2.2.1.2.1 hu.1.2.2.1.2.2.1 (fun x kx => hX _ _ (by have := (hT.g_ask x kx).1; omega)) (fun k j hk => hz k j (by unfold kK at hk; omega))) (mk_e hu.1.2.2.2.2.2.2.2.2.2.2.2.1 (fun k j hk => hz k j (by unfold kK at hk; omega))) (siM_e hu.2.2.1.1 (fun k j hk => hJ k j (by omega)) (fun k j hk => hz k j (by unfold kM at hk; omega))) (siT_e hu.2.2.1.2.1 (fun k j hk => hJ k j (by omega)) (fun k j hk => hz k j (by unfold kT at hk; omega))) (siY_e hu.2.2.1.2.2.2 (fun k j hk => hz k j (by unfold kY at hk; omega))) (fun e => hX _ _ (by have := (hT.g_ask _ (hu.2.2.1.2.2.1.2 e).1).1; omega))
      have h2 := xT_two ok
      have e7J : J (C + 7) 3 = Y 0 41 := (hJ 7 3 (by omega)).trans e41
      have hev := t3 ok
      clear t3 hr1 hr2
      simp only [q68_39, q68_40, q68_41, q68_44, q68_45, q68_48, q68_49, q68_52, k_0 hS, z_C hS, r_0_1 hS, k_7 hS, z_7, r_0_2 hS, k_11 hS, z_11, as_nil, as_i, as_r, Nat.reduceAdd, Nat.reduceLeDiff, z_eq0, z_eq1, z_or, z_em, Classical.not_not, not_false_eq_true, not_true_eq_false, true_and, and_true, false_and, and_false, and_self, true_implies, false_implies, implies_true, Option.toList_some, Option.toList_none, List.cons_append, List.nil_append, Nat.add_eq_zero_iff, a_nl_i, a_nl_r, a_nl_n, true_or, or_true, eq_self, a_isRA_22, a_isRA_24, a_isRA_32, a_isA_20, ok_4, ok_5, ok_6, ok_7, ok_9, ok_20, ok_21, ok_30, ok_50, ok_180, ok_192, ok_200, ok, n10]
      try simp only [true_and, and_true, true_implies, false_implies, implies_true, not_true_eq_false, not_false_eq_true]
      refine ce_letter (d := d + 68) hS (by rw [hJ 11 2 (by omega), e40]; exact Int32.lt_of_lt_of_le (by decide) h2) ?_
      simp only [q68_55, q68_56, q68_57, q68_60, k_0 hS, z_C hS, r_0_2 hS, k_11 hS, z_11, as_nil, as_i, as_r, Nat.reduceAdd, Nat.reduceLeDiff, z_eq0, z_eq1, z_or, z_em, Classical.not_not, not_false_eq_true, not_true_eq_false, true_and, and_true, false_and, and_false, and_self, true_implies, false_implies, implies_true, Option.toList_some, Option.toList_none, List.cons_append, List.nil_append, Nat.add_eq_zero_iff, a_nl_i, a_nl_r, a_nl_n, true_or, or_true, eq_self, a_isRA_22, a_isRA_24, a_isRA_32, a_isA_20, ok_4, ok_5, ok_6, ok_7, ok_9, ok_20, ok_21, ok_30, ok_50, ok_180, ok_192, ok_200]
      refine ce_written (d := d + 68) hHJ (fun J2 z2 f2 y2 => ?_)
      have hS := z2.1.s
      have e72 : J2 (C + 7) 3 = Y 0 41 := (f2 _ _ (by omega)).trans e7J
      have l2 : (J (C + 11) 3).toNatClampNeg ≤ 50 := by
        have g := t1.1.g_code
        have := cl_le0 g.1 g.2
        rw [show (50 : Int32).toNatClampNeg = 50 from rfl] at this
        exact this
      simp only [q68_63, k_0 hS, z_C hS, as_nil, as_i, as_r, Nat.reduceAdd, Nat.reduceLeDiff, z_eq0, z_eq1, z_or, z_em, Classical.not_not, not_false_eq_true, not_true_eq_false, true_and, and_true, false_and, and_false, and_self, true_implies, false_implies, implies_true, Option.toList_some, Option.toList_none, List.cons_append, List.nil_append, Nat.add_eq_zero_iff, a_nl_i, a_nl_r, a_nl_n, true_or, or_true, eq_self, a_isRA_22, a_isRA_24, a_isRA_32, a_isA_20, ok_4, ok_5, ok_6, ok_7, ok_9, ok_20, ok_21, ok_30, ok_50, ok_180, ok_192, ok_200]
      refine ⟨k_7 hS, ce_addText (d := d + 67) z2 (x := n + 1) up_eq (by omega) (by rw [up_eq]; exact l2) (by rw [e72]; exact q2') (fun J3 z3 f3 i3 z4 => ?_)⟩
      rw [e72] at z4 ⊢
      have hS := z4.1.s
      have hKx : ∀ x, x < n + 1 → a_up (a_up K (n + 1) 20) (n + 1 + 1) 11 x = K x := fun x hx => by rw [up_ne (by omega), up_ne (by omega)]
      have hLx : ∀ x, x < n + 1 → a_up (a_up L (n + 1) (J (C + 11) 3).toNatClampNeg) (n + 1 + 1) 5 x = L x := fun x hx => by rw [up_ne (by omega), up_ne (by omega)]
      have hJx : ∀ x j, x < n + 1 → J3 x j = J x j := fun x j hx => (f3 x j (by omega)).trans (f2 x j hx)
      have hRx : ∀ x j, x < n + 1 → a_ur (a_zr (a_zr R (n + 1)) (n + 1 + 1)) (n + 1 + 1) 2 (n + 1) x j = R x j := fun x j hx => by rw [ur_ap, if_neg (by omega), zr_ne (by omega), zr_ne (by omega)]
      have hu3 := cu_grow hHJ huJ hKx hLx hJx hRx
      have hc3 := hu3.1
      have rx2 : a_ur (a_zr (a_zr R (n + 1)) (n + 1 + 1)) (n + 1 + 1) 2 (n + 1) (n + 1 + 1) 2 = n + 1 := by rw [ur_ap, if_pos ⟨rfl, rfl⟩]
      have hfin := cu_text (X := n + 1 + 1) (s := s) z3.1 hu3 (Int32.not_le.mp q2') g40 ok up_eq (fun i i0 i1 => by
        rw [hRx _ _ (by omega)]
        have := kn_lt hH.2.1 (hc.2.2.2.1.2 i i0 i1).1 (by decide)
        omega) (by rw [i3.1, hJ 12 0 (by omega), e27]) i3.2.1 i3.2.2.1 i3.2.2.2 (fun fc => by
        rw [rx2, up_ne (by omega), up_eq]
        exact ev_vs (hev fc) (fun j hj => (f3 _ _ (by omega)).trans (y2 j hj))) (fun b b0 b1 => by
        have kb := (hc.2.1.2.2.1 b b0 b1).1
        have bl := kn_lt hH.2.1 kb (by decide)
        have g := hT.g_bnc _ kb
        have k4 := kn_lt hH.2.1 g.2.2.2.1.2.1 (by decide)
        have k5 := kn_lt hH.2.1 g.2.2.2.2.1.2.1 (by decide)
        rw [(hu.2.1.1 b b0 b1).2.2] at k4
        rw [rx2, hRx (C + 16) _ (by omega), hRx _ 5 bl]
        exact ⟨Or.inr k4, by omega⟩)
      have hT5 := sT_Tape_size (v := 0) (sT_Rules_count (v := Y 0 41 + 1) z4.1 (by clear hP hu hc hu3 hc3 hfin huJ z4 z3 z2 hev; grind)) (by decide)
      have hp := hP (Y 0 41 + 1 - 1) (n + 1 + 1) _ _ _ _ _ (cH_le (cH_J z4 hT5) (by omega)) hfin
      clear hP hu hc hu3 hc3 hfin huJ z4 z3 z2 hev
      have hS := hT5.s
      simp only [q68_66, q68_69, q68_71, q68_72, q68_75, q68_78, q68_79, q68_80, q68_81, q68_84, q68_85, q68_88, q68_89, k_0 hS, z_C hS, r_0_2 hS, k_11 hS, z_11, as_nil, as_i, as_r, Nat.reduceAdd, Nat.reduceLeDiff, z_eq0, z_eq1, z_or, z_em, Classical.not_not, not_false_eq_true, not_true_eq_false, true_and, and_true, false_and, and_false, and_self, true_implies, false_implies, implies_true, Option.toList_some, Option.toList_none, List.cons_append, List.nil_append, Nat.add_eq_zero_iff, a_nl_i, a_nl_r, a_nl_n, true_or, or_true, eq_self, a_isRA_22, a_isRA_24, a_isRA_32, a_isA_20, ok_4, ok_5, ok_6, ok_7, ok_9, ok_20, ok_21, ok_30, ok_50, ok_180, ok_192, ok_200, ui_ap, cc_ne, cc_n0, cc_0n, Nat.reduceEqDiff, reduceIte, if_true, if_false]
      try simp only [true_and, and_true, true_implies, false_implies, implies_true, not_true_eq_false, not_false_eq_true]
      first
        | exact hp
        | grind
    · rw [if_neg ok] at hP
      have ok2 : ((xT (Y 27) (Y 0 40)).1 = true) = False := eq_false ok
      have hT5 := sT_Tape_size (v := 0) t1.1 (by decide)
      have huF : cuP C K L (a_ui J (C + 11) 2 0) R (upY Y 0 40 0) := by
        have hJ : ∀ k j, ¬ k = 13 ∧ ¬ k = 11 → a_ui J (C + 11) 2 0 (C + k) j = I (C + k) j := fun k j hk => by rw [ui_ap, if_neg (by omega)]; exact hJ0 k j hk.1 (by omega)
        have hX : ∀ x j, C + 43 < x → a_ui J (C + 11) 2 0 x j = I x j := fun x j hx => by rw [ui_ap, if_neg (by omega)]; exact hX x j hx
        have hz : ∀ k j, ¬ (k = 0 ∧ j = 40) → upY Y 0 40 0 k j = Y k j := fun k j hk => up_no hk
        refine cu_gen hT hu ⟨fun k hk => funext (fun j => hz k j (by omega)), fun j hj => hz 0 j (by omega)⟩ (fE_of hH hX ⟨hJ 14 4 (by omega), hJ 14 5 (by omega)⟩ (hJ 7 3 (by omega))) (by rw [hJ 1 6 (by omega), hz 0 0 (by omega)]; exact hu.1.1.1) (fun j => by rw [hJ 2 j (by omega), hz 1 j (by omega)]; exact hu.1.1.2.1 j) (lsP_e hu.1.1.2.2 (fun j => hJ 3 j (by omega)) (fun k j hk => hz k j (by unfold kL at hk; omega))) ⟨by rw [hJ 14 6 (by omega), hz 0 9 (by omega)]; exact hu.1.2.1.2.1, by rw [hz 0 9 (by omega)]; exact hu.1.2.2.2.2.2.2.2.1⟩ (mr_e hu.1.2.2.1.2.1 hu.1.2.2.1.2.2.1 (fun x kx => hX _ _ (by have := (hT.g_ask x kx).1; omega)) (fun k j hk => hz k j (by unfold kK at hk; omega))) (mk_e hu.1.2.2.2.2.2.2.2.2.2.2.2.1 (fun k j hk => hz k j (by unfold kK at hk; omega))) (siM_e hu.2.2.1.1 (fun k j hk => hJ k j (by omega)) (fun k j hk => hz k j (by unfold kM at hk; omega))) ?_ (siY_e hu.2.2.1.2.2.2 (fun k j hk => hz k j (by unfold kY at hk; omega))) (fun e => hX _ _ (by have := (hT.g_ask _ (hu.2.2.1.2.2.1.2 e).1).1; omega))
        obtain ⟨⟨t1, t2⟩, ⟨t3, t4⟩, t5, t6⟩ := hu.2.2.1.2.1
        have c0 : a_ui J (C + 11) 2 0 C 10 = I C 10 := hJ 0 10 (by omega)
        refine ⟨⟨by rw [hJ _ _ (by omega), hz _ _ (by omega)]; exact t1, fun j hj => ?_⟩, ⟨by rw [ui_ap, if_pos ⟨rfl, rfl⟩, up_at], fun j => by rw [hJ _ _ (by omega), hz 27 _ (by omega)]; exact t4 j⟩, by rw [c0, hz 0 79 (by omega)]; exact t5, fun j hj => ?_⟩
        · rw [hz 0 2 (by omega)] at hj
          rw [hJ _ _ (by omega), hJ _ _ (by omega), hJ _ _ (by omega), hz 2 _ (by omega), hz 3 _ (by omega), hz 4 _ (by omega)]
          exact t2 j hj
        · rw [hz 0 79 (by omega)] at hj
          rw [hJ _ _ (by omega), hz 52 _ (by omega)]
          exact t6 j hj
      have hp := hP (-20 - J (C + 11) 4) n t K L _ R (cH_le (cH_J hH hT5) (by omega)) huF
      clear hP hu hc huF t3 hr1 hr2
      simp only [q68_39, q68_40, q68_41, q68_69, q68_71, q68_72, q68_75, q68_78, q68_79, q68_80, q68_81, q68_84, q68_85, q68_88, q68_89, k_0 hS, z_C hS, r_0_2 hS, k_11 hS, z_11, as_nil, as_i, as_r, Nat.reduceAdd, Nat.reduceLeDiff, z_eq0, z_eq1, z_or, z_em, Classical.not_not, not_false_eq_true, not_true_eq_false, true_and, and_true, false_and, and_false, and_self, true_implies, false_implies, implies_true, Option.toList_some, Option.toList_none, List.cons_append, List.nil_append, Nat.add_eq_zero_iff, a_nl_i, a_nl_r, a_nl_n, true_or, or_true, eq_self, a_isRA_22, a_isRA_24, a_isRA_32, a_isA_20, ok_4, ok_5, ok_6, ok_7, ok_9, ok_20, ok_21, ok_30, ok_50, ok_180, ok_192, ok_200, ui_ap, cc_ne, cc_n0, cc_0n, Nat.reduceEqDiff, reduceIte, if_true, if_false, ok2]
      try simp only [true_and, and_true, true_implies, false_implies, implies_true, not_true_eq_false, not_false_eq_true]
      first
        | exact hp
        | grind
  clear hP
  rw [a_enter1 (M := a_m68) rfl (a_cat_rf (a_cat_int a_cat_nil)) (show 2 ≤ 4 by decide)]
  show a_at _ (a_xm a_m68) 0 [some (a_rf C), some (.int s), none, none] [] _ _
  repeat' first
    | with_reducible apply And.intro
    | with_reducible assumption
    | with_reducible intro _
    | refine cr_refuse hH (fun _ _ => ?_)
    | refine hr1 ?_ _ (by assumption)
    | refine hr2 ?_ ?_ _ (by assumption)
    | refine hgo ?_ ?_
    | simp only [q68_0, q68_1, q68_4, q68_7, q68_8, q68_9, q68_12, q68_13, q68_14, q68_17, q68_20, q68_22, q68_25, q68_26, q68_28, q68_31, k_0 hS, z_C hS, r_0_1 hS, k_7 hS, z_7, sp_isShiftC, as_nil, as_i, as_r, Nat.reduceAdd, Nat.reduceLeDiff, z_eq0, z_eq1, z_or, z_em, Classical.not_not, not_false_eq_true, not_true_eq_false, true_and, and_true, false_and, and_false, and_self, true_implies, false_implies, implies_true, Option.toList_some, Option.toList_none, List.cons_append, List.nil_append, Nat.add_eq_zero_iff, a_nl_i, a_nl_r, a_nl_n, true_or, or_true, eq_self, a_isRA_22, a_isRA_24, a_isRA_32, a_isA_20, ok_4, ok_5, ok_6, ok_7, ok_9, ok_20, ok_21, ok_30, ok_50, ok_180, ok_192, ok_200]
  all_goals ((try clear hr2); (try clear hr1); (try clear hgo); (try clear hu); (try clear hc); (try clear hH); (try clear hT); (try clear hS); (try clear e27); grind [ui_ap])
end ZN0
section ZN1
variable {d n t M : Nat} {K L : Nat → Nat} {I I0 J J0 J1 J2 : Nat → Nat → Int32} {R : Nat → Nat → Nat} {P : Option Value → AH → Prop} {f : Nat → Int32} {e : Int32}
variable {Y Z W : Nat → Nat → Int32}
theorem xp_text (hS : m_S M K L R) {I1 : Nat → Nat → Int32} (hm : okY Y) {c : Nat} (hc : c + 130 ≤ 84000) (hF : mF M c I1 I) (hg : gs M I0 I Y) {s : Int32} (hP : ∀ w J, J M 35 = I M 35 → gs M I0 J (txY Y s) → P (some (.int w)) (n, t, K, L, J, R)) : a_does (d + 16) 201 [a_rf M, .int s] (n, t, K, L, I, R) P := by
  have hy := hm.1
  have h17 := hy.2.2.2.2.1
  have h10 := hy.2.1
  have h6 := hy.2.2.2.2.2.1
  have hl := hy.2.2.1
  have hrf : ∀ k : Nat, mF M (c + 120) I1 (a_ui I (M + 23) k (I (M + 23) k + 1)) ∧ gs M I0 (a_ui I (M + 23) k (I (M + 23) k + 1)) Y := fun k => ⟨mF_le (sF_refused hF) (by omega), gs_ui hg (sR_refused hg.1) (by omega) ⟨by unfold ps1; omega, by omega⟩⟩
  have e17 : I M 17 = Y 0 17 := hg.2.2.1 0 17 (by unfold ps1; omega)
  have e6 : I M 6 = Y 0 6 := hg.2.2.1 0 6 (by unfold ps1; omega)
  have e0 : I M 0 = Y 0 0 := hg.2.2.1 0 0 (by unfold ps1; omega)
  have m17 : ∀ x : Int32, (x ≤ Y 0 17 - 1) = (x < Y 0 17) := fun x => le_m1 h17
  have m6 : ∀ x : Int32, (x ≤ Y 0 6 - 1) = (x < Y 0 6) := fun x => le_m1 ⟨h6.1, Int32.le_trans h6.2 (by decide)⟩
  have m199 : ∀ x : Int32, (x ≤ 199) = (x < 200) := fun x => propext ⟨fun q => Int32.lt_of_le_of_lt q (by decide), fun q => by clear hP hrf hm hg hF; grind⟩
  have e41 : I M 41 = Y 0 41 := hg.2.2.1 0 41 (by unfold ps1; omega)
  have e40 : I M 40 = Y 0 40 := hg.2.2.1 0 40 (by unfold ps1; omega)
  have e27 : I (M + 27) = Y 27 := funext (fun j => hg.2.2.1 27 j (by unfold ps1; omega))
  unfold txY at hP
  refine pe_text hS hg.1 (fun q => ?_) (fun q1 q2 => ?_) (fun q1 q2 q3 J f1 f2 f3 f4 f5 => ?_) (fun q1 q2 q3 J f1 f2 f3 f4 f5 f6 f7 f8 => ?_)
  · rw [if_pos (Or.inl q)] at hP
    exact hP _ _ (by rw [ui_ap, if_neg (by omega)]) (hrf 1).2
  · rw [e41] at q2
    rw [if_pos (Or.inr q2)] at hP
    exact hP _ _ (by rw [ui_ap, if_neg (by omega)]) (hrf 6).2
  · rw [e41] at q2
    rw [e27, e40] at q3
    rw [if_neg (fun w => w.elim (fun w => w q1) q2), if_neg (by rw [q3]; decide)] at hP
    have fz : ∀ x j, ¬ sC M x j → ¬ (x = M ∧ (j = 40 ∨ j = 41)) → J x j = I x j := fun x j a b => by
      by_cases e : x = M + 28 ∨ x = M + 29 ∨ x = M + 30 ∨ x = M + 31
      · exact f5 x j e
      · exact f2 x j a (by omega) (by omega) (by omega) (by omega) b
    refine hP _ J (fz _ _ (by unfold sC; omega) (by omega)) (gs_mk hg f1 (fun x j p => fz _ _ (by unfold sC; omega) (by omega)) (funext (fun j => up_no (by omega))) (funext (fun j => up_no (by omega))) (funext (fun j => up_no (by omega))) (fun j => fz _ _ (by unfold sC; omega) (by omega)) (fun k j p => ?_))
    by_cases e : k = 0 ∧ j = 40
    · rw [e.1, e.2, up_at]
      exact f3
    · rw [up_no e]
      by_cases e2 : k = 0 ∧ j = 41
      · rw [e2.1, e2.2]
        exact f4.trans e41
      · rw [fz _ _ (by unfold sC; unfold ps1 at p; omega) (by omega)]
        exact hg.2.2.1 k j p
  · rw [e41] at q2 f4 f5 f6 f7 f8
    rw [e27, e40] at q3 f5
    rw [e40] at f6
    rw [if_neg (fun w => w.elim (fun w => w q1) q2), if_pos q3] at hP
    have fz : ∀ x j, ¬ sC M x j → ¬ (M + 28 ≤ x ∧ x ≤ M + 31) → ¬ (x = M ∧ (j = 40 ∨ j = 41)) → J x j = I x j := fun x j a b c => f2 x j a (by omega) (by omega) (by omega) (by omega) c
    refine hP _ J (fz _ _ (by unfold sC; omega) (by omega) (by omega)) (gs_mk hg f1 (fun x j p => fz _ _ (by unfold sC; omega) (by omega) (by omega)) (funext (fun j => tw_no (by omega) (by omega))) (funext (fun j => tw_no (by omega) (by omega))) (funext (fun j => tw_no (by omega) (by omega))) (fun j => fz _ _ (by unfold sC; omega) (by omega) (by omega)) (fun k j p => ?_))
    obtain ⟨b29, b30, b31, b40, b41⟩ := tw_at (Y := Y) (s := s)
    have hg1 := hg.2.2.1
    by_cases e : k = 0 ∧ j = 40
    · rw [e.1, e.2, b40]
      exact f3
    · by_cases e2 : k = 0 ∧ j = 41
      · rw [e2.1, e2.2, b41]
        exact f4
      · by_cases e28 : k = 28
        · rw [e28, tw_28, f5 j, show I (M + 28) j = Y 28 j from hg1 28 j (by unfold ps1; omega)]
        · by_cases e29 : k = 29
          · rw [e29, f6 j]
            by_cases ej : j = (Y 0 41).toNatClampNeg
            · rw [if_pos ej, ej, b29]
            · rw [if_neg ej, tw_ne (by omega) ej]
              exact hg1 29 j (by unfold ps1; omega)
          · by_cases e30 : k = 30
            · rw [e30, f7 j]
              by_cases ej : j = (Y 0 41).toNatClampNeg
              · rw [if_pos ej, ej, b30]
              · rw [if_neg ej, tw_ne (by omega) ej]
                exact hg1 30 j (by unfold ps1; omega)
            · by_cases e31 : k = 31
              · rw [e31, f8 j]
                by_cases ej : j = (Y 0 41).toNatClampNeg
                · rw [if_pos ej, ej, b31]
                · rw [if_neg ej, tw_ne (by omega) ej]
                  exact hg1 31 j (by unfold ps1; omega)
              · rw [tw_no (by omega) (by omega), fz _ _ (by unfold sC; unfold ps1 at p; omega) (by omega) (by omega)]
                exact hg1 k j p
end ZN1
end
section
/-! bench -/
section ZO0
variable {d n t C c n0 n' n'' t' : Nat} {K L K0 L0 K' L' K'' L'' : Nat → Nat} {I I0 J J0 J1 J2 : Nat → Nat → Int32} {R R0 R' R'' : Nat → Nat → Nat} {P : Option Value → AH → Prop}
theorem le_Binit_51 {b : Nat} (hb : K b = 3) (b0 : (b = 0) = False) (w0 : (R b 2 = 0) = False) (w2 : K (R b 2) = 20) (w3 : L (R b 2) = 200) (h0 : (R b 4 = 0) = False) (h2 : K (R b 4) = 20) (h3 : L (R b 4) = 200) {p q : Int32} (ne : ¬ R b 2 = R b 4) (hP : ∀ J, (∀ x j, ¬ x = R b 2 → ¬ x = R b 4 → J x j = I x j) → (∀ j, j < 200 → J (R b 2) j = -9 ∧ J (R b 4) j = -9) → P none (n, t, K, L, J, R)) : ∀ i : Int32, i ≤ 200 → ∀ J, 0 ≤ i → (∀ x j, ¬ x = R b 2 → ¬ x = R b 4 → J x j = I x j) → (∀ j, j < i.toNatClampNeg → J (R b 2) j = -9 ∧ J (R b 4) j = -9) → a_at d (a_xm a_m22) 51 [some (a_rf b), some (.int p), some (.int q), some (.int i)] [] (n, t, K, L, J, R) P := by
  refine up_ind 200 (fun i hk ih => ?_)
  intro J q0 hJ hW
  have hend : ¬ i < 200 → P none (n, t, K, L, J, R) := fun e => by
    have : i = 200 := by clear ih hP hJ hW; grind
    subst this
    exact hP J hJ hW
  have hgo : i < 200 → a_at d (a_xm a_m22) 51 [some (a_rf b), some (.int p), some (.int q), some (.int (i + 1))] [] (n, t, K, L, (a_ui (a_ui J (R b 2) i.toNatClampNeg (-9)) (R b 4) i.toNatClampNeg (-9)), R) P := fun e => by
    obtain ⟨-, s2, -, s4⟩ := lp_st q0 e
    refine ih e _ s2 (fun x j e1 e2 => by rw [ui_ap, if_neg (fun e => e2 e.1), ui_ap, if_neg (fun e => e1 e.1)]; exact hJ x j e1 e2) (fun j hj => ?_)
    rw [s4] at hj
    rw [ui_ap, if_neg (fun w => ne w.1), ui_ap, ui_ap, ui_ap, if_neg (c := R b 4 = R b 2 ∧ j = i.toNatClampNeg) (fun w => ne w.1.symm)]
    by_cases e2 : j = i.toNatClampNeg
    · rw [if_pos ⟨rfl, e2⟩, if_pos ⟨rfl, e2⟩]
      exact ⟨rfl, rfl⟩
    · rw [if_neg (fun w => e2 w.2), if_neg (fun w => e2 w.2)]
      exact hW j (by omega)
  clear ih hP hJ hW
  rw [q22_51]
  repeat' first
    | with_reducible apply And.intro
    | with_reducible assumption
    | with_reducible intro _
    | refine hend ?_
    | refine hgo ?_
    | simp only [q22_52, q22_55, q22_58, q22_59, q22_62, q22_63, q22_65, q22_66, q22_67, q22_70, q22_71, q22_73, q22_74, q22_77, q22_80, as_nil, as_i, as_r, Nat.reduceAdd, Nat.reduceLeDiff, z_eq0, z_eq1, z_or, z_em, Classical.not_not, not_false_eq_true, not_true_eq_false, true_and, and_true, false_and, and_false, and_self, true_implies, false_implies, implies_true, Option.toList_some, Option.toList_none, List.cons_append, List.nil_append, Nat.add_eq_zero_iff, a_nl_i, a_nl_r, a_nl_n, true_or, or_true, eq_self, a_isRA_22, a_isRA_24, a_isRA_32, a_isA_20, ok_4, ok_5, ok_6, ok_7, ok_9, ok_20, ok_21, ok_30, ok_50, ok_180, ok_192, ok_200, hb, b0, w0, w2, w3, h0, h2, h3]
  all_goals ((try clear hend); (try clear hgo); grind [ui_ap])
theorem ce_Binit (hn : ∀ x, n + 1 ≤ x → K x = 0) {p q : Int32} (hP : ∀ K' L' J' R', K' (n + 1) = 3 → (∀ x, x < n + 1 → K' x = K x) → (∀ x, n + 1 + 5 ≤ x → K' x = 0) → (∀ x, n + 1 < x → x < n + 1 + 5 → K' x = 20) → (∀ x, x < n + 1 → L' x = L x) → L' (n + 2) = 200 → L' (n + 3) = 200 → L' (n + 4) = 200 → L' (n + 5) = 80 → (∀ x j, x < n + 1 → J' x j = I x j) → (∀ x j, x < n + 1 → R' x j = R x j) → R' (n + 1) 2 = n + 2 → R' (n + 1) 3 = n + 3 → R' (n + 1) 4 = n + 4 → R' (n + 1) 5 = n + 5 → J' (n + 1) 6 = 0 → (J' (n + 1) 0 = p ∧ J' (n + 1) 1 = q) → (∀ j, j < 200 → J' (n + 2) j = -9 ∧ J' (n + 4) j = -9) → (∀ j, J' (n + 3) j = 0) → P none (n + 1 + 5, t + 680, K', L', J', R')) : a_does (d + 1) 22 [a_rf (n + 1), .int p, .int q] (n + 1 + 1, t, a_up K (n + 1) 3, a_up L (n + 1) 7, a_zi I (n + 1), a_zr R (n + 1)) P := by
  have f0 : (n + 1 = 0) = False := eq_false (by omega)
  have f1 : (n + 1 + 1 = 0) = False := eq_false (by omega)
  rw [a_enter1 (M := a_m22) rfl (a_cat_rf (a_cat_int (a_cat_int a_cat_nil))) (show 3 ≤ 4 by decide)]
  show a_at _ (a_xm a_m22) 0 [some (a_rf (n+1)), some (.int p), some (.int q), none] [] _ _
  simp only [q22_0, as_nil, as_i, as_r, Nat.reduceAdd, Nat.reduceLeDiff, z_eq0, z_eq1, z_or, z_em, Classical.not_not, not_false_eq_true, not_true_eq_false, true_and, and_true, false_and, and_false, and_self, true_implies, false_implies, implies_true, Option.toList_some, Option.toList_none, List.cons_append, List.nil_append, Nat.add_eq_zero_iff, a_nl_i, a_nl_r, a_nl_n, true_or, or_true, eq_self, a_isRA_22, a_isRA_24, a_isRA_32, a_isA_20, ok_4, ok_5, ok_6, ok_7, ok_9, ok_20, ok_21, ok_30, ok_50, ok_180, ok_192, ok_200]
  rw [q22_1 (show ¬ n + 1 = 0 by omega) (show a_sum [] ≤ 8 by decide)]
  simp only [q22_4, q22_5, q22_6, q22_9, q22_10, q22_11, q22_14, q22_15, q22_18, q22_20, q22_23, q22_24, q22_27, q22_29, q22_32, q22_33, q22_36, q22_38, q22_41, q22_42, q22_44, q22_46, q22_49, q22_50, as_nil, as_i, as_r, Nat.reduceAdd, Nat.reduceLeDiff, z_eq0, z_eq1, z_or, z_em, Classical.not_not, not_false_eq_true, not_true_eq_false, true_and, and_true, false_and, and_false, and_self, true_implies, false_implies, implies_true, Option.toList_some, Option.toList_none, List.cons_append, List.nil_append, Nat.add_eq_zero_iff, a_nl_i, a_nl_r, a_nl_n, true_or, or_true, eq_self, a_isRA_22, a_isRA_24, a_isRA_32, a_isA_20, ok_4, ok_5, ok_6, ok_7, ok_9, ok_20, ok_21, ok_30, ok_50, ok_180, ok_192, ok_200, up_ap, up_eq, Nat.add_left_cancel_iff, Nat.add_right_cancel_iff, Nat.reduceEqDiff, if_true, if_false, ur_ap, n_ne, cn_200, cn_80, ng_200, ng_80, f0, f1]
  have hne : ∀ x, x < n + 1 → (¬ x = n + 1) ∧ (¬ x = n + 2) ∧ (¬ x = n + 3) ∧ (¬ x = n + 4) ∧ (¬ x = n + 5) := fun x hx => by omega
  have hk : ∀ x : Nat, a_up (a_up (a_up (a_up (a_up K (n + 1) 3) (n + 1 + 1) 20) (n + 2 + 1) 20) (n + 3 + 1) 20) (n + 4 + 1) 20 x = if x = n + 5 then 20 else if x = n + 4 then 20 else if x = n + 3 then 20 else if x = n + 2 then 20 else if x = n + 1 then 3 else K x := fun x => rfl
  have hl : ∀ x : Nat, a_up (a_up (a_up (a_up (a_up L (n + 1) 7) (n + 1 + 1) 200) (n + 2 + 1) 200) (n + 3 + 1) 200) (n + 4 + 1) 80 x = if x = n + 5 then 80 else if x = n + 4 then 200 else if x = n + 3 then 200 else if x = n + 2 then 200 else if x = n + 1 then 7 else L x := fun x => rfl
  generalize a_up (a_up (a_up (a_up (a_up K (n + 1) 3) (n + 1 + 1) 20) (n + 2 + 1) 20) (n + 3 + 1) 20) (n + 4 + 1) 20 = K5 at hk ⊢
  generalize a_up (a_up (a_up (a_up (a_up L (n + 1) 7) (n + 1 + 1) 200) (n + 2 + 1) 200) (n + 3 + 1) 200) (n + 4 + 1) 80 = L5 at hl ⊢
  generalize hr5 : a_ur (a_zr (a_ur (a_zr (a_ur (a_zr (a_ur (a_zr (a_zr R (n + 1)) (n + 1 + 1)) (n + 1) 2 (n + 1 + 1)) (n + 2 + 1)) (n + 1) 3 (n + 2 + 1)) (n + 3 + 1)) (n + 1) 4 (n + 3 + 1)) (n + 4 + 1)) (n + 1) 5 (n + 4 + 1) = R5
  generalize hi5 : a_zi (a_zi (a_zi (a_zi (a_ui (a_ui (a_zi I (n + 1)) (n + 1) 0 p) (n + 1) 1 q) (n + 1 + 1)) (n + 2 + 1)) (n + 3 + 1)) (n + 4 + 1) = I5
  have r2 : R5 (n + 1) 2 = n + 2 := by rw [← hr5]; simp [ur_ap, zr_ap]
  have r3 : R5 (n + 1) 3 = n + 3 := by rw [← hr5]; simp [ur_ap, zr_ap]
  have r4 : R5 (n + 1) 4 = n + 4 := by rw [← hr5]; simp [ur_ap, zr_ap]
  have r5 : R5 (n + 1) 5 = n + 5 := by rw [← hr5]; simp [ur_ap, zr_ap]
  have rx : ∀ x j, x < n + 1 → R5 x j = R x j := fun x j hx => by
    obtain ⟨e1, e2, e3, e4, e5⟩ := hne x hx
    rw [← hr5]
    simp [ur_ap, zr_ap, e1, e2, e3, e4, e5]
  have ix : ∀ x j, x < n + 1 → I5 x j = I x j := fun x j hx => by
    obtain ⟨e1, e2, e3, e4, e5⟩ := hne x hx
    rw [← hi5]
    simp [ui_ap, zi_ap, e1, e2, e3, e4, e5]
  have i6 : I5 (n + 1) 6 = 0 := by rw [← hi5]; simp [ui_ap, zi_ap]
  have i01 : I5 (n + 1) 0 = p ∧ I5 (n + 1) 1 = q := by rw [← hi5]; simp [ui_ap, zi_ap]
  have i3 : ∀ j, I5 (n + 3) j = 0 := fun j => by rw [← hi5]; simp [ui_ap, zi_ap]
  clear hr5 hi5
  refine ⟨by simp, by simp, by simp, by simp, ?_⟩
  refine le_Binit_51 (by rw [hk]; simp) f0 (by rw [r2]; simp) (by rw [r2, hk]; simp) (by rw [r2, hl]; simp) (by rw [r4]; simp) (by rw [r4, hk]; simp) (by rw [r4, hl]; simp) (by rw [r2, r4]; omega) (fun J hJ hW => ?_) 0 (by decide) I5 (by decide) (fun _ _ _ _ => rfl) (fun j hj => absurd hj (Nat.not_lt_zero j))
  rw [r2, r4] at hJ hW
  have e680 : t + 200 + 200 + 200 + 80 = t + 680 := by omega
  rw [e680]
  refine hP K5 L5 J R5 (by rw [hk]; simp) (fun x hx => ?_) (fun x hx => ?_) (fun x h1 h2 => ?_) (fun x hx => ?_) (by rw [hl]; simp) (by rw [hl]; simp) (by rw [hl]; simp) (by rw [hl]; simp) (fun x j hx => ?_) rx r2 r3 r4 r5 ?_ ⟨?_, ?_⟩ hW (fun j => ?_)
  · obtain ⟨e1, e2, e3, e4, e5⟩ := hne x hx
    rw [hk]
    simp [e1, e2, e3, e4, e5]
  · rw [hk, if_neg (by omega), if_neg (by omega), if_neg (by omega), if_neg (by omega), if_neg (by omega)]
    exact hn x (by omega)
  · rw [hk]
    rcases (by omega : x = n + 2 ∨ x = n + 3 ∨ x = n + 4 ∨ x = n + 5) with e | e | e | e <;> subst e <;> simp
  · obtain ⟨e1, e2, e3, e4, e5⟩ := hne x hx
    rw [hl]
    simp [e1, e2, e3, e4, e5]
  · rw [hJ x j (by omega) (by omega)]
    exact ix x j hx
  · rw [hJ _ _ (by omega) (by omega)]
    exact i6
  · rw [hJ _ _ (by omega) (by omega)]
    exact i01.1
  · rw [hJ _ _ (by omega) (by omega)]
    exact i01.2
  · rw [hJ _ _ (by omega) (by omega)]
    exact i3 j
theorem ce_addBench (hH : cH C c (n + 1) t K L I R) {p q : Int32} (hc : ¬ 6 ≤ I (C + 14) 5) (hP : ∀ t' K' L' J R', cH C (c + 1) (n + 1 + 5) t' K' L' (a_ui J (C + 14) 5 (I (C + 14) 5 + 1)) (a_ur R' (C + 16) (I (C + 14) 5).toNatClampNeg (n + 1)) → cT C K' L' J R' → K' (n + 1) = 3 → (∀ x, x < n + 1 → K' x = K x) → (∀ x, x < n + 1 → L' x = L x) → (∀ x j, x < n + 1 → J x j = I x j) → (∀ x j, x < n + 1 → R' x j = R x j) → R' (n + 1) 2 = n + 2 → R' (n + 1) 3 = n + 3 → R' (n + 1) 4 = n + 4 → R' (n + 1) 5 = n + 5 → (J (n + 1) 0 = p ∧ J (n + 1) 1 = q) → (∀ j, j < 200 → J (n + 2) j = -9 ∧ J (n + 4) j = -9) → (∀ j, J (n + 3) j = 0) → (J (n + 1) 6 = 0) → P (some (.int (I (C + 14) 5 + 1 - 1))) (n + 1 + 5, t', K', L', (a_ui J (C + 14) 5 (I (C + 14) 5 + 1)), (a_ur R' (C + 16) (I (C + 14) 5).toNatClampNeg (n + 1)))) : a_does (d + 2) 21 [a_rf (C + 14), .int p, .int q] (n + 1, t, K, L, I, R) P := by
  have hT := hH.1
  have hS := hT.s
  have g := hT.g_benches
  have fr := hH.2.1
  have hC := hH.2.2.1
  have ok6 : 0 ≤ I (C + 14) 5 ∧ I (C + 14) 5 < 6 := ⟨g.1, Int32.not_le.mp hc⟩
  have hc' : I (C + 14) 5 < 6 := ok6.2
  have f1 : (n + 1 = 0) = False := eq_false (by omega)
  rw [a_enter1 (M := a_m21) rfl (a_cat_rf (a_cat_int (a_cat_int a_cat_nil))) (show 3 ≤ 3 by decide)]
  show a_at _ (a_xm a_m21) 0 [some (a_rf (C + 14)), some (.int p), some (.int q)] [] _ _
  simp only [q21_0, q21_1, q21_4, q21_6, q21_9, q21_11, q21_12, q21_13, q21_16, q21_17, q21_20, q21_23, q21_24, q21_25, q21_26, k_14 hS, z_14, r_14_3 hS, k_16 hS, l_16 hS, z_16, as_nil, as_i, as_r, Nat.reduceAdd, Nat.reduceLeDiff, z_eq0, z_eq1, z_or, z_em, Classical.not_not, not_false_eq_true, not_true_eq_false, true_and, and_true, false_and, and_false, and_self, true_implies, false_implies, implies_true, Option.toList_some, Option.toList_none, List.cons_append, List.nil_append, Nat.add_eq_zero_iff, a_nl_i, a_nl_r, a_nl_n, true_or, or_true, eq_self, a_isRA_22, a_isRA_24, a_isRA_32, a_isA_20, ok_4, ok_5, ok_6, ok_7, ok_9, ok_20, ok_21, ok_30, ok_50, ok_180, ok_192, ok_200, hc', hc, f1]
  refine ce_Binit fr (fun K' L' J' R' k1 k2 k3 k4 l0 l2 l3 l4 l5 j1 r1 r2 r3 r4 r5 j6 j01 jW jS => ?_)
  have hT2 : cT C K' L' J' R' := by
    refine cT_grow hT fr hC k2 l0 j1 r1 (fun a h1 h2 => ?_) (fun b h1 h2 => ?_) (fun x h1 h2 => ?_)
    · rcases (by omega : a = n + 1 ∨ (n + 1 < a ∧ a < n + 1 + 5) ∨ n + 1 + 5 ≤ a) with e | e | e
      · rw [e, k1] at h2; cases h2
      · rw [k4 a e.1 e.2] at h2; cases h2
      · rw [k3 a e] at h2; cases h2
    · rcases (by omega : b = n + 1 ∨ (n + 1 < b ∧ b < n + 1 + 5) ∨ n + 1 + 5 ≤ b) with e | e | e
      · subst e
        rw [r2, r3, r4, r5, j6, l2, l3, l4, l5, k4 _ (by omega) (by omega), k4 _ (by omega) (by omega), k4 _ (by omega) (by omega), k4 _ (by omega) (by omega)]
        exact ⟨by omega, ⟨by omega, rfl, rfl⟩, ⟨by omega, rfl, rfl⟩, ⟨by omega, rfl, rfl⟩, ⟨by omega, rfl, 1, rfl, by decide, by decide⟩, by decide, by decide, by decide⟩
      · rw [k4 b e.1 e.2] at h2; cases h2
      · rw [k3 b e] at h2; cases h2
    · rcases (by omega : x = n + 1 ∨ (n + 1 < x ∧ x < n + 1 + 5) ∨ n + 1 + 5 ≤ x) with e | e | e
      · rw [e, k1] at h2; cases h2
      · rw [k4 x e.1 e.2] at h2; cases h2
      · rw [k3 x e] at h2; cases h2
  have e5 : J' (C + 14) 5 = I (C + 14) 5 := j1 _ _ (by omega)
  have hS2 := hT2.s
  have hT3 := sT_addBench hT2 k1 (by rw [e5]; exact hc)
  have hV : cV C L' (a_ur R' (C + 16) (I (C + 14) 5).toNatClampNeg (n + 1)) = cV C L R + 80 := by
    have hi : (I (C + 14) 5).toNatClampNeg < 6 := show _ < (6 : Int32).toNatClampNeg from cl_lt g.1 hc'
    have hv : ∀ i, L' (a_ur R' (C + 16) (I (C + 14) 5).toNatClampNeg (n + 1) (a_ur R' (C + 16) (I (C + 14) 5).toNatClampNeg (n + 1) (C + 16) i) 5) = L (R (R (C + 16) i) 5) + if i = (I (C + 14) 5).toNatClampNeg then 80 else 0 := fun i => by
      rw [ur_ap R' _ _ _ (C + 16) i]
      by_cases e : i = (I (C + 14) 5).toNatClampNeg
      · rw [if_pos ⟨rfl, e⟩, if_pos e, ur_ap, if_neg (by omega), r5, l5, hT.g_benN i (by omega), hH.2.2.2.1.1, hH.2.2.2.1.2]
      · rw [if_neg (fun q => e q.2), if_neg e, r1 _ _ (by omega)]
        rcases hT.g_benchesR i with q | q
        · rw [q, ur_ap, if_neg (by omega), r1 _ _ (by omega), hH.2.2.2.1.1, l0 _ (by omega)]
          rfl
        · have b1 := (hT.g_bnc _ q).1
          have l1 := kn_lt fr q (by decide)
          rw [ur_ap, if_neg (by omega), r1 _ _ l1, l0 _ (kn_lt fr (hT.g_bnc _ q).2.2.2.2.1.2.1 (by decide))]
          rfl
    unfold cV
    rw [hv 0, hv 1, hv 2, hv 3, hv 4, hv 5]
    generalize (I (C + 14) 5).toNatClampNeg = z at hi
    rcases (by omega : z = 0 ∨ z = 1 ∨ z = 2 ∨ z = 3 ∨ z = 4 ∨ z = 5) with e | e | e | e | e | e <;> subst e <;> simp <;> omega
  rw [e5] at hT3
  have hfin := hP (t + 7 + 680) K' L' J' R' ⟨hT3, k3, by omega, ⟨by rw [ur_ap, if_neg (by omega), r1 _ _ (by omega)]; exact hH.2.2.2.1.1, by rw [l0 _ (by omega)]; exact hH.2.2.2.1.2⟩, by rw [hV]; have := hH.2.2.2.2.1; omega, by rw [hV]; have := hH.2.2.2.2.2; omega⟩ hT2 k1 k2 l0 j1 r1 r2 r3 r4 r5 j01 jW jS j6
  have hS := hS2
  simp only [q21_29, q21_30, q21_31, q21_32, q21_35, q21_36, q21_37, q21_40, q21_41, q21_44, q21_45, q21_46, k_14 hS, z_14, as_nil, as_i, as_r, Nat.reduceAdd, Nat.reduceLeDiff, z_eq0, z_eq1, z_or, z_em, Classical.not_not, not_false_eq_true, not_true_eq_false, true_and, and_true, false_and, and_false, and_self, true_implies, false_implies, implies_true, Option.toList_some, Option.toList_none, List.cons_append, List.nil_append, Nat.add_eq_zero_iff, a_nl_i, a_nl_r, a_nl_n, true_or, or_true, eq_self, a_isRA_22, a_isRA_24, a_isRA_32, a_isA_20, ok_4, ok_5, ok_6, ok_7, ok_9, ok_20, ok_21, ok_30, ok_50, ok_180, ok_192, ok_200, ui_ap, cc_ne, cc_n0, cc_0n, Nat.reduceEqDiff, reduceIte, if_true, if_false, k_16 hS, l_16 hS, z_16, e5, k1, hc', g.1]
  repeat' first
    | with_reducible apply And.intro
    | exact hfin
    | exact ok6.1
    | exact hc'
    | (right; rfl)
    | decide
theorem ky_bench (hH : cH C c (n + 1) t K L I R) {p q : Int32} (h1 : (p < 0 ∨ q < 0) → ∀ J, rfQ C c (n + 1) t K L I R J → P (some (.int (-4))) (n + 1, t, K, L, J, R)) (h2 : ¬ (p < 0 ∨ q < 0) → (255 < p ∨ 255 < q ∨ 6 ≤ I (C + 14) 5) → ∀ J, rfQ C c (n + 1) t K L I R J → P (some (.int (-6))) (n + 1, t, K, L, J, R)) (hP : ¬ (p < 0 ∨ q < 0) → ¬ (255 < p ∨ 255 < q ∨ 6 ≤ I (C + 14) 5) → ∀ t' K' L' J R', cH C (c + 1) (n + 1 + 5) t' K' L' (a_ui J (C + 14) 5 (I (C + 14) 5 + 1)) (a_ur R' (C + 16) (I (C + 14) 5).toNatClampNeg (n + 1)) → cT C K' L' J R' → K' (n + 1) = 3 → (∀ x, x < n + 1 → K' x = K x) → (∀ x, x < n + 1 → L' x = L x) → (∀ x j, x < n + 1 → J x j = I x j) → (∀ x j, x < n + 1 → R' x j = R x j) → R' (n + 1) 2 = n + 2 → R' (n + 1) 3 = n + 3 → R' (n + 1) 4 = n + 4 → R' (n + 1) 5 = n + 5 → (J (n + 1) 0 = p ∧ J (n + 1) 1 = q) → (∀ j, j < 200 → J (n + 2) j = -9 ∧ J (n + 4) j = -9) → (∀ j, J (n + 3) j = 0) → (J (n + 1) 6 = 0) → P (some (.int (I (C + 14) 5 + 1 - 1))) (n + 1 + 5, t', K', L', (a_ui J (C + 14) 5 (I (C + 14) 5 + 1)), (a_ur R' (C + 16) (I (C + 14) 5).toNatClampNeg (n + 1)))) : a_does (d + 70) 20 [a_rf C, .int p, .int q] (n + 1, t, K, L, I, R) P := by
  have hT := hH.1
  have hS := hT.s
  have hZ := cZ_refl hH
  have gneg : ¬ p < 0 → 0 ≤ q → ¬ (p < 0 ∨ q < 0) := fun a b e => e.elim a (fun x => absurd b (Int32.not_le.mpr x))
  have hgo : ¬ p < 0 → 0 ≤ q → ¬ 255 < p → ¬ 255 < q → I (C + 14) 5 < 6 → a_at (d + 69) (a_xm a_m20) 48 [some (a_rf C), some (.int p), some (.int q)] [] (n + 1, t, K, L, I, R) P := fun a b c1 d1 e1 => by
    have hP := hP (gneg a b) (fun e => e.elim c1 (fun e => e.elim d1 (fun x => absurd e1 (Int32.not_lt.mpr x))))
    simp only [q20_48, q20_49, q20_52, q20_53, q20_54, k_0 hS, z_C hS, r_0_4 hS, k_14 hS, z_14, as_nil, as_i, as_r, Nat.reduceAdd, Nat.reduceLeDiff, z_eq0, z_eq1, z_or, z_em, Classical.not_not, not_false_eq_true, not_true_eq_false, true_and, and_true, false_and, and_false, and_self, true_implies, false_implies, implies_true, Option.toList_some, Option.toList_none, List.cons_append, List.nil_append, Nat.add_eq_zero_iff, a_nl_i, a_nl_r, a_nl_n, true_or, or_true, eq_self, a_isRA_22, a_isRA_24, a_isRA_32, a_isA_20, ok_4, ok_5, ok_6, ok_7, ok_9, ok_20, ok_21, ok_30, ok_50, ok_180, ok_192, ok_200]
    refine ce_addBench hH (Int32.not_le.mpr e1) (fun t' K' L' J R' g1 g2 g3 g4 g5 g6 g7 g8 g9 ga gb gc gd ge gf => ?_)
    simp only [q20_57, as_nil, as_i, as_r, Nat.reduceAdd, Nat.reduceLeDiff, z_eq0, z_eq1, z_or, z_em, Classical.not_not, not_false_eq_true, not_true_eq_false, true_and, and_true, false_and, and_false, and_self, true_implies, false_implies, implies_true, Option.toList_some, Option.toList_none, List.cons_append, List.nil_append, Nat.add_eq_zero_iff, a_nl_i, a_nl_r, a_nl_n, true_or, or_true, eq_self, a_isRA_22, a_isRA_24, a_isRA_32, a_isA_20, ok_4, ok_5, ok_6, ok_7, ok_9, ok_20, ok_21, ok_30, ok_50, ok_180, ok_192, ok_200]
    exact hP t' K' L' J R' g1 g2 g3 g4 g5 g6 g7 g8 g9 ga gb gc gd ge gf
  rw [a_enter1 (M := a_m20) rfl (a_cat_rf (a_cat_int (a_cat_int a_cat_nil))) (show 3 ≤ 3 by decide)]
  show a_at _ (a_xm a_m20) 0 [some (a_rf C), some (.int p), some (.int q)] [] _ _
  repeat' first
    | with_reducible apply And.intro
    | with_reducible assumption
    | with_reducible intro _
    | refine cr_refuse hH (fun _ _ => ?_)
    | exact h1 (Or.inl (by assumption)) _ (by assumption)
    | exact h1 (Or.inr (Int32.not_le.mp (by assumption))) _ (by assumption)
    | exact h2 (gneg (by assumption) (by assumption)) (Or.inl (by assumption)) _ (by assumption)
    | exact h2 (gneg (by assumption) (by assumption)) (Or.inr (Or.inl (by assumption))) _ (by assumption)
    | exact h2 (gneg (by assumption) (by assumption)) (Or.inr (Or.inr (Int32.not_lt.mp (by assumption)))) _ (by assumption)
    | exact hgo (by assumption) (by assumption) (by assumption) (by assumption) (by assumption)
    | simp only [q20_0, q20_1, q20_4, q20_5, q20_8, q20_9, q20_11, q20_14, q20_15, q20_16, q20_19, q20_22, q20_23, q20_26, q20_29, q20_30, q20_33, q20_36, q20_38, q20_41, q20_42, q20_44, q20_47, k_0 hS, z_C hS, r_0_4 hS, k_14 hS, z_14, as_nil, as_i, as_r, Nat.reduceAdd, Nat.reduceLeDiff, z_eq0, z_eq1, z_or, z_em, Classical.not_not, not_false_eq_true, not_true_eq_false, true_and, and_true, false_and, and_false, and_self, true_implies, false_implies, implies_true, Option.toList_some, Option.toList_none, List.cons_append, List.nil_append, Nat.add_eq_zero_iff, a_nl_i, a_nl_r, a_nl_n, true_or, or_true, eq_self, a_isRA_22, a_isRA_24, a_isRA_32, a_isA_20, ok_4, ok_5, ok_6, ok_7, ok_9, ok_20, ok_21, ok_30, ok_50, ok_180, ok_192, ok_200]
  all_goals ((try clear hgo); (try clear hr); (try clear hs); (try clear hc); (try clear h0); (try clear h1); (try clear h2); (try clear h3); (try clear h4); (try clear h5); (try clear hP); (try clear hZ); (try clear hH); (try clear hT); (try clear hS); grind [ui_ap])
end ZO0
section ZO1
variable {d n t C c : Nat} {K L : Nat → Nat} {I I0 J J0 J1 J2 : Nat → Nat → Int32} {R : Nat → Nat → Nat} {P : Option Value → AH → Prop}
variable {Y Z W : Nat → Nat → Int32} {R' R1 : Nat → Nat → Nat} {K' L' : Nat → Nat}
def bnW (Y : Nat → Nat → Int32) (p q : Int32) : Nat → Nat → Int32 := (upY (upY (upY Y 5 (Y 0 6).toNatClampNeg p) 6 (Y 0 6).toNatClampNeg q) 0 6 (Y 0 6 + 1))
def bnY (Y : Nat → Nat → Int32) (p q : Int32) : Nat → Nat → Int32 := if (p < 0 ∨ q < 0) ∨ (255 < p ∨ 255 < q ∨ Y 0 6 = 6) then Y else bnW Y p q
theorem bn_no {p q : Int32} {k j : Nat} (h : ¬ ((k = 5 ∨ k = 6) ∧ j = (Y 0 6).toNatClampNeg)) (h2 : ¬ (k = 0 ∧ j = 6)) : bnW Y p q k j = Y k j := by
  unfold bnW
  rw [up_no (by omega), up_no (by omega), up_no (by omega)]
theorem bn_at {p q : Int32} : bnW Y p q 5 (Y 0 6).toNatClampNeg = p ∧ bnW Y p q 6 (Y 0 6).toNatClampNeg = q ∧ bnW Y p q 0 6 = Y 0 6 + 1 := by
  unfold bnW upY
  simp only [Nat.reduceEqDiff, reduceCtorEq, and_self, and_true, true_and, and_false, false_and, if_true, if_false]
theorem cu_bnch {m0 : Nat} (hT : cT C K L I R) (hu : cuP C K L I R Y) {X : Nat} {p q : Int32} (h6 : Y 0 6 < 6) (hq : 0 ≤ q ∧ q ≤ 255) (kX : K X = 3) (hX : ∀ b : Int32, 0 ≤ b → b < Y 0 6 → R (C + 16) b.toNatClampNeg + 3 < X ∧ R (R (C + 16) b.toNatClampNeg) 5 < X) (r2 : R X 2 = X + 1) (r3 : R X 3 = X + 2) (r4 : R X 4 = X + 3) (r5 : R X 5 = X + 4) (hD : ∀ k : Int32, 0 ≤ k → k < Y 0 41 → R (R (C + 8) k.toNatClampNeg) 2 < X) (g0 : I X 0 = p ∧ I X 1 = q) (gW : ∀ j, j < 200 → I (X + 1) j = -9) (gS : ∀ j, I (X + 2) j = 0) : cuP C K L (a_ui I (C + 14) 5 (Y 0 6 + 1)) (a_ur R (C + 16) (Y 0 6).toNatClampNeg X) (bnW Y p q) := by
  have hS := hT.s
  have X1 := (hT.g_bnc X kX).1
  obtain ⟨b5, b6, b06⟩ := bn_at (Y := Y) (p := p) (q := q)
  obtain ⟨⟨⟨p1, p2, p3⟩, ⟨q1, q2, q3, q4⟩, ⟨s1, s2, s3, s4⟩, ⟨x1, x2⟩, hy⟩, hse, ⟨sM, sT, ⟨d1, d2⟩, sY⟩, hno, hst⟩ := hu
  have t6 : 0 ≤ Y 0 6 ∧ Y 0 6 < 6 := ⟨hy.2.2.2.2.2.1.1, h6⟩
  obtain ⟨-, u0, u1, nT⟩ := lp_st t6.1 t6.2
  have hlt : ∀ o : Int32, 0 ≤ o → o < Y 0 6 + 1 → ¬ o = Y 0 6 → o < Y 0 6 := fun o o0 o1 e => by clear sM sT sY hst x2 s3 s4 q4 q3 p3 hy hse hX hD; grind
  have zr : ∀ k, ¬ k = 0 → ¬ k = 5 → ¬ k = 6 → bnW Y p q k = Y k := fun k h h2 h3 => funext (fun j => bn_no (by omega) (by omega))
  have z0 : ∀ j, ¬ j = 6 → bnW Y p q 0 j = Y 0 j := fun j h => bn_no (by omega) (by omega)
  have cin : ∀ k j, ¬ (k = 14 ∧ j = 5) → (a_ui I (C + 14) 5 (Y 0 6 + 1)) (C + k) j = I (C + k) j := fun k j h => by rw [ui_ap, if_neg (by omega)]
  have c0 : (a_ui I (C + 14) 5 (Y 0 6 + 1)) C 10 = I C 10 := cin 0 10 (by omega)
  have jx : ∀ x j, C + 43 < x → (a_ui I (C + 14) 5 (Y 0 6 + 1)) x j = I x j := fun x j hx => by rw [ui_ap, if_neg (by omega)]
  have rin : ∀ x j, ¬ (x = C + 16 ∧ j = (Y 0 6).toNatClampNeg) → (a_ur R (C + 16) (Y 0 6).toNatClampNeg X) x j = R x j := fun x j h => by rw [ur_ap, if_neg h]
  have rX : (a_ur R (C + 16) (Y 0 6).toNatClampNeg X) (C + 16) (Y 0 6).toNatClampNeg = X := by rw [ur_ap, if_pos ⟨rfl, rfl⟩]
  have ro : ∀ o : Int32, 0 ≤ o → o < Y 0 6 → (a_ur R (C + 16) (Y 0 6).toNatClampNeg X) (C + 16) o.toNatClampNeg = R (C + 16) o.toNatClampNeg := fun o o0 o1 => rin _ _ (by have := cl_lt o0 o1; omega)
  have rob : ∀ x j, C + 96 < x → (a_ur R (C + 16) (Y 0 6).toNatClampNeg X) x j = R x j := fun x j hx => rin _ _ (by omega)
  have bq1 : ∀ b : Int32, 0 ≤ b → b < Y 0 6 → C + 96 < R (C + 16) b.toNatClampNeg := fun b b0 b1 => (hT.g_bnc _ (q3 b b0 b1).1).1
  have wt : ∀ x, wtY (bnW Y p q) x = wtY Y x := fun x => by
    unfold wtY
    rw [zr 28 (by omega) (by omega) (by omega)]
  have wv : ∀ x, wvY (bnW Y p q) x = wvY Y x := fun x => by
    funext fc
    unfold wvY
    rw [wt, zr 29 (by omega) (by omega) (by omega)]
  have wh : ∀ b : Int32, 0 ≤ b → b < Y 0 6 → whC C (a_ui I (C + 14) 5 (Y 0 6 + 1)) (a_ur R (C + 16) (Y 0 6).toNatClampNeg X) b = whC C I R b := fun b b0 b1 => by
    have g := hT.g_bnc _ (q3 b b0 b1).1
    unfold whC
    rw [ro b b0 b1, rob _ _ g.1]
    exact funext (fun j => jx _ _ (by have := g.2.1.1; omega))
  have sn : ∀ b : Int32, 0 ≤ b → b < Y 0 6 → snC C (a_ui I (C + 14) 5 (Y 0 6 + 1)) (a_ur R (C + 16) (Y 0 6).toNatClampNeg X) b = snC C I R b := fun b b0 b1 => by
    have g := hT.g_bnc _ (q3 b b0 b1).1
    unfold snC
    rw [ro b b0 b1, rob _ _ g.1]
    exact funext (fun j => jx _ _ (by have := g.2.2.1.1; omega))
  have whN : ∀ x : Int32, 0 ≤ x → x < 200 → whC C (a_ui I (C + 14) 5 (Y 0 6 + 1)) (a_ur R (C + 16) (Y 0 6).toNatClampNeg X) (Y 0 6) x.toNatClampNeg = -9 ∧ snC C (a_ui I (C + 14) 5 (Y 0 6 + 1)) (a_ur R (C + 16) (Y 0 6).toNatClampNeg X) (Y 0 6) x.toNatClampNeg = 0 := fun x x0 x1 => by
    unfold whC snC
    rw [rX, rob _ _ X1, rob _ _ X1, r2, r3, jx _ _ (by omega), jx _ _ (by omega)]
    exact ⟨gW _ (show _ < (200 : Int32).toNatClampNeg from cl_lt x0 x1), gS _⟩
  have ea : ∀ o : Int32, 0 ≤ o → o < Y 0 17 → ∀ j, (a_ui I (C + 14) 5 (Y 0 6 + 1)) (R (C + 15) o.toNatClampNeg) j = I (R (C + 15) o.toNatClampNeg) j := fun o o0 o1 j => jx _ _ (by have := (hT.g_ask _ (s2 o o0 o1).1).1; omega)
  obtain ⟨ec, eh⟩ := cmk_e (Y := Y) (Z := bnW Y p q) (fun k j hk => bn_no (by unfold kK at hk; omega) (by unfold kK at hk; omega))
  refine ⟨⟨⟨by rw [cin _ _ (by omega), z0 0 (by omega)]; exact p1, fun j => by rw [cin _ _ (by omega), zr 1 (by omega) (by omega) (by omega)]; exact p2 j, lsP_e p3 (fun j => cin _ _ (by omega)) (fun k j hk => bn_no (by unfold kL at hk; omega) (by unfold kL at hk; omega))⟩, ⟨by rw [ui_ap, if_pos ⟨rfl, rfl⟩, b06], by rw [cin _ _ (by omega), z0 9 (by omega)]; exact q2, fun b b0 b1 => ?_, ?_⟩, ⟨by rw [cin _ _ (by omega), z0 17 (by omega)]; exact s1, fun o o0 o1 => ?_, fun o o0 o1 => ?_, fun o o0 o1 => ?_⟩, ⟨by rw [cin _ _ (by omega), z0 41 (by omega)]; exact x1, fun k k0 k1 => ?_⟩, ?_⟩, ?_, ⟨siM_e sM (fun k j hk => cin _ _ (by omega)) (fun k j hk => bn_no (by unfold kM at hk; omega) (by unfold kM at hk; omega)), siT_e sT (fun k j hk => cin _ _ (by omega)) (fun k j hk => bn_no (by unfold kT at hk; omega) (by unfold kT at hk; omega)), ?_, siY_e sY (fun k j hk => bn_no (by unfold kY at hk; omega) (by unfold kY at hk; omega))⟩, ?_, ?_⟩
  · rw [b06] at b1
    by_cases e : b = Y 0 6
    · rw [e, rX, jx _ _ (by omega), jx _ _ (by omega), b5, b6]
      exact ⟨kX, by omega, g0.1, g0.2⟩
    · have hb := hlt b b0 b1 e
      obtain ⟨k1, k2, k3, k4⟩ := q3 b b0 hb
      have g := (hT.g_bnc _ k1).1
      have := cl_lt b0 hb
      rw [ro b b0 hb, jx _ _ (by omega), jx _ _ (by omega), bn_no (k := 5) (by omega) (by omega), bn_no (k := 6) (by omega) (by omega)]
      exact ⟨k1, k2, k3, k4⟩
  · refine ⟨fun o o0 o1 o2 => ?_, fun b x b0 b1 y0 y1 => ?_⟩
    · rw [z0 17 (by omega)] at o1
      rw [zr 20 (by omega) (by omega) (by omega)] at o2 ⊢
      obtain ⟨w1, w2, w3, w4⟩ := q4.1 o o0 o1 o2
      rw [zr 21 (by omega) (by omega) (by omega), zr 10 (by omega) (by omega) (by omega), zr 22 (by omega) (by omega) (by omega), b06, wh _ o2 w1, sn _ o2 w1]
      refine ⟨?_, w2, w3, w4⟩
      clear sM sT sY hst x2 s3 s4 q4 q3 p3 hy hse hX hD w4
      grind
    · rw [b06] at b1
      rw [z0 17 (by omega), zr 20 (by omega) (by omega) (by omega), zr 21 (by omega) (by omega) (by omega), zr 10 (by omega) (by omega) (by omega)]
      by_cases e : b = Y 0 6
      · rw [e]
        exact Or.inl (whN x y0 y1)
      · have hb := hlt b b0 b1 e
        rw [wh _ b0 hb, sn _ b0 hb]
        exact q4.2 b x b0 hb y0 y1
  · rw [z0 17 (by omega)] at o1
    rw [rin (C + 15) _ (by omega), ea o o0 o1]
    exact s2 o o0 o1
  · rw [z0 17 (by omega)] at o1
    rw [rin (C + 15) _ (by omega), ea o o0 o1, ec, eh]
    exact s3 o o0 o1
  · rw [z0 17 (by omega)] at o1
    have hl := s4 o o0 o1
    have er : ∀ k, 7 ≤ k ∧ k ≤ 21 → bnW Y p q k = Y k := fun k hk => zr k (by omega) (by omega) (by omega)
    rw [rin (C + 15) _ (by omega)]
    unfold alP at hl ⊢
    simp only [ea o o0 o1]
    rw [er 7 (by omega), er 8 (by omega), er 9 (by omega), er 10 (by omega), er 11 (by omega), er 12 (by omega), er 13 (by omega), er 14 (by omega), er 15 (by omega), er 16 (by omega), er 17 (by omega), er 18 (by omega), er 19 (by omega), er 20 (by omega), er 21 (by omega)]
    exact hl
  · rw [z0 41 (by omega)] at k1
    obtain ⟨k11, k12, k13, k14, k15, k16⟩ := x2 k k0 k1
    have g := hT.g_txt _ k11
    have hcd : (a_ui I (C + 14) 5 (Y 0 6 + 1)) (R (R (C + 8) k.toNatClampNeg) 2) = I (R (R (C + 8) k.toNatClampNeg) 2) := funext (fun m => jx _ _ (by omega))
    rw [rin (C + 8) _ (by omega), rob _ _ g.1, jx _ _ (by omega), jx _ _ (by omega), jx _ _ (by omega), hcd, wt, wv, zr 30 (by omega) (by omega) (by omega), zr 31 (by omega) (by omega) (by omega)]
    exact ⟨k11, k12, k13, k14, k15, k16⟩
  · obtain ⟨h1, h2, h3, h4, h5, h6, h7, h8, h9, h10⟩ := hy
    refine ⟨by rw [z0 41 (by omega)]; exact h1, by rw [zr 10 (by omega) (by omega) (by omega)]; exact h2, by rw [z0 17 (by omega), zr 10 (by omega) (by omega) (by omega)]; exact h3, by rw [z0 9 (by omega)]; exact h4, by rw [z0 17 (by omega)]; exact h5, by rw [b06]; exact ⟨u0, u1⟩, ?_, ?_, fun b => ?_, by rw [z0 17 (by omega), zr 7 (by omega) (by omega) (by omega), zr 16 (by omega) (by omega) (by omega)]; exact h10⟩
    · unfold inP at h7 ⊢
      rw [zr 20 (by omega) (by omega) (by omega), zr 21 (by omega) (by omega) (by omega), zr 10 (by omega) (by omega) (by omega)]
      exact h7
    · unfold mkP at h8 ⊢
      rw [zr 38 (by omega) (by omega) (by omega), zr 36 (by omega) (by omega) (by omega)]
      exact h8
    · by_cases e : b = (Y 0 6).toNatClampNeg
      · rw [e, b6]
        exact hq
      · rw [bn_no (by omega) (by omega)]
        exact h9 b
  · obtain ⟨w1, w2, w3, w4⟩ := hse
    unfold seP
    rw [b06, z0 41 (by omega)]
    refine ⟨fun b b0 b1 => ?_, fun b c b0 b1 c0 c1 e => ?_, fun k b k0 k1 b0 b1 => ?_, fun b c b0 b1 c0 c1 => ?_⟩
    · by_cases e : b = Y 0 6
      · rw [e, rX, rob _ _ X1, rob _ _ X1, rob _ _ X1]
        exact ⟨r2, r3, r4⟩
      · have hb := hlt b b0 b1 e
        rw [ro b b0 hb, rob _ _ (bq1 b b0 hb), rob _ _ (bq1 b b0 hb), rob _ _ (bq1 b b0 hb)]
        exact w1 b b0 hb
    · by_cases e1 : b = Y 0 6
      · by_cases e2 : c = Y 0 6
        · rw [e1, e2]
        · have hc := hlt c c0 c1 e2
          rw [e1, rX, ro c c0 hc] at e
          have := (hX c c0 hc).1
          omega
      · have hb := hlt b b0 b1 e1
        by_cases e2 : c = Y 0 6
        · rw [e2, rX, ro b b0 hb] at e
          have := (hX b b0 hb).1
          omega
        · have hc := hlt c c0 c1 e2
          rw [ro b b0 hb, ro c c0 hc] at e
          exact w2 b c b0 hb c0 hc e
    · have g := (hT.g_txt _ (x2 k k0 k1).1).1
      have gd := hD k k0 k1
      rw [rin (C + 8) _ (by omega), rob _ _ g]
      by_cases e : b = Y 0 6
      · rw [e, rX, rob _ _ X1, r5]
        exact ⟨Or.inl (by omega), by omega⟩
      · have hb := hlt b b0 b1 e
        rw [ro b b0 hb, rob _ _ (bq1 b b0 hb)]
        exact w3 k b k0 k1 b0 hb
    · by_cases e1 : b = Y 0 6
      · rw [e1, rX, rob _ _ X1, r5]
        by_cases e2 : c = Y 0 6
        · rw [e2, rX]
          exact Or.inr (by omega)
        · have hc := hlt c c0 c1 e2
          rw [ro c c0 hc]
          have := (hX c c0 hc).1
          exact Or.inr (by omega)
      · have hb := hlt b b0 b1 e1
        rw [ro b b0 hb, rob _ _ (bq1 b b0 hb)]
        by_cases e2 : c = Y 0 6
        · rw [e2, rX]
          have := (hX b b0 hb).2
          exact Or.inl (by omega)
        · have hc := hlt c c0 c1 e2
          rw [ro c c0 hc]
          exact w4 b c b0 hb c0 hc
  · unfold siD
    rw [rin C 11 (by omega), z0 12 (by omega)]
    refine ⟨d1, fun hd => ?_⟩
    obtain ⟨e1, e2, e3, e4⟩ := d2 hd
    have ej : ∀ j, (a_ui I (C + 14) 5 (Y 0 6 + 1)) (R C 11) j = I (R C 11) j := fun j => jx _ _ (by have := (hT.g_ask _ e1).1; omega)
    simp only [ej]
    rw [z0 13 (by omega), z0 14 (by omega), z0 15 (by omega), z0 16 (by omega), z0 17 (by omega)]
    refine ⟨e1, e2, e3, fun i i0 i1 => ?_⟩
    rw [rin (C + 15) _ (by omega)]
    exact e4 i i0 i1
  · unfold noP at hno ⊢
    rw [zr 20 (by omega) (by omega) (by omega), zr 21 (by omega) (by omega) (by omega)]
    exact hno
  · unfold stP
    rw [z0 41 (by omega), zr 31 (by omega) (by omega) (by omega)]
    refine ⟨fun i i0 i1 => ?_, fun i o i0 i1 o0 o1 e => ?_⟩
    · rw [rin (C + 8) _ (by omega), jx _ _ (by have := (hT.g_txt _ (x2 i i0 i1).1).1; omega)]
      exact hst.1 i i0 i1
    · rw [rin (C + 8) i.toNatClampNeg (by omega), rin (C + 8) o.toNatClampNeg (by omega)] at e
      exact hst.2 i o i0 i1 o0 o1 e
theorem ge_bench (hH : cH C c (n + 1) t K L I R) (hu : cuP C K L I R Y) {p q : Int32} (hP : ∀ w n' t' K' L' J R', cH C (c + 4) (n' + 1) t' K' L' J R' → cuP C K' L' J R' (bnY Y p q) → P (some (.int w)) (n' + 1, t', K', L', J, R')) : a_does (d + 70) 20 [a_rf C, .int p, .int q] (n + 1, t, K, L, I, R) P := by
  have hT := hH.1
  have hS := hT.s
  have hc := hu.1
  have e5 : I (C + 14) 5 = Y 0 6 := hc.2.1.1
  have g6 := hT.g_benches
  rw [e5] at g6
  unfold bnY at hP
  refine ky_bench hH (fun z J w => ?_) (fun z z2 J w => ?_) (fun z z2 t' K' L' J R' g1 g2 g3 g4 g5 g6' g7 g8 g9 ga gb gc gd ge gf => ?_)
  · rw [if_pos (Or.inl z)] at hP
    exact hP _ n t K L J R (cH_le w.1 (by omega)) (cu_re hH hu w)
  · rw [e5] at z2
    rw [if_pos (Or.inr (by clear hP hu hc; grind))] at hP
    exact hP _ n t K L J R (cH_le w.1 (by omega)) (cu_re hH hu w)
  · rw [e5] at g1 z2 ⊢
    rw [if_neg (by intro w; rcases w with w | w | w | w; exact z w; exact z2 (Or.inl w); exact z2 (Or.inr (Or.inl w)); exact z2 (Or.inr (Or.inr (by rw [w]; decide))))] at hP
    have hu2 := cu_grow hH hu g4 g5 g6' g7
    have hC := hH.2.2.1
    have bl : ∀ b : Int32, 0 ≤ b → b < Y 0 6 → R (C + 16) b.toNatClampNeg < n + 1 := fun b b0 b1 => kn_lt hH.2.1 (hc.2.1.2.2.1 b b0 b1).1 (by decide)
    exact hP _ (n + 5) t' K' L' _ _ (cH_le g1 (by omega)) (cu_bnch (m0 := 0) (X := n + 1) g2 hu2 (Int32.not_le.mp (fun w => z2 (Or.inr (Or.inr w)))) ⟨Int32.not_lt.mp (fun w => z (Or.inr w)), Int32.not_lt.mp (fun w => z2 (Or.inr (Or.inl w)))⟩ g3 (fun b b0 b1 => by
      have g := hT.g_bnc _ (hc.2.1.2.2.1 b b0 b1).1
      have k4 := kn_lt hH.2.1 g.2.2.2.1.2.1 (by decide)
      have k5 := kn_lt hH.2.1 g.2.2.2.2.1.2.1 (by decide)
      rw [(hu.2.1.1 b b0 b1).2.2] at k4
      rw [g7 (C + 16) _ (by omega), g7 _ _ (bl b b0 b1)]
      exact ⟨k4, k5⟩) g8 g9 ga gb (fun k k0 k1 => by
      have kx := (hc.2.2.2.1.2 k k0 k1).1
      rw [g7 (C + 8) _ (by omega), g7 _ _ (kn_lt hH.2.1 kx (by decide))]
      exact kn_lt hH.2.1 (hT.g_txt _ kx).2.2.1 (by decide)) gc (fun j hj => (gd j hj).1) ge)
end ZO1
section ZO2
variable {d n t M : Nat} {K L : Nat → Nat} {I I0 J J0 J1 J2 : Nat → Nat → Int32} {R : Nat → Nat → Nat} {P : Option Value → AH → Prop} {f : Nat → Int32} {e : Int32}
variable {Y Z W : Nat → Nat → Int32}
theorem xp_bench (hS : m_S M K L R) {I1 : Nat → Nat → Int32} (hm : okY Y) {c : Nat} (hc : c + 130 ≤ 84000) (hF : mF M c I1 I) (hg : gs M I0 I Y) {p q : Int32} (hP : ∀ w J, J M 35 = I M 35 → gs M I0 J (bnY Y p q) → P (some (.int w)) (n, t, K, L, J, R)) : a_does (d + 13) 178 [a_rf M, .int p, .int q] (n, t, K, L, I, R) P := by
  have hy := hm.1
  have h17 := hy.2.2.2.2.1
  have h10 := hy.2.1
  have h6 := hy.2.2.2.2.2.1
  have hl := hy.2.2.1
  have hrf : ∀ k : Nat, mF M (c + 120) I1 (a_ui I (M + 23) k (I (M + 23) k + 1)) ∧ gs M I0 (a_ui I (M + 23) k (I (M + 23) k + 1)) Y := fun k => ⟨mF_le (sF_refused hF) (by omega), gs_ui hg (sR_refused hg.1) (by omega) ⟨by unfold ps1; omega, by omega⟩⟩
  have e17 : I M 17 = Y 0 17 := hg.2.2.1 0 17 (by unfold ps1; omega)
  have e6 : I M 6 = Y 0 6 := hg.2.2.1 0 6 (by unfold ps1; omega)
  have e0 : I M 0 = Y 0 0 := hg.2.2.1 0 0 (by unfold ps1; omega)
  have m17 : ∀ x : Int32, (x ≤ Y 0 17 - 1) = (x < Y 0 17) := fun x => le_m1 h17
  have m6 : ∀ x : Int32, (x ≤ Y 0 6 - 1) = (x < Y 0 6) := fun x => le_m1 ⟨h6.1, Int32.le_trans h6.2 (by decide)⟩
  have m199 : ∀ x : Int32, (x ≤ 199) = (x < 200) := fun x => propext ⟨fun q => Int32.lt_of_le_of_lt q (by decide), fun q => by clear hP hrf hm hg hF; grind⟩
  have g6 := rg_benches hg.1
  have g6' := g6
  rw [e6] at g6'
  unfold bnY at hP
  refine pe_bench (d := d + 11) hS g6 (fun z => ?_) (fun z z2 => ?_) (fun z z2 => ?_)
  · rw [if_pos (Or.inl z)] at hP
    exact hP _ _ (by rw [ui_ap, if_neg (by omega)]) (hrf 4).2
  · rw [e6] at z2
    rw [if_pos (Or.inr z2)] at hP
    exact hP _ _ (by rw [ui_ap, if_neg (by omega)]) (hrf 6).2
  · rw [e6] at z2 ⊢
    rw [if_neg (fun w => w.elim z z2)] at hP
    refine hP _ _ (by rw [ui_ap, if_neg (by omega), ui_ap, if_neg (by omega), ui_ap, if_neg (by omega)]) ?_
    have n6 : ¬ Y 0 6 = 6 := fun w => z2 (Or.inr (Or.inr w))
    have s1 := gs_up2 hg (k := 5) (j := (Y 0 6).toNatClampNeg) (v := p) (by omega) (by omega) (sR_can hg.1)
    have s2 := gs_up2 s1 (k := 6) (j := (Y 0 6).toNatClampNeg) (v := q) (by omega) (by omega) (sR_hostsOf s1.1)
    exact gs_up2 s2 (k := 0) (j := 6) (v := Y 0 6 + 1) (by omega) (by omega) (sR_benches s2.1 (by clear hP hrf hm hy hl hg hF s1 s2; grind))
end ZO2
end
section
/-! calls that change nothing -/
section ZP0
variable {d n t C c : Nat} {K L : Nat → Nat} {I I0 J J0 J1 J2 : Nat → Nat → Int32} {R : Nat → Nat → Nat} {P : Option Value → AH → Prop}
variable {Y Z W : Nat → Nat → Int32}
/-- but for what is kept of facts, and the count of refusals -/
def cqP (C c n t : Nat) (K L : Nat → Nat) (I : Nat → Nat → Int32) (R : Nat → Nat → Nat) (J : Nat → Nat → Int32) : Prop := cH C c n t K L J R ∧ ∀ x j, ¬ x = C + 9 → ¬ x = C + 10 → ¬ x = C + 42 → J x j = I x j
theorem cq_refl {m : Nat} (hH : cH C c m t K L I R) : cqP C c m t K L I R I := ⟨hH, fun _ _ _ _ _ => rfl⟩
theorem cq_C {m : Nat} (h : cqP C c m t K L I0 R I) (g : dC C K L R I J) : cqP C c m t K L I0 R J := ⟨cH_J h.1 g.1, fun x j a b e => (g.2 x j a b).trans (h.2 x j a b e)⟩
theorem cq_rf (hZ : cqP C c (n + 1) t K L I0 R I) {v : Int32} (hP : ∀ J, cqP C c (n + 1) t K L I0 R J → P (some (.int v)) (n + 1, t, K, L, J, R)) : a_does (d + 1) 10 [a_rf C, .int v] (n + 1, t, K, L, I, R) P := cr_refuse hZ.1 (fun J z => hP J ⟨z.1, fun x j a b e => (z.2 x j e).trans (hZ.2 x j a b e)⟩)
theorem cu_q {m : Nat} (hH : cH C c m t K L I R) (hu : cuP C K L I R Y) (h : cqP C c m t K L I R J) : cuP C K L J R Y := by
  have hT := hH.1
  have hJ : ∀ k j, ¬ k = 9 ∧ ¬ k = 10 ∧ ¬ k = 42 → J (C + k) j = I (C + k) j := fun k j hk => h.2 _ _ (by omega) (by omega) (by omega)
  have hX : ∀ x j, C + 43 < x → J x j = I x j := fun x j hx => h.2 _ _ (by omega) (by omega) (by omega)
  have hz : ∀ k j : Nat, ¬ (k = 0 ∧ j = 1000) → Y k j = Y k j := fun _ _ _ => rfl
  exact cu_gen hT hu ⟨fun k hk => funext (fun j => hz k j (by omega)), fun j hj => hz 0 j (by omega)⟩ (fE_of hH hX ⟨hJ 14 4 (by omega), hJ 14 5 (by omega)⟩ (hJ 7 3 (by omega))) (by rw [hJ 1 6 (by omega), hz 0 0 (by omega)]; exact hu.1.1.1) (fun j => by rw [hJ 2 j (by omega), hz 1 j (by omega)]; exact hu.1.1.2.1 j) (lsP_e hu.1.1.2.2 (fun j => hJ 3 j (by omega)) (fun k j hk => hz k j (by unfold kL at hk; omega))) ⟨by rw [hJ 14 6 (by omega), hz 0 9 (by omega)]; exact hu.1.2.1.2.1, by rw [hz 0 9 (by omega)]; exact hu.1.2.2.2.2.2.2.2.1⟩ (mr_e hu.1.2.2.1.2.1 hu.1.2.2.1.2.2.1 (fun x kx => hX _ _ (by have := (hT.g_ask x kx).1; omega)) (fun k j hk => hz k j (by unfold kK at hk; omega))) (mk_e hu.1.2.2.2.2.2.2.2.2.2.2.2.1 (fun k j hk => hz k j (by unfold kK at hk; omega))) (siM_e hu.2.2.1.1 (fun k j hk => hJ k j (by omega)) (fun k j hk => hz k j (by unfold kM at hk; omega))) (siT_e hu.2.2.1.2.1 (fun k j hk => hJ k j (by omega)) (fun k j hk => hz k j (by unfold kT at hk; omega))) (siY_e hu.2.2.1.2.2.2 (fun k j hk => hz k j (by unfold kY at hk; omega))) (fun e => hX _ _ (by have := (hT.g_ask _ (hu.2.2.1.2.2.1.2 e).1).1; omega))
theorem cq_habit (hH : cH C c (n + 1) t K L I R) {q w : Int32} (hP : ∀ v J, cqP C c (n + 1) t K L I R J → P (some (.int v)) (n + 1, t, K, L, J, R)) : a_does (d + 70) 97 [a_rf C, .int q, .int w] (n + 1, t, K, L, I, R) P := by
  have hT := hH.1
  have hS := hT.s
  have hZ : cqP C c (n + 1) t K L I R I := cq_refl hH
  have gA := hT.g_asksR
  have gB := hT.g_benchesR
  have gX := hT.g_textsR
  rw [a_enter1 (M := a_m97) rfl (a_cat_rf (a_cat_int (a_cat_int a_cat_nil))) (show 3 ≤ 3 by decide)]
  show a_at _ (a_xm a_m97) 0 [some (a_rf C), some (.int q), some (.int w)] [] _ _
  repeat' first
    | with_reducible apply And.intro
    | with_reducible assumption
    | with_reducible intro _
    | exact hP _ _ hZ
    | exact hP _ _ (by assumption)
    | exact hP _ _ (cq_C hZ (by assumption))
    | refine cq_rf hZ (fun _ _ => ?_)
    | refine cq_rf (cq_C hZ (by assumption)) (fun _ _ => ?_)
    | exact dC_T (by assumption)
    | with_reducible apply ck_habitOf hT
    | with_reducible apply ck_doubtOf hT
    | simp only [q97_0, q97_1, q97_4, q97_7, q97_10, q97_11, q97_12, q97_15, q97_16, q97_17, q97_18, q97_21, q97_22, q97_23, q97_26, q97_29, q97_30, q97_32, q97_35, q97_36, q97_37, q97_38, q97_41, q97_42, q97_45, q97_46, q97_49, q97_52, q97_53, q97_56, q97_57, q97_60, k_0 hS, z_C hS, r_0_3 hS, k_17 hS, z_17, sp_isReaderC, as_nil, as_i, as_r, Nat.reduceAdd, Nat.reduceLeDiff, z_eq0, z_eq1, z_or, z_em, Classical.not_not, not_false_eq_true, not_true_eq_false, true_and, and_true, false_and, and_false, and_self, true_implies, false_implies, implies_true, Option.toList_some, Option.toList_none, List.cons_append, List.nil_append, Nat.add_eq_zero_iff, a_nl_i, a_nl_r, a_nl_n, true_or, or_true, eq_self, a_isRA_22, a_isRA_24, a_isRA_32, a_isA_20, ok_4, ok_5, ok_6, ok_7, ok_9, ok_20, ok_21, ok_30, ok_50, ok_180, ok_192, ok_200]
  all_goals ((try clear ih); (try clear hP); (try clear hl); (try clear hq); (try clear hZ); (try clear hH); grind [ui_ap])
theorem cq_passed (hH : cH C c (n + 1) t K L I R) {w : Int32} (hP : ∀ v J, cqP C c (n + 1) t K L I R J → P (some (.int v)) (n + 1, t, K, L, J, R)) : a_does (d + 70) 125 [a_rf C, .int w] (n + 1, t, K, L, I, R) P := by
  have hT := hH.1
  have hS := hT.s
  have hZ : cqP C c (n + 1) t K L I R I := cq_refl hH
  have gA := hT.g_asksR
  have gB := hT.g_benchesR
  have gX := hT.g_textsR
  rw [a_enter1 (M := a_m125) rfl (a_cat_rf (a_cat_int a_cat_nil)) (show 2 ≤ 2 by decide)]
  show a_at _ (a_xm a_m125) 0 [some (a_rf C), some (.int w)] [] _ _
  repeat' first
    | with_reducible apply And.intro
    | with_reducible assumption
    | with_reducible intro _
    | exact hP _ _ hZ
    | exact hP _ _ (by assumption)
    | exact hP _ _ (cq_C hZ (by assumption))
    | refine cq_rf hZ (fun _ _ => ?_)
    | refine cq_rf (cq_C hZ (by assumption)) (fun _ _ => ?_)
    | exact dC_T (by assumption)
    | with_reducible apply ck_passedAt hT
    | simp only [q125_0, q125_1, q125_2, q125_5, q125_6, q125_8, q125_11, q125_12, q125_13, q125_14, q125_17, q125_18, q125_21, q125_24, q125_27, q125_28, q125_31, q125_32, q125_35, k_0 hS, z_C hS, r_0_5 hS, k_22 hS, z_22, as_nil, as_i, as_r, Nat.reduceAdd, Nat.reduceLeDiff, z_eq0, z_eq1, z_or, z_em, Classical.not_not, not_false_eq_true, not_true_eq_false, true_and, and_true, false_and, and_false, and_self, true_implies, false_implies, implies_true, Option.toList_some, Option.toList_none, List.cons_append, List.nil_append, Nat.add_eq_zero_iff, a_nl_i, a_nl_r, a_nl_n, true_or, or_true, eq_self, a_isRA_22, a_isRA_24, a_isRA_32, a_isA_20, ok_4, ok_5, ok_6, ok_7, ok_9, ok_20, ok_21, ok_30, ok_50, ok_180, ok_192, ok_200]
  all_goals ((try clear ih); (try clear hP); (try clear hl); (try clear hq); (try clear hZ); (try clear hH); grind [ui_ap])
theorem cq_hosts (hH : cH C c (n + 1) t K L I R) {b s : Int32} (hP : ∀ v J, cqP C c (n + 1) t K L I R J → P (some (.int v)) (n + 1, t, K, L, J, R)) : a_does (d + 70) 140 [a_rf C, .int b, .int s] (n + 1, t, K, L, I, R) P := by
  have hT := hH.1
  have hS := hT.s
  have hZ : cqP C c (n + 1) t K L I R I := cq_refl hH
  have gA := hT.g_asksR
  have gB := hT.g_benchesR
  have gX := hT.g_textsR
  have gb := gB b.toNatClampNeg
  have hw : K (R (C + 16) b.toNatClampNeg) = 3 → K (R (R (C + 16) b.toNatClampNeg) 3) = 20 ∧ L (R (R (C + 16) b.toNatClampNeg) 3) = 200 ∧ ¬ R (R (C + 16) b.toNatClampNeg) 3 = 0 := fun hb => by
    obtain ⟨b1, -, ⟨w1, w2, w3⟩, -⟩ := hT.g_bnc _ hb
    exact ⟨w2, w3, by omega⟩
  have ho : 0 ≤ s ∧ s < 200 → K (R (C + 16) b.toNatClampNeg) = 3 → a_ok s (L (R (R (C + 16) b.toNatClampNeg) 3)) := fun h1 h2 => by rw [(hw h2).2.1, ok_200]; exact h1
  rw [a_enter1 (M := a_m140) rfl (a_cat_rf (a_cat_int (a_cat_int a_cat_nil))) (show 3 ≤ 4 by decide)]
  show a_at _ (a_xm a_m140) 0 [some (a_rf C), some (.int b), some (.int s), none] [] _ _
  repeat' first
    | with_reducible apply And.intro
    | with_reducible assumption
    | with_reducible intro _
    | exact hP _ _ hZ
    | exact hP _ _ (by assumption)
    | exact hP _ _ (cq_C hZ (by assumption))
    | refine cq_rf hZ (fun _ _ => ?_)
    | refine cq_rf (cq_C hZ (by assumption)) (fun _ _ => ?_)
    | exact dC_T (by assumption)
    | simp only [q140_0, q140_1, q140_4, q140_5, q140_8, q140_9, q140_10, q140_13, q140_14, q140_17, q140_20, q140_21, q140_22, q140_25, q140_26, q140_27, q140_30, q140_31, q140_32, k_0 hS, z_C hS, r_0_4 hS, k_14 hS, z_14, sp_benchAt hS gB, sp_isShiftC, as_nil, as_i, as_r, Nat.reduceAdd, Nat.reduceLeDiff, z_eq0, z_eq1, z_or, z_em, Classical.not_not, not_false_eq_true, not_true_eq_false, true_and, and_true, false_and, and_false, and_self, true_implies, false_implies, implies_true, Option.toList_some, Option.toList_none, List.cons_append, List.nil_append, Nat.add_eq_zero_iff, a_nl_i, a_nl_r, a_nl_n, true_or, or_true, eq_self, a_isRA_22, a_isRA_24, a_isRA_32, a_isA_20, ok_4, ok_5, ok_6, ok_7, ok_9, ok_20, ok_21, ok_30, ok_50, ok_180, ok_192, ok_200]
  all_goals ((try clear ih); (try clear hP); (try clear hl); (try clear hq); (try clear hZ); (try clear hH); grind [ui_ap])
theorem cq_lead (hH : cH C c (n + 1) t K L I R) {b s : Int32} (hP : ∀ v J, cqP C c (n + 1) t K L I R J → P (some (.int v)) (n + 1, t, K, L, J, R)) : a_does (d + 70) 162 [a_rf C, .int b, .int s] (n + 1, t, K, L, I, R) P := by
  have hT := hH.1
  have hS := hT.s
  have hZ : cqP C c (n + 1) t K L I R I := cq_refl hH
  have gA := hT.g_asksR
  have gB := hT.g_benchesR
  have gX := hT.g_textsR
  have gb := gB b.toNatClampNeg
  have hw : K (R (C + 16) b.toNatClampNeg) = 3 → K (R (R (C + 16) b.toNatClampNeg) 4) = 20 ∧ L (R (R (C + 16) b.toNatClampNeg) 4) = 200 ∧ ¬ R (R (C + 16) b.toNatClampNeg) 4 = 0 := fun hb => by
    obtain ⟨b1, -, -, ⟨w1, w2, w3⟩, -⟩ := hT.g_bnc _ hb
    exact ⟨w2, w3, by omega⟩
  have ho : 0 ≤ s ∧ s < 200 → K (R (C + 16) b.toNatClampNeg) = 3 → a_ok s (L (R (R (C + 16) b.toNatClampNeg) 4)) := fun h1 h2 => by rw [(hw h2).2.1, ok_200]; exact h1
  rw [a_enter1 (M := a_m162) rfl (a_cat_rf (a_cat_int (a_cat_int a_cat_nil))) (show 3 ≤ 4 by decide)]
  show a_at _ (a_xm a_m162) 0 [some (a_rf C), some (.int b), some (.int s), none] [] _ _
  repeat' first
    | with_reducible apply And.intro
    | with_reducible assumption
    | with_reducible intro _
    | exact hP _ _ hZ
    | exact hP _ _ (by assumption)
    | exact hP _ _ (cq_C hZ (by assumption))
    | refine cq_rf hZ (fun _ _ => ?_)
    | refine cq_rf (cq_C hZ (by assumption)) (fun _ _ => ?_)
    | exact dC_T (by assumption)
    | simp only [q162_0, q162_1, q162_4, q162_5, q162_8, q162_9, q162_10, q162_13, q162_14, q162_17, q162_20, q162_21, q162_22, q162_25, q162_26, q162_27, q162_30, q162_31, q162_32, k_0 hS, z_C hS, r_0_4 hS, k_14 hS, z_14, sp_benchAt hS gB, sp_isShiftC, as_nil, as_i, as_r, Nat.reduceAdd, Nat.reduceLeDiff, z_eq0, z_eq1, z_or, z_em, Classical.not_not, not_false_eq_true, not_true_eq_false, true_and, and_true, false_and, and_false, and_self, true_implies, false_implies, implies_true, Option.toList_some, Option.toList_none, List.cons_append, List.nil_append, Nat.add_eq_zero_iff, a_nl_i, a_nl_r, a_nl_n, true_or, or_true, eq_self, a_isRA_22, a_isRA_24, a_isRA_32, a_isA_20, ok_4, ok_5, ok_6, ok_7, ok_9, ok_20, ok_21, ok_30, ok_50, ok_180, ok_192, ok_200]
  all_goals ((try clear ih); (try clear hP); (try clear hl); (try clear hq); (try clear hZ); (try clear hH); grind [ui_ap])
theorem cq_had (hH : cH C c (n + 1) t K L I R) {b s k : Int32} (hP : ∀ v J, cqP C c (n + 1) t K L I R J → P (some (.int v)) (n + 1, t, K, L, J, R)) : a_does (d + 70) 160 [a_rf C, .int b, .int s, .int k] (n + 1, t, K, L, I, R) P := by
  have hT := hH.1
  have hS := hT.s
  have hZ : cqP C c (n + 1) t K L I R I := cq_refl hH
  have gA := hT.g_asksR
  have gB := hT.g_benchesR
  have gX := hT.g_textsR
  have gb := gB b.toNatClampNeg
  rw [a_enter1 (M := a_m160) rfl (a_cat_rf (a_cat_int (a_cat_int (a_cat_int a_cat_nil)))) (show 4 ≤ 5 by decide)]
  show a_at _ (a_xm a_m160) 0 [some (a_rf C), some (.int b), some (.int s), some (.int k), none] [] _ _
  repeat' first
    | with_reducible apply And.intro
    | with_reducible assumption
    | with_reducible intro _
    | exact hP _ _ hZ
    | exact hP _ _ (by assumption)
    | exact hP _ _ (cq_C hZ (by assumption))
    | refine cq_rf hZ (fun _ _ => ?_)
    | refine cq_rf (cq_C hZ (by assumption)) (fun _ _ => ?_)
    | exact dC_T (by assumption)
    | with_reducible apply ck_knownOn
    | simp only [q160_0, q160_1, q160_4, q160_5, q160_8, q160_10, q160_12, q160_15, q160_16, q160_19, q160_22, q160_23, q160_24, q160_27, q160_28, q160_29, q160_32, q160_33, q160_35, q160_38, q160_39, q160_40, q160_41, q160_44, q160_47, q160_50, q160_51, q160_53, q160_56, q160_57, q160_59, q160_60, q160_61, q160_64, k_0 hS, z_C hS, r_0_4 hS, k_14 hS, z_14, r_0_0 hS, k_1 hS, z_1, sp_benchAt hS gB, sp_isShiftC, as_nil, as_i, as_r, Nat.reduceAdd, Nat.reduceLeDiff, z_eq0, z_eq1, z_or, z_em, Classical.not_not, not_false_eq_true, not_true_eq_false, true_and, and_true, false_and, and_false, and_self, true_implies, false_implies, implies_true, Option.toList_some, Option.toList_none, List.cons_append, List.nil_append, Nat.add_eq_zero_iff, a_nl_i, a_nl_r, a_nl_n, true_or, or_true, eq_self, a_isRA_22, a_isRA_24, a_isRA_32, a_isA_20, ok_4, ok_5, ok_6, ok_7, ok_9, ok_20, ok_21, ok_30, ok_50, ok_180, ok_192, ok_200]
  all_goals ((try clear ih); (try clear hP); (try clear hl); (try clear hq); (try clear hZ); (try clear hH); grind [ui_ap])
theorem cq_count (hH : cH C c (n + 1) t K L I R) {w : Int32} (hP : ∀ v J, cqP C c (n + 1) t K L I R J → P (some (.int v)) (n + 1, t, K, L, J, R)) : a_does (d + 70) 166 [a_rf C, .int w] (n + 1, t, K, L, I, R) P := by
  have hT := hH.1
  have hS := hT.s
  have hZ : cqP C c (n + 1) t K L I R I := cq_refl hH
  have gA := hT.g_asksR
  have gB := hT.g_benchesR
  have gX := hT.g_textsR
  rw [a_enter1 (M := a_m166) rfl (a_cat_rf (a_cat_int a_cat_nil)) (show 2 ≤ 2 by decide)]
  show a_at _ (a_xm a_m166) 0 [some (a_rf C), some (.int w)] [] _ _
  repeat' first
    | with_reducible apply And.intro
    | with_reducible assumption
    | with_reducible intro _
    | exact hP _ _ hZ
    | exact hP _ _ (by assumption)
    | exact hP _ _ (cq_C hZ (by assumption))
    | refine cq_rf hZ (fun _ _ => ?_)
    | refine cq_rf (cq_C hZ (by assumption)) (fun _ _ => ?_)
    | exact dC_T (by assumption)
    | with_reducible apply ck_placedAsks hT
    | with_reducible apply ck_placedShifts hT
    | simp only [q166_0, q166_1, q166_52, q166_53, q166_56, q166_59, q166_60, q166_61, q166_64, q166_67, q166_68, q166_69, q166_72, q166_75, q166_76, q166_77, q166_80, q166_83, q166_84, q166_85, q166_88, q166_91, q166_92, q166_93, q166_96, q166_99, q166_100, q166_101, q166_104, q166_107, q166_108, q166_109, q166_112, q166_115, q166_116, q166_117, q166_120, q166_121, q166_122, q166_124, q166_127, q166_128, q166_130, q166_133, q166_134, q166_137, q166_138, q166_140, q166_141, q166_142, q166_145, q166_147, k_0 hS, z_C hS, r_0_0 hS, k_1 hS, z_1, r_0_4 hS, k_14 hS, z_14, r_0_1 hS, k_7 hS, z_7, r_0_2 hS, k_11 hS, z_11, r_0_8 hS, k_42 hS, l_42 hS, z_42, as_nil, as_i, as_r, Nat.reduceAdd, Nat.reduceLeDiff, z_eq0, z_eq1, z_or, z_em, Classical.not_not, not_false_eq_true, not_true_eq_false, true_and, and_true, false_and, and_false, and_self, true_implies, false_implies, implies_true, Option.toList_some, Option.toList_none, List.cons_append, List.nil_append, Nat.add_eq_zero_iff, a_nl_i, a_nl_r, a_nl_n, true_or, or_true, eq_self, a_isRA_22, a_isRA_24, a_isRA_32, a_isA_20, ok_4, ok_5, ok_6, ok_7, ok_9, ok_20, ok_21, ok_30, ok_50, ok_180, ok_192, ok_200, a_sw, ti_0, ti_1, ti_2, ti_3, ti_4, ti_5, ti_6, ti_7, ti_8, ti_9, ti_10, ti_11, ti_12, ti_13, ti_14, ti_15, ti_16, ti_17, ti_18, ti_19, ti_98, ti_99, ti_100, ti_101, ti_102, ti_103, ti_104, ti_105, ti_106, ti_107, ti_108, ti_109, ti_110, ti_111, ti_112, ti_113, ti_114, ti_115, ti_116]
  all_goals ((try clear ih); (try clear hP); (try clear hl); (try clear hq); (try clear hZ); (try clear hH); grind [ui_ap])
theorem cq_askOf (hH : cH C c (n + 1) t K L I R) {q w : Int32} (hP : ∀ v J, cqP C c (n + 1) t K L I R J → P (some (.int v)) (n + 1, t, K, L, J, R)) : a_does (d + 70) 53 [a_rf C, .int q, .int w] (n + 1, t, K, L, I, R) P := by
  have hT := hH.1
  have hS := hT.s
  have hZ : cqP C c (n + 1) t K L I R I := cq_refl hH
  have gA := hT.g_asksR
  have gB := hT.g_benchesR
  have gX := hT.g_textsR
  have gi := gA q.toNatClampNeg
  have ga := fun h => hT.g_ask (R (C + 15) q.toNatClampNeg) (gi.resolve_left h)
  rw [a_enter1 (M := a_m53) rfl (a_cat_rf (a_cat_int (a_cat_int a_cat_nil))) (show 3 ≤ 4 by decide)]
  show a_at _ (a_xm a_m53) 0 [some (a_rf C), some (.int q), some (.int w), none] [] _ _
  repeat' first
    | with_reducible apply And.intro
    | with_reducible assumption
    | with_reducible intro _
    | exact hP _ _ hZ
    | exact hP _ _ (by assumption)
    | exact hP _ _ (cq_C hZ (by assumption))
    | refine cq_rf hZ (fun _ _ => ?_)
    | refine cq_rf (cq_C hZ (by assumption)) (fun _ _ => ?_)
    | exact dC_T (by assumption)
    | with_reducible apply ck_loss ?_ hT
    | with_reducible apply ck_hallOwed ?_ hT
    | simp only [q53_0, q53_1, q53_4, q53_5, q53_8, q53_9, q53_10, q53_13, q53_14, q53_15, q53_18, q53_19, q53_20, q53_76, q53_77, q53_80, q53_81, q53_82, q53_85, q53_86, q53_87, q53_90, q53_91, q53_92, q53_95, q53_96, q53_97, q53_100, q53_101, q53_102, q53_105, q53_106, q53_107, q53_110, q53_111, q53_112, q53_115, q53_118, q53_119, q53_122, q53_123, q53_124, q53_125, q53_128, q53_129, q53_132, q53_133, q53_134, q53_137, q53_138, q53_141, q53_142, q53_143, q53_145, q53_148, k_0 hS, z_C hS, r_0_4 hS, k_14 hS, z_14, sp_askAt hS gA, as_nil, as_i, as_r, Nat.reduceAdd, Nat.reduceLeDiff, z_eq0, z_eq1, z_or, z_em, Classical.not_not, not_false_eq_true, not_true_eq_false, true_and, and_true, false_and, and_false, and_self, true_implies, false_implies, implies_true, Option.toList_some, Option.toList_none, List.cons_append, List.nil_append, Nat.add_eq_zero_iff, a_nl_i, a_nl_r, a_nl_n, true_or, or_true, eq_self, a_isRA_22, a_isRA_24, a_isRA_32, a_isA_20, ok_4, ok_5, ok_6, ok_7, ok_9, ok_20, ok_21, ok_30, ok_50, ok_180, ok_192, ok_200, a_sw, ti_0, ti_1, ti_2, ti_3, ti_4, ti_5, ti_6, ti_7, ti_8, ti_9, ti_10, ti_11, ti_12, ti_13, ti_14, ti_15, ti_16, ti_17, ti_18, ti_19, ti_98, ti_99, ti_100, ti_101, ti_102, ti_103, ti_104, ti_105, ti_106, ti_107, ti_108, ti_109, ti_110, ti_111, ti_112, ti_113, ti_114, ti_115, ti_116]
  all_goals ((try clear ih); (try clear hP); (try clear hl); (try clear hq); (try clear hZ); (try clear hH); grind [ui_ap])
theorem cq_barred (hH : cH C c (n + 1) t K L I R) {q b s w : Int32} (hP : ∀ v J, cqP C c (n + 1) t K L I R J → P (some (.int v)) (n + 1, t, K, L, J, R)) : a_does (d + 70) 85 [a_rf C, .int q, .int b, .int s, .int w] (n + 1, t, K, L, I, R) P := by
  have hT := hH.1
  have hS := hT.s
  have hZ : cqP C c (n + 1) t K L I R I := cq_refl hH
  have gA := hT.g_asksR
  have gB := hT.g_benchesR
  have gX := hT.g_textsR
  have gi := gA q.toNatClampNeg
  have ga := fun h => hT.g_ask (R (C + 15) q.toNatClampNeg) (gi.resolve_left h)
  have gb := gB b.toNatClampNeg
  rw [a_enter1 (M := a_m85) rfl (a_cat_rf (a_cat_int (a_cat_int (a_cat_int (a_cat_int a_cat_nil))))) (show 5 ≤ 6 by decide)]
  show a_at _ (a_xm a_m85) 0 [some (a_rf C), some (.int q), some (.int b), some (.int s), some (.int w), none] [] _ _
  repeat' first
    | with_reducible apply And.intro
    | with_reducible assumption
    | with_reducible intro _
    | exact hP _ _ hZ
    | exact hP _ _ (by assumption)
    | exact hP _ _ (cq_C hZ (by assumption))
    | refine cq_rf hZ (fun _ _ => ?_)
    | refine cq_rf (cq_C hZ (by assumption)) (fun _ _ => ?_)
    | exact dC_T (by assumption)
    | with_reducible apply ck_least ?_ hT
    | with_reducible apply ck_quarrel ?_ hT
    | simp only [q85_0, q85_1, q85_4, q85_5, q85_8, q85_10, q85_12, q85_15, q85_16, q85_19, q85_20, q85_23, q85_26, q85_27, q85_30, q85_33, q85_34, q85_35, q85_38, q85_39, q85_41, q85_76, q85_77, q85_80, q85_82, q85_84, q85_85, q85_86, q85_89, q85_91, q85_94, q85_95, q85_98, q85_99, q85_100, q85_101, q85_104, q85_106, q85_108, q85_109, q85_110, q85_113, q85_115, q85_118, q85_119, q85_122, q85_123, q85_124, q85_125, q85_128, q85_130, q85_132, q85_133, q85_134, q85_137, q85_138, q85_139, q85_142, q85_144, q85_145, q85_146, q85_147, q85_150, q85_151, q85_152, q85_155, q85_157, q85_158, q85_159, q85_160, q85_163, q85_164, q85_165, q85_167, q85_170, k_0 hS, z_C hS, r_0_4 hS, k_14 hS, z_14, r_0_1 hS, k_7 hS, z_7, sp_askAt hS gA, sp_benchAt hS gB, sp_isShiftC, as_nil, as_i, as_r, Nat.reduceAdd, Nat.reduceLeDiff, z_eq0, z_eq1, z_or, z_em, Classical.not_not, not_false_eq_true, not_true_eq_false, true_and, and_true, false_and, and_false, and_self, true_implies, false_implies, implies_true, Option.toList_some, Option.toList_none, List.cons_append, List.nil_append, Nat.add_eq_zero_iff, a_nl_i, a_nl_r, a_nl_n, true_or, or_true, eq_self, a_isRA_22, a_isRA_24, a_isRA_32, a_isA_20, ok_4, ok_5, ok_6, ok_7, ok_9, ok_20, ok_21, ok_30, ok_50, ok_180, ok_192, ok_200, a_sw, ti_0, ti_1, ti_2, ti_3, ti_4, ti_5, ti_6, ti_7, ti_8, ti_9, ti_10, ti_11, ti_12, ti_13, ti_14, ti_15, ti_16, ti_17, ti_18, ti_19, ti_98, ti_99, ti_100, ti_101, ti_102, ti_103, ti_104, ti_105, ti_106, ti_107, ti_108, ti_109, ti_110, ti_111, ti_112, ti_113, ti_114, ti_115, ti_116]
  all_goals ((try clear ih); (try clear hP); (try clear hl); (try clear hq); (try clear hZ); (try clear hH); grind [ui_ap])
end ZP0
section ZP1
variable {d n t M : Nat} {K L : Nat → Nat} {I I0 J J0 J1 J2 : Nat → Nat → Int32} {R : Nat → Nat → Nat} {P : Option Value → AH → Prop} {f : Nat → Int32} {e : Int32}
variable {Y Z W : Nat → Nat → Int32}
/-- but for what is read, and the count of refusals -/
def mQ (M : Nat) (I J : Nat → Nat → Int32) : Prop := mR M J ∧ ∀ x j, ¬ sC M x j → ¬ x = M + 23 → J x j = I x j
theorem mQ_refl (h : mR M I) : mQ M I I := ⟨h, fun _ _ _ _ => rfl⟩
theorem mQ_ui (h : mQ M I J) {k : Nat} {v : Int32} : mQ M I (a_ui J (M + 23) k v) := ⟨sR_refused h.1, fun x j a b => by rw [ui_ap, if_neg (fun q => b q.1)]; exact h.2 x j a b⟩
theorem mQ_C (h : mC M I J) : mQ M I J := ⟨h.1, fun x j a _ => h.2 x j a⟩
theorem gs_Q (hg : gs M I0 I Y) (h : mQ M I J) : gs M I0 J Y := ⟨h.1, fun x j p => (h.2 x j (by unfold sC; omega) (by omega)).trans (hg.2.1 x j p), psE_tr hg.2.2 (psE_of (fun k j p => h.2 _ _ (by unfold sC; unfold ps1 at p; omega) (by unfold ps1 at p; omega)))⟩

theorem xq_askOf (hS : m_S M K L R) (hR : mR M I) {a w : Int32} (hP : ∀ v J, mQ M I J → P (some (.int v)) (n, t, K, L, J, R)) : a_does (d + 16) 188 [a_rf M, .int a, .int w] (n, t, K, L, I, R) P := by
  have g3 := mC_refl hR
  have hQ0 : mQ M I I := mQ_refl hR
  have g1 := rg_asks hR
  rw [a_enter1 (M := a_m188) rfl (a_cat_rf (a_cat_int (a_cat_int a_cat_nil))) (show 3 ≤ 3 by decide)]
  show a_at _ (a_xm a_m188) 0 [some (a_rf M), some (.int a), some (.int w)] [] _ _
  repeat' first
    | with_reducible apply And.intro
    | with_reducible assumption
    | with_reducible intro _
    | with_reducible apply hP
    | with_reducible apply mQ_ui
    | with_reducible apply mQ_C
    | with_reducible apply ct_lossOf hS hR
    | with_reducible apply ct_owedOf hS g3
    | simp only [q188_0, q188_1, q188_2, q188_5, q188_8, q188_9, q188_10, q188_13, q188_14, q188_15, q188_16, q188_18, q188_21, q188_24, q188_25, q188_27, q188_30, q188_31, q188_32, q188_84, q188_85, q188_88, q188_89, q188_90, q188_91, q188_92, q188_95, q188_96, q188_97, q188_98, q188_99, q188_102, q188_103, q188_104, q188_105, q188_106, q188_109, q188_110, q188_111, q188_112, q188_113, q188_116, q188_117, q188_118, q188_119, q188_120, q188_123, q188_124, q188_125, q188_126, q188_127, q188_130, q188_131, q188_132, q188_133, q188_134, q188_137, q188_138, q188_139, q188_142, q188_143, q188_146, q188_147, q188_148, q188_149, q188_150, q188_153, q188_154, q188_155, q188_156, q188_159, m_0 hS, m_K hS, mR_kind hS, mK_kind hS, mL_kind hS, mR_group hS, mK_group hS, mL_group hS, mR_land hS, mK_land hS, mL_land hS, mR_length hS, mK_length hS, mL_length hS, mR_danger hS, mK_danger hS, mL_danger hS, mR_atBench hS, mK_atBench hS, mL_atBench hS, mR_atShift hS, mK_atShift hS, mL_atShift hS, mR_isGone hS, mK_isGone hS, mL_isGone hS, sp_isAsk hS, sp_refuse_1 hS, sp_refuse_2 hS, sp_refuse_3 hS, sp_refuse_4 hS, sp_refuse_5 hS, sp_refuse_6 hS, sp_in, as_nil, as_i, as_r, Nat.reduceAdd, Nat.reduceLeDiff, z_eq0, z_eq1, z_or, z_em, Classical.not_not, not_false_eq_true, not_true_eq_false, true_and, and_true, false_and, and_false, and_self, true_implies, false_implies, implies_true, Option.toList_some, Option.toList_none, List.cons_append, List.nil_append, Nat.add_eq_zero_iff, a_nl_i, a_nl_r, a_nl_n, true_or, or_true, eq_self, ok_4, ok_5, ok_6, ok_7, ok_9, ok_10, ok_20, ok_21, ok_24, ok_30, ok_48, ok_50, ok_60, ok_80, ok_120, ok_180, ok_192, ok_200, ok_900, ok_1000, ok_84000, a_sw, ti_0, ti_1, ti_2, ti_3, ti_4, ti_5, ti_6, ti_7, ti_8, ti_9, ti_10, ti_11, ti_12, ti_13, ti_14, ti_15, ti_16, ti_17, ti_18, ti_19, ti_98, ti_99, ti_100, ti_101, ti_102, ti_103, ti_104, ti_105, ti_106, ti_107, ti_108, ti_109, ti_110, ti_111, ti_112, ti_113, ti_114, ti_115, ti_116]
  all_goals grind [ui_ap]
theorem xq_barred (hS : m_S M K L R) (hR : mR M I) {a b s w : Int32} (hP : ∀ v J, mQ M I J → P (some (.int v)) (n, t, K, L, J, R)) : a_does (d + 16) 208 [a_rf M, .int a, .int b, .int s, .int w] (n, t, K, L, I, R) P := by
  have g3 := mC_refl hR
  have hQ0 : mQ M I I := mQ_refl hR
  have g1 := rg_asks hR
  rw [a_enter1 (M := a_m208) rfl (a_cat_rf (a_cat_int (a_cat_int (a_cat_int (a_cat_int a_cat_nil))))) (show 5 ≤ 5 by decide)]
  show a_at _ (a_xm a_m208) 0 [some (a_rf M), some (.int a), some (.int b), some (.int s), some (.int w)] [] _ _
  repeat' first
    | with_reducible apply And.intro
    | with_reducible assumption
    | with_reducible intro _
    | with_reducible apply hP
    | with_reducible apply mQ_ui
    | with_reducible apply mQ_C
    | with_reducible apply ct_holding hS g3
    | with_reducible apply ct_quarrel hS g3
    | simp only [q208_0, q208_1, q208_2, q208_5, q208_8, q208_9, q208_10, q208_13, q208_16, q208_17, q208_20, q208_23, q208_24, q208_25, q208_28, q208_29, q208_31, q208_32, q208_33, q208_36, q208_39, q208_40, q208_42, q208_45, q208_46, q208_48, q208_76, q208_77, q208_79, q208_80, q208_81, q208_82, q208_85, q208_88, q208_89, q208_92, q208_93, q208_94, q208_95, q208_97, q208_98, q208_99, q208_100, q208_103, q208_106, q208_107, q208_110, q208_111, q208_112, q208_113, q208_115, q208_116, q208_117, q208_118, q208_121, q208_122, q208_123, q208_124, q208_125, q208_126, q208_128, q208_129, q208_132, q208_133, q208_136, q208_137, q208_140, m_0 hS, m_K hS, sp_isAsk hS, sp_isBench hS, sp_isShift, sp_refuse_1 hS, sp_refuse_2 hS, sp_refuse_3 hS, sp_refuse_4 hS, sp_refuse_5 hS, sp_refuse_6 hS, sp_in, as_nil, as_i, as_r, Nat.reduceAdd, Nat.reduceLeDiff, z_eq0, z_eq1, z_or, z_em, Classical.not_not, not_false_eq_true, not_true_eq_false, true_and, and_true, false_and, and_false, and_self, true_implies, false_implies, implies_true, Option.toList_some, Option.toList_none, List.cons_append, List.nil_append, Nat.add_eq_zero_iff, a_nl_i, a_nl_r, a_nl_n, true_or, or_true, eq_self, ok_4, ok_5, ok_6, ok_7, ok_9, ok_10, ok_20, ok_21, ok_24, ok_30, ok_48, ok_50, ok_60, ok_80, ok_120, ok_180, ok_192, ok_200, ok_900, ok_1000, ok_84000, a_sw, ti_0, ti_1, ti_2, ti_3, ti_4, ti_5, ti_6, ti_7, ti_8, ti_9, ti_10, ti_11, ti_12, ti_13, ti_14, ti_15, ti_16, ti_17, ti_18, ti_19, ti_98, ti_99, ti_100, ti_101, ti_102, ti_103, ti_104, ti_105, ti_106, ti_107, ti_108, ti_109, ti_110, ti_111, ti_112, ti_113, ti_114, ti_115, ti_116]
  all_goals grind [ui_ap]
theorem xq_habit (hS : m_S M K L R) (hR : mR M I) {r w : Int32} (hP : ∀ v J, mQ M I J → P (some (.int v)) (n, t, K, L, J, R)) : a_does (d + 16) 217 [a_rf M, .int r, .int w] (n, t, K, L, I, R) P := by
  have g3 := mC_refl hR
  have hQ0 : mQ M I I := mQ_refl hR
  rw [a_enter1 (M := a_m217) rfl (a_cat_rf (a_cat_int (a_cat_int a_cat_nil))) (show 3 ≤ 3 by decide)]
  show a_at _ (a_xm a_m217) 0 [some (a_rf M), some (.int r), some (.int w)] [] _ _
  repeat' first
    | with_reducible apply And.intro
    | with_reducible assumption
    | with_reducible intro _
    | with_reducible apply hP
    | with_reducible apply mQ_ui
    | with_reducible apply mQ_C
    | with_reducible apply ct_habitOf hS hR
    | with_reducible apply ct_doubtOf hS hR
    | simp only [q217_0, q217_1, q217_4, q217_7, q217_8, q217_9, q217_12, q217_13, q217_14, q217_15, q217_16, q217_19, q217_22, q217_23, q217_25, q217_28, q217_29, q217_30, q217_33, q217_34, q217_35, q217_38, q217_41, q217_42, q217_43, q217_46, m_0 hS, m_K hS, sp_isReader, sp_refuseFar_1 hS, sp_refuseFar_2 hS, sp_in, as_nil, as_i, as_r, Nat.reduceAdd, Nat.reduceLeDiff, z_eq0, z_eq1, z_or, z_em, Classical.not_not, not_false_eq_true, not_true_eq_false, true_and, and_true, false_and, and_false, and_self, true_implies, false_implies, implies_true, Option.toList_some, Option.toList_none, List.cons_append, List.nil_append, Nat.add_eq_zero_iff, a_nl_i, a_nl_r, a_nl_n, true_or, or_true, eq_self, ok_4, ok_5, ok_6, ok_7, ok_9, ok_10, ok_20, ok_21, ok_24, ok_30, ok_48, ok_50, ok_60, ok_80, ok_120, ok_180, ok_192, ok_200, ok_900, ok_1000, ok_84000, a_sw, ti_0, ti_1, ti_2, ti_3, ti_4, ti_5, ti_6, ti_7, ti_8, ti_9, ti_10, ti_11, ti_12, ti_13, ti_14, ti_15, ti_16, ti_17, ti_18, ti_19, ti_98, ti_99, ti_100, ti_101, ti_102, ti_103, ti_104, ti_105, ti_106, ti_107, ti_108, ti_109, ti_110, ti_111, ti_112, ti_113, ti_114, ti_115, ti_116]
  all_goals grind [ui_ap]
theorem xq_passed (hS : m_S M K L R) (hR : mR M I) {w : Int32} (hP : ∀ v J, mQ M I J → P (some (.int v)) (n, t, K, L, J, R)) : a_does (d + 16) 240 [a_rf M, .int w] (n, t, K, L, I, R) P := by
  have g3 := mC_refl hR
  have hQ0 : mQ M I I := mQ_refl hR
  have g1 := rg_passedMany hR
  rw [a_enter1 (M := a_m240) rfl (a_cat_rf (a_cat_int a_cat_nil)) (show 2 ≤ 2 by decide)]
  show a_at _ (a_xm a_m240) 0 [some (a_rf M), some (.int w)] [] _ _
  repeat' first
    | with_reducible apply And.intro
    | with_reducible assumption
    | with_reducible intro _
    | with_reducible apply hP
    | with_reducible apply mQ_ui
    | with_reducible apply mQ_C
    | simp only [q240_0, q240_1, q240_2, q240_5, q240_6, q240_8, q240_11, q240_12, q240_13, q240_14, q240_17, q240_18, q240_21, q240_24, q240_25, q240_26, q240_29, q240_32, q240_33, q240_36, q240_37, q240_38, q240_41, q240_43, m_0 hS, m_K hS, mR_passedAsk hS, mK_passedAsk hS, mL_passedAsk hS, sp_refuse_1 hS, sp_refuse_2 hS, sp_refuse_3 hS, sp_refuse_4 hS, sp_refuse_5 hS, sp_refuse_6 hS, as_nil, as_i, as_r, Nat.reduceAdd, Nat.reduceLeDiff, z_eq0, z_eq1, z_or, z_em, Classical.not_not, not_false_eq_true, not_true_eq_false, true_and, and_true, false_and, and_false, and_self, true_implies, false_implies, implies_true, Option.toList_some, Option.toList_none, List.cons_append, List.nil_append, Nat.add_eq_zero_iff, a_nl_i, a_nl_r, a_nl_n, true_or, or_true, eq_self, ok_4, ok_5, ok_6, ok_7, ok_9, ok_10, ok_20, ok_21, ok_24, ok_30, ok_48, ok_50, ok_60, ok_80, ok_120, ok_180, ok_192, ok_200, ok_900, ok_1000, ok_84000, a_sw, ti_0, ti_1, ti_2, ti_3, ti_4, ti_5, ti_6, ti_7, ti_8, ti_9, ti_10, ti_11, ti_12, ti_13, ti_14, ti_15, ti_16, ti_17, ti_18, ti_19, ti_98, ti_99, ti_100, ti_101, ti_102, ti_103, ti_104, ti_105, ti_106, ti_107, ti_108, ti_109, ti_110, ti_111, ti_112, ti_113, ti_114, ti_115, ti_116]
  all_goals grind [ui_ap]
theorem xq_had (hS : m_S M K L R) (hR : mR M I) {b s k : Int32} (hP : ∀ v J, mQ M I J → P (some (.int v)) (n, t, K, L, J, R)) : a_does (d + 16) 256 [a_rf M, .int b, .int s, .int k] (n, t, K, L, I, R) P := by
  have g3 := mC_refl hR
  have hQ0 : mQ M I I := mQ_refl hR
  rw [a_enter1 (M := a_m256) rfl (a_cat_rf (a_cat_int (a_cat_int (a_cat_int a_cat_nil)))) (show 4 ≤ 4 by decide)]
  show a_at _ (a_xm a_m256) 0 [some (a_rf M), some (.int b), some (.int s), some (.int k)] [] _ _
  repeat' first
    | with_reducible apply And.intro
    | with_reducible assumption
    | with_reducible intro _
    | with_reducible apply hP
    | with_reducible apply mQ_ui
    | with_reducible apply mQ_C
    | with_reducible apply ct_hadAt hS hR
    | simp only [q256_0, q256_1, q256_2, q256_5, q256_8, q256_9, q256_12, q256_15, q256_16, q256_17, q256_20, q256_21, q256_22, q256_25, q256_26, q256_28, q256_31, q256_32, q256_33, q256_34, q256_37, q256_40, q256_41, q256_43, q256_46, q256_49, q256_50, q256_51, q256_52, q256_53, q256_56, m_0 hS, m_K hS, sp_isBench hS, sp_isShift, sp_refuse_1 hS, sp_refuse_2 hS, sp_refuse_3 hS, sp_refuse_4 hS, sp_refuse_5 hS, sp_refuse_6 hS, as_nil, as_i, as_r, Nat.reduceAdd, Nat.reduceLeDiff, z_eq0, z_eq1, z_or, z_em, Classical.not_not, not_false_eq_true, not_true_eq_false, true_and, and_true, false_and, and_false, and_self, true_implies, false_implies, implies_true, Option.toList_some, Option.toList_none, List.cons_append, List.nil_append, Nat.add_eq_zero_iff, a_nl_i, a_nl_r, a_nl_n, true_or, or_true, eq_self, ok_4, ok_5, ok_6, ok_7, ok_9, ok_10, ok_20, ok_21, ok_24, ok_30, ok_48, ok_50, ok_60, ok_80, ok_120, ok_180, ok_192, ok_200, ok_900, ok_1000, ok_84000, a_sw, ti_0, ti_1, ti_2, ti_3, ti_4, ti_5, ti_6, ti_7, ti_8, ti_9, ti_10, ti_11, ti_12, ti_13, ti_14, ti_15, ti_16, ti_17, ti_18, ti_19, ti_98, ti_99, ti_100, ti_101, ti_102, ti_103, ti_104, ti_105, ti_106, ti_107, ti_108, ti_109, ti_110, ti_111, ti_112, ti_113, ti_114, ti_115, ti_116]
  all_goals grind [ui_ap]
theorem xq_shiftOf (hS : m_S M K L R) (hR : mR M I) {s w k : Int32} (hP : ∀ v J, mQ M I J → P (some (.int v)) (n, t, K, L, J, R)) : a_does (d + 16) 176 [a_rf M, .int s, .int w, .int k] (n, t, K, L, I, R) P := by
  have g3 := mC_refl hR
  have hQ0 : mQ M I I := mQ_refl hR
  rw [a_enter1 (M := a_m176) rfl (a_cat_rf (a_cat_int (a_cat_int (a_cat_int a_cat_nil)))) (show 4 ≤ 4 by decide)]
  show a_at _ (a_xm a_m176) 0 [some (a_rf M), some (.int s), some (.int w), some (.int k)] [] _ _
  repeat' first
    | with_reducible apply And.intro
    | with_reducible assumption
    | with_reducible intro _
    | with_reducible apply hP
    | with_reducible apply mQ_ui
    | with_reducible apply mQ_C
    | with_reducible apply ct_lostIn hS hR
    | simp only [q176_0, q176_1, q176_4, q176_7, q176_8, q176_9, q176_12, q176_13, q176_14, q176_15, q176_16, q176_19, q176_22, q176_23, q176_25, q176_28, q176_29, q176_30, q176_33, q176_34, q176_36, q176_39, q176_40, q176_41, q176_42, q176_45, q176_48, q176_49, q176_51, q176_54, q176_55, q176_56, q176_59, q176_60, q176_63, q176_64, q176_65, q176_68, q176_69, q176_70, q176_71, q176_74, m_0 hS, m_K hS, mR_modes hS, mK_modes hS, mL_modes hS, sp_isShift, sp_refuse_1 hS, sp_refuse_2 hS, sp_refuse_3 hS, sp_refuse_4 hS, sp_refuse_5 hS, sp_refuse_6 hS, sp_in, as_nil, as_i, as_r, Nat.reduceAdd, Nat.reduceLeDiff, z_eq0, z_eq1, z_or, z_em, Classical.not_not, not_false_eq_true, not_true_eq_false, true_and, and_true, false_and, and_false, and_self, true_implies, false_implies, implies_true, Option.toList_some, Option.toList_none, List.cons_append, List.nil_append, Nat.add_eq_zero_iff, a_nl_i, a_nl_r, a_nl_n, true_or, or_true, eq_self, ok_4, ok_5, ok_6, ok_7, ok_9, ok_10, ok_20, ok_21, ok_24, ok_30, ok_48, ok_50, ok_60, ok_80, ok_120, ok_180, ok_192, ok_200, ok_900, ok_1000, ok_84000, a_sw, ti_0, ti_1, ti_2, ti_3, ti_4, ti_5, ti_6, ti_7, ti_8, ti_9, ti_10, ti_11, ti_12, ti_13, ti_14, ti_15, ti_16, ti_17, ti_18, ti_19, ti_98, ti_99, ti_100, ti_101, ti_102, ti_103, ti_104, ti_105, ti_106, ti_107, ti_108, ti_109, ti_110, ti_111, ti_112, ti_113, ti_114, ti_115, ti_116]
  all_goals grind [ui_ap]
theorem xq_hosts (hS : m_S M K L R) (hR : mR M I) {b s : Int32} (hP : ∀ v J, mQ M I J → P (some (.int v)) (n, t, K, L, J, R)) : a_does (d + 16) 245 [a_rf M, .int b, .int s] (n, t, K, L, I, R) P := by
  have g3 := mC_refl hR
  have hQ0 : mQ M I I := mQ_refl hR
  have g1 := rg_benches hR
  rw [a_enter1 (M := a_m245) rfl (a_cat_rf (a_cat_int (a_cat_int a_cat_nil))) (show 3 ≤ 5 by decide)]
  show a_at _ (a_xm a_m245) 0 [some (a_rf M), some (.int b), some (.int s), none, none] [] _ _
  repeat' first
    | with_reducible apply And.intro
    | with_reducible assumption
    | with_reducible intro _
    | with_reducible apply hP
    | with_reducible apply mQ_ui
    | with_reducible apply mQ_C
    | with_reducible apply lp_hosts_26 hS hR
    | simp only [q245_0, q245_1, q245_2, q245_5, q245_8, q245_9, q245_12, q245_15, q245_16, q245_17, q245_20, q245_21, q245_22, q245_23, q245_24, m_0 hS, m_K hS, sp_isBench hS, sp_isShift, sp_refuse_1 hS, sp_refuse_2 hS, sp_refuse_3 hS, sp_refuse_4 hS, sp_refuse_5 hS, sp_refuse_6 hS, as_nil, as_i, as_r, Nat.reduceAdd, Nat.reduceLeDiff, z_eq0, z_eq1, z_or, z_em, Classical.not_not, not_false_eq_true, not_true_eq_false, true_and, and_true, false_and, and_false, and_self, true_implies, false_implies, implies_true, Option.toList_some, Option.toList_none, List.cons_append, List.nil_append, Nat.add_eq_zero_iff, a_nl_i, a_nl_r, a_nl_n, true_or, or_true, eq_self, ok_4, ok_5, ok_6, ok_7, ok_9, ok_10, ok_20, ok_21, ok_24, ok_30, ok_48, ok_50, ok_60, ok_80, ok_120, ok_180, ok_192, ok_200, ok_900, ok_1000, ok_84000, a_sw, ti_0, ti_1, ti_2, ti_3, ti_4, ti_5, ti_6, ti_7, ti_8, ti_9, ti_10, ti_11, ti_12, ti_13, ti_14, ti_15, ti_16, ti_17, ti_18, ti_19, ti_98, ti_99, ti_100, ti_101, ti_102, ti_103, ti_104, ti_105, ti_106, ti_107, ti_108, ti_109, ti_110, ti_111, ti_112, ti_113, ti_114, ti_115, ti_116]
  all_goals grind [ui_ap]
theorem xq_count (hS : m_S M K L R) (hR : mR M I) {w : Int32} (hP : ∀ v J, mQ M I J → P (some (.int v)) (n, t, K, L, J, R)) : a_does (d + 16) 261 [a_rf M, .int w] (n, t, K, L, I, R) P := by
  have g3 := mC_refl hR
  have hQ0 : mQ M I I := mQ_refl hR
  rw [a_enter1 (M := a_m261) rfl (a_cat_rf (a_cat_int a_cat_nil)) (show 2 ≤ 4 by decide)]
  show a_at _ (a_xm a_m261) 0 [some (a_rf M), some (.int w), none, none] [] _ _
  repeat' first
    | with_reducible apply And.intro
    | with_reducible assumption
    | with_reducible intro _
    | with_reducible apply hP
    | with_reducible apply mQ_ui
    | with_reducible apply mQ_C
    | with_reducible apply lp_count_69 hS hR
    | with_reducible apply lp_count_113 hS hR
    | simp only [q261_0, q261_1, q261_2, q261_3, q261_52, q261_53, q261_56, q261_57, q261_58, q261_61, q261_62, q261_63, q261_66, q261_67, q261_68, q261_101, q261_102, q261_105, q261_106, q261_107, q261_110, q261_111, q261_112, q261_150, q261_151, q261_154, q261_155, q261_156, q261_159, q261_160, q261_161, q261_163, q261_165, q261_168, q261_171, q261_172, q261_175, q261_176, q261_178, q261_179, q261_180, q261_183, q261_185, m_0 hS, m_K hS, mR_refused hS, mK_refused hS, mL_refused hS, sp_in, as_nil, as_i, as_r, Nat.reduceAdd, Nat.reduceLeDiff, z_eq0, z_eq1, z_or, z_em, Classical.not_not, not_false_eq_true, not_true_eq_false, true_and, and_true, false_and, and_false, and_self, true_implies, false_implies, implies_true, Option.toList_some, Option.toList_none, List.cons_append, List.nil_append, Nat.add_eq_zero_iff, a_nl_i, a_nl_r, a_nl_n, true_or, or_true, eq_self, ok_4, ok_5, ok_6, ok_7, ok_9, ok_10, ok_20, ok_21, ok_24, ok_30, ok_48, ok_50, ok_60, ok_80, ok_120, ok_180, ok_192, ok_200, ok_900, ok_1000, ok_84000, a_sw, ti_0, ti_1, ti_2, ti_3, ti_4, ti_5, ti_6, ti_7, ti_8, ti_9, ti_10, ti_11, ti_12, ti_13, ti_14, ti_15, ti_16, ti_17, ti_18, ti_19, ti_98, ti_99, ti_100, ti_101, ti_102, ti_103, ti_104, ti_105, ti_106, ti_107, ti_108, ti_109, ti_110, ti_111, ti_112, ti_113, ti_114, ti_115, ti_116]
  all_goals grind [ui_ap]
theorem xq_lead (hS : m_S M K L R) (hR : mR M I) {b s : Int32} (hP : ∀ v J, mQ M I J → P (some (.int v)) (n, t, K, L, J, R)) : a_does (d + 16) 258 [a_rf M, .int b, .int s] (n, t, K, L, I, R) P := by
  have g3 := mC_refl hR
  have hQ0 : mQ M I I := mQ_refl hR
  rw [a_enter1 (M := a_m258) rfl (a_cat_rf (a_cat_int (a_cat_int a_cat_nil))) (show 3 ≤ 5 by decide)]
  show a_at _ (a_xm a_m258) 0 [some (a_rf M), some (.int b), some (.int s), none, none] [] _ _
  repeat' first
    | with_reducible apply And.intro
    | with_reducible assumption
    | with_reducible intro _
    | with_reducible apply hP
    | with_reducible apply mQ_ui
    | with_reducible apply mQ_C
    | with_reducible apply lp_lead_27 hS hR
    | simp only [q258_0, q258_1, q258_2, q258_5, q258_8, q258_9, q258_12, q258_15, q258_16, q258_17, q258_20, q258_21, q258_23, q258_24, q258_25, m_0 hS, m_K hS, sp_isBench hS, sp_isShift, sp_refuse_1 hS, sp_refuse_2 hS, sp_refuse_3 hS, sp_refuse_4 hS, sp_refuse_5 hS, sp_refuse_6 hS, as_nil, as_i, as_r, Nat.reduceAdd, Nat.reduceLeDiff, z_eq0, z_eq1, z_or, z_em, Classical.not_not, not_false_eq_true, not_true_eq_false, true_and, and_true, false_and, and_false, and_self, true_implies, false_implies, implies_true, Option.toList_some, Option.toList_none, List.cons_append, List.nil_append, Nat.add_eq_zero_iff, a_nl_i, a_nl_r, a_nl_n, true_or, or_true, eq_self, ok_4, ok_5, ok_6, ok_7, ok_9, ok_10, ok_20, ok_21, ok_24, ok_30, ok_48, ok_50, ok_60, ok_80, ok_120, ok_180, ok_192, ok_200, ok_900, ok_1000, ok_84000, a_sw, ti_0, ti_1, ti_2, ti_3, ti_4, ti_5, ti_6, ti_7, ti_8, ti_9, ti_10, ti_11, ti_12, ti_13, ti_14, ti_15, ti_16, ti_17, ti_18, ti_19, ti_98, ti_99, ti_100, ti_101, ti_102, ti_103, ti_104, ti_105, ti_106, ti_107, ti_108, ti_109, ti_110, ti_111, ti_112, ti_113, ti_114, ti_115, ti_116]
  all_goals grind [ui_ap]
end ZP1
end
section
/-! the class: isOpen, suits -/
section ZQ0
variable {d n t C : Nat} {K L : Nat → Nat} {I I0 J J0 J1 J2 : Nat → Nat → Int32} {R : Nat → Nat → Nat} {P : Option Value → AH → Prop}
variable {Y Z : Nat → Nat → Int32}
/-- none of the BARS that hang on what others have -/
def opI (Y : Nat → Nat → Int32) (a b s w : Int32) : Nat → Int32 → Bool
  | 0, _ => true
  | k + 1, x => if s + x ≤ 199 ∧ hgI Y a b (s + x) (Y 0 17).toNatClampNeg 0 0 = 0 ∧ ¬ bcf (fhY Y a b (s + x)) < (if (w >>> (x &&& 31)) &&& 1 = 0 then 1 else 2) then opI Y a b s w k (x + 1) else false
/-- none of the BARS that don't -/
def suI (Y : Nat → Nat → Int32) (a b s : Int32) : Nat → Int32 → Bool
  | 0, _ => true
  | k + 1, x => if fxY Y a b (s + x) = 0 ∧ ¬ 0 ≤ wtA Y 66 a b (s + x) ∧ ¬ (Y 7 a.toNatClampNeg = 2 ∧ ¬ (Y 16 a.toNatClampNeg ≤ (s + x) ∧ (s + x) ≤ Y 17 a.toNatClampNeg)) then suI Y a b s k (x + 1) else false
def opB (Y : Nat → Nat → Int32) (a b s w : Int32) : Bool := opI Y a b s w (Y 10 a.toNatClampNeg).toNatClampNeg 0
def suB (Y : Nat → Nat → Int32) (a b s : Int32) : Bool := suI Y a b s (Y 10 a.toNatClampNeg).toNatClampNeg 0
theorem br_0 {a b s f : Int32} : brY Y a b s f = 0 ↔ fxY Y a b s = 0 ∧ hgI Y a b s (Y 0 17).toNatClampNeg 0 0 = 0 ∧ ¬ 0 ≤ wtA Y 66 a b s ∧ ¬ lkH Y a b s ∧ ¬ tnY Y a f ∧ ¬ bdY Y a s := by
  unfold brY lkH tnY bdY
  by_cases c1 : fxY Y a b s = 0
  · rw [if_neg (fun q => q c1)]
    by_cases c2 : hgI Y a b s (Y 0 17).toNatClampNeg 0 0 = 0
    · rw [if_neg (fun q => q c2)]
      by_cases c3 : 0 ≤ wtA Y 66 a b s
      · rw [if_pos c3]
        exact ⟨fun q => absurd q (by decide), fun q => absurd c3 q.2.2.1⟩
      · rw [if_neg c3]
        by_cases c4 : bcf (fhY Y a b s) < (if 0 ≤ wtA Y 87 a b s then 2 else 1)
        · rw [if_pos c4]
          exact ⟨fun q => absurd q (by decide), fun q => absurd c4 q.2.2.2.1⟩
        · rw [if_neg c4]
          by_cases c5 : Y 7 a.toNatClampNeg = 1 ∧ (¬ 0 ≤ Y 20 (Y 16 a.toNatClampNeg).toNatClampNeg ∨ f - (Y 21 (Y 16 a.toNatClampNeg).toNatClampNeg + Y 10 (Y 16 a.toNatClampNeg).toNatClampNeg - 1) - 1 < Y 17 a.toNatClampNeg)
          · rw [if_pos c5]
            exact ⟨fun q => absurd q (by decide), fun q => absurd c5 q.2.2.2.2.1⟩
          · rw [if_neg c5]
            by_cases c6 : Y 7 a.toNatClampNeg = 2 ∧ ¬ (Y 16 a.toNatClampNeg ≤ s ∧ s ≤ Y 17 a.toNatClampNeg)
            · rw [if_pos c6]
              exact ⟨fun q => absurd q (by decide), fun q => absurd c6 q.2.2.2.2.2⟩
            · rw [if_neg c6]
              exact ⟨fun _ => ⟨c1, c2, c3, c4, c5, c6⟩, fun _ => rfl⟩
    · rw [if_pos c2]
      exact ⟨fun q => absurd q c2, fun q => absurd q.2.1 c2⟩
  · rw [if_pos c1]
    exact ⟨fun q => absurd q c1, fun q => absurd q.1 c1⟩
/-- FIT is what suits, is open, and isn't too near -/
theorem ft_split {a b s w : Int32} : ∀ (k : Nat) (x : Int32), 0 ≤ x → x ≤ 4 → x.toNatClampNeg + k ≤ 4 → (∀ z : Int32, 0 ≤ z → z.toNatClampNeg < x.toNatClampNeg + k → ((w >>> (z &&& 31)) &&& 1 = 0 ↔ ¬ 0 ≤ wtA Y 87 a b (s + z))) → (ftI Y a b s k x = 0 ↔ suI Y a b s k x = true ∧ (k = 0 ∨ ¬ tnY Y a s) ∧ opI Y a b s w k x = true) := by
  intro k
  induction k with
  | zero =>
    intro x _ _ _ _
    unfold ftI suI opI
    exact ⟨fun _ => ⟨rfl, Or.inl rfl, rfl⟩, fun _ => rfl⟩
  | succ k ih =>
    intro x h0 h4 hk hw
    have hx : x < 4 := cl_lt2 h0 (by decide) (by rw [show (4 : Int32).toNatClampNeg = 4 from rfl]; omega)
    obtain ⟨-, s2, s3, s4⟩ := lp_st h0 hx
    have hi := ih (x + 1) s2 s3 (by omega) (fun z z0 z1 => hw z z0 (by omega))
    have hwx := hw x h0 (by omega)
    have g0 := brY_rng (Y := Y) (x := a) (b := b) (s := s + x) (f := s)
    have hb := br_0 (Y := Y) (a := a) (b := b) (s := s + x) (f := s)
    have el : (bcf (fhY Y a b (s + x)) < (if (w >>> (x &&& 31)) &&& 1 = 0 then 1 else 2)) ↔ lkH Y a b (s + x) := by
      unfold lkH
      by_cases c : 0 ≤ wtA Y 87 a b (s + x)
      · rw [if_pos c, if_neg (fun q => hwx.mp q c)]
      · rw [if_neg c, if_pos (hwx.mpr c)]
    unfold ftI suI opI
    by_cases c : brY Y a b (s + x) s = 0
    · obtain ⟨c1, c2, c3, c4, c5, c6⟩ := hb.mp c
      rw [c, if_neg (by decide), if_pos ⟨c1, c3, c6⟩, if_pos ⟨fx_lt c1, c2, fun q => c4 (el.mp q)⟩, hi]
      exact ⟨fun q => ⟨q.1, Or.inr c5, q.2.2⟩, fun q => ⟨q.1, Or.inr c5, q.2.2⟩⟩
    · have hpos : 0 < brY Y a b (s + x) s := by
        clear hb el hi hw hwx ih
        grind
      rw [if_pos hpos]
      refine ⟨fun q => absurd q c, fun ⟨q1, q2, q3⟩ => ?_⟩
      refine absurd (hb.mpr ?_) c
      have q2 : ¬ tnY Y a s := q2.resolve_left (by omega)
      by_cases d1 : fxY Y a b (s + x) = 0 ∧ ¬ 0 ≤ wtA Y 66 a b (s + x) ∧ ¬ (Y 7 a.toNatClampNeg = 2 ∧ ¬ (Y 16 a.toNatClampNeg ≤ (s + x) ∧ (s + x) ≤ Y 17 a.toNatClampNeg))
      · by_cases d2 : s + x ≤ 199 ∧ hgI Y a b (s + x) (Y 0 17).toNatClampNeg 0 0 = 0 ∧ ¬ bcf (fhY Y a b (s + x)) < (if (w >>> (x &&& 31)) &&& 1 = 0 then 1 else 2)
        · exact ⟨d1.1, d2.2.1, d1.2.1, fun q => d2.2.2 (el.mpr q), q2, d1.2.2⟩
        · rw [if_neg d2] at q3
          exact absurd q3 Bool.false_ne_true
      · rw [if_neg d1] at q1
        exact absurd q1 Bool.false_ne_true
theorem le_isOpen_3 (hT : cT C K L I R) (hc : cpP C K L I R Y) {a : Nat} {i : Int32} (ap : aaP C K I Y i a) {b s w : Int32} (hb : 0 ≤ b ∧ b < Y 0 6) (hs : 0 ≤ s ∧ s ≤ 199) {V : Bool} (hP : P (some (.int (if V = true then 1 else 0))) (n, t, K, L, I, R)) : ∀ x : Int32, x ≤ 4 → ∀ u, 0 ≤ x → x ≤ Y 10 i.toNatClampNeg → opI Y i b s w ((Y 10 i.toNatClampNeg).toNatClampNeg - x.toNatClampNeg) x = V → a_at (d + 3) (a_xm a_m136) 3 [some (a_rf (C + 14)), some (a_rf a), some (.int b), some (.int s), some (.int w), some (.int x), u] [] (n, t, K, L, I, R) P := by
  have y10 := hc.2.2.2.2.2.1 i.toNatClampNeg
  have hy := hc.2.2.2.2
  have hS := hT.s
  obtain ⟨ai, ⟨ha, an0, a4n⟩, am, al⟩ := id ap
  obtain ⟨a1, a2, a4, a3⟩ := hT.g_ask a ha
  have a0 : (a = 0) = False := eq_false an0
  have e2 : I a 2 = Y 10 i.toNatClampNeg := al.1.2.2.1
  generalize ez : Y 10 i.toNatClampNeg = z at y10 e2
  refine up_ind 4 (fun x x4 ih => ?_)
  intro u h0 h1 hV
  have hexit : ¬ x < z → P (some (.int 1)) (n, t, K, L, I, R) := fun q => by
    rw [(lp_end h1 q).1] at hV
    rw [show V = true from hV.symm, if_pos rfl] at hP
    exact hP
  have hgo : x < z → a_at (d + 3) (a_xm a_m136) 12 [some (a_rf (C + 14)), some (a_rf a), some (.int b), some (.int s), some (.int w), some (.int x), u] [] (n, t, K, L, I, R) P := fun q => by
    obtain ⟨t1, t2, t3, t4⟩ := lp_st h0 q
    have hx4 : x < 4 := Int32.lt_of_lt_of_le q y10.2
    rw [t1] at hV
    have hno : ¬ (s + x ≤ 199 ∧ hgI Y i b (s + x) (Y 0 17).toNatClampNeg 0 0 = 0 ∧ ¬ bcf (fhY Y i b (s + x)) < (if (w >>> (x &&& 31)) &&& 1 = 0 then 1 else 2)) → P (some (.int 0)) (n, t, K, L, I, R) := fun e => by
      unfold opI at hV
      rw [if_neg e] at hV
      rw [← hV, if_neg Bool.false_ne_true] at hP
      exact hP
    have hyes : (s + x ≤ 199 ∧ hgI Y i b (s + x) (Y 0 17).toNatClampNeg 0 0 = 0 ∧ ¬ bcf (fhY Y i b (s + x)) < (if (w >>> (x &&& 31)) &&& 1 = 0 then 1 else 2)) → ∀ u, a_at (d + 3) (a_xm a_m136) 3 [some (a_rf (C + 14)), some (a_rf a), some (.int b), some (.int s), some (.int w), some (.int (x + 1)), u] [] (n, t, K, L, I, R) P := fun e u => by
      unfold opI at hV
      rw [if_pos e] at hV
      exact ih hx4 u t2 t3 hV
    clear hP hV hexit ih
    by_cases h199 : s + x ≤ 199
    · have hs2 : 0 ≤ s + x ∧ s + x < 200 := by clear hno hyes hc ap al am hy; grind
      have hg := hg_class (W := whC C I R) (a := i) (b := b) (s := s + x) hc.2.1.2.2.2 hy.2.1 hy.2.2.2.2.1.1 hy.2.2.2.2.2.1.1 hb hs2
      have n10 : ¬ (1 : Int32) = 0 := by decide
      have n67 : ¬ (6 : Int32) = 0 ∧ ¬ (7 : Int32) = 0 := by decide
      simp only [q136_12, q136_13, q136_15, q136_16, q136_18, q136_20, q136_23, q136_26, q136_27, q136_28, q136_29, q136_31, k_14 hS, z_14, sp_isShiftC, as_nil, as_i, as_r, Nat.reduceAdd, Nat.reduceLeDiff, z_eq0, z_eq1, z_or, z_em, Classical.not_not, not_false_eq_true, not_true_eq_false, true_and, and_true, false_and, and_false, and_self, true_implies, false_implies, implies_true, Option.toList_some, Option.toList_none, List.cons_append, List.nil_append, Nat.add_eq_zero_iff, a_nl_i, a_nl_r, a_nl_n, true_or, or_true, eq_self, a_isRA_22, a_isRA_24, a_isRA_32, a_isA_20, ok_4, ok_5, ok_6, ok_7, ok_9, ok_20, ok_21, ok_30, ok_50, ok_180, ok_192, ok_200, hs2]
      try simp only [true_and, and_true, true_implies, false_implies, implies_true, not_true_eq_false, not_false_eq_true]
      refine ce_isHadByOther (d := d + 1) hT hc ap hb hs2 ?_
      by_cases had : ¬ (whC C I R) b (s + x).toNatClampNeg = -9 ∧ ¬ (whC C I R) b (s + x).toNatClampNeg = i
      · rw [if_pos had] at hg ⊢
        have hn := hno (fun e => by rw [hg] at e; exact n67.1 e.2.1)
        clear hno hyes hc ap al am hy hg
        simp only [q136_34, q136_74, q136_75, as_nil, as_i, as_r, Nat.reduceAdd, Nat.reduceLeDiff, z_eq0, z_eq1, z_or, z_em, Classical.not_not, not_false_eq_true, not_true_eq_false, true_and, and_true, false_and, and_false, and_self, true_implies, false_implies, implies_true, Option.toList_some, Option.toList_none, List.cons_append, List.nil_append, Nat.add_eq_zero_iff, a_nl_i, a_nl_r, a_nl_n, true_or, or_true, eq_self, a_isRA_22, a_isRA_24, a_isRA_32, a_isA_20, ok_4, ok_5, ok_6, ok_7, ok_9, ok_20, ok_21, ok_30, ok_50, ok_180, ok_192, ok_200, n10]
        try simp only [true_and, and_true, true_implies, false_implies, implies_true, not_true_eq_false, not_false_eq_true]
        first
          | exact hn
          | grind
      · rw [if_neg had] at hg ⊢
        simp only [q136_34, q136_37, q136_38, q136_39, q136_40, q136_42, k_14 hS, z_14, as_nil, as_i, as_r, Nat.reduceAdd, Nat.reduceLeDiff, z_eq0, z_eq1, z_or, z_em, Classical.not_not, not_false_eq_true, not_true_eq_false, true_and, and_true, false_and, and_false, and_self, true_implies, false_implies, implies_true, Option.toList_some, Option.toList_none, List.cons_append, List.nil_append, Nat.add_eq_zero_iff, a_nl_i, a_nl_r, a_nl_n, true_or, or_true, eq_self, a_isRA_22, a_isRA_24, a_isRA_32, a_isA_20, ok_4, ok_5, ok_6, ok_7, ok_9, ok_20, ok_21, ok_30, ok_50, ok_180, ok_192, ok_200]
        try simp only [true_and, and_true, true_implies, false_implies, implies_true, not_true_eq_false, not_false_eq_true]
        refine ce_isGearElsewhere (d := d + 1) hT hc ap hs2 ?_
        by_cases gear : 0 ≤ Y 14 i.toNatClampNeg ∧ geC (whC C I R) (Y 14) i b (s + x) (Y 0 17) (Y 0 6).toNatClampNeg 0 = 1
        · rw [if_pos gear] at hg ⊢
          have hn := hno (fun e => by rw [hg] at e; exact n67.2 e.2.1)
          clear hno hyes hc ap al am hy hg
          simp only [q136_45, q136_74, q136_75, as_nil, as_i, as_r, Nat.reduceAdd, Nat.reduceLeDiff, z_eq0, z_eq1, z_or, z_em, Classical.not_not, not_false_eq_true, not_true_eq_false, true_and, and_true, false_and, and_false, and_self, true_implies, false_implies, implies_true, Option.toList_some, Option.toList_none, List.cons_append, List.nil_append, Nat.add_eq_zero_iff, a_nl_i, a_nl_r, a_nl_n, true_or, or_true, eq_self, a_isRA_22, a_isRA_24, a_isRA_32, a_isA_20, ok_4, ok_5, ok_6, ok_7, ok_9, ok_20, ok_21, ok_30, ok_50, ok_180, ok_192, ok_200, n10]
          try simp only [true_and, and_true, true_implies, false_implies, implies_true, not_true_eq_false, not_false_eq_true]
          first
            | exact hn
            | grind
        · rw [if_neg gear] at hg ⊢
          have hl : ∀ v : Int32, ((w >>> (x &&& 31)) &&& 1 = 0 ↔ v = 0) → a_does (d + 3) 107 [a_rf (C + 14), a_rf a, .int b, .int (s + x), .int v] (n, t, K, L, I, R) (fun r h' => a_at (d + 3) (a_xm a_m136) 71 [some (a_rf (C + 14)), some (a_rf a), some (.int b), some (.int s), some (.int w), some (.int x), some (.int (s + x))] (r.toList ++ []) h' P) := fun v hv => by
            have ev : (if v = 0 then (1 : Int32) else 2) = (if (w >>> (x &&& 31)) &&& 1 = 0 then 1 else 2) := by
              by_cases c : v = 0
              · rw [if_pos c, if_pos (hv.mpr c)]
              · rw [if_neg c, if_neg (fun q => c (hv.mp q))]
            refine ce_lacksHosts (d := d) hT hc ap hb hs2 (fun e => ?_) (fun e => ?_)
            · rw [ev] at e
              have hyy := hyes ⟨h199, hg, e⟩
              clear hno hyes hc ap al am hy hg
              simp only [q136_71, q136_76, q136_79, as_nil, as_i, as_r, Nat.reduceAdd, Nat.reduceLeDiff, z_eq0, z_eq1, z_or, z_em, Classical.not_not, not_false_eq_true, not_true_eq_false, true_and, and_true, false_and, and_false, and_self, true_implies, false_implies, implies_true, Option.toList_some, Option.toList_none, List.cons_append, List.nil_append, Nat.add_eq_zero_iff, a_nl_i, a_nl_r, a_nl_n, true_or, or_true, eq_self, a_isRA_22, a_isRA_24, a_isRA_32, a_isA_20, ok_4, ok_5, ok_6, ok_7, ok_9, ok_20, ok_21, ok_30, ok_50, ok_180, ok_192, ok_200]
              try simp only [true_and, and_true, true_implies, false_implies, implies_true, not_true_eq_false, not_false_eq_true]
              first
                | exact hyy _
                | grind
            · rw [ev] at e
              have hn := hno (fun q => q.2.2 e)
              clear hno hyes hc ap al am hy hg
              simp only [q136_71, q136_74, q136_75, as_nil, as_i, as_r, Nat.reduceAdd, Nat.reduceLeDiff, z_eq0, z_eq1, z_or, z_em, Classical.not_not, not_false_eq_true, not_true_eq_false, true_and, and_true, false_and, and_false, and_self, true_implies, false_implies, implies_true, Option.toList_some, Option.toList_none, List.cons_append, List.nil_append, Nat.add_eq_zero_iff, a_nl_i, a_nl_r, a_nl_n, true_or, or_true, eq_self, a_isRA_22, a_isRA_24, a_isRA_32, a_isA_20, ok_4, ok_5, ok_6, ok_7, ok_9, ok_20, ok_21, ok_30, ok_50, ok_180, ok_192, ok_200, n10]
              try simp only [true_and, and_true, true_implies, false_implies, implies_true, not_true_eq_false, not_false_eq_true]
              first
                | exact hn
                | grind
          clear hno hyes hc ap al am hy hg
          by_cases cw : (w >>> (x &&& 31)) &&& 1 = 0
          · have hl0 := hl 0 ⟨fun _ => rfl, fun _ => cw⟩
            simp only [q136_45, q136_48, q136_49, q136_50, q136_51, q136_53, q136_55, q136_57, q136_58, q136_59, q136_60, q136_63, q136_64, q136_67, q136_68, k_14 hS, z_14, as_nil, as_i, as_r, Nat.reduceAdd, Nat.reduceLeDiff, z_eq0, z_eq1, z_or, z_em, Classical.not_not, not_false_eq_true, not_true_eq_false, true_and, and_true, false_and, and_false, and_self, true_implies, false_implies, implies_true, Option.toList_some, Option.toList_none, List.cons_append, List.nil_append, Nat.add_eq_zero_iff, a_nl_i, a_nl_r, a_nl_n, true_or, or_true, eq_self, a_isRA_22, a_isRA_24, a_isRA_32, a_isA_20, ok_4, ok_5, ok_6, ok_7, ok_9, ok_20, ok_21, ok_30, ok_50, ok_180, ok_192, ok_200, cw]
            try simp only [true_and, and_true, true_implies, false_implies, implies_true, not_true_eq_false, not_false_eq_true]
            first
              | exact hl0
              | grind
          · have hl1 := hl 1 ⟨fun q => absurd q cw, fun q => absurd q n10⟩
            simp only [q136_45, q136_48, q136_49, q136_50, q136_51, q136_53, q136_55, q136_57, q136_58, q136_59, q136_60, q136_63, q136_64, q136_67, q136_68, k_14 hS, z_14, as_nil, as_i, as_r, Nat.reduceAdd, Nat.reduceLeDiff, z_eq0, z_eq1, z_or, z_em, Classical.not_not, not_false_eq_true, not_true_eq_false, true_and, and_true, false_and, and_false, and_self, true_implies, false_implies, implies_true, Option.toList_some, Option.toList_none, List.cons_append, List.nil_append, Nat.add_eq_zero_iff, a_nl_i, a_nl_r, a_nl_n, true_or, or_true, eq_self, a_isRA_22, a_isRA_24, a_isRA_32, a_isA_20, ok_4, ok_5, ok_6, ok_7, ok_9, ok_20, ok_21, ok_30, ok_50, ok_180, ok_192, ok_200, cw]
            try simp only [true_and, and_true, true_implies, false_implies, implies_true, not_true_eq_false, not_false_eq_true]
            first
              | exact hl1
              | grind
    · have hs2 : ¬ (0 ≤ s + x ∧ s + x < 200) := by clear hno hyes hc ap al am hy; grind
      have hn := hno (fun e => h199 e.1)
      clear hno hyes hc ap al am hy
      simp only [q136_12, q136_13, q136_15, q136_16, q136_18, q136_20, q136_23, q136_74, q136_75, sp_isShiftC, as_nil, as_i, as_r, Nat.reduceAdd, Nat.reduceLeDiff, z_eq0, z_eq1, z_or, z_em, Classical.not_not, not_false_eq_true, not_true_eq_false, true_and, and_true, false_and, and_false, and_self, true_implies, false_implies, implies_true, Option.toList_some, Option.toList_none, List.cons_append, List.nil_append, Nat.add_eq_zero_iff, a_nl_i, a_nl_r, a_nl_n, true_or, or_true, eq_self, a_isRA_22, a_isRA_24, a_isRA_32, a_isA_20, ok_4, ok_5, ok_6, ok_7, ok_9, ok_20, ok_21, ok_30, ok_50, ok_180, ok_192, ok_200, hs2]
      try simp only [true_and, and_true, true_implies, false_implies, implies_true, not_true_eq_false, not_false_eq_true]
      first
        | exact hn
        | grind
  clear ih hP hV hc ap al am hy
  rw [q136_3]
  repeat' first
    | with_reducible apply And.intro
    | with_reducible assumption
    | with_reducible intro _
    | refine hexit ?_
    | refine hgo ?_
    | simp only [q136_5, q136_6, q136_9, q136_82, q136_83, k_14 hS, z_14, as_nil, as_i, as_r, Nat.reduceAdd, Nat.reduceLeDiff, z_eq0, z_eq1, z_or, z_em, Classical.not_not, not_false_eq_true, not_true_eq_false, true_and, and_true, false_and, and_false, and_self, true_implies, false_implies, implies_true, Option.toList_some, Option.toList_none, List.cons_append, List.nil_append, Nat.add_eq_zero_iff, a_nl_i, a_nl_r, a_nl_n, true_or, or_true, eq_self, a_isRA_22, a_isRA_24, a_isRA_32, a_isA_20, ok_4, ok_5, ok_6, ok_7, ok_9, ok_20, ok_21, ok_30, ok_50, ok_180, ok_192, ok_200, ha, a0, e2]
  all_goals ((try clear hexit); (try clear hgo); (try clear hS); (try clear hT); grind [ui_ap])
theorem ce_isOpen (hT : cT C K L I R) (hc : cpP C K L I R Y) {a : Nat} {i : Int32} (ap : aaP C K I Y i a) {b s w : Int32} (hb : 0 ≤ b ∧ b < Y 0 6) (hs : 0 ≤ s ∧ s ≤ 199) (hP : P (some (.int (if opB Y i b s w = true then 1 else 0))) (n, t, K, L, I, R)) : a_does (d + 4) 136 [a_rf (C + 14), a_rf a, .int b, .int s, .int w] (n, t, K, L, I, R) P := by
  have hl := le_isOpen_3 (d := d) (n := n) (t := t) (P := P) (w := w) hT hc ap hb hs hP 0 (by decide) none (by decide) (hc.2.2.2.2.2.1 i.toNatClampNeg).1 (by rw [lp_0]; rfl)
  have hS := hT.s
  clear hP hc ap
  rw [a_enter1 (M := a_m136) rfl (a_cat_rf (a_cat_rf (a_cat_int (a_cat_int (a_cat_int a_cat_nil))))) (show 5 ≤ 7 by decide)]
  show a_at _ (a_xm a_m136) 0 [some (a_rf (C + 14)), some (a_rf a), some (.int b), some (.int s), some (.int w), none, none] [] _ _
  simp only [q136_0, q136_1, as_nil, as_i, as_r, Nat.reduceAdd, Nat.reduceLeDiff, z_eq0, z_eq1, z_or, z_em, Classical.not_not, not_false_eq_true, not_true_eq_false, true_and, and_true, false_and, and_false, and_self, true_implies, false_implies, implies_true, Option.toList_some, Option.toList_none, List.cons_append, List.nil_append, Nat.add_eq_zero_iff, a_nl_i, a_nl_r, a_nl_n, true_or, or_true, eq_self, a_isRA_22, a_isRA_24, a_isRA_32, a_isA_20, ok_4, ok_5, ok_6, ok_7, ok_9, ok_20, ok_21, ok_30, ok_50, ok_180, ok_192, ok_200]
  exact hl
theorem le_suits_3 (hT0 : cT C K L I R) (hc : cpP C K L I R Y) {a : Nat} {i : Int32} (ap : aaP C K I Y i a) {b s : Int32} (hb : 0 ≤ b ∧ b < Y 0 6) (hs : 0 ≤ s ∧ s ≤ 199) {V : Bool} (hP : ∀ J, dC C K L R I J → P (some (.int (if V = true then 1 else 0))) (n, t, K, L, J, R)) : ∀ x : Int32, x ≤ 4 → ∀ J y, dC C K L R I J → y = s + x → 0 ≤ x → x ≤ Y 10 i.toNatClampNeg → suI Y i b s ((Y 10 i.toNatClampNeg).toNatClampNeg - x.toNatClampNeg) x = V → a_at (d + 3) (a_xm a_m135) 3 [some (a_rf (C + 14)), some (a_rf a), some (.int b), some (.int s), some (.int y)] [] (n, t, K, L, J, R) P := by
  have y10 := hc.2.2.2.2.2.1 i.toNatClampNeg
  have y41 := hc.2.2.2.2.1
  refine up_ind 4 (fun x x4 ih => ?_)
  intro J y hJ ey h0 h1 hV
  have hT := hJ.1
  have hcJ := cpP_C hT0 hc hJ
  have apJ := aaP_C hT0 ap hJ
  have hS := hT.s
  obtain ⟨ai, ⟨ha, an0, a4n⟩, am, al⟩ := id apJ
  have a0 : (a = 0) = False := eq_false an0
  have e2 : J a 2 = Y 10 i.toNatClampNeg := al.1.2.2.1
  generalize ez : Y 10 i.toNatClampNeg = z at y10 h1 hV ih e2
  have hexit : ¬ y < s + z → P (some (.int 1)) (n, t, K, L, J, R) := fun q => by
    have q' : ¬ x < z := fun w => q (by rw [ey]; clear ih hP hV; grind)
    rw [(lp_end h1 q').1] at hV
    have hp := hP J hJ
    rw [show V = true from hV.symm, if_pos rfl] at hp
    exact hp
  have hgo : y < s + z → a_at (d + 3) (a_xm a_m135) 14 [some (a_rf (C + 14)), some (a_rf a), some (.int b), some (.int s), some (.int y)] [] (n, t, K, L, J, R) P := fun q => by
    have q' : x < z := by rw [ey] at q; clear ih hP hV hexit; grind
    obtain ⟨t1, t2, t3, t4⟩ := lp_st h0 q'
    have hx4 : x < 4 := Int32.lt_of_lt_of_le q' y10.2
    rw [t1] at hV
    have hno : ¬ (fxY Y i b (s + x) = 0 ∧ ¬ 0 ≤ wtA Y 66 i b (s + x) ∧ ¬ (Y 7 i.toNatClampNeg = 2 ∧ ¬ (Y 16 i.toNatClampNeg ≤ (s + x) ∧ (s + x) ≤ Y 17 i.toNatClampNeg))) → ∀ J, dC C K L R I J → P (some (.int 0)) (n, t, K, L, J, R) := fun e J hJ => by
      unfold suI at hV
      rw [if_neg e] at hV
      have hp := hP J hJ
      rw [← hV, if_neg Bool.false_ne_true] at hp
      exact hp
    have hyes : (fxY Y i b (s + x) = 0 ∧ ¬ 0 ≤ wtA Y 66 i b (s + x) ∧ ¬ (Y 7 i.toNatClampNeg = 2 ∧ ¬ (Y 16 i.toNatClampNeg ≤ (s + x) ∧ (s + x) ≤ Y 17 i.toNatClampNeg))) → ∀ J, dC C K L R I J → a_at (d + 3) (a_xm a_m135) 3 [some (a_rf (C + 14)), some (a_rf a), some (.int b), some (.int s), some (.int (s + x + 1))] [] (n, t, K, L, J, R) P := fun e J hJ => by
      unfold suI at hV
      rw [if_pos e] at hV
      exact ih hx4 J _ hJ (by rw [Int32.add_assoc]) t2 t3 hV
    have hs0 : 0 ≤ s + x := by clear ih hP hV hexit hno hyes; grind
    clear hP hV hexit ih
    subst ey
    simp only [q135_14, q135_15, q135_16, q135_17, q135_19, k_14 hS, z_14, as_nil, as_i, as_r, Nat.reduceAdd, Nat.reduceLeDiff, z_eq0, z_eq1, z_or, z_em, Classical.not_not, not_false_eq_true, not_true_eq_false, true_and, and_true, false_and, and_false, and_self, true_implies, false_implies, implies_true, Option.toList_some, Option.toList_none, List.cons_append, List.nil_append, Nat.add_eq_zero_iff, a_nl_i, a_nl_r, a_nl_n, true_or, or_true, eq_self, a_isRA_22, a_isRA_24, a_isRA_32, a_isA_20, ok_4, ok_5, ok_6, ok_7, ok_9, ok_20, ok_21, ok_30, ok_50, ok_180, ok_192, ok_200]
    try simp only [true_and, and_true, true_implies, false_implies, implies_true, not_true_eq_false, not_false_eq_true]
    refine ce_fixedBar (d := d + 1) hT hcJ apJ hb hs0 (fun v hv => ?_)
    have n10 : ¬ (1 : Int32) = 0 := by decide
    by_cases c1 : v = 0
    · have f0 : fxY Y i b (s + x) = 0 := by rw [← hv]; exact c1
      have s199 : 0 ≤ s + x ∧ s + x ≤ 199 := ⟨hs0, fx_lt f0⟩
      rw [c1]
      simp only [q135_22, q135_25, q135_26, q135_29, q135_31, q135_32, q135_33, q135_35, k_14 hS, z_14, r_14_1 hS, k_7 hS, z_7, as_nil, as_i, as_r, Nat.reduceAdd, Nat.reduceLeDiff, z_eq0, z_eq1, z_or, z_em, Classical.not_not, not_false_eq_true, not_true_eq_false, true_and, and_true, false_and, and_false, and_self, true_implies, false_implies, implies_true, Option.toList_some, Option.toList_none, List.cons_append, List.nil_append, Nat.add_eq_zero_iff, a_nl_i, a_nl_r, a_nl_n, true_or, or_true, eq_self, a_isRA_22, a_isRA_24, a_isRA_32, a_isA_20, ok_4, ok_5, ok_6, ok_7, ok_9, ok_20, ok_21, ok_30, ok_50, ok_180, ok_192, ok_200]
      try simp only [true_and, and_true, true_implies, false_implies, implies_true, not_true_eq_false, not_false_eq_true]
      refine ce_leastA (d := d) hT hcJ apJ s199 (fun J2 c2 => ?_)
      have hS2 := c2.1.s
      have hJ2 := dC_C hJ c2
      have hcJ2 := cpP_C hT0 hc hJ2
      have apJ2 := aaP_C hT0 ap hJ2
      by_cases c3 : 0 ≤ wtA Y 66 i b (s + x)
      · have c3' : ¬ wtA Y 66 i b (s + x) = -9 := by rw [wtA_rng y41]; exact fun q => q c3
        have hn := hno (fun e => e.2.1 c3) J2 hJ2
        clear hno hyes hc ap hcJ apJ al am hcJ2 apJ2
        simp only [q135_38, q135_40, q135_53, q135_54, as_nil, as_i, as_r, Nat.reduceAdd, Nat.reduceLeDiff, z_eq0, z_eq1, z_or, z_em, Classical.not_not, not_false_eq_true, not_true_eq_false, true_and, and_true, false_and, and_false, and_self, true_implies, false_implies, implies_true, Option.toList_some, Option.toList_none, List.cons_append, List.nil_append, Nat.add_eq_zero_iff, a_nl_i, a_nl_r, a_nl_n, true_or, or_true, eq_self, a_isRA_22, a_isRA_24, a_isRA_32, a_isA_20, ok_4, ok_5, ok_6, ok_7, ok_9, ok_20, ok_21, ok_30, ok_50, ok_180, ok_192, ok_200, c3']
        try simp only [true_and, and_true, true_implies, false_implies, implies_true, not_true_eq_false, not_false_eq_true]
        first
          | exact hn
          | grind
      · have c3' : wtA Y 66 i b (s + x) = -9 := by rw [wtA_rng y41]; exact c3
        simp only [q135_38, q135_40, q135_43, q135_44, q135_45, q135_47, k_14 hS, z_14, as_nil, as_i, as_r, Nat.reduceAdd, Nat.reduceLeDiff, z_eq0, z_eq1, z_or, z_em, Classical.not_not, not_false_eq_true, not_true_eq_false, true_and, and_true, false_and, and_false, and_self, true_implies, false_implies, implies_true, Option.toList_some, Option.toList_none, List.cons_append, List.nil_append, Nat.add_eq_zero_iff, a_nl_i, a_nl_r, a_nl_n, true_or, or_true, eq_self, a_isRA_22, a_isRA_24, a_isRA_32, a_isA_20, ok_4, ok_5, ok_6, ok_7, ok_9, ok_20, ok_21, ok_30, ok_50, ok_180, ok_192, ok_200, c3']
        try simp only [true_and, and_true, true_implies, false_implies, implies_true, not_true_eq_false, not_false_eq_true]
        refine ce_isBeyondDays (d := d + 2) c2.1 apJ2 (fun e => ?_) (fun e => ?_)
        · have hyy := hyes ⟨f0, c3, e⟩ J2 hJ2
          clear hno hyes hc ap hcJ apJ al am hcJ2 apJ2
          simp only [q135_50, q135_55, q135_58, as_nil, as_i, as_r, Nat.reduceAdd, Nat.reduceLeDiff, z_eq0, z_eq1, z_or, z_em, Classical.not_not, not_false_eq_true, not_true_eq_false, true_and, and_true, false_and, and_false, and_self, true_implies, false_implies, implies_true, Option.toList_some, Option.toList_none, List.cons_append, List.nil_append, Nat.add_eq_zero_iff, a_nl_i, a_nl_r, a_nl_n, true_or, or_true, eq_self, a_isRA_22, a_isRA_24, a_isRA_32, a_isA_20, ok_4, ok_5, ok_6, ok_7, ok_9, ok_20, ok_21, ok_30, ok_50, ok_180, ok_192, ok_200]
          try simp only [true_and, and_true, true_implies, false_implies, implies_true, not_true_eq_false, not_false_eq_true]
          first
            | exact hyy
            | grind
        · have hn := hno (fun q => q.2.2 e) J2 hJ2
          clear hno hyes hc ap hcJ apJ al am hcJ2 apJ2
          simp only [q135_50, q135_53, q135_54, as_nil, as_i, as_r, Nat.reduceAdd, Nat.reduceLeDiff, z_eq0, z_eq1, z_or, z_em, Classical.not_not, not_false_eq_true, not_true_eq_false, true_and, and_true, false_and, and_false, and_self, true_implies, false_implies, implies_true, Option.toList_some, Option.toList_none, List.cons_append, List.nil_append, Nat.add_eq_zero_iff, a_nl_i, a_nl_r, a_nl_n, true_or, or_true, eq_self, a_isRA_22, a_isRA_24, a_isRA_32, a_isA_20, ok_4, ok_5, ok_6, ok_7, ok_9, ok_20, ok_21, ok_30, ok_50, ok_180, ok_192, ok_200, n10]
          try simp only [true_and, and_true, true_implies, false_implies, implies_true, not_true_eq_false, not_false_eq_true]
          first
            | exact hn
            | grind
    · have hn := hno (fun e => c1 (hv.trans e.1)) J hJ
      clear hno hyes hc ap hcJ apJ al am
      simp only [q135_22, q135_53, q135_54, as_nil, as_i, as_r, Nat.reduceAdd, Nat.reduceLeDiff, z_eq0, z_eq1, z_or, z_em, Classical.not_not, not_false_eq_true, not_true_eq_false, true_and, and_true, false_and, and_false, and_self, true_implies, false_implies, implies_true, Option.toList_some, Option.toList_none, List.cons_append, List.nil_append, Nat.add_eq_zero_iff, a_nl_i, a_nl_r, a_nl_n, true_or, or_true, eq_self, a_isRA_22, a_isRA_24, a_isRA_32, a_isA_20, ok_4, ok_5, ok_6, ok_7, ok_9, ok_20, ok_21, ok_30, ok_50, ok_180, ok_192, ok_200, c1]
      try simp only [true_and, and_true, true_implies, false_implies, implies_true, not_true_eq_false, not_false_eq_true]
      first
        | exact hn
        | grind
  clear ih hP hV hc ap hcJ apJ al am
  rw [q135_3]
  repeat' first
    | with_reducible apply And.intro
    | with_reducible assumption
    | with_reducible intro _
    | refine hexit ?_
    | refine hgo ?_
    | simp only [q135_5, q135_6, q135_7, q135_10, q135_11, q135_61, q135_62, k_14 hS, z_14, as_nil, as_i, as_r, Nat.reduceAdd, Nat.reduceLeDiff, z_eq0, z_eq1, z_or, z_em, Classical.not_not, not_false_eq_true, not_true_eq_false, true_and, and_true, false_and, and_false, and_self, true_implies, false_implies, implies_true, Option.toList_some, Option.toList_none, List.cons_append, List.nil_append, Nat.add_eq_zero_iff, a_nl_i, a_nl_r, a_nl_n, true_or, or_true, eq_self, a_isRA_22, a_isRA_24, a_isRA_32, a_isA_20, ok_4, ok_5, ok_6, ok_7, ok_9, ok_20, ok_21, ok_30, ok_50, ok_180, ok_192, ok_200, ha, a0, e2]
  all_goals ((try clear hexit); (try clear hgo); (try clear hS); (try clear hT); (try clear hT0); grind [ui_ap])
theorem ce_suits (hT : cT C K L I R) (hc : cpP C K L I R Y) {a : Nat} {i : Int32} (ap : aaP C K I Y i a) {b s : Int32} (hb : 0 ≤ b ∧ b < Y 0 6) (hs : 0 ≤ s ∧ s ≤ 199) (hP : ∀ J, dC C K L R I J → P (some (.int (if suB Y i b s = true then 1 else 0))) (n, t, K, L, J, R)) : a_does (d + 4) 135 [a_rf (C + 14), a_rf a, .int b, .int s] (n, t, K, L, I, R) P := by
  have hl := le_suits_3 (d := d) (n := n) (t := t) (P := P) hT hc ap hb hs hP 0 (by decide) I s (dC_refl hT) (by rw [Int32.add_zero]) (by decide) (hc.2.2.2.2.2.1 i.toNatClampNeg).1 (by rw [lp_0]; rfl)
  have hS := hT.s
  clear hP hc ap
  rw [a_enter1 (M := a_m135) rfl (a_cat_rf (a_cat_rf (a_cat_int (a_cat_int a_cat_nil)))) (show 4 ≤ 5 by decide)]
  show a_at _ (a_xm a_m135) 0 [some (a_rf (C + 14)), some (a_rf a), some (.int b), some (.int s), none] [] _ _
  simp only [q135_0, q135_1, as_nil, as_i, as_r, Nat.reduceAdd, Nat.reduceLeDiff, z_eq0, z_eq1, z_or, z_em, Classical.not_not, not_false_eq_true, not_true_eq_false, true_and, and_true, false_and, and_false, and_self, true_implies, false_implies, implies_true, Option.toList_some, Option.toList_none, List.cons_append, List.nil_append, Nat.add_eq_zero_iff, a_nl_i, a_nl_r, a_nl_n, true_or, or_true, eq_self, a_isRA_22, a_isRA_24, a_isRA_32, a_isA_20, ok_4, ok_5, ok_6, ok_7, ok_9, ok_20, ok_21, ok_30, ok_50, ok_180, ok_192, ok_200]
  exact hl
end ZQ0
end
section
/-! rings by the words -/
section ZR0
variable {d n t C c : Nat} {K L : Nat → Nat} {I I0 J J0 J1 J2 : Nat → Nat → Int32} {R : Nat → Nat → Nat} {P : Option Value → AH → Prop}
variable {Y Z W X : Nat → Nat → Int32}
/-- the next one in a ring -/
def nxN (m i : Nat) : Nat := if i + 1 < m then i + 1 else 0
theorem nxN_lt {m i : Nat} (h : i < m) : nxN m i < m := by unfold nxN; split <;> omega
/-- the first k taken out -/
def rgU (g : Nat → Int32) (Y : Nat → Nat → Int32) : Nat → Nat → Nat → Int32
  | 0 => Y
  | k + 1 => unY (rgU g Y k) (g k)
/-- the first k given where the next ones were -/
def rgP (g : Nat → Int32) (m : Nat) (Y W : Nat → Nat → Int32) : Nat → Nat → Nat → Int32
  | 0 => W
  | k + 1 => puY (rgP g m Y W k) (g k) (Y 20 (g (nxN m k)).toNatClampNeg) (Y 21 (g (nxN m k)).toNatClampNeg)
def rgF (Y : Nat → Nat → Int32) (m : Nat) (g : Nat → Int32) (k : Nat) : Prop := ftY (rgP g m Y (rgU g Y m) k) (g k) (Y 20 (g (nxN m k)).toNatClampNeg) (Y 21 (g (nxN m k)).toNatClampNeg) = 0
/-- a tuple that would be a ring if they FIT -/
def rgS (Y : Nat → Nat → Int32) (m : Nat) (g : Nat → Int32) : Prop := (∀ i, i < m → (0 ≤ g i ∧ g i < Y 0 17) ∧ 0 ≤ Y 20 (g i).toNatClampNeg ∧ ¬ Y 21 (g i).toNatClampNeg * 8 < Y 0 0) ∧ (∀ i, i + 1 < m → g 0 < g (i + 1) ∧ ¬ Y 47 (30 * g i + g (i + 1)).toNatClampNeg = 0 ∧ Y 10 (g (i + 1)).toNatClampNeg = Y 10 (g 0).toNatClampNeg) ∧ (∀ i j, i < j → j < m → ¬ Y 8 (g i).toNatClampNeg = Y 8 (g j).toNatClampNeg) ∧ ¬ Y 47 (30 * g (m - 1) + g 0).toNatClampNeg = 0
def rgA (Y : Nat → Nat → Int32) (m : Nat) (g : Nat → Int32) : Prop := rgS Y m g ∧ ∀ k, k < m → rgF Y m g k
theorem rgU_c {g h : Nat → Int32} {m : Nat} (e : ∀ j, j < m → g j = h j) : ∀ k, k ≤ m → rgU g Y k = rgU h Y k := by
  intro k
  induction k with
  | zero => intro _; rfl
  | succ k ih =>
    intro hk
    unfold rgU
    rw [ih (by omega), e k (by omega)]
theorem rgP_c {g h : Nat → Int32} {m : Nat} (e : ∀ j, j < m → g j = h j) : ∀ k, k ≤ m → rgP g m Y W k = rgP h m Y W k := by
  intro k
  induction k with
  | zero => intro _; rfl
  | succ k ih =>
    intro hk
    unfold rgP
    rw [ih (by omega), e k (by omega), e _ (nxN_lt (by omega))]
theorem rgF_c {g h : Nat → Int32} {m k : Nat} (e : ∀ j, j < m → g j = h j) (hk : k < m) : rgF Y m g k ↔ rgF Y m h k := by
  unfold rgF
  rw [rgU_c e m (Nat.le_refl _), rgP_c e k (by omega), e k hk, e _ (nxN_lt hk)]
theorem rgS_c {g h : Nat → Int32} {m : Nat} (hm : 0 < m) (e : ∀ j, j < m → g j = h j) (r : rgS Y m g) : rgS Y m h := by
  obtain ⟨r1, r2, r3, r4⟩ := r
  have e0 := e 0 hm
  refine ⟨fun i hi => ?_, fun i hi => ?_, fun i j hi hj => ?_, ?_⟩
  · have := r1 i hi
    rw [e i hi] at this
    exact this
  · have := r2 i hi
    rw [e0, e i (by omega), e _ hi] at this
    exact this
  · have := r3 i j hi hj
    rw [e i (by omega), e j hj] at this
    exact this
  · rw [e0, e _ (by omega)] at r4
    exact r4
theorem rgA_c {g h : Nat → Int32} {m : Nat} (hm : 0 < m) (e : ∀ j, j < m → g j = h j) (r : rgA Y m g) : rgA Y m h := ⟨rgS_c hm e r.1, fun k hk => (rgF_c e hk).mp (r.2 k hk)⟩
theorem rgU_b {g : Nat → Int32} : ∀ k, sbE Y (rgU g Y k) := by
  intro k
  induction k with
  | zero => exact fun _ _ _ => rfl
  | succ k ih => exact sb_tr ih unY_b
theorem rgU_s {g : Nat → Int32} : ∀ k, ssE Y (rgU g Y k) := by
  intro k
  induction k with
  | zero => exact ss_refl
  | succ k ih => exact ss_tr ih ss_un
theorem rgP_s {g : Nat → Int32} {m : Nat} : ∀ k, ssE W (rgP g m Y W k) := by
  intro k
  induction k with
  | zero => exact ss_refl
  | succ k ih => exact ss_tr ih ss_pu
/-- who isn't taken out stays -/
theorem rgU_o {g : Nat → Int32} {q j : Nat} : ∀ k, (∀ i, i < k → ¬ j = (g i).toNatClampNeg) → rgU g Y k q j = Y q j := by
  intro k
  induction k with
  | zero => intro _; rfl
  | succ k ih =>
    intro h
    unfold rgU
    rw [un_o (Or.inr (h k (by omega)))]
    exact ih (fun i hi => h i (by omega))
theorem rgU_at {g : Nat → Int32} {q : Nat} (hq : q = 20 ∨ q = 21) : ∀ k i, i < k → rgU g Y k q (g i).toNatClampNeg = -9 := by
  intro k
  induction k with
  | zero => intro i hi; omega
  | succ k ih =>
    intro i hi
    unfold rgU
    by_cases e : (g i).toNatClampNeg = (g k).toNatClampNeg
    · rw [e, un_a hq]
    · rw [un_o (Or.inr e)]
      refine ih i ?_
      by_cases c : i = k
      · exact absurd (by rw [c]) e
      · omega
theorem rgP_o {g : Nat → Int32} {m q j : Nat} (hq : ¬ q = 22) : ∀ k, (∀ i, i < k → ¬ j = (g i).toNatClampNeg) → rgP g m Y W k q j = W q j := by
  intro k
  induction k with
  | zero => intro _; rfl
  | succ k ih =>
    intro h
    unfold rgP
    rw [pu_pp]
    by_cases c : q = 10
    · unfold ppY
      rw [if_neg (by omega), if_neg (by omega), if_neg (fun e => h k (by omega) e.2), if_neg (by omega)]
      exact ih (fun i hi => h i (by omega))
    · rw [pp_o (Or.inr ⟨h k (by omega), hq⟩)]
      exact ih (fun i hi => h i (by omega))
theorem rg_10 {g : Nat → Int32} {m : Nat} (k : Nat) : rgP g m Y (rgU g Y m) k 10 = Y 10 := ss_r (ss_tr (rgU_s m) (rgP_s k)) (k := 10) (by omega)
theorem rgU_p {g : Nat → Int32} (h : psE Y Z) : ∀ k, (∀ i, i < k → 0 ≤ g i ∧ g i < 30) → psE (rgU g Y k) (rgU g Z k) := by
  intro k
  induction k with
  | zero => intro _; exact h
  | succ k ih =>
    intro hg
    exact unY_p (ih (fun i hi => hg i (by omega))) (hg k (by omega))
/-- before, word by word -/
def lxP (m : Nat) (t g : Nat → Int32) : Prop := ∃ k, k < m ∧ (∀ j, j < k → t j = g j) ∧ t k < g k
theorem lx_all (t g : Nat → Int32) : ∀ m, lxP m t g ∨ lxP m g t ∨ ∀ j, j < m → t j = g j := by
  intro m
  induction m with
  | zero => exact Or.inr (Or.inr (fun j hj => by omega))
  | succ m ih =>
    rcases ih with ⟨k, h1, h2, h3⟩ | ⟨k, h1, h2, h3⟩ | h
    · exact Or.inl ⟨k, by omega, h2, h3⟩
    · exact Or.inr (Or.inl ⟨k, by omega, h2, h3⟩)
    · by_cases c : t m = g m
      · refine Or.inr (Or.inr (fun j hj => ?_))
        by_cases e : j = m
        · rw [e]; exact c
        · exact h j (by omega)
      · by_cases c2 : t m < g m
        · exact Or.inl ⟨m, by omega, h, c2⟩
        · refine Or.inr (Or.inl ⟨m, by omega, fun j hj => (h j hj).symm, ?_⟩)
          clear h
          grind
/-- the RING: the shortest, the first of these; none: m = 0 -/
def rgR (Y : Nat → Nat → Int32) (m : Nat) (g : Nat → Int32) : Prop := (m = 0 ∧ ∀ z t, 2 ≤ z → z ≤ 5 → ¬ rgA Y z t) ∨ ((2 ≤ m ∧ m ≤ 5) ∧ rgA Y m g ∧ (∀ z t, 2 ≤ z → z < m → ¬ rgA Y z t) ∧ ∀ t, lxP m t g → ¬ rgA Y m t)
theorem rgR_u {m z : Nat} {g t : Nat → Int32} (h : rgR Y m g) (h2 : rgR Y z t) : z = m ∧ ∀ j, j < m → t j = g j := by
  rcases h with ⟨h, h1⟩ | ⟨h, h1, h3, h4⟩
  · rcases h2 with ⟨q, q1⟩ | ⟨q, q1, q3, q4⟩
    · exact ⟨by omega, fun j hj => by omega⟩
    · exact absurd q1 (h1 z t q.1 q.2)
  · rcases h2 with ⟨q, q1⟩ | ⟨q, q1, q3, q4⟩
    · exact absurd h1 (q1 m g h.1 h.2)
    · have e : z = m := by
        rcases Nat.lt_trichotomy z m with w | w | w
        · exact absurd q1 (h3 z t q.1 w)
        · exact w
        · exact absurd h1 (q3 m g h.1 w)
      subst e
      refine ⟨rfl, ?_⟩
      rcases lx_all t g z with w | w | w
      · exact absurd q1 (h4 t w)
      · exact absurd h1 (q4 g w)
      · exact w
/-- what a search from a prefix finds -/
def noR (Y : Nat → Nat → Int32) (m a : Nat) (p : Nat → Int32) : Prop := ∀ t, (∀ j, j < a → t j = p j) → ¬ rgA Y m t
def fsR (Y : Nat → Nat → Int32) (m a : Nat) (g : Nat → Int32) : Prop := rgA Y m g ∧ ∀ t, (∀ j, j < a → t j = g j) → lxP m t g → ¬ rgA Y m t
/-- none below v at place a -/
def blR (Y : Nat → Nat → Int32) (m a : Nat) (p : Nat → Int32) (v : Int32) : Prop := ∀ t, (∀ j, j < a → t j = p j) → t a < v → ¬ rgA Y m t
theorem bl_0 {m a : Nat} {p : Nat → Int32} (ha : a < m) : blR Y m a p 0 := fun t _ h r => by
  have := (r.1.1 a ha).1.1
  exact absurd h (Int32.not_lt.mpr this)
theorem bl_up {m a : Nat} {p : Nat → Int32} {v : Int32} (h30 : v < 30) (h : blR Y m a p v) (hv : ∀ t, (∀ j, j < a → t j = p j) → t a = v → ¬ rgA Y m t) : blR Y m a p (v + 1) := fun t ht h2 => by
  by_cases c : t a = v
  · exact hv t ht c
  · exact h t ht (by clear h hv ht; grind)
theorem bl_no {m a : Nat} {p : Nat → Int32} {v : Int32} (ha : a < m) (h : blR Y m a p v) (hv : Y 0 17 ≤ v) : noR Y m a p := fun t ht r => by
  have := (r.1.1 a ha).1.2
  exact h t ht (Int32.lt_of_lt_of_le this hv) r
theorem bl_fs {m a : Nat} {g : Nat → Int32} (ha : a < m) (h : blR Y m a g (g a)) (hf : fsR Y m (a + 1) g) : fsR Y m a g := by
  refine ⟨hf.1, fun t ht ⟨k, k1, k2, k3⟩ => ?_⟩
  by_cases c : k = a
  · subst c
    exact h t k2 k3
  · by_cases c2 : k < a
    · rw [ht k c2] at k3
      exact absurd k3 Int32.lt_irrefl
    · refine hf.2 t (fun j hj => k2 j (by omega)) ⟨k, k1, k2, k3⟩
end ZR0
end

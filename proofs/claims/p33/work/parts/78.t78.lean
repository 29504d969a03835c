/-! owe of the reference -/
section ZL0
variable {d n t M : Nat} {K L : Nat → Nat} {I I0 J J0 J1 J2 : Nat → Nat → Int32} {R : Nat → Nat → Nat} {P : Option Value → AH → Prop} {f : Nat → Int32} {e : Int32}
variable {Y Z W : Nat → Nat → Int32}
theorem coI_b (h : sbE Y Z) {s : Int32} : ∀ (k : Nat) (i b : Int32), coI Z s k i b = coI Y s k i b := by
  intro k
  induction k with
  | zero => intro i b; rfl
  | succ k ih =>
    intro i b
    unfold coI
    rw [wt_b h, sbE_r h (k := 30) (by omega), sbE_r h (k := 31) (by omega), ih]
theorem ohY_c (h : sbE Y Z) (h20 : Z 20 = Y 20) (h21 : Z 21 = Y 21) {a : Int32} : ohY Z a = ohY Y a := by
  unfold ohY owY coY
  rw [h20, h21, sbE_r h (k := 10) (by omega), loY_c h h20 h21, h 0 41 (by unfold sb; omega), coI_b h, wv_b h, fcA_b h]
theorem oh_p (h : psE Y Z) {a : Int32} : ohY Z a = ohY Y a := ohY_c (psE_b h) (pr_r h (k := 20) (by omega)) (pr_r h (k := 21) (by omega))
theorem lo_p (h : psE Y Z) {a : Int32} : loY Z a = loY Y a := loY_c (psE_b h) (pr_r h (k := 20) (by omega)) (pr_r h (k := 21) (by omega))
theorem xp_owe (hS : m_S M K L R) {I1 : Nat → Nat → Int32} (hm : okY Y) {c : Nat} (hc : c + 130 ≤ 84000) (hF : mF M c I1 I) (hg : gs M I0 I Y) {a : Int32} (hbd : 0 ≤ a ∧ a < Y 0 17 → 0 ≤ ohY Y a ∧ ohY Y a ≤ 4) (hP : ∀ J, mF M (c + 120) I1 J → gs M I0 J (oeY Y a).2 → P (some (.int (oeY Y a).1)) (n, t, K, L, J, R)) : a_does (d + 13) 246 [a_rf M, .int a] (n, t, K, L, I, R) P := by
  have hy := hm.1
  have h17 := hy.2.2.2.2.1
  have h10 := hy.2.1
  have h6 := hy.2.2.2.2.2.1
  have hl := hy.2.2.1
  have hrf : ∀ k : Nat, mF M (c + 120) I1 (a_ui I (M + 23) k (I (M + 23) k + 1)) ∧ gs M I0 (a_ui I (M + 23) k (I (M + 23) k + 1)) Y := fun k => ⟨mF_le (sF_refused hF) (by omega), gs_ui hg (sR_refused hg.1) (by omega) ⟨by unfold ps1; omega, by omega⟩⟩
  have e17 : I M 17 = Y 0 17 := hg.2.2.1 0 17 (by unfold ps1; omega)
  have e6 : I M 6 = Y 0 6 := hg.2.2.1 0 6 (by unfold ps1; omega)
  have e0 : I M 0 = Y 0 0 := hg.2.2.1 0 0 (by unfold ps1; omega)
  have m17 : ∀ x : Int32, (x ≤ Y 0 17 - 1) = (x < Y 0 17) := fun x => le_m1 h17
  have m6 : ∀ x : Int32, (x ≤ Y 0 6 - 1) = (x < Y 0 6) := fun x => le_m1 ⟨h6.1, Int32.le_trans h6.2 (by decide)⟩
  have m199 : ∀ x : Int32, (x ≤ 199) = (x < 200) := fun x => propext ⟨fun q => Int32.lt_of_le_of_lt q (by decide), fun q => by clear hP hrf hm hg hF; grind⟩
  have e19 : I (M + 19) a.toNatClampNeg = Y 19 a.toNatClampNeg := hg.2.2.1 19 _ (by unfold ps1; omega)
  obtain ⟨mR0, mk0, ts0, tp0, in0, -⟩ := moP_of hg.1 hm.2.1 hg.2.2
  unfold oeY at hP
  by_cases c1 : 0 ≤ a ∧ a < Y 0 17
  · rw [if_neg (fun q => q c1)] at hP
    have ha : 0 ≤ a ∧ a < 30 := ⟨c1.1, Int32.lt_of_lt_of_le c1.2 h17.2⟩
    by_cases c2 : Y 19 a.toNatClampNeg = 0
    · have hlo : a_does (d + 12) 189 [a_rf M, .int a] (n, t, K, L, I, R) (fun q h' => a_at (d + 12) (a_xm a_m246) 28 [some (a_rf M), some (.int a), none] (q.toList ++ []) h' P) := by
        refine xt_lossOf (d := d + 10) hS mR0 tp0 in0 ha ?_
        rw [lo_p hg.2.2]
        by_cases c3 : loY Y a = 0
        · rw [if_pos (Or.inr (Or.inl c3))] at hP
          have hr := hP _ (hrf 3).1 (hrf 3).2
          clear hP hrf hm hy hl hg hF mR0 mk0 ts0 tp0 in0
          rw [c3]
          simp only [q246_28, q246_39, q246_40, q246_42, q246_45, m_0 hS, m_K hS, sp_refuse_1 hS, sp_refuse_2 hS, sp_refuse_3 hS, sp_refuse_4 hS, sp_refuse_5 hS, sp_refuse_6 hS, as_nil, as_i, as_r, Nat.reduceAdd, Nat.reduceLeDiff, z_eq0, z_eq1, z_or, z_em, Classical.not_not, not_false_eq_true, not_true_eq_false, true_and, and_true, false_and, and_false, and_self, true_implies, false_implies, implies_true, Option.toList_some, Option.toList_none, List.cons_append, List.nil_append, Nat.add_eq_zero_iff, a_nl_i, a_nl_r, a_nl_n, true_or, or_true, eq_self, ok_4, ok_5, ok_6, ok_7, ok_9, ok_10, ok_20, ok_21, ok_24, ok_30, ok_48, ok_50, ok_60, ok_80, ok_120, ok_180, ok_192, ok_200, ok_900, ok_1000, ok_84000]
          try simp only [true_and, and_true, true_implies, false_implies, implies_true, not_true_eq_false, not_false_eq_true]
          first
            | exact hr
            | grind
        · have how : a_does (d + 12) 190 [a_rf M, .int a] (n, t, K, L, I, R) (fun q h' => a_at (d + 12) (a_xm a_m246) 36 [some (a_rf M), some (.int a), none] (q.toList ++ []) h' P) := by
            refine xt_owedOf (d := d + 5) (I0 := I) hS (mC_refl mR0) mk0 ts0 tp0 in0 ha (fun J hJ => ?_)
            rw [oh_p hg.2.2]
            have f1 := mF_C hF hJ
            have g1 := gs_C hg hJ
            have e17J : J M 17 = Y 0 17 := g1.2.2.1 0 17 (by unfold ps1; omega)
            have hrfJ : ∀ k : Nat, mF M (c + 120) I1 (a_ui J (M + 23) k (J (M + 23) k + 1)) ∧ gs M I0 (a_ui J (M + 23) k (J (M + 23) k + 1)) Y := fun k => ⟨mF_le (sF_refused f1) (by omega), gs_ui g1 (sR_refused g1.1) (by omega) ⟨by unfold ps1; omega, by omega⟩⟩
            by_cases c4 : ohY Y a = 0
            · rw [if_pos (Or.inr (Or.inr c4))] at hP
              have hr := hP _ (hrfJ 3).1 (hrfJ 3).2
              clear hP hrf hm hy hl hg hF mR0 mk0 ts0 tp0 in0 f1 g1 hrfJ
              rw [c4]
              simp only [q246_36, q246_39, q246_40, q246_42, q246_45, m_0 hS, m_K hS, sp_refuse_1 hS, sp_refuse_2 hS, sp_refuse_3 hS, sp_refuse_4 hS, sp_refuse_5 hS, sp_refuse_6 hS, as_nil, as_i, as_r, Nat.reduceAdd, Nat.reduceLeDiff, z_eq0, z_eq1, z_or, z_em, Classical.not_not, not_false_eq_true, not_true_eq_false, true_and, and_true, false_and, and_false, and_self, true_implies, false_implies, implies_true, Option.toList_some, Option.toList_none, List.cons_append, List.nil_append, Nat.add_eq_zero_iff, a_nl_i, a_nl_r, a_nl_n, true_or, or_true, eq_self, ok_4, ok_5, ok_6, ok_7, ok_9, ok_10, ok_20, ok_21, ok_24, ok_30, ok_48, ok_50, ok_60, ok_80, ok_120, ok_180, ok_192, ok_200, ok_900, ok_1000, ok_84000]
              try simp only [true_and, and_true, true_implies, false_implies, implies_true, not_true_eq_false, not_false_eq_true]
              first
                | exact hr
                | grind
            · rw [if_neg (fun w => w.elim (fun w => w c2) (fun w => w.elim c3 c4))] at hP
              by_cases c5 : Y 0 17 = 30
              · rw [if_pos c5] at hP
                have hr := hP _ (hrfJ 6).1 (hrfJ 6).2
                clear hP hrf hm hy hl hg hF mR0 mk0 ts0 tp0 in0 f1 g1 hrfJ
                simp only [q246_36, q246_46, q246_47, q246_50, q246_52, q246_55, q246_56, q246_58, q246_61, m_0 hS, m_K hS, sp_refuse_1 hS, sp_refuse_2 hS, sp_refuse_3 hS, sp_refuse_4 hS, sp_refuse_5 hS, sp_refuse_6 hS, as_nil, as_i, as_r, Nat.reduceAdd, Nat.reduceLeDiff, z_eq0, z_eq1, z_or, z_em, Classical.not_not, not_false_eq_true, not_true_eq_false, true_and, and_true, false_and, and_false, and_self, true_implies, false_implies, implies_true, Option.toList_some, Option.toList_none, List.cons_append, List.nil_append, Nat.add_eq_zero_iff, a_nl_i, a_nl_r, a_nl_n, true_or, or_true, eq_self, ok_4, ok_5, ok_6, ok_7, ok_9, ok_10, ok_20, ok_21, ok_24, ok_30, ok_48, ok_50, ok_60, ok_80, ok_120, ok_180, ok_192, ok_200, ok_900, ok_1000, ok_84000, c4, e17J, c5]
                try simp only [true_and, and_true, true_implies, false_implies, implies_true, not_true_eq_false, not_false_eq_true]
                first
                  | exact hr
                  | grind
              · rw [if_neg c5] at hP
                have h30 : Y 0 17 < 30 := by clear hP hrf hm hy hl hg hF mR0 mk0 ts0 tp0 in0 f1 g1 hrfJ; grind
                have aN : ¬ (Y 0 17).toNatClampNeg = a.toNatClampNeg := by have := cl_lt c1.1 c1.2; omega
                obtain ⟨mR1, mk1, ts1, tp1, in1, -⟩ := moP_of g1.1 hm.2.1 g1.2.2
                have eJ : ∀ k, 1 ≤ k ∧ k ≤ 21 → J (M + k) a.toNatClampNeg = Y k a.toNatClampNeg := fun k hk => g1.2.2.1 k _ (by unfold ps1; omega)
                have ow2 : a_does (d + 12) 190 [a_rf M, .int a] (n, t, K, L, J, R) (fun q h' => a_at (d + 12) (a_xm a_m246) 81 [some (a_rf M), some (.int a), none] (q.toList ++ [.int (Y 9 a.toNatClampNeg), .int (Y 8 a.toNatClampNeg), .int 5, a_rf M]) h' P) := by
                  refine xt_owedOf (d := d + 5) (I0 := J) hS (mC_refl mR1) mk1 ts1 tp1 in1 ha (fun J2 hJ2 => ?_)
                  rw [oh_p g1.2.2]
                  have f2 := mF_C f1 hJ2
                  have g2 := gs_C g1 hJ2
                  have e17K : J2 M 17 = Y 0 17 := g2.2.2.1 0 17 (by unfold ps1; omega)
                  have eK : ∀ k, 1 ≤ k ∧ k ≤ 21 → J2 (M + k) a.toNatClampNeg = Y k a.toNatClampNeg := fun k hk => g2.2.2.1 k _ (by unfold ps1; omega)
                  have g8 := rg_group g2.1 a.toNatClampNeg
                  rw [eK 8 (by omega)] at g8
                  have F := add_F (l := Y 9 a.toNatClampNeg) (w := Y 11 a.toNatClampNeg) f2 (by rw [e17K]; exact h30) g8 (hbd c1)
                  rw [e17K] at F
                  have F5 := mF_le (c' := c + 120) (sF_wasOwed (k := a.toNatClampNeg) (v := 1) (sF_danger (k := (Y 0 17).toNatClampNeg) (v := Y 15 a.toNatClampNeg) (sF_gear (k := (Y 0 17).toNatClampNeg) (v := Y 14 a.toNatClampNeg) (sF_modeSet (k := (Y 0 17).toNatClampNeg) (v := Y 13 a.toNatClampNeg) (sF_benchSet (k := (Y 0 17).toNatClampNeg) (v := Y 12 a.toNatClampNeg) F))))) (by omega)
                  have hyv : yv M (a_ui (a_ui (a_ui (a_ui (a_ui (a_ui (a_ui (a_ui (a_ui (a_ui (a_ui (a_ui (a_ui J2 (M + 7) (Y 0 17).toNatClampNeg 5) (M + 8) (Y 0 17).toNatClampNeg (Y 8 a.toNatClampNeg)) (M + 9) (Y 0 17).toNatClampNeg (Y 9 a.toNatClampNeg)) (M + 10) (Y 0 17).toNatClampNeg (ohY Y a)) (M + 11) (Y 0 17).toNatClampNeg (Y 11 a.toNatClampNeg)) (M + 20) (Y 0 17).toNatClampNeg (-9)) (M + 21) (Y 0 17).toNatClampNeg (-9)) M 17 (Y 0 17 + 1)) (M + 12) (Y 0 17).toNatClampNeg (Y 12 a.toNatClampNeg)) (M + 13) (Y 0 17).toNatClampNeg (Y 13 a.toNatClampNeg)) (M + 14) (Y 0 17).toNatClampNeg (Y 14 a.toNatClampNeg)) (M + 15) (Y 0 17).toNatClampNeg (Y 15 a.toNatClampNeg)) (M + 19) a.toNatClampNeg 1) = (upY (upY (upY (upY (upY (upY (upY (upY (upY (upY (upY (upY (upY (yv M J2) 7 (Y 0 17).toNatClampNeg 5) 8 (Y 0 17).toNatClampNeg (Y 8 a.toNatClampNeg)) 9 (Y 0 17).toNatClampNeg (Y 9 a.toNatClampNeg)) 10 (Y 0 17).toNatClampNeg (ohY Y a)) 11 (Y 0 17).toNatClampNeg (Y 11 a.toNatClampNeg)) 20 (Y 0 17).toNatClampNeg (-9)) 21 (Y 0 17).toNatClampNeg (-9)) 0 17 (Y 0 17 + 1)) 12 (Y 0 17).toNatClampNeg (Y 12 a.toNatClampNeg)) 13 (Y 0 17).toNatClampNeg (Y 13 a.toNatClampNeg)) 14 (Y 0 17).toNatClampNeg (Y 14 a.toNatClampNeg)) 15 (Y 0 17).toNatClampNeg (Y 15 a.toNatClampNeg)) 19 a.toNatClampNeg 1) := by rw [yv_up, yv_up, yv_up, yv_up, yv_up, yv_up0, yv_up, yv_up, yv_up, yv_up, yv_up, yv_up, yv_up]
                  have oat := oe_at (Y := Y) aN
                  have G : gs M I0 (a_ui (a_ui (a_ui (a_ui (a_ui (a_ui (a_ui (a_ui (a_ui (a_ui (a_ui (a_ui (a_ui J2 (M + 7) (Y 0 17).toNatClampNeg 5) (M + 8) (Y 0 17).toNatClampNeg (Y 8 a.toNatClampNeg)) (M + 9) (Y 0 17).toNatClampNeg (Y 9 a.toNatClampNeg)) (M + 10) (Y 0 17).toNatClampNeg (ohY Y a)) (M + 11) (Y 0 17).toNatClampNeg (Y 11 a.toNatClampNeg)) (M + 20) (Y 0 17).toNatClampNeg (-9)) (M + 21) (Y 0 17).toNatClampNeg (-9)) M 17 (Y 0 17 + 1)) (M + 12) (Y 0 17).toNatClampNeg (Y 12 a.toNatClampNeg)) (M + 13) (Y 0 17).toNatClampNeg (Y 13 a.toNatClampNeg)) (M + 14) (Y 0 17).toNatClampNeg (Y 14 a.toNatClampNeg)) (M + 15) (Y 0 17).toNatClampNeg (Y 15 a.toNatClampNeg)) (M + 19) a.toNatClampNeg 1) (oeW Y a) := by
                    refine gs_mk2 g2 F5.1.1 (fun z j p => by rw [ui_ap, if_neg (by omega), ui_ap, if_neg (by omega), ui_ap, if_neg (by omega), ui_ap, if_neg (by omega), ui_ap, if_neg (by omega), ui_ap, if_neg (by omega), ui_ap, if_neg (by omega), ui_ap, if_neg (by omega), ui_ap, if_neg (by omega), ui_ap, if_neg (by omega), ui_ap, if_neg (by omega), ui_ap, if_neg (by omega), ui_ap, if_neg (by omega)]) (fun j => ?_) (fun j => by rw [ui_ap, if_neg (by omega), ui_ap, if_neg (by omega), ui_ap, if_neg (by omega), ui_ap, if_neg (by omega), ui_ap, if_neg (by omega), ui_ap, if_neg (by omega), ui_ap, if_neg (by omega), ui_ap, if_neg (by omega), ui_ap, if_neg (by omega), ui_ap, if_neg (by omega), ui_ap, if_neg (by omega), ui_ap, if_neg (by omega), ui_ap, if_neg (by omega)]) (fun o o0 o1 o2 => ?_) (fun q j p => (congrFun (congrFun hyv q) j).trans ((up_S (up_S (up_S (up_S (up_S (up_S (up_S (up_S (up_S (up_S (up_S (up_S (up_S g2.2.2.1 rfl) rfl) rfl) rfl) rfl) rfl) rfl) rfl) rfl) rfl) rfl) rfl) rfl) q j p))
                    · rw [oe_no (by omega) (by omega), up_no (by omega)]
                    · by_cases e : o.toNatClampNeg = (Y 0 17).toNatClampNeg
                      · rw [e, oat.2.2.2.2.2.1] at o2
                        exact absurd o2 (by decide)
                      · exact ⟨by rw [oe_no (by omega) (by omega), up_no (by omega)], by rw [oe_no (by omega) (by omega), up_no (by omega)]⟩
                  have hp := hP _ F5 G
                  have n17 : 0 ≤ Y 0 17 ∧ Y 0 17 < 30 := ⟨h17.1, h30⟩
                  have aNf : (a.toNatClampNeg = (Y 0 17).toNatClampNeg) = False := eq_false (fun w => aN w.symm)
                  have n19 : ∀ k, 1 ≤ k ∧ k ≤ 21 → J2 (M + k) a.toNatClampNeg = Y k a.toNatClampNeg := eK
                  have a11 : (1 : Int32) &&& 1 = 1 := by decide
                  clear hP hrf hm hy hl hg hF mR0 mk0 ts0 tp0 in0 f1 g1 hrfJ mR1 mk1 ts1 tp1 in1 f2 g2 F F5 G hyv oat
                  simp only [q246_81, q246_82, q246_85, q246_86, q246_87, m_0 hS, m_K hS, mR_wants hS, mK_wants hS, mL_wants hS, as_nil, as_i, as_r, Nat.reduceAdd, Nat.reduceLeDiff, z_eq0, z_eq1, z_or, z_em, Classical.not_not, not_false_eq_true, not_true_eq_false, true_and, and_true, false_and, and_false, and_self, true_implies, false_implies, implies_true, Option.toList_some, Option.toList_none, List.cons_append, List.nil_append, Nat.add_eq_zero_iff, a_nl_i, a_nl_r, a_nl_n, true_or, or_true, eq_self, ok_4, ok_5, ok_6, ok_7, ok_9, ok_10, ok_20, ok_21, ok_24, ok_30, ok_48, ok_50, ok_60, ok_80, ok_120, ok_180, ok_192, ok_200, ok_900, ok_1000, ok_84000, eK 11 (by decide), ha]
                  try simp only [true_and, and_true, true_implies, false_implies, implies_true, not_true_eq_false, not_false_eq_true]
                  refine sp_add hS (by rw [e17K]; exact n17) ?_
                  rw [e17K]
                  simp only [q246_90, q246_91, q246_92, q246_95, q246_96, q246_97, q246_100, q246_101, q246_102, q246_103, q246_104, q246_107, q246_108, q246_109, q246_112, q246_113, q246_114, q246_115, q246_116, q246_119, q246_120, q246_121, q246_124, q246_125, q246_126, q246_127, q246_128, q246_131, q246_132, q246_133, q246_136, q246_137, q246_138, q246_139, q246_140, q246_143, q246_144, q246_145, q246_146, q246_147, m_0 hS, m_K hS, mR_benchSet hS, mK_benchSet hS, mL_benchSet hS, mR_modeSet hS, mK_modeSet hS, mL_modeSet hS, mR_gear hS, mK_gear hS, mL_gear hS, mR_danger hS, mK_danger hS, mL_danger hS, mR_wasOwed hS, mK_wasOwed hS, mL_wasOwed hS, as_nil, as_i, as_r, Nat.reduceAdd, Nat.reduceLeDiff, z_eq0, z_eq1, z_or, z_em, Classical.not_not, not_false_eq_true, not_true_eq_false, true_and, and_true, false_and, and_false, and_self, true_implies, false_implies, implies_true, Option.toList_some, Option.toList_none, List.cons_append, List.nil_append, Nat.add_eq_zero_iff, a_nl_i, a_nl_r, a_nl_n, true_or, or_true, eq_self, ok_4, ok_5, ok_6, ok_7, ok_9, ok_10, ok_20, ok_21, ok_24, ok_30, ok_48, ok_50, ok_60, ok_80, ok_120, ok_180, ok_192, ok_200, ok_900, ok_1000, ok_84000, ui_ap, ne_MM, ne_M0, ne_0M, Nat.reduceEqDiff, reduceIte, if_true, if_false, n17, ha, aNf, eK 12 (by decide), eK 13 (by decide), eK 14 (by decide), eK 15 (by decide), a11]
                  try simp only [true_and, and_true, true_implies, false_implies, implies_true, not_true_eq_false, not_false_eq_true]
                  first
                    | exact hp
                    | grind
                clear hP hrf hm hy hl hg hF mR0 mk0 ts0 tp0 in0 f1 g1 hrfJ mR1 mk1 ts1 tp1 in1
                simp only [q246_36, q246_46, q246_47, q246_50, q246_52, q246_62, q246_63, q246_64, q246_65, q246_68, q246_69, q246_70, q246_71, q246_74, q246_75, q246_76, q246_77, q246_78, m_0 hS, m_K hS, mR_group hS, mK_group hS, mL_group hS, mR_land hS, mK_land hS, mL_land hS, as_nil, as_i, as_r, Nat.reduceAdd, Nat.reduceLeDiff, z_eq0, z_eq1, z_or, z_em, Classical.not_not, not_false_eq_true, not_true_eq_false, true_and, and_true, false_and, and_false, and_self, true_implies, false_implies, implies_true, Option.toList_some, Option.toList_none, List.cons_append, List.nil_append, Nat.add_eq_zero_iff, a_nl_i, a_nl_r, a_nl_n, true_or, or_true, eq_self, ok_4, ok_5, ok_6, ok_7, ok_9, ok_10, ok_20, ok_21, ok_24, ok_30, ok_48, ok_50, ok_60, ok_80, ok_120, ok_180, ok_192, ok_200, ok_900, ok_1000, ok_84000, c4, e17J, c5, ha, eJ 8 (by decide), eJ 9 (by decide)]
                try simp only [true_and, and_true, true_implies, false_implies, implies_true, not_true_eq_false, not_false_eq_true]
                first
                  | exact ow2
                  | grind
          clear hP hrf hm hy hl hg hF mR0 mk0 ts0 tp0 in0
          simp only [q246_28, q246_31, q246_32, q246_33, m_0 hS, m_K hS, as_nil, as_i, as_r, Nat.reduceAdd, Nat.reduceLeDiff, z_eq0, z_eq1, z_or, z_em, Classical.not_not, not_false_eq_true, not_true_eq_false, true_and, and_true, false_and, and_false, and_self, true_implies, false_implies, implies_true, Option.toList_some, Option.toList_none, List.cons_append, List.nil_append, Nat.add_eq_zero_iff, a_nl_i, a_nl_r, a_nl_n, true_or, or_true, eq_self, ok_4, ok_5, ok_6, ok_7, ok_9, ok_10, ok_20, ok_21, ok_24, ok_30, ok_48, ok_50, ok_60, ok_80, ok_120, ok_180, ok_192, ok_200, ok_900, ok_1000, ok_84000, c3]
          try simp only [true_and, and_true, true_implies, false_implies, implies_true, not_true_eq_false, not_false_eq_true]
          first
            | exact how
            | grind
      clear hP hrf hm hy hl hg hF mR0 mk0 ts0 tp0 in0
      rw [a_enter1 (M := a_m246) rfl (a_cat_rf (a_cat_int a_cat_nil)) (show 2 ≤ 3 by decide)]
      show a_at _ (a_xm a_m246) 0 [some (a_rf M), some (.int a), none] [] _ _
      simp only [q246_0, q246_1, q246_2, q246_5, q246_14, q246_15, q246_18, q246_19, q246_20, q246_23, q246_24, q246_25, m_0 hS, m_K hS, mR_wasOwed hS, mK_wasOwed hS, mL_wasOwed hS, sp_isAsk hS, as_nil, as_i, as_r, Nat.reduceAdd, Nat.reduceLeDiff, z_eq0, z_eq1, z_or, z_em, Classical.not_not, not_false_eq_true, not_true_eq_false, true_and, and_true, false_and, and_false, and_self, true_implies, false_implies, implies_true, Option.toList_some, Option.toList_none, List.cons_append, List.nil_append, Nat.add_eq_zero_iff, a_nl_i, a_nl_r, a_nl_n, true_or, or_true, eq_self, ok_4, ok_5, ok_6, ok_7, ok_9, ok_10, ok_20, ok_21, ok_24, ok_30, ok_48, ok_50, ok_60, ok_80, ok_120, ok_180, ok_192, ok_200, ok_900, ok_1000, ok_84000, e17, m17, c1, ha, e19, c2]
      try simp only [true_and, and_true, true_implies, false_implies, implies_true, not_true_eq_false, not_false_eq_true]
      first
        | exact hlo
        | grind
    · rw [if_pos (Or.inl c2)] at hP
      have hr := hP _ (hrf 3).1 (hrf 3).2
      clear hP hrf hm hy hl hg hF mR0 mk0 ts0 tp0 in0
      rw [a_enter1 (M := a_m246) rfl (a_cat_rf (a_cat_int a_cat_nil)) (show 2 ≤ 3 by decide)]
      show a_at _ (a_xm a_m246) 0 [some (a_rf M), some (.int a), none] [] _ _
      simp only [q246_0, q246_1, q246_2, q246_5, q246_14, q246_15, q246_18, q246_19, q246_20, q246_39, q246_40, q246_42, q246_45, m_0 hS, m_K hS, mR_wasOwed hS, mK_wasOwed hS, mL_wasOwed hS, sp_isAsk hS, sp_refuse_1 hS, sp_refuse_2 hS, sp_refuse_3 hS, sp_refuse_4 hS, sp_refuse_5 hS, sp_refuse_6 hS, as_nil, as_i, as_r, Nat.reduceAdd, Nat.reduceLeDiff, z_eq0, z_eq1, z_or, z_em, Classical.not_not, not_false_eq_true, not_true_eq_false, true_and, and_true, false_and, and_false, and_self, true_implies, false_implies, implies_true, Option.toList_some, Option.toList_none, List.cons_append, List.nil_append, Nat.add_eq_zero_iff, a_nl_i, a_nl_r, a_nl_n, true_or, or_true, eq_self, ok_4, ok_5, ok_6, ok_7, ok_9, ok_10, ok_20, ok_21, ok_24, ok_30, ok_48, ok_50, ok_60, ok_80, ok_120, ok_180, ok_192, ok_200, ok_900, ok_1000, ok_84000, e17, m17, c1, ha, e19, c2]
      try simp only [true_and, and_true, true_implies, false_implies, implies_true, not_true_eq_false, not_false_eq_true]
      first
        | exact hr
        | grind
  · rw [if_pos c1] at hP
    have hr := hP _ (hrf 1).1 (hrf 1).2
    clear hP hrf hm hy hl hg hF mR0 mk0 ts0 tp0 in0
    rw [a_enter1 (M := a_m246) rfl (a_cat_rf (a_cat_int a_cat_nil)) (show 2 ≤ 3 by decide)]
    show a_at _ (a_xm a_m246) 0 [some (a_rf M), some (.int a), none] [] _ _
    simp only [q246_0, q246_1, q246_2, q246_5, q246_8, q246_9, q246_10, q246_13, m_0 hS, m_K hS, sp_isAsk hS, sp_refuse_1 hS, sp_refuse_2 hS, sp_refuse_3 hS, sp_refuse_4 hS, sp_refuse_5 hS, sp_refuse_6 hS, as_nil, as_i, as_r, Nat.reduceAdd, Nat.reduceLeDiff, z_eq0, z_eq1, z_or, z_em, Classical.not_not, not_false_eq_true, not_true_eq_false, true_and, and_true, false_and, and_false, and_self, true_implies, false_implies, implies_true, Option.toList_some, Option.toList_none, List.cons_append, List.nil_append, Nat.add_eq_zero_iff, a_nl_i, a_nl_r, a_nl_n, true_or, or_true, eq_self, ok_4, ok_5, ok_6, ok_7, ok_9, ok_10, ok_20, ok_21, ok_24, ok_30, ok_48, ok_50, ok_60, ok_80, ok_120, ok_180, ok_192, ok_200, ok_900, ok_1000, ok_84000, e17, m17, c1]
    try simp only [true_and, and_true, true_implies, false_implies, implies_true, not_true_eq_false, not_false_eq_true]
    first
      | exact hr
      | grind
end ZL0
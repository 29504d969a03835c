/-! the reference's best, the public call -/
section Z9F
variable {d n t M : Nat} {K L : Nat → Nat} {I I0 J J0 J1 J2 : Nat → Nat → Int32} {R : Nat → Nat → Nat} {P : Option Value → AH → Prop} {f : Nat → Int32} {e : Int32}
variable {Y Z W : Nat → Nat → Int32}
theorem bsR_w {St : Type} {fit : St → Nat → Nat → Bool} {put : St → Nat → Nat → St} {wt : Nat → Int32} {pl : Nat} (h48 : pl ≤ 48) : ∀ (z i : Nat) (X : St) (acc : Int32) (way : Nat → Int32) (B : bB), (∀ k, 0 ≤ way k) → (∀ k, 0 ≤ B.2 k) → ∀ k, 0 ≤ (bsR fit put wt pl z i X acc way B).2 k := by
  have hup : ∀ (way : Nat → Int32) (i p : Nat), p ≤ pl → (∀ k, 0 ≤ way k) → ∀ k, 0 ≤ up1 way i (Int32.ofNat p) k := fun way i p hp hw k => by
    unfold up1
    by_cases c : k = i
    · rw [if_pos c]
      exact io_0 (by omega)
    · rw [if_neg c]
      exact hw k
  intro z
  induction z with
  | zero =>
    intro i X acc way B hw hB k
    show 0 ≤ (bsU acc way B).2 k
    unfold bsU
    by_cases c : B.1 < acc
    · rw [if_pos c]
      exact hw k
    · rw [if_neg c]
      exact hB k
  | succ z ih =>
    intro i X acc way B hw hB
    have key : ∀ (k p : Nat) (B : bB), p + k = pl → (∀ j, 0 ≤ B.2 j) → ∀ j, 0 ≤ (bsL fit put wt pl (bsR fit put wt pl z (i + 1)) i X acc way (k + 1) p B).2 j := by
      intro k
      induction k with
      | zero =>
        intro p B hp hB
        have e : p = pl := by omega
        subst e
        rw [bsL_last]
        exact ih (i + 1) X acc _ B (hup way i p (Nat.le_refl _) hw) hB
      | succ k ihk =>
        intro p B hp hB
        have hpl : p < pl := by omega
        unfold bsL
        rw [if_pos hpl]
        by_cases c2 : fit X i p = true
        · rw [if_pos c2]
          exact ihk (p + 1) _ (by omega) (ih (i + 1) (put X i p) (acc + wt i) _ B (hup way i p (by omega) hw) hB)
        · rw [if_neg c2]
          exact ihk (p + 1) B (by omega) hB
    exact key pl 0 B (Nat.zero_add _) hB
theorem shl_k {s a : Int32} (hs : 0 ≤ s) (ha : 0 ≤ a ∧ a ≤ 30) : ((1 : Int32) <<< (a &&& 31) ≤ s) = ¬ s.toInt.toNat < 2 ^ a.toNatClampNeg := by
  have fin : ∀ k : Fin 31, ((1 : Int32) <<< (Int32.ofNat k.val &&& 31)).toInt = ((2 ^ k.val : Nat) : Int) := by decide +kernel
  have an : a.toNatClampNeg < 31 := by
    have := cl_le0 ha.1 ha.2
    rw [show (30 : Int32).toNatClampNeg = 30 from rfl] at this
    omega
  have k2 : ((1 : Int32) <<< (Int32.ofNat a.toNatClampNeg &&& 31)).toInt = ((2 ^ a.toNatClampNeg : Nat) : Int) := fin ⟨a.toNatClampNeg, an⟩
  rw [← on_cl ha.1] at k2
  have c0 : (0 : Int32).toInt = 0 := rfl
  have s0 := Int32.le_iff_toInt_le.mp hs
  refine propext ?_
  rw [Int32.le_iff_toInt_le, k2]
  generalize (2 ^ a.toNatClampNeg : Nat) = q
  omega
theorem xv_best (hS : m_S M K L R) (hm : okY Y) (hg : gs M I0 I Y) (hno : noP Y) {x y s w : Int32} (hP : ∀ J, P (some (.int (beV Y x y s w))) (n, t, K, L, J, R)) : a_does (d + 16) 242 [a_rf M, .int x, .int y, .int s, .int w] (n, t, K, L, I, R) P := by
  have hy := hm.1
  have hR := hg.1
  have h17 := hy.2.2.2.2.1
  have h10 := hy.2.1
  have h6 := hy.2.2.2.2.2.1
  have hl := hy.2.2.1
  have e17 : I M 17 = Y 0 17 := hg.2.2.1 0 17 (by unfold ps1; omega)
  have e6 : I M 6 = Y 0 6 := hg.2.2.1 0 6 (by unfold ps1; omega)
  have e0 : I M 0 = Y 0 0 := hg.2.2.1 0 0 (by unfold ps1; omega)
  have m17 : ∀ x : Int32, (x ≤ Y 0 17 - 1) = (x < Y 0 17) := fun x => le_m1 h17
  have m6 : ∀ x : Int32, (x ≤ Y 0 6 - 1) = (x < Y 0 6) := fun x => le_m1 ⟨h6.1, Int32.le_trans h6.2 (by decide)⟩
  have m199 : ∀ x : Int32, (x ≤ 199) = (x < 200) := le_199
  have n30 : (Y 0 17).toNatClampNeg ≤ 30 := cl_le0 h17.1 h17.2
  by_cases c1 : ((0 ≤ x ∧ x < 200) ∧ (0 ≤ y ∧ y < 200) ∧ x ≤ y)
  · by_cases c2 : (0 ≤ s ∧ s.toInt.toNat < 2 ^ (Y 0 17).toNatClampNeg)
    · have sn : ¬ s < 0 := Int32.not_lt.mpr c2.1
      have sk : ¬ (1 : Int32) <<< (Y 0 17 &&& 31) ≤ s := by rw [shl_k c2.1 h17]; exact fun q => q c2.2
      by_cases c4 : w < -1
      · have w0 : ¬ 0 ≤ w := fun q => absurd (Int32.lt_of_le_of_lt q c4) (by decide)
        have hr : ∀ J, P (some (.int (-2))) (n, t, K, L, J, R) := fun J => by
          have h := hP J
          unfold beV at h
          rw [if_neg (fun q => q ⟨c1, c2, fun z => absurd z w0⟩), if_pos c4] at h
          exact h
        have c4' : ¬ -1 ≤ w := Int32.not_le.mpr c4
        ((try clear hP); (try clear hm); (try clear hy); (try clear hl); (try clear hg); (try clear hno))
        rw [a_enter1 (M := a_m242) rfl (a_cat_rf (a_cat_int (a_cat_int (a_cat_int (a_cat_int a_cat_nil))))) (show 5 ≤ 9 by decide)]
        show a_at _ (a_xm a_m242) 0 [some (a_rf M), some (.int x), some (.int y), some (.int s), some (.int w), none, none, none, none] [] _ _
        simp only [q242_0, q242_1, q242_2, q242_5, q242_8, q242_9, q242_12, q242_13, q242_14, q242_15, q242_18, q242_19, q242_28, q242_30, q242_31, q242_34, q242_35, q242_37, q242_40, m_0 hS, m_K hS, sp_isSpan, sp_refuse_1 hS, sp_refuse_2 hS, sp_refuse_3 hS, sp_refuse_4 hS, sp_refuse_5 hS, sp_refuse_6 hS, as_nil, as_i, as_r, Nat.reduceAdd, Nat.reduceLeDiff, z_eq0, z_eq1, z_or, z_em, Classical.not_not, not_false_eq_true, not_true_eq_false, true_and, and_true, false_and, and_false, and_self, true_implies, false_implies, implies_true, Option.toList_some, Option.toList_none, List.cons_append, List.nil_append, Nat.add_eq_zero_iff, a_nl_i, a_nl_r, a_nl_n, true_or, or_true, eq_self, ok_4, ok_5, ok_6, ok_7, ok_9, ok_10, ok_20, ok_21, ok_24, ok_30, ok_48, ok_50, ok_60, ok_80, ok_120, ok_180, ok_192, ok_200, ok_900, ok_1000, ok_84000, m199, c1, e17, sn, sk, c4']
        try simp only [true_and, and_true, true_implies, false_implies, implies_true, not_true_eq_false, not_false_eq_true]
        first
          | exact hr _
          | grind
      · have c4' : -1 ≤ w := Int32.not_lt.mp c4
        by_cases c3 : 0 ≤ w → ((0 ≤ w ∧ w < 30) ∧ bq s w.toNatClampNeg = true)
        · have cc : ¬ ¬ (((0 ≤ x ∧ x < 200) ∧ (0 ≤ y ∧ y < 200) ∧ x ≤ y) ∧ (0 ≤ s ∧ s.toInt.toNat < 2 ^ (Y 0 17).toNatClampNeg) ∧ (0 ≤ w → ((0 ≤ w ∧ w < 30) ∧ bq s w.toNatClampNeg = true))) := fun q => q ⟨c1, c2, c3⟩
          have r6 : (8 ≤ y - x ∨ 4 < bcf s) → ∀ J, P (some (.int (-6))) (n, t, K, L, J, R) := fun c5 J => by
            have h := hP J
            unfold beV at h
            rw [if_neg cc, if_neg c4, if_pos c5] at h
            exact h
          have h68 : a_at (d + 15) (a_xm a_m242) 68 [some (a_rf M), some (.int x), some (.int y), some (.int s), some (.int w), none, none, none, none] [] (n, t, K, L, I, R) P := by
            by_cases c8 : 8 ≤ y - x
            · have hr := r6 (Or.inl c8)
              have c87 : 7 < y - x := Int32.lt_of_lt_of_le (by decide) c8
              ((try clear hP); (try clear hm); (try clear hy); (try clear hl); (try clear hg); (try clear hno); (try clear r6))
              simp only [q242_68, q242_69, q242_70, q242_71, q242_73, q242_84, q242_85, q242_87, q242_90, m_0 hS, m_K hS, sp_refuse_1 hS, sp_refuse_2 hS, sp_refuse_3 hS, sp_refuse_4 hS, sp_refuse_5 hS, sp_refuse_6 hS, as_nil, as_i, as_r, Nat.reduceAdd, Nat.reduceLeDiff, z_eq0, z_eq1, z_or, z_em, Classical.not_not, not_false_eq_true, not_true_eq_false, true_and, and_true, false_and, and_false, and_self, true_implies, false_implies, implies_true, Option.toList_some, Option.toList_none, List.cons_append, List.nil_append, Nat.add_eq_zero_iff, a_nl_i, a_nl_r, a_nl_n, true_or, or_true, eq_self, ok_4, ok_5, ok_6, ok_7, ok_9, ok_10, ok_20, ok_21, ok_24, ok_30, ok_48, ok_50, ok_60, ok_80, ok_120, ok_180, ok_192, ok_200, ok_900, ok_1000, ok_84000, c87]
              try simp only [true_and, and_true, true_implies, false_implies, implies_true, not_true_eq_false, not_false_eq_true]
              first
                | exact hr _
                | grind
            · have c87 : ¬ 7 < y - x := fun q => c8 (by ((try clear hP); (try clear hm); (try clear hy); (try clear hl); (try clear hg); (try clear hno); (try clear r6)); grind)
              have hones : a_does (d + 15) 226 [.int s] (n, t, K, L, I, R) (fun r' h' => a_at (d + 15) (a_xm a_m242) 80 [some (a_rf M), some (.int x), some (.int y), some (.int s), some (.int w), none, none, none, none] (r'.toList ++ []) h' P) := by
                refine ct_onesB (d := d + 14) c2.1 (fun v hv => ?_)
                have ev : v = bcf s := Int32.toInt_inj.mp (hv.trans (bcf_pn c2.1).symm)
                subst ev
                by_cases c9 : 4 < bcf s
                · have hr := r6 (Or.inr c9)
                  have c9' : ¬ bcf s ≤ 4 := Int32.not_le.mpr c9
                  ((try clear hP); (try clear hm); (try clear hy); (try clear hl); (try clear hg); (try clear hno); (try clear r6))
                  simp only [q242_80, q242_81, q242_84, q242_85, q242_87, q242_90, m_0 hS, m_K hS, sp_refuse_1 hS, sp_refuse_2 hS, sp_refuse_3 hS, sp_refuse_4 hS, sp_refuse_5 hS, sp_refuse_6 hS, as_nil, as_i, as_r, Nat.reduceAdd, Nat.reduceLeDiff, z_eq0, z_eq1, z_or, z_em, Classical.not_not, not_false_eq_true, not_true_eq_false, true_and, and_true, false_and, and_false, and_self, true_implies, false_implies, implies_true, Option.toList_some, Option.toList_none, List.cons_append, List.nil_append, Nat.add_eq_zero_iff, a_nl_i, a_nl_r, a_nl_n, true_or, or_true, eq_self, ok_4, ok_5, ok_6, ok_7, ok_9, ok_10, ok_20, ok_21, ok_24, ok_30, ok_48, ok_50, ok_60, ok_80, ok_120, ok_180, ok_192, ok_200, ok_900, ok_1000, ok_84000, c9']
                  try simp only [true_and, and_true, true_implies, false_implies, implies_true, not_true_eq_false, not_false_eq_true]
                  first
                    | exact hr _
                    | grind
                · have c9' : bcf s ≤ 4 := Int32.not_lt.mp c9
                  have c5 : ¬ (8 ≤ y - x ∨ 4 < bcf s) := fun q => q.elim c8 c9
                  have m4 := me_4 c2.1 c9 n30
                  have y199 : y ≤ 199 := by ((try clear hP); (try clear hm); (try clear hy); (try clear hl); (try clear hg); (try clear hno); (try clear r6)); grind
                  have x199 : x ≤ 199 := by ((try clear hP); (try clear hm); (try clear hy); (try clear hl); (try clear hg); (try clear hno); (try clear r6)); grind
                  have d7 : y - x ≤ 7 := by ((try clear hP); (try clear hm); (try clear hy); (try clear hl); (try clear hg); (try clear hno); (try clear r6)); grind
                  have hpr := pl_mk (Y := Y) (f := x) (e := y) h6 ⟨c1.1.1, x199⟩ y199 ⟨c1.2.2, d7⟩
                  have hlp := xv_best_99 (d := d + 4) (n := n) (t := t) (I0 := I0) (P := P) hS hm (s := s) (x := x) (y := y) (w := w) c2.1 (fun c6 J => by
                    have h := hP J
                    unfold beV at h
                    rw [if_neg cc, if_neg c4, if_neg c5, if_pos c6] at h
                    exact h) (V := afB Y s (Y 0 17).toNatClampNeg 0) rfl m4 (fun c6 J k hgJ hfm hfw => by
                    have hval : beV Y x y s w = if w = -1 then (beR Y x y s).1 else soI (meB s (Y 0 17).toNatClampNeg).1 (fun k => enB Y x (plN Y x y) ((beR Y x y s).2 k)) w (meB s (Y 0 17).toNatClampNeg).2 0 := by
                      unfold beV
                      rw [if_neg cc, if_neg c4, if_neg c5, if_neg (by rw [c6]; decide)]
                    have mem : ∀ k, k < (meB s (Y 0 17).toNatClampNeg).2 → (0 ≤ (meB s (Y 0 17).toNatClampNeg).1 k ∧ (meB s (Y 0 17).toNatClampNeg).1 k < Y 0 17) ∧ bq s ((meB s (Y 0 17).toNatClampNeg).1 k).toNatClampNeg = true := fun k hk => by
                      obtain ⟨q, q1, q2, q3⟩ := me_in (r := s) (Y 0 17).toNatClampNeg (by omega) k hk
                      rw [q2, (io (n := q) (by omega)).2]
                      exact ⟨⟨io_0 (by omega), cl_lt2 (io_0 (by omega)) h17.1 (by rw [(io (n := q) (by omega)).2]; exact q1)⟩, q3⟩
                    have hfb := xv_findBest (d := d + 4) (n := n) (t := t) (g := (meB s (Y 0 17).toNatClampNeg).1) (m := (meB s (Y 0 17).toNatClampNeg).2) hS hm hpr ⟨c1.2.2, d7⟩ ⟨m4, fun k hk => ⟨(mem k hk).1.1, Int32.lt_of_lt_of_le (mem k hk).1.2 h17.2⟩, fun k j hk hj q => by
                      have e := cl_inj (mem k hk).1.1 (mem j hj).1.1 q
                      by_cases ckj : k < j
                      · exact absurd (me_up (r := s) (Y 0 17).toNatClampNeg (by omega) k j ckj hj) (by rw [e]; exact Int32.lt_irrefl)
                      · by_cases cjk : j < k
                        · exact absurd (me_up (r := s) (Y 0 17).toNatClampNeg (by omega) j k cjk hk) (by rw [e]; exact Int32.lt_irrefl)
                        · omega, fun k hk => by
                      have un := af_free (m := Y 0 17) (Y 0 17).toNatClampNeg 0 (by decide) h17.1 (by rw [show (0 : Int32).toNatClampNeg = 0 from rfl, Nat.zero_add]) c6 _ (mem k hk).1.1 (mem k hk).1.2 (mem k hk).2
                      exact hno _ (by have := cl_lt (mem k hk).1.1 (mem k hk).1.2; omega) un⟩ hgJ ⟨hfm, hfw⟩ (P := fun r' h' => a_at (d + 15) (a_xm a_m242) 177 [some (a_rf M), some (.int x), some (.int y), some (.int s), some (.int w), some (.int k), none, none, none] (r'.toList ++ []) h' P) (fun J2 hR2 hfm2 e62 hbw2 => by
                      show a_at (d + 15) (a_xm a_m242) 177 [some (a_rf M), some (.int x), some (.int y), some (.int s), some (.int w), some (.int k), none, none, none] [.int (beR Y x y s).1] (n, t, K, L, J2, R) P
                      by_cases c7 : w = -1
                      · have hp : P (some (.int (beR Y x y s).1)) (n, t, K, L, J2, R) := by
                          have h := hP J2
                          rw [hval, if_pos c7] at h
                          exact h
                        ((try clear hP); (try clear hm); (try clear hy); (try clear hl); (try clear hg); (try clear hno); (try clear r6); (try clear hval); (try clear hbw2); (try clear hfm2); (try clear mem); (try clear hgJ); (try clear hfm); (try clear hfw))
                        simp only [q242_177, q242_179, q242_181, q242_182, q242_185, q242_187, as_nil, as_i, as_r, Nat.reduceAdd, Nat.reduceLeDiff, z_eq0, z_eq1, z_or, z_em, Classical.not_not, not_false_eq_true, not_true_eq_false, true_and, and_true, false_and, and_false, and_self, true_implies, false_implies, implies_true, Option.toList_some, Option.toList_none, List.cons_append, List.nil_append, Nat.add_eq_zero_iff, a_nl_i, a_nl_r, a_nl_n, true_or, or_true, eq_self, ok_4, ok_5, ok_6, ok_7, ok_9, ok_10, ok_20, ok_21, ok_24, ok_30, ok_48, ok_50, ok_60, ok_80, ok_120, ok_180, ok_192, ok_200, ok_900, ok_1000, ok_84000, c7]
                        try simp only [true_and, and_true, true_implies, false_implies, implies_true, not_true_eq_false, not_false_eq_true]
                        first
                          | exact hp
                          | grind
                      · have hp : P (some (.int (soI (meB s (Y 0 17).toNatClampNeg).1 (fun k => enB Y x (plN Y x y) ((beR Y x y s).2 k)) w (meB s (Y 0 17).toNatClampNeg).2 0))) (n, t, K, L, J2, R) := by
                          have h := hP J2
                          rw [hval, if_neg c7] at h
                          exact h
                        have h195 := fun u => xv_best_195 (d := d + 15) (n := n) (t := t) (I := J2) (P := P) (g := (meB s (Y 0 17).toNatClampNeg).1) (w := (beR Y x y s).2) (f := x) (e := y) (m := (meB s (Y 0 17).toNatClampNeg).2) (s := s) (x := w) (z := (beR Y x y s).1) hS hR2 hpr ⟨c1.2.2, d7⟩ e62 m4 hfm2.1 hfm2.2 hbw2 (fun k _ => bsR_w hpr.1 (meB s (Y 0 17).toNatClampNeg).2 0 Y 0 (fun _ => 0) (-1, fun _ => 0) (fun _ => Int32.le_refl _) (fun _ => Int32.le_refl _) k) (fun k j hkj hj q => absurd (me_up (r := s) (Y 0 17).toNatClampNeg (by omega) k j hkj hj) (by rw [q]; exact Int32.lt_irrefl)) hp (meB s (Y 0 17).toNatClampNeg).2 0 (-9) u (Nat.zero_add _) (Or.inl ⟨rfl, rfl⟩)
                        ((try clear hP); (try clear hm); (try clear hy); (try clear hl); (try clear hg); (try clear hno); (try clear r6); (try clear hval); (try clear hbw2); (try clear hfm2); (try clear mem); (try clear hgJ); (try clear hfm); (try clear hfw); (try clear hp))
                        simp only [q242_177, q242_179, q242_181, q242_182, q242_185, q242_187, q242_188, q242_190, q242_192, q242_193, as_nil, as_i, as_r, Nat.reduceAdd, Nat.reduceLeDiff, z_eq0, z_eq1, z_or, z_em, Classical.not_not, not_false_eq_true, not_true_eq_false, true_and, and_true, false_and, and_false, and_self, true_implies, false_implies, implies_true, Option.toList_some, Option.toList_none, List.cons_append, List.nil_append, Nat.add_eq_zero_iff, a_nl_i, a_nl_r, a_nl_n, true_or, or_true, eq_self, ok_4, ok_5, ok_6, ok_7, ok_9, ok_10, ok_20, ok_21, ok_24, ok_30, ok_48, ok_50, ok_60, ok_80, ok_120, ok_180, ok_192, ok_200, ok_900, ok_1000, ok_84000, c7]
                        try simp only [true_and, and_true, true_implies, false_implies, implies_true, not_true_eq_false, not_false_eq_true]
                        first
                          | exact h195 _
                          | grind)
                    ((try clear hP); (try clear hm); (try clear hy); (try clear hl); (try clear hg); (try clear hno); (try clear r6); (try clear hval); (try clear mem); (try clear hgJ); (try clear hfm); (try clear hfw))
                    simp only [q242_171, q242_172, q242_173, q242_174, m_0 hS, m_K hS, as_nil, as_i, as_r, Nat.reduceAdd, Nat.reduceLeDiff, z_eq0, z_eq1, z_or, z_em, Classical.not_not, not_false_eq_true, not_true_eq_false, true_and, and_true, false_and, and_false, and_self, true_implies, false_implies, implies_true, Option.toList_some, Option.toList_none, List.cons_append, List.nil_append, Nat.add_eq_zero_iff, a_nl_i, a_nl_r, a_nl_n, true_or, or_true, eq_self, ok_4, ok_5, ok_6, ok_7, ok_9, ok_10, ok_20, ok_21, ok_24, ok_30, ok_48, ok_50, ok_60, ok_80, ok_120, ok_180, ok_192, ok_200, ok_900, ok_1000, ok_84000]
                    exact hfb) 0 (by decide) (a_ui I M 66 0) (by decide) h17.1 (gs_u0 hg (sR_fewMany hR) (by unfold ps1; omega)) (by rw [lp_0]) (by rw [ui_ap, if_pos ⟨rfl, rfl⟩]; rfl) (fun j hj => absurd hj (Nat.not_lt_zero j))
                  ((try clear hP); (try clear hm); (try clear hy); (try clear hl); (try clear hg); (try clear hno); (try clear r6))
                  simp only [q242_80, q242_81, q242_91, q242_92, q242_93, q242_96, q242_97, m_0 hS, m_K hS, as_nil, as_i, as_r, Nat.reduceAdd, Nat.reduceLeDiff, z_eq0, z_eq1, z_or, z_em, Classical.not_not, not_false_eq_true, not_true_eq_false, true_and, and_true, false_and, and_false, and_self, true_implies, false_implies, implies_true, Option.toList_some, Option.toList_none, List.cons_append, List.nil_append, Nat.add_eq_zero_iff, a_nl_i, a_nl_r, a_nl_n, true_or, or_true, eq_self, ok_4, ok_5, ok_6, ok_7, ok_9, ok_10, ok_20, ok_21, ok_24, ok_30, ok_48, ok_50, ok_60, ok_80, ok_120, ok_180, ok_192, ok_200, ok_900, ok_1000, ok_84000, c9']
                  try simp only [true_and, and_true, true_implies, false_implies, implies_true, not_true_eq_false, not_false_eq_true]
                  first
                    | exact hlp
                    | grind
              ((try clear hP); (try clear hm); (try clear hy); (try clear hl); (try clear hg); (try clear hno); (try clear r6))
              simp only [q242_68, q242_69, q242_70, q242_71, q242_73, q242_76, q242_77, as_nil, as_i, as_r, Nat.reduceAdd, Nat.reduceLeDiff, z_eq0, z_eq1, z_or, z_em, Classical.not_not, not_false_eq_true, not_true_eq_false, true_and, and_true, false_and, and_false, and_self, true_implies, false_implies, implies_true, Option.toList_some, Option.toList_none, List.cons_append, List.nil_append, Nat.add_eq_zero_iff, a_nl_i, a_nl_r, a_nl_n, true_or, or_true, eq_self, ok_4, ok_5, ok_6, ok_7, ok_9, ok_10, ok_20, ok_21, ok_24, ok_30, ok_48, ok_50, ok_60, ok_80, ok_120, ok_180, ok_192, ok_200, ok_900, ok_1000, ok_84000, c87]
              try simp only [true_and, and_true, true_implies, false_implies, implies_true, not_true_eq_false, not_false_eq_true]
              first
                | exact hones
                | grind
          by_cases c0 : 0 ≤ w
          · obtain ⟨w30, wb⟩ := c3 c0
            have hb := bq_vi c0 (by have := cl_lt w30.1 w30.2; rw [show (30 : Int32).toNatClampNeg = 30 from rfl] at this; omega) s
            rw [if_pos wb] at hb
            have w29 : ¬ 29 < w := fun q => by ((try clear hP); (try clear hm); (try clear hy); (try clear hl); (try clear hg); (try clear hno); (try clear r6); (try clear h68)); grind
            have wn : ¬ w < 0 := Int32.not_lt.mpr c0
            ((try clear hP); (try clear hm); (try clear hy); (try clear hl); (try clear hg); (try clear hno); (try clear r6))
            rw [a_enter1 (M := a_m242) rfl (a_cat_rf (a_cat_int (a_cat_int (a_cat_int (a_cat_int a_cat_nil))))) (show 5 ≤ 9 by decide)]
            show a_at _ (a_xm a_m242) 0 [some (a_rf M), some (.int x), some (.int y), some (.int s), some (.int w), none, none, none, none] [] _ _
            simp only [q242_0, q242_1, q242_2, q242_5, q242_8, q242_9, q242_12, q242_13, q242_14, q242_15, q242_18, q242_19, q242_28, q242_30, q242_31, q242_41, q242_43, q242_46, q242_48, q242_50, q242_53, q242_54, q242_56, q242_57, q242_58, q242_59, m_0 hS, m_K hS, sp_isSpan, as_nil, as_i, as_r, Nat.reduceAdd, Nat.reduceLeDiff, z_eq0, z_eq1, z_or, z_em, Classical.not_not, not_false_eq_true, not_true_eq_false, true_and, and_true, false_and, and_false, and_self, true_implies, false_implies, implies_true, Option.toList_some, Option.toList_none, List.cons_append, List.nil_append, Nat.add_eq_zero_iff, a_nl_i, a_nl_r, a_nl_n, true_or, or_true, eq_self, ok_4, ok_5, ok_6, ok_7, ok_9, ok_10, ok_20, ok_21, ok_24, ok_30, ok_48, ok_50, ok_60, ok_80, ok_120, ok_180, ok_192, ok_200, ok_900, ok_1000, ok_84000, m199, c1, e17, sn, sk, c4', wn, w29, hb]
            try simp only [true_and, and_true, true_implies, false_implies, implies_true, not_true_eq_false, not_false_eq_true]
            first
              | exact h68
              | grind
          · have wn : w < 0 := Int32.not_le.mp c0
            ((try clear hP); (try clear hm); (try clear hy); (try clear hl); (try clear hg); (try clear hno); (try clear r6))
            rw [a_enter1 (M := a_m242) rfl (a_cat_rf (a_cat_int (a_cat_int (a_cat_int (a_cat_int a_cat_nil))))) (show 5 ≤ 9 by decide)]
            show a_at _ (a_xm a_m242) 0 [some (a_rf M), some (.int x), some (.int y), some (.int s), some (.int w), none, none, none, none] [] _ _
            simp only [q242_0, q242_1, q242_2, q242_5, q242_8, q242_9, q242_12, q242_13, q242_14, q242_15, q242_18, q242_19, q242_28, q242_30, q242_31, q242_41, q242_43, m_0 hS, m_K hS, sp_isSpan, as_nil, as_i, as_r, Nat.reduceAdd, Nat.reduceLeDiff, z_eq0, z_eq1, z_or, z_em, Classical.not_not, not_false_eq_true, not_true_eq_false, true_and, and_true, false_and, and_false, and_self, true_implies, false_implies, implies_true, Option.toList_some, Option.toList_none, List.cons_append, List.nil_append, Nat.add_eq_zero_iff, a_nl_i, a_nl_r, a_nl_n, true_or, or_true, eq_self, ok_4, ok_5, ok_6, ok_7, ok_9, ok_10, ok_20, ok_21, ok_24, ok_30, ok_48, ok_50, ok_60, ok_80, ok_120, ok_180, ok_192, ok_200, ok_900, ok_1000, ok_84000, m199, c1, e17, sn, sk, c4', wn]
            try simp only [true_and, and_true, true_implies, false_implies, implies_true, not_true_eq_false, not_false_eq_true]
            first
              | exact h68
              | grind
        · have hr : ∀ J, P (some (.int (-1))) (n, t, K, L, J, R) := fun J => by
            have h := hP J
            unfold beV at h
            rw [if_pos (fun q => c3 q.2.2)] at h
            exact h
          have c0 : 0 ≤ w := by
            by_cases q : 0 ≤ w
            · exact q
            · exact absurd (fun z => absurd z q) c3
          have wn : ¬ w < 0 := Int32.not_lt.mpr c0
          by_cases w29 : 29 < w
          ·
            ((try clear hP); (try clear hm); (try clear hy); (try clear hl); (try clear hg); (try clear hno))
            rw [a_enter1 (M := a_m242) rfl (a_cat_rf (a_cat_int (a_cat_int (a_cat_int (a_cat_int a_cat_nil))))) (show 5 ≤ 9 by decide)]
            show a_at _ (a_xm a_m242) 0 [some (a_rf M), some (.int x), some (.int y), some (.int s), some (.int w), none, none, none, none] [] _ _
            simp only [q242_0, q242_1, q242_2, q242_5, q242_8, q242_9, q242_12, q242_13, q242_14, q242_15, q242_18, q242_19, q242_28, q242_30, q242_31, q242_41, q242_43, q242_46, q242_48, q242_50, q242_53, q242_54, q242_56, q242_57, q242_58, q242_59, q242_62, q242_63, q242_64, q242_67, m_0 hS, m_K hS, sp_isSpan, sp_refuse_1 hS, sp_refuse_2 hS, sp_refuse_3 hS, sp_refuse_4 hS, sp_refuse_5 hS, sp_refuse_6 hS, as_nil, as_i, as_r, Nat.reduceAdd, Nat.reduceLeDiff, z_eq0, z_eq1, z_or, z_em, Classical.not_not, not_false_eq_true, not_true_eq_false, true_and, and_true, false_and, and_false, and_self, true_implies, false_implies, implies_true, Option.toList_some, Option.toList_none, List.cons_append, List.nil_append, Nat.add_eq_zero_iff, a_nl_i, a_nl_r, a_nl_n, true_or, or_true, eq_self, ok_4, ok_5, ok_6, ok_7, ok_9, ok_10, ok_20, ok_21, ok_24, ok_30, ok_48, ok_50, ok_60, ok_80, ok_120, ok_180, ok_192, ok_200, ok_900, ok_1000, ok_84000, m199, c1, e17, sn, sk, c4', wn, w29]
            try simp only [true_and, and_true, true_implies, false_implies, implies_true, not_true_eq_false, not_false_eq_true]
            first
              | exact hr _
              | grind
          · have w30 : w < 30 := by ((try clear hP); (try clear hm); (try clear hy); (try clear hl); (try clear hg); (try clear hno); (try clear hr)); grind
            have hb := bq_vi c0 (by have := cl_lt c0 w30; rw [show (30 : Int32).toNatClampNeg = 30 from rfl] at this; omega) s
            rw [if_neg (fun q => c3 (fun _ => ⟨⟨c0, w30⟩, q⟩))] at hb
            ((try clear hP); (try clear hm); (try clear hy); (try clear hl); (try clear hg); (try clear hno))
            rw [a_enter1 (M := a_m242) rfl (a_cat_rf (a_cat_int (a_cat_int (a_cat_int (a_cat_int a_cat_nil))))) (show 5 ≤ 9 by decide)]
            show a_at _ (a_xm a_m242) 0 [some (a_rf M), some (.int x), some (.int y), some (.int s), some (.int w), none, none, none, none] [] _ _
            simp only [q242_0, q242_1, q242_2, q242_5, q242_8, q242_9, q242_12, q242_13, q242_14, q242_15, q242_18, q242_19, q242_28, q242_30, q242_31, q242_41, q242_43, q242_46, q242_48, q242_50, q242_53, q242_54, q242_56, q242_57, q242_58, q242_59, q242_62, q242_63, q242_64, q242_67, m_0 hS, m_K hS, sp_isSpan, sp_refuse_1 hS, sp_refuse_2 hS, sp_refuse_3 hS, sp_refuse_4 hS, sp_refuse_5 hS, sp_refuse_6 hS, as_nil, as_i, as_r, Nat.reduceAdd, Nat.reduceLeDiff, z_eq0, z_eq1, z_or, z_em, Classical.not_not, not_false_eq_true, not_true_eq_false, true_and, and_true, false_and, and_false, and_self, true_implies, false_implies, implies_true, Option.toList_some, Option.toList_none, List.cons_append, List.nil_append, Nat.add_eq_zero_iff, a_nl_i, a_nl_r, a_nl_n, true_or, or_true, eq_self, ok_4, ok_5, ok_6, ok_7, ok_9, ok_10, ok_20, ok_21, ok_24, ok_30, ok_48, ok_50, ok_60, ok_80, ok_120, ok_180, ok_192, ok_200, ok_900, ok_1000, ok_84000, m199, c1, e17, sn, sk, c4', wn, w29, hb]
            try simp only [true_and, and_true, true_implies, false_implies, implies_true, not_true_eq_false, not_false_eq_true]
            first
              | exact hr _
              | grind
    · have hr : ∀ J, P (some (.int (-1))) (n, t, K, L, J, R) := fun J => by
        have h := hP J
        unfold beV at h
        rw [if_pos (fun q => c2 q.2.1)] at h
        exact h
      by_cases sn : s < 0
      ·
        ((try clear hP); (try clear hm); (try clear hy); (try clear hl); (try clear hg); (try clear hno))
        rw [a_enter1 (M := a_m242) rfl (a_cat_rf (a_cat_int (a_cat_int (a_cat_int (a_cat_int a_cat_nil))))) (show 5 ≤ 9 by decide)]
        show a_at _ (a_xm a_m242) 0 [some (a_rf M), some (.int x), some (.int y), some (.int s), some (.int w), none, none, none, none] [] _ _
        simp only [q242_0, q242_1, q242_2, q242_5, q242_8, q242_9, q242_12, q242_13, q242_14, q242_15, q242_18, q242_19, q242_22, q242_23, q242_24, q242_27, m_0 hS, m_K hS, sp_isSpan, sp_refuse_1 hS, sp_refuse_2 hS, sp_refuse_3 hS, sp_refuse_4 hS, sp_refuse_5 hS, sp_refuse_6 hS, as_nil, as_i, as_r, Nat.reduceAdd, Nat.reduceLeDiff, z_eq0, z_eq1, z_or, z_em, Classical.not_not, not_false_eq_true, not_true_eq_false, true_and, and_true, false_and, and_false, and_self, true_implies, false_implies, implies_true, Option.toList_some, Option.toList_none, List.cons_append, List.nil_append, Nat.add_eq_zero_iff, a_nl_i, a_nl_r, a_nl_n, true_or, or_true, eq_self, ok_4, ok_5, ok_6, ok_7, ok_9, ok_10, ok_20, ok_21, ok_24, ok_30, ok_48, ok_50, ok_60, ok_80, ok_120, ok_180, ok_192, ok_200, ok_900, ok_1000, ok_84000, m199, c1, e17, sn]
        try simp only [true_and, and_true, true_implies, false_implies, implies_true, not_true_eq_false, not_false_eq_true]
        first
          | exact hr _
          | grind
      · have sk : (1 : Int32) <<< (Y 0 17 &&& 31) ≤ s := by rw [shl_k (Int32.not_lt.mp sn) h17]; exact fun q => c2 ⟨Int32.not_lt.mp sn, q⟩
        ((try clear hP); (try clear hm); (try clear hy); (try clear hl); (try clear hg); (try clear hno))
        rw [a_enter1 (M := a_m242) rfl (a_cat_rf (a_cat_int (a_cat_int (a_cat_int (a_cat_int a_cat_nil))))) (show 5 ≤ 9 by decide)]
        show a_at _ (a_xm a_m242) 0 [some (a_rf M), some (.int x), some (.int y), some (.int s), some (.int w), none, none, none, none] [] _ _
        simp only [q242_0, q242_1, q242_2, q242_5, q242_8, q242_9, q242_12, q242_13, q242_14, q242_15, q242_18, q242_19, q242_22, q242_23, q242_24, q242_27, m_0 hS, m_K hS, sp_isSpan, sp_refuse_1 hS, sp_refuse_2 hS, sp_refuse_3 hS, sp_refuse_4 hS, sp_refuse_5 hS, sp_refuse_6 hS, as_nil, as_i, as_r, Nat.reduceAdd, Nat.reduceLeDiff, z_eq0, z_eq1, z_or, z_em, Classical.not_not, not_false_eq_true, not_true_eq_false, true_and, and_true, false_and, and_false, and_self, true_implies, false_implies, implies_true, Option.toList_some, Option.toList_none, List.cons_append, List.nil_append, Nat.add_eq_zero_iff, a_nl_i, a_nl_r, a_nl_n, true_or, or_true, eq_self, ok_4, ok_5, ok_6, ok_7, ok_9, ok_10, ok_20, ok_21, ok_24, ok_30, ok_48, ok_50, ok_60, ok_80, ok_120, ok_180, ok_192, ok_200, ok_900, ok_1000, ok_84000, m199, c1, e17, sn, sk]
        try simp only [true_and, and_true, true_implies, false_implies, implies_true, not_true_eq_false, not_false_eq_true]
        first
          | exact hr _
          | grind
  · have hr : ∀ J, P (some (.int (-1))) (n, t, K, L, J, R) := fun J => by
      have h := hP J
      unfold beV at h
      rw [if_pos (fun q => c1 q.1)] at h
      exact h
    ((try clear hP); (try clear hm); (try clear hy); (try clear hl); (try clear hg); (try clear hno))
    rw [a_enter1 (M := a_m242) rfl (a_cat_rf (a_cat_int (a_cat_int (a_cat_int (a_cat_int a_cat_nil))))) (show 5 ≤ 9 by decide)]
    show a_at _ (a_xm a_m242) 0 [some (a_rf M), some (.int x), some (.int y), some (.int s), some (.int w), none, none, none, none] [] _ _
    simp only [q242_0, q242_1, q242_2, q242_5, q242_22, q242_23, q242_24, q242_27, m_0 hS, m_K hS, sp_isSpan, sp_refuse_1 hS, sp_refuse_2 hS, sp_refuse_3 hS, sp_refuse_4 hS, sp_refuse_5 hS, sp_refuse_6 hS, as_nil, as_i, as_r, Nat.reduceAdd, Nat.reduceLeDiff, z_eq0, z_eq1, z_or, z_em, Classical.not_not, not_false_eq_true, not_true_eq_false, true_and, and_true, false_and, and_false, and_self, true_implies, false_implies, implies_true, Option.toList_some, Option.toList_none, List.cons_append, List.nil_append, Nat.add_eq_zero_iff, a_nl_i, a_nl_r, a_nl_n, true_or, or_true, eq_self, ok_4, ok_5, ok_6, ok_7, ok_9, ok_10, ok_20, ok_21, ok_24, ok_30, ok_48, ok_50, ok_60, ok_80, ok_120, ok_180, ok_192, ok_200, ok_900, ok_1000, ok_84000, m199, c1]
    try simp only [true_and, and_true, true_implies, false_implies, implies_true, not_true_eq_false, not_false_eq_true]
    first
      | exact hr _
      | grind
end Z9F
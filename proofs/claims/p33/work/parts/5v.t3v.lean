/-! the class: what bars -/
section YV
variable {d n t C : Nat} {K L : Nat → Nat} {I I0 J J0 J1 J2 : Nat → Nat → Int32} {R : Nat → Nat → Nat} {P : Option Value → AH → Prop}
variable {Y : Nat → Nat → Int32}
/-- what holds of the model's words at all times -/
def yoP (Y : Nat → Nat → Int32) : Prop := (0 ≤ Y 0 41 ∧ Y 0 41 ≤ 20) ∧ (∀ j, 0 ≤ Y 10 j ∧ Y 10 j ≤ 4) ∧ (∀ i : Int32, 0 ≤ i → i < Y 0 17 → 1 ≤ Y 10 i.toNatClampNeg) ∧ (0 ≤ Y 0 9 ∧ Y 0 9 ≤ 3) ∧ (0 ≤ Y 0 17 ∧ Y 0 17 ≤ 30) ∧ (0 ≤ Y 0 6 ∧ Y 0 6 ≤ 6) ∧ inP Y ∧ mkP Y ∧ hbP Y ∧ (∀ i : Int32, 0 ≤ i → i < Y 0 17 → Y 7 i.toNatClampNeg = 1 → 0 ≤ Y 16 i.toNatClampNeg ∧ Y 16 i.toNatClampNeg < Y 0 17)
/-- an ASK of the class is one of the model's -/
def aaP (C : Nat) (K : Nat → Nat) (I Y : Nat → Nat → Int32) (i : Int32) (a : Nat) : Prop := (0 ≤ i ∧ i < Y 0 17) ∧ (K a = 1 ∧ ¬ a = 0 ∧ I a 4 = i) ∧ I a 12 = mkY (cmY Y) (hsY Y) i ∧ alP I Y i a
/-- the class's heap is the model's -/
def cpP (C : Nat) (K L : Nat → Nat) (I : Nat → Nat → Int32) (R : Nat → Nat → Nat) (Y : Nat → Nat → Int32) : Prop := (I (C + 1) 6 = Y 0 0 ∧ (∀ j, I (C + 2) j = Y 1 j) ∧ lsP C I Y) ∧ bhP C K I R Y ∧ asP C K I R Y ∧ txP C K L I R Y ∧ yoP Y
theorem aa_of (hc : cpP C K L I R Y) {i : Int32} (h0 : 0 ≤ i) (h1 : i < Y 0 17) : aaP C K I Y i (R (C + 15) i.toNatClampNeg) := ⟨⟨h0, h1⟩, hc.2.2.1.2.1 i h0 h1, hc.2.2.1.2.2.1 i h0 h1, hc.2.2.1.2.2.2 i h0 h1⟩
theorem aaP_J {a : Nat} {i : Int32} (ap : aaP C K I Y i a) (e : ∀ j, J a j = I a j) : aaP C K J Y i a := by
  obtain ⟨h1, ⟨h2, h3, h4⟩, h5, h6⟩ := ap
  refine ⟨h1, ⟨h2, h3, by rw [e]; exact h4⟩, by rw [e]; exact h5, ?_⟩
  unfold alP at h6 ⊢
  simp only [e]
  exact h6
theorem aaP_C (hT : cT C K L I R) {a : Nat} {i : Int32} (ap : aaP C K I Y i a) (h : dC C K L R I J) : aaP C K J Y i a := aaP_J ap (fun j => dC_at h hT ap.2.1.1 j)
theorem plP_eq {W T W' T' : Int32 → Nat → Int32} (h : plP W T Y) (h1 : ∀ b : Int32, 0 ≤ b → b < Y 0 6 → W' b = W b) (h2 : ∀ b : Int32, 0 ≤ b → b < Y 0 6 → T' b = T b) : plP W' T' Y := by
  refine ⟨fun o o1 o2 o3 => ?_, fun b x b1 b2 x1 x2 => ?_⟩
  · obtain ⟨p1, p2, p3, p4⟩ := h.1 o o1 o2 o3
    rw [h1 _ o3 p1, h2 _ o3 p1]
    exact ⟨p1, p2, p3, p4⟩
  · rw [h1 b b1 b2, h2 b b1 b2]
    exact h.2 b x b1 b2 x1 x2
theorem cpP_C (hT : cT C K L I R) (hc : cpP C K L I R Y) (h : dC C K L R I J) : cpP C K L J R Y := by
  have e : ∀ x j, ¬ x = C + 9 → ¬ x = C + 10 → J x j = I x j := h.2
  obtain ⟨⟨p1, p2, p3⟩, ⟨q1, q2, q3, q4⟩, ⟨r1, r2, r3, r4⟩, hx, hy⟩ := hc
  have eb : ∀ b : Int32, 0 ≤ b → b < Y 0 6 → ∀ j, J (R (C + 16) b.toNatClampNeg) j = I (R (C + 16) b.toNatClampNeg) j := fun b b0 b1 j => by
    have := (hT.g_bnc _ (q3 b b0 b1).1).1
    exact e _ _ (by omega) (by omega)
  have ea : ∀ i : Int32, 0 ≤ i → i < Y 0 17 → ∀ j, J (R (C + 15) i.toNatClampNeg) j = I (R (C + 15) i.toNatClampNeg) j := fun i i0 i1 j => dC_at h hT (r2 i i0 i1).1 j
  refine ⟨⟨by rw [e _ _ (by omega) (by omega)]; exact p1, fun j => by rw [e _ _ (by omega) (by omega)]; exact p2 j, fun s s0 s1 => by rw [e _ _ (by omega) (by omega)]; exact p3 s s0 s1⟩, ⟨by rw [e _ _ (by omega) (by omega)]; exact q1, by rw [e _ _ (by omega) (by omega)]; exact q2, fun b b0 b1 => by rw [eb b b0 b1, eb b b0 b1]; exact q3 b b0 b1, ?_⟩, ⟨by rw [e _ _ (by omega) (by omega)]; exact r1, fun i i0 i1 => by rw [ea i i0 i1]; exact r2 i i0 i1, fun i i0 i1 => by rw [ea i i0 i1]; exact r3 i i0 i1, fun i i0 i1 => ?_⟩, txP_C hT hx h, hy⟩
  · refine plP_eq q4 (fun b b0 b1 => funext (fun j => ?_)) (fun b b0 b1 => funext (fun j => ?_))
    · have g := hT.g_bnc _ (q3 b b0 b1).1
      have := g.2.1.1
      exact e _ _ (by omega) (by omega)
    · have g := hT.g_bnc _ (q3 b b0 b1).1
      have := g.2.2.1.1
      exact e _ _ (by omega) (by omega)
  · have h6 := r4 i i0 i1
    unfold alP at h6 ⊢
    simp only [ea i i0 i1]
    exact h6
theorem bc_255 {x : Int32} (h : 0 ≤ x ∧ x ≤ 255) : (x = 255) = (bcf x = 8) := by
  obtain ⟨k, rfl⟩ := fin256 h
  have key : ∀ k : Fin 256, (Int32.ofNat k.val = 255) ↔ (bcf (Int32.ofNat k.val) = 8) := by decide +kernel
  exact propext (key k)
theorem ce_fixedBar (hT : cT C K L I R) (hc : cpP C K L I R Y) {a : Nat} {i : Int32} (ap : aaP C K I Y i a) {b s : Int32} (hb : 0 ≤ b ∧ b < Y 0 6) (hs : 0 ≤ s) (hP : ∀ v, v = fxY Y i b s → P (some (.int v)) (n, t, K, L, I, R)) : a_does (d + 2) 102 [a_rf (C + 14), a_rf a, .int b, .int s] (n, t, K, L, I, R) P := by
  have hS := hT.s
  obtain ⟨ai, ⟨ha, an0, a4n⟩, am, al⟩ := id ap
  obtain ⟨a1, a2, a4, a3⟩ := hT.g_ask a ha
  have a0 : (a = 0) = False := eq_false an0
  have gA := hT.g_asksR
  have gB := hT.g_benchesR
  have gX := hT.g_textsR
  obtain ⟨⟨c1, c2, c3⟩, ⟨q1, q2, q3, q4⟩, hA, hX, hy⟩ := hc
  obtain ⟨k1, k2, k3, k4⟩ := q3 b hb.1 hb.2
  obtain ⟨⟨h0, h1, h2, h3, h5⟩, ⟨h6, h7, h8, h9⟩, -⟩ := al
  have b6 : b < 6 := Int32.lt_of_lt_of_le hb.2 hy.2.2.2.2.2.1.2
  have hbc : 0 ≤ b ∧ b < I (C + 14) 5 ∧ b < 6 := ⟨hb.1, by rw [q1]; exact hb.2, b6⟩
  have hlo := fun h1 : s < 200 => (bc_255 (hT.g_lost s.toNatClampNeg)).trans (by rw [c3 s hs h1])
  have hX2 : ∀ v, v = fxY Y i b s → P (some (.int v)) (n, t, K, L, I, R) := hP
  unfold fxY at hX2
  rw [Int32.mul_comm 8 s] at hX2
  clear hP hy q3 q4 hA hX
  rw [a_enter1 (M := a_m102) rfl (a_cat_rf (a_cat_rf (a_cat_int (a_cat_int a_cat_nil)))) (show 4 ≤ 5 by decide)]
  show a_at _ (a_xm a_m102) 0 [some (a_rf (C + 14)), some (a_rf a), some (.int b), some (.int s), none] [] _ _
  repeat' first
    | with_reducible apply And.intro
    | with_reducible assumption
    | with_reducible intro _
    | refine hX2 _ ?_
    | simp only [q102_0, q102_1, q102_2, q102_5, q102_7, q102_9, q102_12, q102_13, q102_16, q102_17, q102_18, q102_19, q102_20, q102_23, q102_24, q102_25, q102_27, q102_30, q102_31, q102_34, q102_35, q102_36, q102_37, q102_40, q102_41, q102_42, q102_43, q102_46, q102_49, q102_50, q102_53, q102_54, q102_57, q102_60, q102_61, q102_62, q102_63, q102_66, q102_69, q102_70, q102_71, q102_72, q102_75, q102_76, q102_79, q102_82, q102_83, q102_84, q102_87, q102_90, q102_91, q102_92, q102_93, q102_96, q102_97, q102_100, q102_103, q102_104, q102_105, q102_106, q102_107, q102_108, q102_111, q102_112, q102_115, q102_116, k_14 hS, z_14, r_14_0 hS, k_1 hS, z_1, r_1_0 hS, k_2 hS, l_2 hS, z_2, r_1_1 hS, k_3 hS, l_3 hS, z_3, sp_benchAt hS gB, sp_isShiftC, sp_hasBegun hS, as_nil, as_i, as_r, Nat.reduceAdd, Nat.reduceLeDiff, z_eq0, z_eq1, z_or, z_em, Classical.not_not, not_false_eq_true, not_true_eq_false, true_and, and_true, false_and, and_false, and_self, true_implies, false_implies, implies_true, Option.toList_some, Option.toList_none, List.cons_append, List.nil_append, Nat.add_eq_zero_iff, a_nl_i, a_nl_r, a_nl_n, true_or, or_true, eq_self, a_isRA_22, a_isRA_24, a_isRA_32, a_isA_20, ok_4, ok_5, ok_6, ok_7, ok_9, ok_20, ok_21, ok_30, ok_50, ok_180, ok_192, ok_200, ha, a0, hbc, k1, k2, k3, h6, h3, h7, c1, c2]
  all_goals ((try clear hX2); (try clear hT); (try clear hS); (try clear gA); (try clear gB); (try clear gX); (try clear c3); (try clear c2); grind [ui_ap])
theorem ce_isOthers {b : Nat} (hb : K b = 3) (hT : cT C K L I R) {s k : Int32} (hs : 0 ≤ s ∧ s < 200) (hP : P (some (.int (if ¬ I (R b 2) s.toNatClampNeg = -9 ∧ ¬ I (R b 2) s.toNatClampNeg = k then 1 else 0))) (n, t, K, L, I, R)) : a_does (d + 1) 105 [a_rf b, .int s, .int k] (n, t, K, L, I, R) P := by
  have hS := hT.s
  obtain ⟨b1, ⟨w1, w2, w3⟩, ⟨s1, s2, s3⟩, ⟨h1, h2, h3⟩, ⟨p1, p2, p3⟩, q1⟩ := hT.g_bnc b hb
  have b0 : (b = 0) = False := eq_false (by omega)
  have w0 : (R b 2 = 0) = False := eq_false (by omega)
  have s0 : (R b 3 = 0) = False := eq_false (by omega)
  have h0 : (R b 4 = 0) = False := eq_false (by omega)
  have p0 : (R b 5 = 0) = False := eq_false (by omega)
  rw [a_enter1 (M := a_m105) rfl (a_cat_rf (a_cat_int (a_cat_int a_cat_nil))) (show 3 ≤ 3 by decide)]
  show a_at _ (a_xm a_m105) 0 [some (a_rf b), some (.int s), some (.int k)] [] _ _
  repeat' first
    | with_reducible apply And.intro
    | with_reducible assumption
    | with_reducible intro _
    | simp only [q105_0, q105_1, q105_4, q105_5, q105_6, q105_8, q105_11, q105_12, q105_15, q105_16, q105_17, q105_18, q105_21, q105_22, q105_25, q105_26, as_nil, as_i, as_r, Nat.reduceAdd, Nat.reduceLeDiff, z_eq0, z_eq1, z_or, z_em, Classical.not_not, not_false_eq_true, not_true_eq_false, true_and, and_true, false_and, and_false, and_self, true_implies, false_implies, implies_true, Option.toList_some, Option.toList_none, List.cons_append, List.nil_append, Nat.add_eq_zero_iff, a_nl_i, a_nl_r, a_nl_n, true_or, or_true, eq_self, a_isRA_22, a_isRA_24, a_isRA_32, a_isA_20, ok_4, ok_5, ok_6, ok_7, ok_9, ok_20, ok_21, ok_30, ok_50, ok_180, ok_192, ok_200, hb, b0, w0, w2, w3, s0, s2, s3, h0, h2, h3, p0, p2]
  all_goals ((try clear hT); (try clear hS); grind [ui_ap])
theorem ce_isHadByOther (hT : cT C K L I R) (hc : cpP C K L I R Y) {a : Nat} {i : Int32} (ap : aaP C K I Y i a) {b s : Int32} (hb : 0 ≤ b ∧ b < Y 0 6) (hs : 0 ≤ s ∧ s < 200) (hP : P (some (.int (if ¬ (whC C I R) b s.toNatClampNeg = -9 ∧ ¬ (whC C I R) b s.toNatClampNeg = i then 1 else 0))) (n, t, K, L, I, R)) : a_does (d + 2) 104 [a_rf (C + 14), a_rf a, .int b, .int s] (n, t, K, L, I, R) P := by
  have hS := hT.s
  obtain ⟨ai, ⟨ha, an0, a4n⟩, am, al⟩ := id ap
  obtain ⟨a1, a2, a4, a3⟩ := hT.g_ask a ha
  have a0 : (a = 0) = False := eq_false an0
  have gA := hT.g_asksR
  have gB := hT.g_benchesR
  have gX := hT.g_textsR
  obtain ⟨-, ⟨q1, q2, q3, q4⟩, -, -, hy⟩ := hc
  obtain ⟨k1, k2, k3, k4⟩ := q3 b hb.1 hb.2
  have b6 : b < 6 := Int32.lt_of_lt_of_le hb.2 hy.2.2.2.2.2.1.2
  have hbc : 0 ≤ b ∧ b < I (C + 14) 5 ∧ b < 6 := ⟨hb.1, by rw [q1]; exact hb.2, b6⟩
  have hw : (whC C I R) b s.toNatClampNeg = I (R (R (C + 16) b.toNatClampNeg) 2) s.toNatClampNeg := rfl
  rw [a_enter1 (M := a_m104) rfl (a_cat_rf (a_cat_rf (a_cat_int (a_cat_int a_cat_nil)))) (show 4 ≤ 5 by decide)]
  show a_at _ (a_xm a_m104) 0 [some (a_rf (C + 14)), some (a_rf a), some (.int b), some (.int s), none] [] _ _
  simp only [q104_0, q104_1, q104_2, q104_5, q104_7, q104_9, q104_12, q104_14, q104_15, q104_16, q104_19, k_14 hS, z_14, sp_benchAt hS gB, as_nil, as_i, as_r, Nat.reduceAdd, Nat.reduceLeDiff, z_eq0, z_eq1, z_or, z_em, Classical.not_not, not_false_eq_true, not_true_eq_false, true_and, and_true, false_and, and_false, and_self, true_implies, false_implies, implies_true, Option.toList_some, Option.toList_none, List.cons_append, List.nil_append, Nat.add_eq_zero_iff, a_nl_i, a_nl_r, a_nl_n, true_or, or_true, eq_self, a_isRA_22, a_isRA_24, a_isRA_32, a_isA_20, ok_4, ok_5, ok_6, ok_7, ok_9, ok_20, ok_21, ok_30, ok_50, ok_180, ok_192, ok_200, ha, a0, hbc, k1, k2, a4n]
  try simp only [true_and, and_true, true_implies, false_implies, implies_true, not_true_eq_false, not_false_eq_true]
  refine ce_isOthers k1 hT hs ?_
  rw [← hw]
  by_cases c : ¬ (whC C I R) b s.toNatClampNeg = -9 ∧ ¬ (whC C I R) b s.toNatClampNeg = i
  · rw [if_pos c] at hP ⊢
    have n10 : ¬ (1 : Int32) = 0 := by decide
    clear q3 q4 hw hT
    simp only [q104_22, q104_25, q104_26, q104_29, q104_30, as_nil, as_i, as_r, Nat.reduceAdd, Nat.reduceLeDiff, z_eq0, z_eq1, z_or, z_em, Classical.not_not, not_false_eq_true, not_true_eq_false, true_and, and_true, false_and, and_false, and_self, true_implies, false_implies, implies_true, Option.toList_some, Option.toList_none, List.cons_append, List.nil_append, Nat.add_eq_zero_iff, a_nl_i, a_nl_r, a_nl_n, true_or, or_true, eq_self, a_isRA_22, a_isRA_24, a_isRA_32, a_isA_20, ok_4, ok_5, ok_6, ok_7, ok_9, ok_20, ok_21, ok_30, ok_50, ok_180, ok_192, ok_200, ha, a0, n10]
    first
      | exact hP
      | grind
  · rw [if_neg c] at hP ⊢
    clear q3 q4 hw hT
    simp only [q104_22, q104_25, q104_26, q104_29, q104_30, as_nil, as_i, as_r, Nat.reduceAdd, Nat.reduceLeDiff, z_eq0, z_eq1, z_or, z_em, Classical.not_not, not_false_eq_true, not_true_eq_false, true_and, and_true, false_and, and_false, and_self, true_implies, false_implies, implies_true, Option.toList_some, Option.toList_none, List.cons_append, List.nil_append, Nat.add_eq_zero_iff, a_nl_i, a_nl_r, a_nl_n, true_or, or_true, eq_self, a_isRA_22, a_isRA_24, a_isRA_32, a_isA_20, ok_4, ok_5, ok_6, ok_7, ok_9, ok_20, ok_21, ok_30, ok_50, ok_180, ok_192, ok_200, ha, a0]
    first
      | exact hP
      | grind
theorem le_isGearElsewhere_12 (hT : cT C K L I R) (hc : cpP C K L I R Y) {a : Nat} {i : Int32} (ap : aaP C K I Y i a) {b s : Int32} (hs : 0 ≤ s ∧ s < 200) {V : Int32} (hP : P (some (.int V)) (n, t, K, L, I, R)) : ∀ x : Int32, x ≤ 6 → ∀ u w, 0 ≤ x → x ≤ Y 0 6 → geC (whC C I R) (Y 14) i b s (Y 0 17) ((Y 0 6).toNatClampNeg - x.toNatClampNeg) x = V → a_at (d + 1) (a_xm a_m106) 12 [some (a_rf (C + 14)), some (a_rf a), some (.int b), some (.int s), some (.int x), u, w] [] (n, t, K, L, I, R) P := by
  have hS := hT.s
  obtain ⟨ai, ⟨ha, an0, a4n⟩, am, al⟩ := id ap
  obtain ⟨a1, a2, a4, a3⟩ := hT.g_ask a ha
  have a0 : (a = 0) = False := eq_false an0
  have gA := hT.g_asksR
  have gB := hT.g_benchesR
  have gX := hT.g_textsR
  have aa := fun x : Int32 => aa_of (C := C) (i := x) hc
  obtain ⟨-, ⟨q1, q2, q3, q4⟩, hA, -, hy⟩ := hc
  have e8 : I a 8 = Y 14 i.toNatClampNeg := al.2.1.2.2.1
  have y17 := hy.2.2.2.2.1
  have y6 := hy.2.2.2.2.2.1
  refine up_ind 6 (fun x x6 ih => ?_)
  intro u w h0 h1 hV
  have hexit : ¬ x < Y 0 6 → P (some (.int 0)) (n, t, K, L, I, R) := fun w => by
    rw [(lp_end h1 w).1] at hV
    rw [show 0 = V from hV]
    exact hP
  have hV2 : x < Y 0 6 → (if (¬ x = b ∧ ¬ (whC C I R) x s.toNatClampNeg = -9 ∧ ¬ (whC C I R) x s.toNatClampNeg = i) ∧ (0 ≤ (whC C I R) x s.toNatClampNeg ∧ (whC C I R) x s.toNatClampNeg < Y 0 17) ∧ Y 14 ((whC C I R) x s.toNatClampNeg).toNatClampNeg = Y 14 i.toNatClampNeg then 1 else geC (whC C I R) (Y 14) i b s (Y 0 17) ((Y 0 6).toNatClampNeg - (x + 1).toNatClampNeg) (x + 1)) = V := fun w => by
    rw [(lp_st h0 w).1] at hV
    exact hV
  have hone : x < Y 0 6 → ((¬ x = b ∧ ¬ (whC C I R) x s.toNatClampNeg = -9 ∧ ¬ (whC C I R) x s.toNatClampNeg = i) ∧ (0 ≤ (whC C I R) x s.toNatClampNeg ∧ (whC C I R) x s.toNatClampNeg < Y 0 17) ∧ Y 14 ((whC C I R) x s.toNatClampNeg).toNatClampNeg = Y 14 i.toNatClampNeg) → P (some (.int 1)) (n, t, K, L, I, R) := fun w c => by
    have hV := hV2 w
    rw [if_pos c] at hV
    rw [hV]
    exact hP
  have hgo : x < Y 0 6 → ¬ ((¬ x = b ∧ ¬ (whC C I R) x s.toNatClampNeg = -9 ∧ ¬ (whC C I R) x s.toNatClampNeg = i) ∧ (0 ≤ (whC C I R) x s.toNatClampNeg ∧ (whC C I R) x s.toNatClampNeg < Y 0 17) ∧ Y 14 ((whC C I R) x s.toNatClampNeg).toNatClampNeg = Y 14 i.toNatClampNeg) → ∀ u w, a_at (d + 1) (a_xm a_m106) 12 [some (a_rf (C + 14)), some (a_rf a), some (.int b), some (.int s), some (.int (x + 1)), u, w] [] (n, t, K, L, I, R) P := fun w c u2 w2 => by
    have hV := hV2 w
    rw [if_neg c] at hV
    obtain ⟨s1, s2, s3, s4⟩ := lp_st h0 w
    exact ih (Int32.lt_of_lt_of_le w y6.2) u2 w2 s2 s3 hV
  have h21 : x < Y 0 6 → a_at (d + 1) (a_xm a_m106) 21 [some (a_rf (C + 14)), some (a_rf a), some (.int b), some (.int s), some (.int x), u, w] [] (n, t, K, L, I, R) P := fun w9 => by
    have hone := hone w9
    have hgo := hgo w9
    obtain ⟨k1, k2, k3, k4⟩ := q3 x h0 w9
    have hw : (whC C I R) x s.toNatClampNeg = I (R (R (C + 16) x.toNatClampNeg) 2) s.toNatClampNeg := rfl
    obtain ⟨b1, ⟨w1, w2, w3⟩, -⟩ := hT.g_bnc _ k1
    have w0 : (R (R (C + 16) x.toNatClampNeg) 2 = 0) = False := eq_false (by omega)
    have ok2 : a_ok s (L (R (R (C + 16) x.toNatClampNeg) 2)) := by rw [w3, ok_200]; exact hs
    have hbc : 0 ≤ x ∧ x < I (C + 14) 5 ∧ x < 6 := ⟨h0, by rw [q1]; exact w9, Int32.lt_of_lt_of_le w9 y6.2⟩
    have aw := aa ((whC C I R) x s.toNatClampNeg)
    have hat : I (C + 14) 4 = Y 0 17 := hA.1
    rw [hw] at hone hgo aw
    generalize hz : I (R (R (C + 16) x.toNatClampNeg) 2) s.toNatClampNeg = z at hone hgo aw
    have az : 0 ≤ z → z < Y 0 17 → (K (R (C + 15) z.toNatClampNeg) = 1 ∧ ¬ R (C + 15) z.toNatClampNeg = 0) ∧ I (R (C + 15) z.toNatClampNeg) 8 = Y 14 z.toNatClampNeg := fun z0 z1 => ⟨⟨(aw z0 z1).2.1.1, (aw z0 z1).2.1.2.1⟩, (aw z0 z1).2.2.2.2.1.2.2.1⟩
    have z30 : z < Y 0 17 → z < 30 := fun q => Int32.lt_of_lt_of_le q y17.2
    clear ih hV hV2 hexit hP aw hA aa q3 q4
    simp only [q106_21, q106_22, q106_24, q106_27, q106_29, q106_31, q106_32, k_14 hS, z_14, sp_benchAt hS gB, as_nil, as_i, as_r, Nat.reduceAdd, Nat.reduceLeDiff, z_eq0, z_eq1, z_or, z_em, Classical.not_not, not_false_eq_true, not_true_eq_false, true_and, and_true, false_and, and_false, and_self, true_implies, false_implies, implies_true, Option.toList_some, Option.toList_none, List.cons_append, List.nil_append, Nat.add_eq_zero_iff, a_nl_i, a_nl_r, a_nl_n, true_or, or_true, eq_self, a_isRA_22, a_isRA_24, a_isRA_32, a_isA_20, ok_4, ok_5, ok_6, ok_7, ok_9, ok_20, ok_21, ok_30, ok_50, ok_180, ok_192, ok_200, ha, a0, hbc, k1, k2]
    try simp only [true_and, and_true, true_implies, false_implies, implies_true, not_true_eq_false, not_false_eq_true]
    have h85 : ¬ ((¬ x = b ∧ ¬ z = -9 ∧ ¬ z = i) ∧ (0 ≤ z ∧ z < Y 0 17) ∧ Y 14 z.toNatClampNeg = Y 14 i.toNatClampNeg) → ∀ u w, a_at (d + 1) (a_xm a_m106) 85 [some (a_rf (C + 14)), some (a_rf a), some (.int b), some (.int s), some (.int x), u, w] [] (n, t, K, L, I, R) P := fun c u w => by
      have hg := hgo c u w
      clear hgo hone az
      simp only [q106_85, q106_88, as_nil, as_i, as_r, Nat.reduceAdd, Nat.reduceLeDiff, z_eq0, z_eq1, z_or, z_em, Classical.not_not, not_false_eq_true, not_true_eq_false, true_and, and_true, false_and, and_false, and_self, true_implies, false_implies, implies_true, Option.toList_some, Option.toList_none, List.cons_append, List.nil_append, Nat.add_eq_zero_iff, a_nl_i, a_nl_r, a_nl_n, true_or, or_true, eq_self, a_isRA_22, a_isRA_24, a_isRA_32, a_isA_20, ok_4, ok_5, ok_6, ok_7, ok_9, ok_20, ok_21, ok_30, ok_50, ok_180, ok_192, ok_200]
      exact hg
    have h35 : ¬ x = b → a_at (d + 1) (a_xm a_m106) 35 [some (a_rf (C + 14)), some (a_rf a), some (.int b), some (.int s), some (.int x), some (a_rf (R (C + 16) x.toNatClampNeg)), w] [] (n, t, K, L, I, R) P := fun xb => by
      simp only [q106_35, q106_37, q106_40, q106_42, q106_43, q106_44, q106_47, k_14 hS, z_14, as_nil, as_i, as_r, Nat.reduceAdd, Nat.reduceLeDiff, z_eq0, z_eq1, z_or, z_em, Classical.not_not, not_false_eq_true, not_true_eq_false, true_and, and_true, false_and, and_false, and_self, true_implies, false_implies, implies_true, Option.toList_some, Option.toList_none, List.cons_append, List.nil_append, Nat.add_eq_zero_iff, a_nl_i, a_nl_r, a_nl_n, true_or, or_true, eq_self, a_isRA_22, a_isRA_24, a_isRA_32, a_isA_20, ok_4, ok_5, ok_6, ok_7, ok_9, ok_20, ok_21, ok_30, ok_50, ok_180, ok_192, ok_200, ha, a0, hbc, k1, k2, a4n]
      try simp only [true_and, and_true, true_implies, false_implies, implies_true, not_true_eq_false, not_false_eq_true]
      refine ce_isOthers k1 hT hs ?_
      rw [hz]
      by_cases c1 : ¬ z = -9 ∧ ¬ z = i
      · rw [if_pos c1]
        have n10 : ¬ (1 : Int32) = 0 := by decide
        simp only [q106_50, q106_53, q106_54, q106_56, q106_59, q106_60, q106_61, q106_64, q106_66, q106_68, q106_71, q106_73, q106_76, q106_77, q106_80, q106_83, q106_84, k_14 hS, z_14, sp_askAt hS gA, as_nil, as_i, as_r, Nat.reduceAdd, Nat.reduceLeDiff, z_eq0, z_eq1, z_or, z_em, Classical.not_not, not_false_eq_true, not_true_eq_false, true_and, and_true, false_and, and_false, and_self, true_implies, false_implies, implies_true, Option.toList_some, Option.toList_none, List.cons_append, List.nil_append, Nat.add_eq_zero_iff, a_nl_i, a_nl_r, a_nl_n, true_or, or_true, eq_self, a_isRA_22, a_isRA_24, a_isRA_32, a_isA_20, ok_4, ok_5, ok_6, ok_7, ok_9, ok_20, ok_21, ok_30, ok_50, ok_180, ok_192, ok_200, ha, a0, n10, k1, k2, w0, w2, ok2, hz, hat, e8]
        try simp only [true_and, and_true, true_implies, false_implies, implies_true, not_true_eq_false, not_false_eq_true]
        by_cases c2 : 0 ≤ z ∧ z < Y 0 17
        · obtain ⟨⟨az1, az2⟩, az3⟩ := az c2.1 c2.2
          have c3 := z30 c2.2
          have h85 := fun (q : ¬ Y 14 z.toNatClampNeg = Y 14 i.toNatClampNeg) => h85 (fun c => q c.2.2) (some (a_rf (R (C + 16) x.toNatClampNeg))) (some (a_rf (R (C + 15) z.toNatClampNeg)))
          have hone := fun q => hone ⟨⟨xb, c1⟩, c2, q⟩
          clear hgo az hT
          simp only [az1, az2, az3, c2.1, c2.2, c3]
          grind
        · have h85 := h85 (fun c => c2 c.2.1) (some (a_rf (R (C + 16) x.toNatClampNeg))) (some (a_rf 0))
          have c2' : ¬ (0 ≤ z ∧ z < Y 0 17 ∧ z < 30) := fun q => c2 ⟨q.1, q.2.1⟩
          clear hgo az hT hone
          simp only [c2']
          grind
      · rw [if_neg c1]
        have h85 := h85 (fun c => c1 c.1.2) (some (a_rf (R (C + 16) x.toNatClampNeg))) w
        clear hgo az hT hone
        simp only [q106_50, as_nil, as_i, as_r, Nat.reduceAdd, Nat.reduceLeDiff, z_eq0, z_eq1, z_or, z_em, Classical.not_not, not_false_eq_true, not_true_eq_false, true_and, and_true, false_and, and_false, and_self, true_implies, false_implies, implies_true, Option.toList_some, Option.toList_none, List.cons_append, List.nil_append, Nat.add_eq_zero_iff, a_nl_i, a_nl_r, a_nl_n, true_or, or_true, eq_self, a_isRA_22, a_isRA_24, a_isRA_32, a_isA_20, ok_4, ok_5, ok_6, ok_7, ok_9, ok_20, ok_21, ok_30, ok_50, ok_180, ok_192, ok_200, ha, a0]
        first
          | exact h85
          | grind
    have h85 := fun q => h85 (fun c => c.1.1 q) (some (a_rf (R (C + 16) x.toNatClampNeg))) w
    clear hgo az hT hone
    grind
  clear ih hV hV2 hP hgo hone q3 q4 hA aa
  rw [q106_12]
  simp only [q106_14, q106_15, q106_18, q106_91, q106_92, k_14 hS, z_14, as_nil, as_i, as_r, Nat.reduceAdd, Nat.reduceLeDiff, z_eq0, z_eq1, z_or, z_em, Classical.not_not, not_false_eq_true, not_true_eq_false, true_and, and_true, false_and, and_false, and_self, true_implies, false_implies, implies_true, Option.toList_some, Option.toList_none, List.cons_append, List.nil_append, Nat.add_eq_zero_iff, a_nl_i, a_nl_r, a_nl_n, true_or, or_true, eq_self, a_isRA_22, a_isRA_24, a_isRA_32, a_isA_20, ok_4, ok_5, ok_6, ok_7, ok_9, ok_20, ok_21, ok_30, ok_50, ok_180, ok_192, ok_200, ha, a0, q1]
  clear hT
  grind
theorem ce_isGearElsewhere (hT : cT C K L I R) (hc : cpP C K L I R Y) {a : Nat} {i : Int32} (ap : aaP C K I Y i a) {b s : Int32} (hs : 0 ≤ s ∧ s < 200) (hP : P (some (.int (if 0 ≤ Y 14 i.toNatClampNeg ∧ geC (whC C I R) (Y 14) i b s (Y 0 17) (Y 0 6).toNatClampNeg 0 = 1 then 1 else 0))) (n, t, K, L, I, R)) : a_does (d + 2) 106 [a_rf (C + 14), a_rf a, .int b, .int s] (n, t, K, L, I, R) P := by
  have hS := hT.s
  obtain ⟨ai, ⟨ha, an0, a4n⟩, am, al⟩ := id ap
  obtain ⟨a1, a2, a4, a3⟩ := hT.g_ask a ha
  have a0 : (a = 0) = False := eq_false an0
  have e8 : I a 8 = Y 14 i.toNatClampNeg := al.2.1.2.2.1
  have y6 := hc.2.2.2.2.2.2.2.2.2.1
  have h4 := geC_is (W := (whC C I R)) (G := Y 14) (a := i) (b := b) (s := s) (m := Y 0 17) (n := Y 0 6) (Y 0 6).toNatClampNeg 0 (by decide) y6.1 (by rw [show (0 : Int32).toNatClampNeg = 0 from rfl, Nat.zero_add])
  have h01 : geC (whC C I R) (Y 14) i b s (Y 0 17) (Y 0 6).toNatClampNeg 0 = 0 ∨ geC (whC C I R) (Y 14) i b s (Y 0 17) (Y 0 6).toNatClampNeg 0 = 1 := h4.elim (fun q => Or.inr q.2) (fun q => Or.inl q.2)
  have d10 : ¬ (0 : Int32) = 1 := by decide
  by_cases c : 0 ≤ Y 14 i.toNatClampNeg
  · have hp : P (some (.int (geC (whC C I R) (Y 14) i b s (Y 0 17) (Y 0 6).toNatClampNeg 0))) (n, t, K, L, I, R) := by
      rcases h01 with e | e
      · rw [if_neg (fun q => d10 (e.symm.trans q.2))] at hP
        rw [e]
        exact hP
      · rw [if_pos ⟨c, e⟩] at hP
        rw [e]
        exact hP
    have hl := le_isGearElsewhere_12 (d := d) hT hc ap (b := b) hs hp 0 (by decide) none none (by decide) y6.1 (by rw [lp_0])
    have c' : ¬ Y 14 i.toNatClampNeg < 0 := Int32.not_lt.mpr c
    clear hP hp h4 h01
    rw [a_enter1 (M := a_m106) rfl (a_cat_rf (a_cat_rf (a_cat_int (a_cat_int a_cat_nil)))) (show 4 ≤ 7 by decide)]
    show a_at _ (a_xm a_m106) 0 [some (a_rf (C + 14)), some (a_rf a), some (.int b), some (.int s), none, none, none] [] _ _
    simp only [q106_0, q106_1, q106_4, q106_7, q106_8, q106_9, q106_10, k_14 hS, z_14, as_nil, as_i, as_r, Nat.reduceAdd, Nat.reduceLeDiff, z_eq0, z_eq1, z_or, z_em, Classical.not_not, not_false_eq_true, not_true_eq_false, true_and, and_true, false_and, and_false, and_self, true_implies, false_implies, implies_true, Option.toList_some, Option.toList_none, List.cons_append, List.nil_append, Nat.add_eq_zero_iff, a_nl_i, a_nl_r, a_nl_n, true_or, or_true, eq_self, a_isRA_22, a_isRA_24, a_isRA_32, a_isA_20, ok_4, ok_5, ok_6, ok_7, ok_9, ok_20, ok_21, ok_30, ok_50, ok_180, ok_192, ok_200, ha, a0, e8, c', c]
    first
      | exact hl
      | grind
  · rw [if_neg (fun q => c q.1)] at hP
    have c' : Y 14 i.toNatClampNeg < 0 := Int32.not_le.mp c
    clear h4 h01
    rw [a_enter1 (M := a_m106) rfl (a_cat_rf (a_cat_rf (a_cat_int (a_cat_int a_cat_nil)))) (show 4 ≤ 7 by decide)]
    show a_at _ (a_xm a_m106) 0 [some (a_rf (C + 14)), some (a_rf a), some (.int b), some (.int s), none, none, none] [] _ _
    simp only [q106_0, q106_1, q106_4, q106_7, q106_8, k_14 hS, z_14, as_nil, as_i, as_r, Nat.reduceAdd, Nat.reduceLeDiff, z_eq0, z_eq1, z_or, z_em, Classical.not_not, not_false_eq_true, not_true_eq_false, true_and, and_true, false_and, and_false, and_self, true_implies, false_implies, implies_true, Option.toList_some, Option.toList_none, List.cons_append, List.nil_append, Nat.add_eq_zero_iff, a_nl_i, a_nl_r, a_nl_n, true_or, or_true, eq_self, a_isRA_22, a_isRA_24, a_isRA_32, a_isA_20, ok_4, ok_5, ok_6, ok_7, ok_9, ok_20, ok_21, ok_30, ok_50, ok_180, ok_192, ok_200, ha, a0, e8, c', c]
    first
      | exact hP
      | grind
theorem ce_freeHostsA (hT : cT C K L I R) (hc : cpP C K L I R Y) {a : Nat} {i : Int32} (ap : aaP C K I Y i a) {b s : Int32} (hb : 0 ≤ b ∧ b < Y 0 6) (hs : 0 ≤ s ∧ s < 200) (hP : P (some (.int (fhY Y i b s))) (n, t, K, L, I, R)) : a_does (d + 2) 108 [a_rf (C + 14), a_rf a, .int b, .int s] (n, t, K, L, I, R) P := by
  have hy := hc.2.2.2.2
  refine ce_freeHosts hT hc.2.1 hy.2.1 hy.2.2.2.1 hy.2.2.2.2.1 ap.2.1.1 hb hs ?_
  rw [ap.2.1.2.2]
  exact hP
theorem ce_lacksHosts (hT : cT C K L I R) (hc : cpP C K L I R Y) {a : Nat} {i : Int32} (ap : aaP C K I Y i a) {b s w : Int32} (hb : 0 ≤ b ∧ b < Y 0 6) (hs : 0 ≤ s ∧ s < 200) (h0 : ¬ bcf (fhY Y i b s) < (if w = 0 then 1 else 2) → P (some (.int 0)) (n, t, K, L, I, R)) (h1 : bcf (fhY Y i b s) < (if w = 0 then 1 else 2) → P (some (.int 1)) (n, t, K, L, I, R)) : a_does (d + 3) 107 [a_rf (C + 14), a_rf a, .int b, .int s, .int w] (n, t, K, L, I, R) P := by
  have hS := hT.s
  obtain ⟨ai, ⟨ha, an0, a4n⟩, am, al⟩ := id ap
  obtain ⟨a1, a2, a4, a3⟩ := hT.g_ask a ha
  have a0 : (a = 0) = False := eq_false an0
  rw [a_enter1 (M := a_m107) rfl (a_cat_rf (a_cat_rf (a_cat_int (a_cat_int (a_cat_int a_cat_nil))))) (show 5 ≤ 5 by decide)]
  show a_at _ (a_xm a_m107) 0 [some (a_rf (C + 14)), some (a_rf a), some (.int b), some (.int s), some (.int w)] [] _ _
  simp only [q107_0, q107_1, q107_2, q107_3, q107_4, k_14 hS, z_14, as_nil, as_i, as_r, Nat.reduceAdd, Nat.reduceLeDiff, z_eq0, z_eq1, z_or, z_em, Classical.not_not, not_false_eq_true, not_true_eq_false, true_and, and_true, false_and, and_false, and_self, true_implies, false_implies, implies_true, Option.toList_some, Option.toList_none, List.cons_append, List.nil_append, Nat.add_eq_zero_iff, a_nl_i, a_nl_r, a_nl_n, true_or, or_true, eq_self, a_isRA_22, a_isRA_24, a_isRA_32, a_isA_20, ok_4, ok_5, ok_6, ok_7, ok_9, ok_20, ok_21, ok_30, ok_50, ok_180, ok_192, ok_200, ha, a0]
  try simp only [true_and, and_true, true_implies, false_implies, implies_true, not_true_eq_false, not_false_eq_true]
  refine ce_freeHostsA hT hc ap hb hs ?_
  simp only [q107_7, as_nil, as_i, as_r, Nat.reduceAdd, Nat.reduceLeDiff, z_eq0, z_eq1, z_or, z_em, Classical.not_not, not_false_eq_true, not_true_eq_false, true_and, and_true, false_and, and_false, and_self, true_implies, false_implies, implies_true, Option.toList_some, Option.toList_none, List.cons_append, List.nil_append, Nat.add_eq_zero_iff, a_nl_i, a_nl_r, a_nl_n, true_or, or_true, eq_self, a_isRA_22, a_isRA_24, a_isRA_32, a_isA_20, ok_4, ok_5, ok_6, ok_7, ok_9, ok_20, ok_21, ok_30, ok_50, ok_180, ok_192, ok_200, sp_bitCount]
  generalize bcf (fhY Y i b s) = q at h0 h1 ⊢
  clear hc ap al am hT
  by_cases c : w = 0
  · rw [if_pos c] at h0 h1
    simp only [q107_10, q107_12, q107_15, q107_16, q107_19, q107_20, q107_23, q107_24, q107_27, q107_28, as_nil, as_i, as_r, Nat.reduceAdd, Nat.reduceLeDiff, z_eq0, z_eq1, z_or, z_em, Classical.not_not, not_false_eq_true, not_true_eq_false, true_and, and_true, false_and, and_false, and_self, true_implies, false_implies, implies_true, Option.toList_some, Option.toList_none, List.cons_append, List.nil_append, Nat.add_eq_zero_iff, a_nl_i, a_nl_r, a_nl_n, true_or, or_true, eq_self, a_isRA_22, a_isRA_24, a_isRA_32, a_isA_20, ok_4, ok_5, ok_6, ok_7, ok_9, ok_20, ok_21, ok_30, ok_50, ok_180, ok_192, ok_200, c]
    grind
  · rw [if_neg c] at h0 h1
    simp only [q107_10, q107_12, q107_15, q107_16, q107_19, q107_20, q107_23, q107_24, q107_27, q107_28, as_nil, as_i, as_r, Nat.reduceAdd, Nat.reduceLeDiff, z_eq0, z_eq1, z_or, z_em, Classical.not_not, not_false_eq_true, not_true_eq_false, true_and, and_true, false_and, and_false, and_self, true_implies, false_implies, implies_true, Option.toList_some, Option.toList_none, List.cons_append, List.nil_append, Nat.add_eq_zero_iff, a_nl_i, a_nl_r, a_nl_n, true_or, or_true, eq_self, a_isRA_22, a_isRA_24, a_isRA_32, a_isA_20, ok_4, ok_5, ok_6, ok_7, ok_9, ok_20, ok_21, ok_30, ok_50, ok_180, ok_192, ok_200, c]
    grind
theorem ce_isTooNear (hT : cT C K L I R) (hc : cpP C K L I R Y) {a : Nat} {i : Int32} (ap : aaP C K I Y i a) {f : Int32} (h0 : ¬ tnY Y i f → P (some (.int 0)) (n, t, K, L, I, R)) (h1 : tnY Y i f → P (some (.int 1)) (n, t, K, L, I, R)) : a_does (d + 2) 110 [a_rf (C + 14), a_rf a, .int f] (n, t, K, L, I, R) P := by
  have hS := hT.s
  obtain ⟨ai, ⟨ha, an0, a4n⟩, am, al⟩ := id ap
  obtain ⟨a1, a2, a4, a3⟩ := hT.g_ask a ha
  have a0 : (a = 0) = False := eq_false an0
  have gA := hT.g_asksR
  have gB := hT.g_benchesR
  have gX := hT.g_textsR
  have e5 : I a 5 = Y 7 i.toNatClampNeg := al.1.2.2.2.2
  unfold tnY at h0 h1
  by_cases c : Y 7 i.toNatClampNeg = 1
  · obtain ⟨e10, e11⟩ := al.2.2.1 (Or.inl c)
    obtain ⟨x0, x1⟩ := hc.2.2.2.2.2.2.2.2.2.2.2.2.2 i ai.1 ai.2 c
    have ax := aa_of hc x0 x1
    have e4 : I (C + 14) 4 = Y 0 17 := hc.2.2.1.1
    have x30 : Y 16 i.toNatClampNeg < 30 := Int32.lt_of_lt_of_le x1 hc.2.2.2.2.2.2.2.2.1.2
    have n0 := ax.2.1.2.1
    have k1 := ax.2.1.1
    have f2 := ax.2.2.2.1.2.2.1
    have f13 := ax.2.2.2.2.2.2.1.1
    have f14 := ax.2.2.2.2.2.2.1.2
    clear ax hc ap al am
    rw [a_enter1 (M := a_m110) rfl (a_cat_rf (a_cat_rf (a_cat_int a_cat_nil))) (show 3 ≤ 4 by decide)]
    show a_at _ (a_xm a_m110) 0 [some (a_rf (C + 14)), some (a_rf a), some (.int f), none] [] _ _
    simp only [q110_0, q110_1, q110_4, q110_5, q110_8, q110_9, q110_10, q110_11, q110_12, q110_15, q110_18, q110_19, q110_20, q110_23, q110_24, q110_27, q110_30, q110_31, q110_32, q110_35, q110_36, q110_37, q110_38, q110_39, q110_42, q110_45, q110_46, q110_49, q110_50, k_14 hS, z_14, sp_askAt hS gA, sp_isPlaced, sp_last, as_nil, as_i, as_r, Nat.reduceAdd, Nat.reduceLeDiff, z_eq0, z_eq1, z_or, z_em, Classical.not_not, not_false_eq_true, not_true_eq_false, true_and, and_true, false_and, and_false, and_self, true_implies, false_implies, implies_true, Option.toList_some, Option.toList_none, List.cons_append, List.nil_append, Nat.add_eq_zero_iff, a_nl_i, a_nl_r, a_nl_n, true_or, or_true, eq_self, a_isRA_22, a_isRA_24, a_isRA_32, a_isA_20, ok_4, ok_5, ok_6, ok_7, ok_9, ok_20, ok_21, ok_30, ok_50, ok_180, ok_192, ok_200, ha, a0, e5, c, e10, e11, e4, x0, x1, x30, n0, k1, f2, f13, f14]
    generalize Y 20 (Y 16 i.toNatClampNeg).toNatClampNeg = y20 at h0 h1 ⊢
    generalize Y 21 (Y 16 i.toNatClampNeg).toNatClampNeg = y21 at h0 h1 ⊢
    generalize Y 10 (Y 16 i.toNatClampNeg).toNatClampNeg = y10 at h0 h1 ⊢
    clear hT hS gA gB gX
    grind
  · have h0 := h0 (fun q => c q.1)
    clear hc ap al am
    rw [a_enter1 (M := a_m110) rfl (a_cat_rf (a_cat_rf (a_cat_int a_cat_nil))) (show 3 ≤ 4 by decide)]
    show a_at _ (a_xm a_m110) 0 [some (a_rf (C + 14)), some (a_rf a), some (.int f), none] [] _ _
    simp only [q110_0, q110_1, q110_4, q110_5, q110_8, q110_9, k_14 hS, z_14, as_nil, as_i, as_r, Nat.reduceAdd, Nat.reduceLeDiff, z_eq0, z_eq1, z_or, z_em, Classical.not_not, not_false_eq_true, not_true_eq_false, true_and, and_true, false_and, and_false, and_self, true_implies, false_implies, implies_true, Option.toList_some, Option.toList_none, List.cons_append, List.nil_append, Nat.add_eq_zero_iff, a_nl_i, a_nl_r, a_nl_n, true_or, or_true, eq_self, a_isRA_22, a_isRA_24, a_isRA_32, a_isA_20, ok_4, ok_5, ok_6, ok_7, ok_9, ok_20, ok_21, ok_30, ok_50, ok_180, ok_192, ok_200, ha, a0, e5, c]
    first
      | exact h0
      | grind
theorem ce_isBeyondDays (hT : cT C K L I R) {a : Nat} {i : Int32} (ap : aaP C K I Y i a) {s : Int32} (h0 : ¬ bdY Y i s → P (some (.int 0)) (n, t, K, L, I, R)) (h1 : bdY Y i s → P (some (.int 1)) (n, t, K, L, I, R)) : a_does (d + 1) 111 [a_rf (C + 14), a_rf a, .int s] (n, t, K, L, I, R) P := by
  have hS := hT.s
  obtain ⟨ai, ⟨ha, an0, a4n⟩, am, al⟩ := id ap
  obtain ⟨a1, a2, a4, a3⟩ := hT.g_ask a ha
  have a0 : (a = 0) = False := eq_false an0
  have e5 : I a 5 = Y 7 i.toNatClampNeg := al.1.2.2.2.2
  unfold bdY at h0 h1
  by_cases c : Y 7 i.toNatClampNeg = 2
  · obtain ⟨e10, e11⟩ := al.2.2.1 (Or.inr c)
    clear ap al am
    rw [a_enter1 (M := a_m111) rfl (a_cat_rf (a_cat_rf (a_cat_int a_cat_nil))) (show 3 ≤ 3 by decide)]
    show a_at _ (a_xm a_m111) 0 [some (a_rf (C + 14)), some (a_rf a), some (.int s)] [] _ _
    simp only [q111_0, q111_1, q111_4, q111_5, q111_8, q111_9, q111_10, q111_13, q111_16, q111_17, q111_18, q111_21, q111_24, q111_25, q111_28, q111_29, k_14 hS, z_14, as_nil, as_i, as_r, Nat.reduceAdd, Nat.reduceLeDiff, z_eq0, z_eq1, z_or, z_em, Classical.not_not, not_false_eq_true, not_true_eq_false, true_and, and_true, false_and, and_false, and_self, true_implies, false_implies, implies_true, Option.toList_some, Option.toList_none, List.cons_append, List.nil_append, Nat.add_eq_zero_iff, a_nl_i, a_nl_r, a_nl_n, true_or, or_true, eq_self, a_isRA_22, a_isRA_24, a_isRA_32, a_isA_20, ok_4, ok_5, ok_6, ok_7, ok_9, ok_20, ok_21, ok_30, ok_50, ok_180, ok_192, ok_200, ha, a0, e5, c, e10, e11]
    clear hT hS
    grind
  · have h0 := h0 (fun q => c q.1)
    clear ap al am
    rw [a_enter1 (M := a_m111) rfl (a_cat_rf (a_cat_rf (a_cat_int a_cat_nil))) (show 3 ≤ 3 by decide)]
    show a_at _ (a_xm a_m111) 0 [some (a_rf (C + 14)), some (a_rf a), some (.int s)] [] _ _
    simp only [q111_0, q111_1, q111_4, q111_5, q111_8, q111_9, q111_10, q111_13, q111_16, q111_17, q111_18, q111_21, q111_24, q111_25, q111_28, q111_29, k_14 hS, z_14, as_nil, as_i, as_r, Nat.reduceAdd, Nat.reduceLeDiff, z_eq0, z_eq1, z_or, z_em, Classical.not_not, not_false_eq_true, not_true_eq_false, true_and, and_true, false_and, and_false, and_self, true_implies, false_implies, implies_true, Option.toList_some, Option.toList_none, List.cons_append, List.nil_append, Nat.add_eq_zero_iff, a_nl_i, a_nl_r, a_nl_n, true_or, or_true, eq_self, a_isRA_22, a_isRA_24, a_isRA_32, a_isA_20, ok_4, ok_5, ok_6, ok_7, ok_9, ok_20, ok_21, ok_30, ok_50, ok_180, ok_192, ok_200, ha, a0, e5, c]
    first
      | exact h0
      | grind
theorem hgY_rng {g s : Int32} {fc : Nat → Int32} : ∀ (k : Nat) (x : Int32), 0 ≤ x → x.toNatClampNeg + k ≤ 20 → hgY Y g s fc k x = -9 ∨ 0 ≤ hgY Y g s fc k x := by
  intro k
  induction k with
  | zero => intro x h0 h1; exact Or.inl rfl
  | succ k ih =>
    intro x h0 h1
    have w : x < 20 := cl_lt2 h0 (by decide) (by rw [show (20 : Int32).toNatClampNeg = 20 from rfl]; omega)
    obtain ⟨s1, s2, s3, s4⟩ := lp_st h0 w
    unfold hgY
    split
    · exact Or.inr h0
    · exact ih _ s2 (by omega)
theorem wtA_rng (ht : 0 ≤ Y 0 41 ∧ Y 0 41 ≤ 20) {g x b s : Int32} : (wtA Y g x b s = -9) = (¬ 0 ≤ wtA Y g x b s) := by
  have h := cl_le0 ht.1 ht.2
  rw [show (20 : Int32).toNatClampNeg = 20 from rfl] at h
  have := hgY_rng (Y := Y) (g := g) (s := s) (fc := fcA Y x b s 0) (Y 0 41).toNatClampNeg 0 (by decide) (by rw [show (0 : Int32).toNatClampNeg = 0 from rfl]; omega)
  refine propext ⟨fun e => by rw [e]; decide, fun q => this.resolve_right q⟩
theorem ce_leastA (hT : cT C K L I R) (hc : cpP C K L I R Y) {a : Nat} {i : Int32} (ap : aaP C K I Y i a) {l b s : Int32} (hs : 0 ≤ s ∧ s ≤ 199) (hP : ∀ J, dC C K L R I J → P (some (.int (wtA Y l i b s))) (n, t, K, L, J, R)) : a_does (d + 3) 86 [a_rf (C + 7), .int l, a_rf a, .int b, .int s] (n, t, K, L, I, R) P := ce_least hT hc.2.2.2.1 ap.2.1.1 hs (lq_fc ap.2.2.2 ap.2.2.1) hP
theorem fx_lt {x b s : Int32} (h : fxY Y x b s = 0) : s ≤ 199 := by
  unfold fxY at h
  refine Classical.byContradiction (fun w => ?_)
  have w2 : 199 < s := Int32.not_le.mp w
  revert h
  split
  · intro h; exact absurd h (by decide)
  · split
    · intro h; exact absurd h (by decide)
    · rw [if_pos (Or.inl w2)]
      intro h; exact absurd h (by decide)
theorem brY_rng {x b s f : Int32} : 0 ≤ brY Y x b s f := by
  have h1 : 0 ≤ fxY Y x b s := by
    unfold fxY
    repeat' split
    all_goals decide
  have h2 : 0 ≤ hgI Y x b s (Y 0 17).toNatClampNeg 0 0 := by
    rcases hgI_rng (Y := Y) (a := x) (b := b) (s := s) (Y 0 17).toNatClampNeg 0 0 with e | e | e <;> rw [e] <;> decide
  unfold brY
  repeat' split
  all_goals first
    | exact h1
    | exact h2
    | decide
end YV
section YW
variable {d n t C : Nat} {K L : Nat → Nat} {I I0 J J0 J1 J2 : Nat → Nat → Int32} {R : Nat → Nat → Nat} {P : Option Value → AH → Prop}
variable {Y : Nat → Nat → Int32}
theorem ce_barIn (hT : cT C K L I R) (hc : cpP C K L I R Y) {a : Nat} {i : Int32} (ap : aaP C K I Y i a) {b s f : Int32} (hb : 0 ≤ b ∧ b < Y 0 6) (hs : 0 ≤ s) (hP : ∀ J, dC C K L R I J → P (some (.int (brY Y i b s f))) (n, t, K, L, J, R)) : a_does (d + 4) 101 [a_rf (C + 14), a_rf a, .int b, .int f, .int s] (n, t, K, L, I, R) P := by
  have hS := hT.s
  obtain ⟨ai, ⟨ha, an0, a4n⟩, am, al⟩ := id ap
  obtain ⟨a1, a2, a4, a3⟩ := hT.g_ask a ha
  have a0 : (a = 0) = False := eq_false an0
  have hy := hc.2.2.2.2
  have n10 : ¬ (1 : Int32) = 0 := by decide
  have hV : brY Y i b s f = brY Y i b s f := rfl
  conv at hV => rhs; unfold brY
  generalize brY Y i b s f = V at hP hV
  rw [a_enter1 (M := a_m101) rfl (a_cat_rf (a_cat_rf (a_cat_int (a_cat_int (a_cat_int a_cat_nil))))) (show 5 ≤ 6 by decide)]
  show a_at _ (a_xm a_m101) 0 [some (a_rf (C + 14)), some (a_rf a), some (.int b), some (.int f), some (.int s), none] [] _ _
  simp only [q101_0, q101_1, q101_2, q101_3, q101_5, k_14 hS, z_14, as_nil, as_i, as_r, Nat.reduceAdd, Nat.reduceLeDiff, z_eq0, z_eq1, z_or, z_em, Classical.not_not, not_false_eq_true, not_true_eq_false, true_and, and_true, false_and, and_false, and_self, true_implies, false_implies, implies_true, Option.toList_some, Option.toList_none, List.cons_append, List.nil_append, Nat.add_eq_zero_iff, a_nl_i, a_nl_r, a_nl_n, true_or, or_true, eq_self, a_isRA_22, a_isRA_24, a_isRA_32, a_isA_20, ok_4, ok_5, ok_6, ok_7, ok_9, ok_20, ok_21, ok_30, ok_50, ok_180, ok_192, ok_200, ha, a0]
  refine ce_fixedBar (d := d + 1) hT hc ap hb hs (fun v ev => ?_)
  rw [← ev] at hV
  by_cases c0 : v = 0
  · rw [if_neg (fun q => q c0)] at hV
    have hs2 : 0 ≤ s ∧ s ≤ 199 := ⟨hs, fx_lt (ev.symm.trans c0)⟩
    have hs3 : 0 ≤ s ∧ s < 200 := ⟨hs, by clear hP hV hc ap al hy ev; grind⟩
    rw [hg_class hc.2.1.2.2.2 hy.2.1 hy.2.2.2.2.1.1 hy.2.2.2.2.2.1.1 hb hs3] at hV
    simp only [q101_8, q101_10, q101_12, q101_15, q101_17, q101_18, q101_19, q101_20, q101_21, q101_23, k_14 hS, z_14, as_nil, as_i, as_r, Nat.reduceAdd, Nat.reduceLeDiff, z_eq0, z_eq1, z_or, z_em, Classical.not_not, not_false_eq_true, not_true_eq_false, true_and, and_true, false_and, and_false, and_self, true_implies, false_implies, implies_true, Option.toList_some, Option.toList_none, List.cons_append, List.nil_append, Nat.add_eq_zero_iff, a_nl_i, a_nl_r, a_nl_n, true_or, or_true, eq_self, a_isRA_22, a_isRA_24, a_isRA_32, a_isA_20, ok_4, ok_5, ok_6, ok_7, ok_9, ok_20, ok_21, ok_30, ok_50, ok_180, ok_192, ok_200, ha, a0, c0]
    try simp only [true_and, and_true, true_implies, false_implies, implies_true, not_true_eq_false, not_false_eq_true]
    refine ce_isHadByOther (d := d + 1) hT hc ap hb hs3 ?_
    by_cases c6 : ¬ (whC C I R) b s.toNatClampNeg = -9 ∧ ¬ (whC C I R) b s.toNatClampNeg = i
    · rw [if_pos c6] at hV ⊢
      rw [if_pos (by decide)] at hV
      have hp := hP I (dC_refl hT)
      rw [hV] at hp
      clear hP hV hc ap al hy ev
      simp only [q101_26, q101_29, q101_31, as_nil, as_i, as_r, Nat.reduceAdd, Nat.reduceLeDiff, z_eq0, z_eq1, z_or, z_em, Classical.not_not, not_false_eq_true, not_true_eq_false, true_and, and_true, false_and, and_false, and_self, true_implies, false_implies, implies_true, Option.toList_some, Option.toList_none, List.cons_append, List.nil_append, Nat.add_eq_zero_iff, a_nl_i, a_nl_r, a_nl_n, true_or, or_true, eq_self, a_isRA_22, a_isRA_24, a_isRA_32, a_isA_20, ok_4, ok_5, ok_6, ok_7, ok_9, ok_20, ok_21, ok_30, ok_50, ok_180, ok_192, ok_200, ha, a0, n10]
      first
        | exact hp
        | grind
    · rw [if_neg c6] at hV ⊢
      simp only [q101_26, q101_29, q101_31, q101_32, q101_33, q101_34, q101_35, q101_37, k_14 hS, z_14, as_nil, as_i, as_r, Nat.reduceAdd, Nat.reduceLeDiff, z_eq0, z_eq1, z_or, z_em, Classical.not_not, not_false_eq_true, not_true_eq_false, true_and, and_true, false_and, and_false, and_self, true_implies, false_implies, implies_true, Option.toList_some, Option.toList_none, List.cons_append, List.nil_append, Nat.add_eq_zero_iff, a_nl_i, a_nl_r, a_nl_n, true_or, or_true, eq_self, a_isRA_22, a_isRA_24, a_isRA_32, a_isA_20, ok_4, ok_5, ok_6, ok_7, ok_9, ok_20, ok_21, ok_30, ok_50, ok_180, ok_192, ok_200, ha, a0]
      try simp only [true_and, and_true, true_implies, false_implies, implies_true, not_true_eq_false, not_false_eq_true]
      refine ce_isGearElsewhere (d := d + 1) hT hc ap hs3 ?_
      by_cases c7 : 0 ≤ Y 14 i.toNatClampNeg ∧ geC (whC C I R) (Y 14) i b s (Y 0 17) (Y 0 6).toNatClampNeg 0 = 1
      · rw [if_pos c7] at hV ⊢
        rw [if_pos (by decide)] at hV
        have hp := hP I (dC_refl hT)
        rw [hV] at hp
        clear hP hV hc ap al hy ev
        simp only [q101_40, q101_43, q101_45, as_nil, as_i, as_r, Nat.reduceAdd, Nat.reduceLeDiff, z_eq0, z_eq1, z_or, z_em, Classical.not_not, not_false_eq_true, not_true_eq_false, true_and, and_true, false_and, and_false, and_self, true_implies, false_implies, implies_true, Option.toList_some, Option.toList_none, List.cons_append, List.nil_append, Nat.add_eq_zero_iff, a_nl_i, a_nl_r, a_nl_n, true_or, or_true, eq_self, a_isRA_22, a_isRA_24, a_isRA_32, a_isA_20, ok_4, ok_5, ok_6, ok_7, ok_9, ok_20, ok_21, ok_30, ok_50, ok_180, ok_192, ok_200, ha, a0, n10]
        first
          | exact hp
          | grind
      · rw [if_neg c7] at hV ⊢
        rw [if_neg (fun q => q rfl)] at hV
        simp only [q101_40, q101_43, q101_45, q101_46, q101_47, q101_50, q101_52, q101_53, q101_54, q101_56, k_14 hS, z_14, r_14_1 hS, k_7 hS, z_7, as_nil, as_i, as_r, Nat.reduceAdd, Nat.reduceLeDiff, z_eq0, z_eq1, z_or, z_em, Classical.not_not, not_false_eq_true, not_true_eq_false, true_and, and_true, false_and, and_false, and_self, true_implies, false_implies, implies_true, Option.toList_some, Option.toList_none, List.cons_append, List.nil_append, Nat.add_eq_zero_iff, a_nl_i, a_nl_r, a_nl_n, true_or, or_true, eq_self, a_isRA_22, a_isRA_24, a_isRA_32, a_isA_20, ok_4, ok_5, ok_6, ok_7, ok_9, ok_20, ok_21, ok_30, ok_50, ok_180, ok_192, ok_200, ha, a0]
        try simp only [true_and, and_true, true_implies, false_implies, implies_true, not_true_eq_false, not_false_eq_true]
        refine ce_leastA (d := d) hT hc ap hs2 (fun J1 j1 => ?_)
        by_cases c8 : 0 ≤ wtA Y 66 i b s
        · rw [if_pos c8] at hV
          have hp := hP J1 j1
          rw [hV] at hp
          have c8' : ¬ wtA Y 66 i b s = -9 := by rw [wtA_rng hy.1]; exact fun q => q c8
          clear hP hV hc ap al hy ev
          simp only [q101_59, q101_61, q101_64, q101_66, as_nil, as_i, as_r, Nat.reduceAdd, Nat.reduceLeDiff, z_eq0, z_eq1, z_or, z_em, Classical.not_not, not_false_eq_true, not_true_eq_false, true_and, and_true, false_and, and_false, and_self, true_implies, false_implies, implies_true, Option.toList_some, Option.toList_none, List.cons_append, List.nil_append, Nat.add_eq_zero_iff, a_nl_i, a_nl_r, a_nl_n, true_or, or_true, eq_self, a_isRA_22, a_isRA_24, a_isRA_32, a_isA_20, ok_4, ok_5, ok_6, ok_7, ok_9, ok_20, ok_21, ok_30, ok_50, ok_180, ok_192, ok_200, ha, a0, c8']
          first
            | exact hp
            | grind
        · rw [if_neg c8] at hV
          have c8' : wtA Y 66 i b s = -9 := by rw [wtA_rng hy.1]; exact c8
          have hT1 := j1.1
          have hS1 := hT1.s
          have hc1 := cpP_C hT hc j1
          have ap1 := aaP_C hT ap j1
          simp only [q101_59, q101_61, q101_64, q101_66, q101_67, q101_68, q101_69, q101_70, q101_72, q101_73, q101_76, q101_78, q101_79, q101_80, q101_82, k_14 hS, z_14, r_14_1 hS, k_7 hS, z_7, as_nil, as_i, as_r, Nat.reduceAdd, Nat.reduceLeDiff, z_eq0, z_eq1, z_or, z_em, Classical.not_not, not_false_eq_true, not_true_eq_false, true_and, and_true, false_and, and_false, and_self, true_implies, false_implies, implies_true, Option.toList_some, Option.toList_none, List.cons_append, List.nil_append, Nat.add_eq_zero_iff, a_nl_i, a_nl_r, a_nl_n, true_or, or_true, eq_self, a_isRA_22, a_isRA_24, a_isRA_32, a_isA_20, ok_4, ok_5, ok_6, ok_7, ok_9, ok_20, ok_21, ok_30, ok_50, ok_180, ok_192, ok_200, ha, a0, c8']
          try simp only [true_and, and_true, true_implies, false_implies, implies_true, not_true_eq_false, not_false_eq_true]
          refine ce_leastA (d := d) hT1 hc1 ap1 hs2 (fun J2 j2 => ?_)
          have hT2 := j2.1
          have hS2 := hT2.s
          have hc2 := cpP_C hT1 hc1 j2
          have ap2 := aaP_C hT1 ap1 j2
          have j12 := dC_C j1 j2
          have h104 : ¬ bcf (fhY Y i b s) < (if 0 ≤ wtA Y 87 i b s then 2 else 1) → a_at (d + 3) (a_xm a_m101) 104 [some (a_rf (C + 14)), some (a_rf a), some (.int b), some (.int f), some (.int s), some (.int v)] [] (n, t, K, L, J2, R) P := fun w9 => by
            rw [if_neg w9] at hV
            simp only [q101_104, q101_105, q101_106, q101_107, k_14 hS, z_14, as_nil, as_i, as_r, Nat.reduceAdd, Nat.reduceLeDiff, z_eq0, z_eq1, z_or, z_em, Classical.not_not, not_false_eq_true, not_true_eq_false, true_and, and_true, false_and, and_false, and_self, true_implies, false_implies, implies_true, Option.toList_some, Option.toList_none, List.cons_append, List.nil_append, Nat.add_eq_zero_iff, a_nl_i, a_nl_r, a_nl_n, true_or, or_true, eq_self, a_isRA_22, a_isRA_24, a_isRA_32, a_isA_20, ok_4, ok_5, ok_6, ok_7, ok_9, ok_20, ok_21, ok_30, ok_50, ok_180, ok_192, ok_200, ha, a0]
            try simp only [true_and, and_true, true_implies, false_implies, implies_true, not_true_eq_false, not_false_eq_true]
            refine ce_isTooNear (d := d + 1) hT2 hc2 ap2 (fun w10 => ?_) (fun w10 => ?_)
            · unfold tnY at w10
              rw [if_neg w10] at hV
              simp only [q101_110, q101_113, q101_115, q101_116, q101_117, q101_118, q101_120, k_14 hS, z_14, as_nil, as_i, as_r, Nat.reduceAdd, Nat.reduceLeDiff, z_eq0, z_eq1, z_or, z_em, Classical.not_not, not_false_eq_true, not_true_eq_false, true_and, and_true, false_and, and_false, and_self, true_implies, false_implies, implies_true, Option.toList_some, Option.toList_none, List.cons_append, List.nil_append, Nat.add_eq_zero_iff, a_nl_i, a_nl_r, a_nl_n, true_or, or_true, eq_self, a_isRA_22, a_isRA_24, a_isRA_32, a_isA_20, ok_4, ok_5, ok_6, ok_7, ok_9, ok_20, ok_21, ok_30, ok_50, ok_180, ok_192, ok_200, ha, a0]
              try simp only [true_and, and_true, true_implies, false_implies, implies_true, not_true_eq_false, not_false_eq_true]
              refine ce_isBeyondDays (d := d + 2) hT2 ap2 (fun w11 => ?_) (fun w11 => ?_)
              · unfold bdY at w11
                rw [if_neg w11] at hV
                have hp := hP J2 j12
                rw [hV] at hp
                clear hP hV hc ap al hy ev hc1 ap1 hc2 ap2
                simp only [q101_123, q101_126, q101_128, q101_131, q101_132, as_nil, as_i, as_r, Nat.reduceAdd, Nat.reduceLeDiff, z_eq0, z_eq1, z_or, z_em, Classical.not_not, not_false_eq_true, not_true_eq_false, true_and, and_true, false_and, and_false, and_self, true_implies, false_implies, implies_true, Option.toList_some, Option.toList_none, List.cons_append, List.nil_append, Nat.add_eq_zero_iff, a_nl_i, a_nl_r, a_nl_n, true_or, or_true, eq_self, a_isRA_22, a_isRA_24, a_isRA_32, a_isA_20, ok_4, ok_5, ok_6, ok_7, ok_9, ok_20, ok_21, ok_30, ok_50, ok_180, ok_192, ok_200, ha, a0]
                first
                  | exact hp
                  | grind
              · unfold bdY at w11
                rw [if_pos w11] at hV
                have hp := hP J2 j12
                rw [hV] at hp
                clear hP hV hc ap al hy ev hc1 ap1 hc2 ap2
                simp only [q101_123, q101_126, q101_128, q101_131, q101_132, as_nil, as_i, as_r, Nat.reduceAdd, Nat.reduceLeDiff, z_eq0, z_eq1, z_or, z_em, Classical.not_not, not_false_eq_true, not_true_eq_false, true_and, and_true, false_and, and_false, and_self, true_implies, false_implies, implies_true, Option.toList_some, Option.toList_none, List.cons_append, List.nil_append, Nat.add_eq_zero_iff, a_nl_i, a_nl_r, a_nl_n, true_or, or_true, eq_self, a_isRA_22, a_isRA_24, a_isRA_32, a_isA_20, ok_4, ok_5, ok_6, ok_7, ok_9, ok_20, ok_21, ok_30, ok_50, ok_180, ok_192, ok_200, ha, a0, n10]
                first
                  | exact hp
                  | grind
            · unfold tnY at w10
              rw [if_pos w10] at hV
              have hp := hP J2 j12
              rw [hV] at hp
              clear hP hV hc ap al hy ev hc1 ap1 hc2 ap2
              simp only [q101_110, q101_113, q101_115, as_nil, as_i, as_r, Nat.reduceAdd, Nat.reduceLeDiff, z_eq0, z_eq1, z_or, z_em, Classical.not_not, not_false_eq_true, not_true_eq_false, true_and, and_true, false_and, and_false, and_self, true_implies, false_implies, implies_true, Option.toList_some, Option.toList_none, List.cons_append, List.nil_append, Nat.add_eq_zero_iff, a_nl_i, a_nl_r, a_nl_n, true_or, or_true, eq_self, a_isRA_22, a_isRA_24, a_isRA_32, a_isA_20, ok_4, ok_5, ok_6, ok_7, ok_9, ok_20, ok_21, ok_30, ok_50, ok_180, ok_192, ok_200, ha, a0, n10]
              first
                | exact hp
                | grind
          have h98 : ∀ w : Int32, (if w = 0 then (1 : Int32) else 2) = (if 0 ≤ wtA Y 87 i b s then 2 else 1) → a_does (d + 3) 107 [a_rf (C + 14), a_rf a, .int b, .int s, .int w] (n, t, K, L, J2, R) (fun r h' => a_at (d + 3) (a_xm a_m101) 98 [some (a_rf (C + 14)), some (a_rf a), some (.int b), some (.int f), some (.int s), some (.int v)] (r.toList ++ []) h' P) := fun w ew => by
            refine ce_lacksHosts (d := d) hT2 hc2 ap2 hb hs3 (fun w9 => ?_) (fun w9 => ?_)
            · rw [ew] at w9
              have h104 := h104 w9
              clear hP hV hc ap al hy ev hc1 ap1 hc2 ap2
              simp only [q101_98, as_nil, as_i, as_r, Nat.reduceAdd, Nat.reduceLeDiff, z_eq0, z_eq1, z_or, z_em, Classical.not_not, not_false_eq_true, not_true_eq_false, true_and, and_true, false_and, and_false, and_self, true_implies, false_implies, implies_true, Option.toList_some, Option.toList_none, List.cons_append, List.nil_append, Nat.add_eq_zero_iff, a_nl_i, a_nl_r, a_nl_n, true_or, or_true, eq_self, a_isRA_22, a_isRA_24, a_isRA_32, a_isA_20, ok_4, ok_5, ok_6, ok_7, ok_9, ok_20, ok_21, ok_30, ok_50, ok_180, ok_192, ok_200, ha, a0]
              first
                | exact h104
                | grind
            · rw [ew] at w9
              rw [if_pos w9] at hV
              have hp := hP J2 j12
              rw [hV] at hp
              clear hP hV hc ap al hy ev hc1 ap1 hc2 ap2 h104
              simp only [q101_98, q101_101, q101_103, as_nil, as_i, as_r, Nat.reduceAdd, Nat.reduceLeDiff, z_eq0, z_eq1, z_or, z_em, Classical.not_not, not_false_eq_true, not_true_eq_false, true_and, and_true, false_and, and_false, and_self, true_implies, false_implies, implies_true, Option.toList_some, Option.toList_none, List.cons_append, List.nil_append, Nat.add_eq_zero_iff, a_nl_i, a_nl_r, a_nl_n, true_or, or_true, eq_self, a_isRA_22, a_isRA_24, a_isRA_32, a_isA_20, ok_4, ok_5, ok_6, ok_7, ok_9, ok_20, ok_21, ok_30, ok_50, ok_180, ok_192, ok_200, ha, a0, n10]
              first
                | exact hp
                | grind
          by_cases cw : 0 ≤ wtA Y 87 i b s
          · have cw' : ¬ wtA Y 87 i b s = -9 := by rw [wtA_rng hy.1]; exact fun q => q cw
            have h98 := h98 1 (by rw [if_pos cw, if_neg n10])
            rw [c0] at h98
            clear hP hV hc ap al hy ev hc1 ap1 hc2 ap2 h104
            simp only [q101_85, q101_87, q101_90, q101_91, q101_95, k_14 hS, z_14, as_nil, as_i, as_r, Nat.reduceAdd, Nat.reduceLeDiff, z_eq0, z_eq1, z_or, z_em, Classical.not_not, not_false_eq_true, not_true_eq_false, true_and, and_true, false_and, and_false, and_self, true_implies, false_implies, implies_true, Option.toList_some, Option.toList_none, List.cons_append, List.nil_append, Nat.add_eq_zero_iff, a_nl_i, a_nl_r, a_nl_n, true_or, or_true, eq_self, a_isRA_22, a_isRA_24, a_isRA_32, a_isA_20, ok_4, ok_5, ok_6, ok_7, ok_9, ok_20, ok_21, ok_30, ok_50, ok_180, ok_192, ok_200, ha, a0, cw']
            first
              | exact h98
              | grind
          · have cw' : wtA Y 87 i b s = -9 := by rw [wtA_rng hy.1]; exact cw
            have h98 := h98 0 (by rw [if_neg cw, if_pos rfl])
            rw [c0] at h98
            clear hP hV hc ap al hy ev hc1 ap1 hc2 ap2 h104
            simp only [q101_85, q101_87, q101_90, q101_91, q101_94, q101_95, k_14 hS, z_14, as_nil, as_i, as_r, Nat.reduceAdd, Nat.reduceLeDiff, z_eq0, z_eq1, z_or, z_em, Classical.not_not, not_false_eq_true, not_true_eq_false, true_and, and_true, false_and, and_false, and_self, true_implies, false_implies, implies_true, Option.toList_some, Option.toList_none, List.cons_append, List.nil_append, Nat.add_eq_zero_iff, a_nl_i, a_nl_r, a_nl_n, true_or, or_true, eq_self, a_isRA_22, a_isRA_24, a_isRA_32, a_isA_20, ok_4, ok_5, ok_6, ok_7, ok_9, ok_20, ok_21, ok_30, ok_50, ok_180, ok_192, ok_200, ha, a0, cw']
            first
              | exact h98
              | grind
  · rw [if_pos c0] at hV
    have hp := hP I (dC_refl hT)
    rw [hV] at hp
    clear hP hV hc ap al hy ev
    simp only [q101_8, q101_10, q101_12, q101_15, q101_17, as_nil, as_i, as_r, Nat.reduceAdd, Nat.reduceLeDiff, z_eq0, z_eq1, z_or, z_em, Classical.not_not, not_false_eq_true, not_true_eq_false, true_and, and_true, false_and, and_false, and_self, true_implies, false_implies, implies_true, Option.toList_some, Option.toList_none, List.cons_append, List.nil_append, Nat.add_eq_zero_iff, a_nl_i, a_nl_r, a_nl_n, true_or, or_true, eq_self, a_isRA_22, a_isRA_24, a_isRA_32, a_isA_20, ok_4, ok_5, ok_6, ok_7, ok_9, ok_20, ok_21, ok_30, ok_50, ok_180, ok_192, ok_200, ha, a0, c0]
    first
      | exact hp
      | grind
theorem le_firstBar_3 (hT0 : cT C K L I R) (hc : cpP C K L I R Y) {a : Nat} {i : Int32} (ap : aaP C K I Y i a) {b f : Int32} (hb : 0 ≤ b ∧ b < Y 0 6) (hf : 0 ≤ f ∧ f ≤ 199) {V : Int32} (hP : ∀ J, dC C K L R I J → P (some (.int V)) (n, t, K, L, J, R)) : ∀ x : Int32, x ≤ 4 → ∀ J u, dC C K L R I J → 0 ≤ x → x ≤ Y 10 i.toNatClampNeg → ftI Y i b f ((Y 10 i.toNatClampNeg).toNatClampNeg - x.toNatClampNeg) x = V → a_at (d + 4) (a_xm a_m100) 3 [some (a_rf (C + 14)), some (a_rf a), some (.int b), some (.int f), some (.int x), u] [] (n, t, K, L, J, R) P := by
  have y10 := hc.2.2.2.2.2.1 i.toNatClampNeg
  refine up_ind 4 (fun x x4 ih => ?_)
  intro J u hJ h0 h1 hV
  have hT := hJ.1
  have hcJ := cpP_C hT0 hc hJ
  have apJ := aaP_C hT0 ap hJ
  have hS := hT.s
  obtain ⟨ai, ⟨ha, an0, a4n⟩, am, al⟩ := id apJ
  have a0 : (a = 0) = False := eq_false an0
  have e2 : J a 2 = Y 10 i.toNatClampNeg := al.1.2.2.1
  generalize ez : Y 10 i.toNatClampNeg = z at y10 h1 hV ih e2
  have hexit : ¬ x < z → P (some (.int 0)) (n, t, K, L, J, R) := fun w => by
    rw [(lp_end h1 w).1] at hV
    rw [show 0 = V from hV]
    exact hP J hJ
  have hV2 : x < z → (if 0 < brY Y i b (f + x) f then brY Y i b (f + x) f else ftI Y i b f (z.toNatClampNeg - (x + 1).toNatClampNeg) (x + 1)) = V := fun w => by
    rw [(lp_st h0 w).1] at hV
    exact hV
  have hcall : x < z → a_does (d + 4) 101 [a_rf (C + 14), a_rf a, .int b, .int f, .int (f + x)] (n, t, K, L, J, R) (fun r h' => a_at (d + 4) (a_xm a_m100) 23 [some (a_rf (C + 14)), some (a_rf a), some (.int b), some (.int f), some (.int x), u] (r.toList ++ []) h' P) := fun w => by
    have hV := hV2 w
    obtain ⟨s1, s2, s3, s4⟩ := lp_st h0 w
    refine ce_barIn (d := d) hT hcJ apJ hb (by clear ih hV hV2 hP hexit; grind) (fun J2 c2 => ?_)
    have hS2 := c2.1.s
    have g0 := brY_rng (Y := Y) (x := i) (b := b) (s := f + x) (f := f)
    generalize brY Y i b (f + x) f = v at hV g0 ⊢
    by_cases q : 0 < v
    · rw [if_pos q] at hV
      have hp := hP J2 (dC_C hJ c2)
      rw [← hV] at hp
      have q' : ¬ v = 0 := fun e => by rw [e] at q; exact absurd q (by decide)
      clear ih hV hV2 hP hexit hc ap hcJ apJ
      simp only [q100_23, q100_25, q100_27, q100_30, q100_32, as_nil, as_i, as_r, Nat.reduceAdd, Nat.reduceLeDiff, z_eq0, z_eq1, z_or, z_em, Classical.not_not, not_false_eq_true, not_true_eq_false, true_and, and_true, false_and, and_false, and_self, true_implies, false_implies, implies_true, Option.toList_some, Option.toList_none, List.cons_append, List.nil_append, Nat.add_eq_zero_iff, a_nl_i, a_nl_r, a_nl_n, true_or, or_true, eq_self, a_isRA_22, a_isRA_24, a_isRA_32, a_isA_20, ok_4, ok_5, ok_6, ok_7, ok_9, ok_20, ok_21, ok_30, ok_50, ok_180, ok_192, ok_200, q']
      first
        | exact hp
        | grind
    · rw [if_neg q] at hV
      have q' : v = 0 := Int32.le_antisymm (Int32.not_lt.mp q) g0
      have hg := ih (by clear ih hV hV2 hP hexit; grind) J2 (some (.int v)) (dC_C hJ c2) s2 s3 hV
      clear ih hV hV2 hP hexit hc ap hcJ apJ
      subst q'
      simp only [q100_23, q100_25, q100_27, q100_33, q100_36, as_nil, as_i, as_r, Nat.reduceAdd, Nat.reduceLeDiff, z_eq0, z_eq1, z_or, z_em, Classical.not_not, not_false_eq_true, not_true_eq_false, true_and, and_true, false_and, and_false, and_self, true_implies, false_implies, implies_true, Option.toList_some, Option.toList_none, List.cons_append, List.nil_append, Nat.add_eq_zero_iff, a_nl_i, a_nl_r, a_nl_n, true_or, or_true, eq_self, a_isRA_22, a_isRA_24, a_isRA_32, a_isA_20, ok_4, ok_5, ok_6, ok_7, ok_9, ok_20, ok_21, ok_30, ok_50, ok_180, ok_192, ok_200]
      first
        | exact hg
        | grind
  clear ih hV hV2 hP hc ap hcJ apJ
  rw [q100_3]
  repeat' first
    | with_reducible apply And.intro
    | with_reducible assumption
    | with_reducible intro _
    | refine hexit ?_
    | refine hcall ?_
    | simp only [q100_5, q100_6, q100_9, q100_12, q100_13, q100_14, q100_15, q100_16, q100_17, q100_19, q100_20, q100_39, q100_40, k_14 hS, z_14, as_nil, as_i, as_r, Nat.reduceAdd, Nat.reduceLeDiff, z_eq0, z_eq1, z_or, z_em, Classical.not_not, not_false_eq_true, not_true_eq_false, true_and, and_true, false_and, and_false, and_self, true_implies, false_implies, implies_true, Option.toList_some, Option.toList_none, List.cons_append, List.nil_append, Nat.add_eq_zero_iff, a_nl_i, a_nl_r, a_nl_n, true_or, or_true, eq_self, a_isRA_22, a_isRA_24, a_isRA_32, a_isA_20, ok_4, ok_5, ok_6, ok_7, ok_9, ok_20, ok_21, ok_30, ok_50, ok_180, ok_192, ok_200, ha, a0, e2]
  all_goals ((try clear hexit); (try clear hcall); (try clear hS); (try clear hT); (try clear hT0); grind [ui_ap])
theorem ce_firstBar (hT : cT C K L I R) (hc : cpP C K L I R Y) {a : Nat} {i : Int32} (ap : aaP C K I Y i a) {b f : Int32} (hb : 0 ≤ b ∧ b < Y 0 6) (hf : 0 ≤ f ∧ f ≤ 199) (hP : ∀ J, dC C K L R I J → P (some (.int (ftY Y i b f))) (n, t, K, L, J, R)) : a_does (d + 5) 100 [a_rf (C + 14), a_rf a, .int b, .int f] (n, t, K, L, I, R) P := by
  have hS := hT.s
  have hl := le_firstBar_3 (d := d) (n := n) (t := t) (P := P) hT hc ap hb hf hP 0 (by decide) I none (dC_refl hT) (by decide) (hc.2.2.2.2.2.1 i.toNatClampNeg).1 (by rw [lp_0]; rfl)
  clear hP hc ap
  rw [a_enter1 (M := a_m100) rfl (a_cat_rf (a_cat_rf (a_cat_int (a_cat_int a_cat_nil)))) (show 4 ≤ 6 by decide)]
  show a_at _ (a_xm a_m100) 0 [some (a_rf (C + 14)), some (a_rf a), some (.int b), some (.int f), none, none] [] _ _
  simp only [q100_0, q100_1, as_nil, as_i, as_r, Nat.reduceAdd, Nat.reduceLeDiff, z_eq0, z_eq1, z_or, z_em, Classical.not_not, not_false_eq_true, not_true_eq_false, true_and, and_true, false_and, and_false, and_self, true_implies, false_implies, implies_true, Option.toList_some, Option.toList_none, List.cons_append, List.nil_append, Nat.add_eq_zero_iff, a_nl_i, a_nl_r, a_nl_n, true_or, or_true, eq_self, a_isRA_22, a_isRA_24, a_isRA_32, a_isA_20, ok_4, ok_5, ok_6, ok_7, ok_9, ok_20, ok_21, ok_30, ok_50, ok_180, ok_192, ok_200]
  exact hl
end YW
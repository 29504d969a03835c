/-! the reference: mayBeNext -/
section ZFF
variable {d n t M : Nat} {K L : Nat → Nat} {I I0 J J0 J1 J2 : Nat → Nat → Int32} {R : Nat → Nat → Nat} {P : Option Value → AH → Prop} {f : Nat → Int32} {e : Int32}
variable {Y Z W : Nat → Nat → Int32} {m : Nat} {g : Nat → Int32}
def mnP (Y : Nat → Nat → Int32) (g : Nat → Int32) (p : Nat) (a : Int32) : Prop := mvY Y a ∧ (p = 0 ∨ (g 0 < a ∧ ¬ Y 47 (30 * g (p - 1) + a).toNatClampNeg = 0 ∧ Y 10 a.toNatClampNeg = Y 10 (g 0).toNatClampNeg)) ∧ ∀ k, k < p → ¬ g k = a ∧ ¬ Y 8 (g k).toNatClampNeg = Y 8 a.toNatClampNeg
theorem xt_mayBeNext_87 (hS : m_S M K L R) (hm : okY Y) (hg : gs M I0 I Y) {a i : Int32} (ha : 0 ≤ a ∧ a < Y 0 17) (hi : 0 ≤ i ∧ i ≤ 5) (hgr : ∀ k, k < i.toNatClampNeg → I (M + 48) k = g k ∧ (0 ≤ g k ∧ g k < Y 0 17)) {B : Prop} (hP : ∀ v : Int32, (v = 0 ∨ v = 1) → (v = 1 ↔ B ∧ ∀ k, k < i.toNatClampNeg → ¬ g k = a ∧ ¬ Y 8 (g k).toNatClampNeg = Y 8 a.toNatClampNeg) → P (some (.int v)) (n, t, K, L, I, R)) : ∀ k : Int32, k ≤ 5 → ∀ u, 0 ≤ k → k ≤ i → (u = 0 ∨ u = 1) → (u = 1 ↔ B ∧ ∀ l, l < k.toNatClampNeg → ¬ g l = a ∧ ¬ Y 8 (g l).toNatClampNeg = Y 8 a.toNatClampNeg) → a_at d (a_xm a_m253) 87 [some (a_rf M), some (.int a), some (.int i), some (.int u), some (.int k)] [] (n, t, K, L, I, R) P := by
  have h17 := hm.1.2.2.2.2.1
  refine up_ind 5 (fun k hk ih => ?_)
  intro u h0 hki hu hh
  rw [q253_87]
  by_cases c : k < i
  · obtain ⟨t1, t2, t3, t4⟩ := lp_st h0 c
    have hk5 : 0 ≤ k ∧ k < 6 := ⟨h0, Int32.lt_of_lt_of_le c (Int32.le_trans hi.2 (by decide))⟩
    have k5 : k < 5 := Int32.lt_of_lt_of_le c hi.2
    obtain ⟨e48, gk⟩ := hgr k.toNatClampNeg (cl_lt h0 c)
    have g30 : 0 ≤ g k.toNatClampNeg ∧ g k.toNatClampNeg < 30 := ⟨gk.1, Int32.lt_of_lt_of_le gk.2 h17.2⟩
    have a30 : 0 ≤ a ∧ a < 30 := ⟨ha.1, Int32.lt_of_lt_of_le ha.2 h17.2⟩
    have e8 : I (M + 8) (g k.toNatClampNeg).toNatClampNeg = Y 8 (g k.toNatClampNeg).toNatClampNeg := hg.2.2.1 8 _ (by unfold ps1; omega)
    have e8a : I (M + 8) a.toNatClampNeg = Y 8 a.toNatClampNeg := hg.2.2.1 8 _ (by unfold ps1; omega)
    have c' : ¬ i ≤ k := Int32.not_le.mpr c
    have n10 : ¬ (1 : Int32) = 0 := by decide
    have hno : ¬ (u = 1 ∧ ¬ g k.toNatClampNeg = a ∧ ¬ Y 8 (g k.toNatClampNeg).toNatClampNeg = Y 8 a.toNatClampNeg) → a_at d (a_xm a_m253) 87 [some (a_rf M), some (.int a), some (.int i), some (.int 0), some (.int (k + 1))] [] (n, t, K, L, I, R) P := fun q => ih k5 0 t2 t3 (Or.inl rfl) ⟨fun e => absurd e (by decide), fun ⟨b, f⟩ => absurd ⟨hh.mpr ⟨b, fun l hl => f l (by omega)⟩, f _ (by omega)⟩ q⟩
    have hyes : (u = 1 ∧ ¬ g k.toNatClampNeg = a ∧ ¬ Y 8 (g k.toNatClampNeg).toNatClampNeg = Y 8 a.toNatClampNeg) → a_at d (a_xm a_m253) 87 [some (a_rf M), some (.int a), some (.int i), some (.int 1), some (.int (k + 1))] [] (n, t, K, L, I, R) P := fun q => ih k5 1 t2 t3 (Or.inr rfl) ⟨fun _ => ⟨(hh.mp q.1).1, fun l hl => by
      rw [t4] at hl
      by_cases e : l = k.toNatClampNeg
      · rw [e]; exact q.2
      · exact (hh.mp q.1).2 l (by omega)⟩, fun _ => rfl⟩
    by_cases c1 : u = 0
    · have hp := hno (fun q => by rw [c1] at q; exact absurd q.1 (by decide))
      clear ih hP hgr hg hm hh hno hyes
      simp only [q253_89, q253_90, q253_93, q253_94, q253_133, q253_134, q253_135, q253_138, as_nil, as_i, as_r, Nat.reduceAdd, Nat.reduceLeDiff, z_eq0, z_eq1, z_or, z_em, Classical.not_not, not_false_eq_true, not_true_eq_false, true_and, and_true, false_and, and_false, and_self, true_implies, false_implies, implies_true, Option.toList_some, Option.toList_none, List.cons_append, List.nil_append, Nat.add_eq_zero_iff, a_nl_i, a_nl_r, a_nl_n, true_or, or_true, eq_self, ok_4, ok_5, ok_6, ok_7, ok_9, ok_10, ok_20, ok_21, ok_24, ok_30, ok_48, ok_50, ok_60, ok_80, ok_120, ok_180, ok_192, ok_200, ok_900, ok_1000, ok_84000, c', c1]
      try simp only [true_and, and_true, true_implies, false_implies, implies_true, not_true_eq_false, not_false_eq_true]
      first
        | exact hp
        | grind
    · have u1 := hu.resolve_left c1
      by_cases c2 : g k.toNatClampNeg = a
      · have hp := hno (fun q => q.2.1 c2)
        clear ih hP hgr hg hm hh hno hyes
        simp only [q253_89, q253_90, q253_93, q253_94, q253_97, q253_98, q253_101, q253_103, q253_104, q253_105, q253_133, q253_134, q253_135, q253_138, m_0 hS, m_K hS, mR_ringAsk hS, mK_ringAsk hS, mL_ringAsk hS, as_nil, as_i, as_r, Nat.reduceAdd, Nat.reduceLeDiff, z_eq0, z_eq1, z_or, z_em, Classical.not_not, not_false_eq_true, not_true_eq_false, true_and, and_true, false_and, and_false, and_self, true_implies, false_implies, implies_true, Option.toList_some, Option.toList_none, List.cons_append, List.nil_append, Nat.add_eq_zero_iff, a_nl_i, a_nl_r, a_nl_n, true_or, or_true, eq_self, ok_4, ok_5, ok_6, ok_7, ok_9, ok_10, ok_20, ok_21, ok_24, ok_30, ok_48, ok_50, ok_60, ok_80, ok_120, ok_180, ok_192, ok_200, ok_900, ok_1000, ok_84000, c', u1, n10, e48, c2, hk5]
        try simp only [true_and, and_true, true_implies, false_implies, implies_true, not_true_eq_false, not_false_eq_true]
        first
          | exact hp
          | grind
      · by_cases c3 : Y 8 (g k.toNatClampNeg).toNatClampNeg = Y 8 a.toNatClampNeg
        · have hp := hno (fun q => q.2.2 c3)
          clear ih hP hgr hg hm hh hno hyes
          simp only [q253_89, q253_90, q253_93, q253_94, q253_97, q253_98, q253_101, q253_103, q253_104, q253_105, q253_108, q253_109, q253_112, q253_113, q253_116, q253_118, q253_119, q253_120, q253_121, q253_124, q253_125, q253_126, q253_133, q253_134, q253_135, q253_138, m_0 hS, m_K hS, mR_ringAsk hS, mK_ringAsk hS, mL_ringAsk hS, mR_group hS, mK_group hS, mL_group hS, as_nil, as_i, as_r, Nat.reduceAdd, Nat.reduceLeDiff, z_eq0, z_eq1, z_or, z_em, Classical.not_not, not_false_eq_true, not_true_eq_false, true_and, and_true, false_and, and_false, and_self, true_implies, false_implies, implies_true, Option.toList_some, Option.toList_none, List.cons_append, List.nil_append, Nat.add_eq_zero_iff, a_nl_i, a_nl_r, a_nl_n, true_or, or_true, eq_self, ok_4, ok_5, ok_6, ok_7, ok_9, ok_10, ok_20, ok_21, ok_24, ok_30, ok_48, ok_50, ok_60, ok_80, ok_120, ok_180, ok_192, ok_200, ok_900, ok_1000, ok_84000, c', u1, n10, e48, c2, hk5, e8, e8a, c3, g30, a30]
          try simp only [true_and, and_true, true_implies, false_implies, implies_true, not_true_eq_false, not_false_eq_true]
          first
            | exact hp
            | grind
        · have hp := hyes ⟨u1, c2, c3⟩
          clear ih hP hgr hg hm hh hno hyes
          simp only [q253_89, q253_90, q253_93, q253_94, q253_97, q253_98, q253_101, q253_103, q253_104, q253_105, q253_108, q253_109, q253_112, q253_113, q253_116, q253_118, q253_119, q253_120, q253_121, q253_124, q253_125, q253_126, q253_129, q253_130, q253_133, q253_134, q253_135, q253_138, m_0 hS, m_K hS, mR_ringAsk hS, mK_ringAsk hS, mL_ringAsk hS, mR_group hS, mK_group hS, mL_group hS, as_nil, as_i, as_r, Nat.reduceAdd, Nat.reduceLeDiff, z_eq0, z_eq1, z_or, z_em, Classical.not_not, not_false_eq_true, not_true_eq_false, true_and, and_true, false_and, and_false, and_self, true_implies, false_implies, implies_true, Option.toList_some, Option.toList_none, List.cons_append, List.nil_append, Nat.add_eq_zero_iff, a_nl_i, a_nl_r, a_nl_n, true_or, or_true, eq_self, ok_4, ok_5, ok_6, ok_7, ok_9, ok_10, ok_20, ok_21, ok_24, ok_30, ok_48, ok_50, ok_60, ok_80, ok_120, ok_180, ok_192, ok_200, ok_900, ok_1000, ok_84000, c', u1, n10, e48, c2, hk5, e8, e8a, c3, g30, a30]
          try simp only [true_and, and_true, true_implies, false_implies, implies_true, not_true_eq_false, not_false_eq_true]
          first
            | exact hp
            | grind
  · have e := (lp_end hki c).2
    have hp := hP u hu (by rw [e] at hh; exact hh)
    have c' : i ≤ k := Int32.not_lt.mp c
    clear ih hP hgr hg hm hh
    simp only [q253_89, q253_90, q253_141, q253_142, as_nil, as_i, as_r, Nat.reduceAdd, Nat.reduceLeDiff, z_eq0, z_eq1, z_or, z_em, Classical.not_not, not_false_eq_true, not_true_eq_false, true_and, and_true, false_and, and_false, and_self, true_implies, false_implies, implies_true, Option.toList_some, Option.toList_none, List.cons_append, List.nil_append, Nat.add_eq_zero_iff, a_nl_i, a_nl_r, a_nl_n, true_or, or_true, eq_self, ok_4, ok_5, ok_6, ok_7, ok_9, ok_10, ok_20, ok_21, ok_24, ok_30, ok_48, ok_50, ok_60, ok_80, ok_120, ok_180, ok_192, ok_200, ok_900, ok_1000, ok_84000, c']
    try simp only [true_and, and_true, true_implies, false_implies, implies_true, not_true_eq_false, not_false_eq_true]
    first
      | exact hp
      | exact ⟨hu, hp⟩
      | grind
theorem xt_mayBeNext (hS : m_S M K L R) (hm : okY Y) (hg : gs M I0 I Y) {a i : Int32} (ha : 0 ≤ a ∧ a < Y 0 17) (hi : 0 ≤ i ∧ i ≤ 5) (hgr : ∀ k, k < i.toNatClampNeg → I (M + 48) k = g k ∧ (0 ≤ g k ∧ g k < Y 0 17)) (hP : ∀ v : Int32, (v = 0 ∨ v = 1) → (v = 1 ↔ mnP Y g i.toNatClampNeg a) → P (some (.int v)) (n, t, K, L, I, R)) : a_does (d + 2) 253 [a_rf M, .int a, .int i] (n, t, K, L, I, R) P := by
  have h17 := hm.1.2.2.2.2.1
  have a30 : 0 ≤ a ∧ a < 30 := ⟨ha.1, Int32.lt_of_lt_of_le ha.2 h17.2⟩
  have e20 : I (M + 20) a.toNatClampNeg = Y 20 a.toNatClampNeg := hg.2.2.1 20 _ (by unfold ps1; omega)
  have e21 : I (M + 21) a.toNatClampNeg = Y 21 a.toNatClampNeg := hg.2.2.1 21 _ (by unfold ps1; omega)
  have e0 : I M 0 = Y 0 0 := hg.2.2.1 0 0 (by unfold ps1; omega)
  have e17 : I M 17 = Y 0 17 := hg.2.2.1 0 17 (by unfold ps1; omega)
  have i0 : i.toNatClampNeg = 0 ↔ i = 0 := ⟨fun e => by
    by_cases q : 0 < i
    · have := cl_lt (i := 0) (by decide) q
      have : 0 < i.toNatClampNeg := this
      omega
    · clear hP hgr hg hm; grind, fun e => by rw [e]; rfl⟩
  by_cases c1 : 0 ≤ Y 20 a.toNatClampNeg ∧ ¬ Y 21 a.toNatClampNeg * 8 < Y 0 0
  · have h87 : ∀ u : Int32, (u = 0 ∨ u = 1) → (u = 1 ↔ (i = 0 ∨ (g 0 < a ∧ ¬ Y 47 (30 * g (i.toNatClampNeg - 1) + a).toNatClampNeg = 0 ∧ Y 10 a.toNatClampNeg = Y 10 (g 0).toNatClampNeg))) → a_at (d + 1) (a_xm a_m253) 83 [some (a_rf M), some (.int a), some (.int i), none, none] [.int u] (n, t, K, L, I, R) P := fun u hu hh => by
      have hl := xt_mayBeNext_87 (d := d + 1) (n := n) (t := t) (P := P) (B := (i = 0 ∨ (g 0 < a ∧ ¬ Y 47 (30 * g (i.toNatClampNeg - 1) + a).toNatClampNeg = 0 ∧ Y 10 a.toNatClampNeg = Y 10 (g 0).toNatClampNeg))) hS hm hg ha hi hgr (fun v hv hvv => hP v hv (hvv.trans ⟨fun q => ⟨c1, q.1.imp i0.mpr id, q.2⟩, fun q => ⟨q.2.1.imp i0.mp id, q.2.2⟩⟩)) 0 (by decide) u (by decide) hi.1 hu ⟨fun e => ⟨hh.mp e, fun l hl => absurd hl (Nat.not_lt_zero l)⟩, fun q => hh.mpr q.1⟩
      clear hP hgr hg hm
      simp only [q253_83, q253_84, q253_85, as_nil, as_i, as_r, Nat.reduceAdd, Nat.reduceLeDiff, z_eq0, z_eq1, z_or, z_em, Classical.not_not, not_false_eq_true, not_true_eq_false, true_and, and_true, false_and, and_false, and_self, true_implies, false_implies, implies_true, Option.toList_some, Option.toList_none, List.cons_append, List.nil_append, Nat.add_eq_zero_iff, a_nl_i, a_nl_r, a_nl_n, true_or, or_true, eq_self, ok_4, ok_5, ok_6, ok_7, ok_9, ok_10, ok_20, ok_21, ok_24, ok_30, ok_48, ok_50, ok_60, ok_80, ok_120, ok_180, ok_192, ok_200, ok_900, ok_1000, ok_84000]
      exact hl
    have h0 : ¬ (i = 0 ∨ (g 0 < a ∧ ¬ Y 47 (30 * g (i.toNatClampNeg - 1) + a).toNatClampNeg = 0 ∧ Y 10 a.toNatClampNeg = Y 10 (g 0).toNatClampNeg)) → a_at (d + 1) (a_xm a_m253) 83 [some (a_rf M), some (.int a), some (.int i), none, none] [.int 0] (n, t, K, L, I, R) P := fun q => h87 0 (Or.inl rfl) ⟨fun e => absurd e (by decide), fun r => absurd r q⟩
    have h1 : (i = 0 ∨ (g 0 < a ∧ ¬ Y 47 (30 * g (i.toNatClampNeg - 1) + a).toNatClampNeg = 0 ∧ Y 10 a.toNatClampNeg = Y 10 (g 0).toNatClampNeg)) → a_at (d + 1) (a_xm a_m253) 83 [some (a_rf M), some (.int a), some (.int i), none, none] [.int 1] (n, t, K, L, I, R) P := fun q => h87 1 (Or.inr rfl) ⟨fun _ => q, fun _ => rfl⟩
    have h23 : a_at (d + 1) (a_xm a_m253) 23 [some (a_rf M), some (.int a), some (.int i), none, none] [] (n, t, K, L, I, R) P := by
      by_cases c0 : i = 0
      · have hp := h1 (Or.inl c0)
        clear hP hgr hg hm h87 h0 h1
        simp only [q253_23, q253_24, q253_78, q253_79, as_nil, as_i, as_r, Nat.reduceAdd, Nat.reduceLeDiff, z_eq0, z_eq1, z_or, z_em, Classical.not_not, not_false_eq_true, not_true_eq_false, true_and, and_true, false_and, and_false, and_self, true_implies, false_implies, implies_true, Option.toList_some, Option.toList_none, List.cons_append, List.nil_append, Nat.add_eq_zero_iff, a_nl_i, a_nl_r, a_nl_n, true_or, or_true, eq_self, ok_4, ok_5, ok_6, ok_7, ok_9, ok_10, ok_20, ok_21, ok_24, ok_30, ok_48, ok_50, ok_60, ok_80, ok_120, ok_180, ok_192, ok_200, ok_900, ok_1000, ok_84000, c0]
        try simp only [true_and, and_true, true_implies, false_implies, implies_true, not_true_eq_false, not_false_eq_true]
        rw [c0] at hp
        first
          | exact hp
          | grind
      · have i1 : 1 ≤ i := by clear hP hgr hg hm h87 h0 h1; grind
        have hin : 0 < i.toNatClampNeg := cl_lt (i := 0) (by decide) (Int32.lt_of_lt_of_le (by decide) i1)
        obtain ⟨f48, g0⟩ := hgr 0 hin
        obtain ⟨e1, -, el, b0, b5, -⟩ := a_1 i1 hi.2
        obtain ⟨l48, gl⟩ := hgr (i - 1).toNatClampNeg (by omega)
        have g30 : 0 ≤ g 0 ∧ g 0 < 30 := ⟨g0.1, Int32.lt_of_lt_of_le g0.2 h17.2⟩
        have l30 : 0 ≤ g (i - 1).toNatClampNeg ∧ g (i - 1).toNatClampNeg < 30 := ⟨gl.1, Int32.lt_of_lt_of_le gl.2 h17.2⟩
        obtain ⟨x1, x2, -⟩ := ix_900 l30 a30
        have b6 : 0 ≤ i - 1 ∧ i - 1 < 6 := ⟨b0, Int32.lt_trans b5 (by decide)⟩
        have e47 : I (M + 47) (30 * g (i - 1).toNatClampNeg + a).toNatClampNeg = Y 47 (30 * g (i - 1).toNatClampNeg + a).toNatClampNeg := hg.2.2.1 47 _ (by unfold ps1; omega)
        have e10 : I (M + 10) a.toNatClampNeg = Y 10 a.toNatClampNeg := hg.2.2.1 10 _ (by unfold ps1; omega)
        have e10g : I (M + 10) (g 0).toNatClampNeg = Y 10 (g 0).toNatClampNeg := hg.2.2.1 10 _ (by unfold ps1; omega)
        have z0 : (0 : Int32).toNatClampNeg = 0 := rfl
        rw [← e1] at h0 h1
        by_cases c2 : g 0 < a
        · have c2' : ¬ a ≤ g 0 := Int32.not_le.mpr c2
          by_cases c3 : Y 47 (30 * g (i - 1).toNatClampNeg + a).toNatClampNeg = 0
          · have hp := h0 (fun q => (q.resolve_left c0).2.1 c3)
            clear hP hgr hg hm h87 h0 h1
            simp only [q253_23, q253_24, q253_27, q253_28, q253_29, q253_32, q253_33, q253_34, q253_37, q253_38, q253_41, q253_43, q253_44, q253_47, q253_48, q253_49, q253_50, q253_51, q253_52, q253_53, q253_54, q253_55, q253_82, m_0 hS, m_K hS, mR_ringAsk hS, mK_ringAsk hS, mL_ringAsk hS, mR_isWish hS, mK_isWish hS, mL_isWish hS, as_nil, as_i, as_r, Nat.reduceAdd, Nat.reduceLeDiff, z_eq0, z_eq1, z_or, z_em, Classical.not_not, not_false_eq_true, not_true_eq_false, true_and, and_true, false_and, and_false, and_self, true_implies, false_implies, implies_true, Option.toList_some, Option.toList_none, List.cons_append, List.nil_append, Nat.add_eq_zero_iff, a_nl_i, a_nl_r, a_nl_n, true_or, or_true, eq_self, ok_4, ok_5, ok_6, ok_7, ok_9, ok_10, ok_20, ok_21, ok_24, ok_30, ok_48, ok_50, ok_60, ok_80, ok_120, ok_180, ok_192, ok_200, ok_900, ok_1000, ok_84000, c0, f48, l48, z0, c2', c3, e47, b6, x2]
            try simp only [true_and, and_true, true_implies, false_implies, implies_true, not_true_eq_false, not_false_eq_true]
            first
              | exact hp
              | grind
          · by_cases c4 : Y 10 a.toNatClampNeg = Y 10 (g 0).toNatClampNeg
            · have hp := h1 (Or.inr ⟨c2, c3, c4⟩)
              clear hP hgr hg hm h87 h0 h1
              simp only [q253_23, q253_24, q253_27, q253_28, q253_29, q253_32, q253_33, q253_34, q253_37, q253_38, q253_41, q253_43, q253_44, q253_47, q253_48, q253_49, q253_50, q253_51, q253_52, q253_53, q253_54, q253_55, q253_58, q253_59, q253_62, q253_63, q253_64, q253_65, q253_68, q253_69, q253_72, q253_73, q253_74, q253_75, q253_78, q253_79, m_0 hS, m_K hS, mR_ringAsk hS, mK_ringAsk hS, mL_ringAsk hS, mR_isWish hS, mK_isWish hS, mL_isWish hS, mR_length hS, mK_length hS, mL_length hS, as_nil, as_i, as_r, Nat.reduceAdd, Nat.reduceLeDiff, z_eq0, z_eq1, z_or, z_em, Classical.not_not, not_false_eq_true, not_true_eq_false, true_and, and_true, false_and, and_false, and_self, true_implies, false_implies, implies_true, Option.toList_some, Option.toList_none, List.cons_append, List.nil_append, Nat.add_eq_zero_iff, a_nl_i, a_nl_r, a_nl_n, true_or, or_true, eq_self, ok_4, ok_5, ok_6, ok_7, ok_9, ok_10, ok_20, ok_21, ok_24, ok_30, ok_48, ok_50, ok_60, ok_80, ok_120, ok_180, ok_192, ok_200, ok_900, ok_1000, ok_84000, c0, f48, l48, z0, c2', c3, e47, b6, x2, e10, e10g, c4, a30, g30]
              try simp only [true_and, and_true, true_implies, false_implies, implies_true, not_true_eq_false, not_false_eq_true]
              first
                | exact hp
                | grind
            · have hp := h0 (fun q => c4 (q.resolve_left c0).2.2)
              clear hP hgr hg hm h87 h0 h1
              simp only [q253_23, q253_24, q253_27, q253_28, q253_29, q253_32, q253_33, q253_34, q253_37, q253_38, q253_41, q253_43, q253_44, q253_47, q253_48, q253_49, q253_50, q253_51, q253_52, q253_53, q253_54, q253_55, q253_58, q253_59, q253_62, q253_63, q253_64, q253_65, q253_68, q253_69, q253_72, q253_73, q253_74, q253_75, q253_82, m_0 hS, m_K hS, mR_ringAsk hS, mK_ringAsk hS, mL_ringAsk hS, mR_isWish hS, mK_isWish hS, mL_isWish hS, mR_length hS, mK_length hS, mL_length hS, as_nil, as_i, as_r, Nat.reduceAdd, Nat.reduceLeDiff, z_eq0, z_eq1, z_or, z_em, Classical.not_not, not_false_eq_true, not_true_eq_false, true_and, and_true, false_and, and_false, and_self, true_implies, false_implies, implies_true, Option.toList_some, Option.toList_none, List.cons_append, List.nil_append, Nat.add_eq_zero_iff, a_nl_i, a_nl_r, a_nl_n, true_or, or_true, eq_self, ok_4, ok_5, ok_6, ok_7, ok_9, ok_10, ok_20, ok_21, ok_24, ok_30, ok_48, ok_50, ok_60, ok_80, ok_120, ok_180, ok_192, ok_200, ok_900, ok_1000, ok_84000, c0, f48, l48, z0, c2', c3, e47, b6, x2, e10, e10g, c4, a30, g30]
              try simp only [true_and, and_true, true_implies, false_implies, implies_true, not_true_eq_false, not_false_eq_true]
              first
                | exact hp
                | grind
        · have hp := h0 (fun q => c2 (q.resolve_left c0).1)
          have c2' : a ≤ g 0 := Int32.not_lt.mp c2
          clear hP hgr hg hm h87 h0 h1
          simp only [q253_23, q253_24, q253_27, q253_28, q253_29, q253_32, q253_33, q253_34, q253_82, m_0 hS, m_K hS, mR_ringAsk hS, mK_ringAsk hS, mL_ringAsk hS, as_nil, as_i, as_r, Nat.reduceAdd, Nat.reduceLeDiff, z_eq0, z_eq1, z_or, z_em, Classical.not_not, not_false_eq_true, not_true_eq_false, true_and, and_true, false_and, and_false, and_self, true_implies, false_implies, implies_true, Option.toList_some, Option.toList_none, List.cons_append, List.nil_append, Nat.add_eq_zero_iff, a_nl_i, a_nl_r, a_nl_n, true_or, or_true, eq_self, ok_4, ok_5, ok_6, ok_7, ok_9, ok_10, ok_20, ok_21, ok_24, ok_30, ok_48, ok_50, ok_60, ok_80, ok_120, ok_180, ok_192, ok_200, ok_900, ok_1000, ok_84000, c0, f48, z0, c2']
          try simp only [true_and, and_true, true_implies, false_implies, implies_true, not_true_eq_false, not_false_eq_true]
          first
            | exact hp
            | grind
    clear hP hgr hg hm h87 h0 h1
    rw [a_enter1 (M := a_m253) rfl (a_cat_rf (a_cat_int (a_cat_int a_cat_nil))) (show 3 ≤ 5 by decide)]
    show a_at _ (a_xm a_m253) 0 [some (a_rf M), some (.int a), some (.int i), none, none] [] _ _
    simp only [q253_0, q253_1, q253_2, q253_5, q253_8, q253_9, q253_10, q253_13, q253_14, q253_15, q253_18, m_0 hS, m_K hS, mR_atShift hS, mK_atShift hS, mL_atShift hS, sp_hasPlace hS, sp_isBegun hS, as_nil, as_i, as_r, Nat.reduceAdd, Nat.reduceLeDiff, z_eq0, z_eq1, z_or, z_em, Classical.not_not, not_false_eq_true, not_true_eq_false, true_and, and_true, false_and, and_false, and_self, true_implies, false_implies, implies_true, Option.toList_some, Option.toList_none, List.cons_append, List.nil_append, Nat.add_eq_zero_iff, a_nl_i, a_nl_r, a_nl_n, true_or, or_true, eq_self, ok_4, ok_5, ok_6, ok_7, ok_9, ok_10, ok_20, ok_21, ok_24, ok_30, ok_48, ok_50, ok_60, ok_80, ok_120, ok_180, ok_192, ok_200, ok_900, ok_1000, ok_84000, e20, e21, e0, e17, a30]
    try simp only [true_and, and_true, true_implies, false_implies, implies_true, not_true_eq_false, not_false_eq_true]
    first
      | exact h23
      | grind
  · have hp := hP 0 (Or.inl rfl) ⟨fun e => absurd e (by decide), fun q => absurd q.1 c1⟩
    clear hP hgr hg hm
    rw [a_enter1 (M := a_m253) rfl (a_cat_rf (a_cat_int (a_cat_int a_cat_nil))) (show 3 ≤ 5 by decide)]
    show a_at _ (a_xm a_m253) 0 [some (a_rf M), some (.int a), some (.int i), none, none] [] _ _
    simp only [q253_0, q253_1, q253_2, q253_5, q253_8, q253_9, q253_10, q253_13, q253_14, q253_15, q253_18, q253_21, q253_22, m_0 hS, m_K hS, mR_atShift hS, mK_atShift hS, mL_atShift hS, sp_hasPlace hS, sp_isBegun hS, as_nil, as_i, as_r, Nat.reduceAdd, Nat.reduceLeDiff, z_eq0, z_eq1, z_or, z_em, Classical.not_not, not_false_eq_true, not_true_eq_false, true_and, and_true, false_and, and_false, and_self, true_implies, false_implies, implies_true, Option.toList_some, Option.toList_none, List.cons_append, List.nil_append, Nat.add_eq_zero_iff, a_nl_i, a_nl_r, a_nl_n, true_or, or_true, eq_self, ok_4, ok_5, ok_6, ok_7, ok_9, ok_10, ok_20, ok_21, ok_24, ok_30, ok_48, ok_50, ok_60, ok_80, ok_120, ok_180, ok_192, ok_200, ok_900, ok_1000, ok_84000, e20, e21, e0, e17, a30]
    try simp only [true_and, and_true, true_implies, false_implies, implies_true, not_true_eq_false, not_false_eq_true]
    grind
end ZFF
/-! the law's calls -/
section KO
variable {b sL : Nat} {sx : Nat → Int32}
variable {d n t C c n0 n' n'' t' : Nat} {K L K0 L0 K' L' K'' L'' : Nat → Nat} {I I0 J J0 J1 J2 : Nat → Nat → Int32} {R R0 R' R'' : Nat → Nat → Nat} {P : Option Value → AH → Prop}
theorem a_ok8 {i : Int32} {e : Int32} (h0 : 0 ≤ i) (h1 : i.toInt + 8 ≤ sL) (h2 : sL ≤ 4096) (he : 0 ≤ e ∧ e ≤ 7) : a_ok (i + e) sL := by
  have c0 : (0 : Int32).toInt = 0 := rfl
  have c7 : (7 : Int32).toInt = 7 := rfl
  have e0 := Int32.le_iff_toInt_le.mp h0
  have e1 := Int32.le_iff_toInt_le.mp he.1
  have e2 := Int32.le_iff_toInt_le.mp he.2
  have es : (i + e).toInt = i.toInt + e.toInt := ti_add (by omega)
  exact okI (by rw [Int32.le_iff_toInt_le]; omega) (by omega)
theorem lc_hours (hb : b < C) (h : lawI b C c n t K L J R) (hc : 120 * c + 130 ≤ 84000) {i : Int32} (h0 : 0 ≤ i) (h1 : i.toInt + 8 ≤ sL) (h2 : sL ≤ 4096) (hn : ∀ n t K L J R, lawI b C (c + 1) n t K L J R → a_at 700 (lx b sL sx) 1547 [some (.ref b), some (a_rf C), some (a_rf (C + 44)), some (.int i)] [] (n + 1, t, K, L, J, R) P) : a_at 700 (lx b sL sx) 196 [some (.ref b), some (a_rf C), some (a_rf (C + 44)), some (.int i)] [] (n + 1, t, K, L, J, R) P := by
  have hS := h.1.1.s
  have kb := h.2.2.2.2.1
  have o1 : a_ok (i + 1) sL := a_ok8 h0 h1 h2 (by decide)
  have o2 : a_ok (i + 2) sL := a_ok8 h0 h1 h2 (by decide)
  have o3 : a_ok (i + 3) sL := a_ok8 h0 h1 h2 (by decide)
  have o4 : a_ok (i + 4) sL := a_ok8 h0 h1 h2 (by decide)
  have o5 : a_ok (i + 5) sL := a_ok8 h0 h1 h2 (by decide)
  have o6 : a_ok (i + 6) sL := a_ok8 h0 h1 h2 (by decide)
  have o7 : a_ok (i + 7) sL := a_ok8 h0 h1 h2 (by decide)
  simp only [qL_196, qL_197, qL_198, qL_199, qL_200, qL_201, qL_202, as_nil, as_i, as_r, Nat.reduceAdd, Nat.reduceLeDiff, z_eq0, z_eq1, z_or, z_em, Classical.not_not, not_false_eq_true, not_true_eq_false, true_and, and_true, false_and, and_false, and_self, true_implies, false_implies, implies_true, Option.toList_some, Option.toList_none, List.cons_append, List.nil_append, Nat.add_eq_zero_iff, a_nl_i, a_nl_r, a_nl_n, true_or, or_true, eq_self, a_isRA_22, a_isRA_24, a_isRA_32, a_isA_20, kb, o1, o2, o3, o4, o5, o6, o7, k_0 hS, z_C hS]
  refine cd_hours hb h (fun v n2 t2 K2 L2 J2 R2 hx => ?_)
  have kb2 := hx.1.2.2.2.2
  have hm := hx.1.2.1
  simp only [qL_205, qL_206, qL_207, qL_208, qL_209, qL_210, qL_211, qL_212, as_nil, as_i, as_r, Nat.reduceAdd, Nat.reduceLeDiff, z_eq0, z_eq1, z_or, z_em, Classical.not_not, not_false_eq_true, not_true_eq_false, true_and, and_true, false_and, and_false, and_self, true_implies, false_implies, implies_true, Option.toList_some, Option.toList_none, List.cons_append, List.nil_append, Nat.add_eq_zero_iff, a_nl_i, a_nl_r, a_nl_n, true_or, or_true, eq_self, a_isRA_22, a_isRA_24, a_isRA_32, a_isA_20, kb2, o1, o2, o3, o4, o5, o6, o7, m_0 hm, m_K hm]
  refine rd_hours hx hc (fun v2 J3 hI => ?_)
  simp only [qL_215, qL_216, as_nil, as_i, as_r, Nat.reduceAdd, Nat.reduceLeDiff, z_eq0, z_eq1, z_or, z_em, Classical.not_not, not_false_eq_true, not_true_eq_false, true_and, and_true, false_and, and_false, and_self, true_implies, false_implies, implies_true, Option.toList_some, Option.toList_none, List.cons_append, List.nil_append, Nat.add_eq_zero_iff, a_nl_i, a_nl_r, a_nl_n, true_or, or_true, eq_self, a_isRA_22, a_isRA_24, a_isRA_32, a_isA_20]
  exact hn _ _ _ _ _ _ hI
theorem lc_mode (hb : b < C) (h : lawI b C c n t K L J R) (hc : 120 * c + 130 ≤ 84000) {i : Int32} (h0 : 0 ≤ i) (h1 : i.toInt + 8 ≤ sL) (h2 : sL ≤ 4096) (hn : ∀ n t K L J R, lawI b C (c + 1) n t K L J R → a_at 700 (lx b sL sx) 1547 [some (.ref b), some (a_rf C), some (a_rf (C + 44)), some (.int i)] [] (n + 1, t, K, L, J, R) P) : a_at 700 (lx b sL sx) 219 [some (.ref b), some (a_rf C), some (a_rf (C + 44)), some (.int i)] [] (n + 1, t, K, L, J, R) P := by
  have hS := h.1.1.s
  have kb := h.2.2.2.2.1
  have o1 : a_ok (i + 1) sL := a_ok8 h0 h1 h2 (by decide)
  have o2 : a_ok (i + 2) sL := a_ok8 h0 h1 h2 (by decide)
  have o3 : a_ok (i + 3) sL := a_ok8 h0 h1 h2 (by decide)
  have o4 : a_ok (i + 4) sL := a_ok8 h0 h1 h2 (by decide)
  have o5 : a_ok (i + 5) sL := a_ok8 h0 h1 h2 (by decide)
  have o6 : a_ok (i + 6) sL := a_ok8 h0 h1 h2 (by decide)
  have o7 : a_ok (i + 7) sL := a_ok8 h0 h1 h2 (by decide)
  simp only [qL_219, qL_220, qL_221, qL_222, qL_223, qL_224, qL_225, qL_226, qL_227, qL_228, qL_229, qL_230, qL_231, qL_232, qL_233, qL_234, qL_235, as_nil, as_i, as_r, Nat.reduceAdd, Nat.reduceLeDiff, z_eq0, z_eq1, z_or, z_em, Classical.not_not, not_false_eq_true, not_true_eq_false, true_and, and_true, false_and, and_false, and_self, true_implies, false_implies, implies_true, Option.toList_some, Option.toList_none, List.cons_append, List.nil_append, Nat.add_eq_zero_iff, a_nl_i, a_nl_r, a_nl_n, true_or, or_true, eq_self, a_isRA_22, a_isRA_24, a_isRA_32, a_isA_20, kb, o1, o2, o3, o4, o5, o6, o7, k_0 hS, z_C hS]
  refine cd_mode hb h (fun v n2 t2 K2 L2 J2 R2 hx => ?_)
  have kb2 := hx.1.2.2.2.2
  have hm := hx.1.2.1
  simp only [qL_238, qL_239, qL_240, qL_241, qL_242, qL_243, qL_244, qL_245, qL_246, qL_247, qL_248, qL_249, qL_250, qL_251, qL_252, qL_253, qL_254, qL_255, as_nil, as_i, as_r, Nat.reduceAdd, Nat.reduceLeDiff, z_eq0, z_eq1, z_or, z_em, Classical.not_not, not_false_eq_true, not_true_eq_false, true_and, and_true, false_and, and_false, and_self, true_implies, false_implies, implies_true, Option.toList_some, Option.toList_none, List.cons_append, List.nil_append, Nat.add_eq_zero_iff, a_nl_i, a_nl_r, a_nl_n, true_or, or_true, eq_self, a_isRA_22, a_isRA_24, a_isRA_32, a_isA_20, kb2, o1, o2, o3, o4, o5, o6, o7, m_0 hm, m_K hm]
  refine rd_mode hx hc (fun v2 J3 hI => ?_)
  simp only [qL_258, qL_259, as_nil, as_i, as_r, Nat.reduceAdd, Nat.reduceLeDiff, z_eq0, z_eq1, z_or, z_em, Classical.not_not, not_false_eq_true, not_true_eq_false, true_and, and_true, false_and, and_false, and_self, true_implies, false_implies, implies_true, Option.toList_some, Option.toList_none, List.cons_append, List.nil_append, Nat.add_eq_zero_iff, a_nl_i, a_nl_r, a_nl_n, true_or, or_true, eq_self, a_isRA_22, a_isRA_24, a_isRA_32, a_isA_20]
  exact hn _ _ _ _ _ _ hI
theorem lc_trip (hb : b < C) (h : lawI b C c n t K L J R) (hc : 120 * c + 130 ≤ 84000) {i : Int32} (h0 : 0 ≤ i) (h1 : i.toInt + 8 ≤ sL) (h2 : sL ≤ 4096) (hn : ∀ n t K L J R, lawI b C (c + 1) n t K L J R → a_at 700 (lx b sL sx) 1547 [some (.ref b), some (a_rf C), some (a_rf (C + 44)), some (.int i)] [] (n + 1, t, K, L, J, R) P) : a_at 700 (lx b sL sx) 262 [some (.ref b), some (a_rf C), some (a_rf (C + 44)), some (.int i)] [] (n + 1, t, K, L, J, R) P := by
  have hS := h.1.1.s
  have kb := h.2.2.2.2.1
  have o1 : a_ok (i + 1) sL := a_ok8 h0 h1 h2 (by decide)
  have o2 : a_ok (i + 2) sL := a_ok8 h0 h1 h2 (by decide)
  have o3 : a_ok (i + 3) sL := a_ok8 h0 h1 h2 (by decide)
  have o4 : a_ok (i + 4) sL := a_ok8 h0 h1 h2 (by decide)
  have o5 : a_ok (i + 5) sL := a_ok8 h0 h1 h2 (by decide)
  have o6 : a_ok (i + 6) sL := a_ok8 h0 h1 h2 (by decide)
  have o7 : a_ok (i + 7) sL := a_ok8 h0 h1 h2 (by decide)
  simp only [qL_262, qL_263, qL_264, qL_265, qL_266, qL_267, qL_268, qL_269, qL_270, qL_271, qL_272, qL_273, as_nil, as_i, as_r, Nat.reduceAdd, Nat.reduceLeDiff, z_eq0, z_eq1, z_or, z_em, Classical.not_not, not_false_eq_true, not_true_eq_false, true_and, and_true, false_and, and_false, and_self, true_implies, false_implies, implies_true, Option.toList_some, Option.toList_none, List.cons_append, List.nil_append, Nat.add_eq_zero_iff, a_nl_i, a_nl_r, a_nl_n, true_or, or_true, eq_self, a_isRA_22, a_isRA_24, a_isRA_32, a_isA_20, kb, o1, o2, o3, o4, o5, o6, o7, k_0 hS, z_C hS]
  refine cd_trip hb h (fun v n2 t2 K2 L2 J2 R2 hx => ?_)
  have kb2 := hx.1.2.2.2.2
  have hm := hx.1.2.1
  simp only [qL_276, qL_277, qL_278, qL_279, qL_280, qL_281, qL_282, qL_283, qL_284, qL_285, qL_286, qL_287, qL_288, as_nil, as_i, as_r, Nat.reduceAdd, Nat.reduceLeDiff, z_eq0, z_eq1, z_or, z_em, Classical.not_not, not_false_eq_true, not_true_eq_false, true_and, and_true, false_and, and_false, and_self, true_implies, false_implies, implies_true, Option.toList_some, Option.toList_none, List.cons_append, List.nil_append, Nat.add_eq_zero_iff, a_nl_i, a_nl_r, a_nl_n, true_or, or_true, eq_self, a_isRA_22, a_isRA_24, a_isRA_32, a_isA_20, kb2, o1, o2, o3, o4, o5, o6, o7, m_0 hm, m_K hm]
  refine rd_trip hx hc (fun v2 J3 hI => ?_)
  simp only [qL_291, qL_292, as_nil, as_i, as_r, Nat.reduceAdd, Nat.reduceLeDiff, z_eq0, z_eq1, z_or, z_em, Classical.not_not, not_false_eq_true, not_true_eq_false, true_and, and_true, false_and, and_false, and_self, true_implies, false_implies, implies_true, Option.toList_some, Option.toList_none, List.cons_append, List.nil_append, Nat.add_eq_zero_iff, a_nl_i, a_nl_r, a_nl_n, true_or, or_true, eq_self, a_isRA_22, a_isRA_24, a_isRA_32, a_isA_20]
  exact hn _ _ _ _ _ _ hI
theorem lc_shiftOf (hb : b < C) (h : lawI b C c n t K L J R) (hc : 120 * c + 130 ≤ 84000) {i : Int32} (h0 : 0 ≤ i) (h1 : i.toInt + 8 ≤ sL) (h2 : sL ≤ 4096) (hn : ∀ n t K L J R, lawI b C (c + 1) n t K L J R → a_at 700 (lx b sL sx) 1547 [some (.ref b), some (a_rf C), some (a_rf (C + 44)), some (.int i)] [] (n + 1, t, K, L, J, R) P) : a_at 700 (lx b sL sx) 295 [some (.ref b), some (a_rf C), some (a_rf (C + 44)), some (.int i)] [] (n + 1, t, K, L, J, R) P := by
  have hS := h.1.1.s
  have kb := h.2.2.2.2.1
  have o1 : a_ok (i + 1) sL := a_ok8 h0 h1 h2 (by decide)
  have o2 : a_ok (i + 2) sL := a_ok8 h0 h1 h2 (by decide)
  have o3 : a_ok (i + 3) sL := a_ok8 h0 h1 h2 (by decide)
  have o4 : a_ok (i + 4) sL := a_ok8 h0 h1 h2 (by decide)
  have o5 : a_ok (i + 5) sL := a_ok8 h0 h1 h2 (by decide)
  have o6 : a_ok (i + 6) sL := a_ok8 h0 h1 h2 (by decide)
  have o7 : a_ok (i + 7) sL := a_ok8 h0 h1 h2 (by decide)
  simp only [qL_295, qL_296, qL_297, qL_298, qL_299, qL_300, qL_301, qL_302, qL_303, qL_304, qL_305, qL_306, qL_307, qL_308, qL_309, qL_310, qL_311, as_nil, as_i, as_r, Nat.reduceAdd, Nat.reduceLeDiff, z_eq0, z_eq1, z_or, z_em, Classical.not_not, not_false_eq_true, not_true_eq_false, true_and, and_true, false_and, and_false, and_self, true_implies, false_implies, implies_true, Option.toList_some, Option.toList_none, List.cons_append, List.nil_append, Nat.add_eq_zero_iff, a_nl_i, a_nl_r, a_nl_n, true_or, or_true, eq_self, a_isRA_22, a_isRA_24, a_isRA_32, a_isA_20, kb, o1, o2, o3, o4, o5, o6, o7, k_0 hS, z_C hS]
  refine cd_shiftOf hb h (fun v n2 t2 K2 L2 J2 R2 hx => ?_)
  have kb2 := hx.1.2.2.2.2
  have hm := hx.1.2.1
  simp only [qL_314, qL_315, qL_316, qL_317, qL_318, qL_319, qL_320, qL_321, qL_322, qL_323, qL_324, qL_325, qL_326, qL_327, qL_328, qL_329, qL_330, qL_331, as_nil, as_i, as_r, Nat.reduceAdd, Nat.reduceLeDiff, z_eq0, z_eq1, z_or, z_em, Classical.not_not, not_false_eq_true, not_true_eq_false, true_and, and_true, false_and, and_false, and_self, true_implies, false_implies, implies_true, Option.toList_some, Option.toList_none, List.cons_append, List.nil_append, Nat.add_eq_zero_iff, a_nl_i, a_nl_r, a_nl_n, true_or, or_true, eq_self, a_isRA_22, a_isRA_24, a_isRA_32, a_isA_20, kb2, o1, o2, o3, o4, o5, o6, o7, m_0 hm, m_K hm]
  refine rd_shiftOf hx hc (fun v2 J3 hI => ?_)
  simp only [qL_334, qL_335, as_nil, as_i, as_r, Nat.reduceAdd, Nat.reduceLeDiff, z_eq0, z_eq1, z_or, z_em, Classical.not_not, not_false_eq_true, not_true_eq_false, true_and, and_true, false_and, and_false, and_self, true_implies, false_implies, implies_true, Option.toList_some, Option.toList_none, List.cons_append, List.nil_append, Nat.add_eq_zero_iff, a_nl_i, a_nl_r, a_nl_n, true_or, or_true, eq_self, a_isRA_22, a_isRA_24, a_isRA_32, a_isA_20]
  exact hn _ _ _ _ _ _ hI
theorem lc_bench (hb : b < C) (h : lawI b C c n t K L J R) (hc : 120 * c + 130 ≤ 84000) {i : Int32} (h0 : 0 ≤ i) (h1 : i.toInt + 8 ≤ sL) (h2 : sL ≤ 4096) (hn : ∀ n t K L J R, lawI b C (c + 1) n t K L J R → a_at 700 (lx b sL sx) 1547 [some (.ref b), some (a_rf C), some (a_rf (C + 44)), some (.int i)] [] (n + 1, t, K, L, J, R) P) : a_at 700 (lx b sL sx) 338 [some (.ref b), some (a_rf C), some (a_rf (C + 44)), some (.int i)] [] (n + 1, t, K, L, J, R) P := by
  have hS := h.1.1.s
  have kb := h.2.2.2.2.1
  have o1 : a_ok (i + 1) sL := a_ok8 h0 h1 h2 (by decide)
  have o2 : a_ok (i + 2) sL := a_ok8 h0 h1 h2 (by decide)
  have o3 : a_ok (i + 3) sL := a_ok8 h0 h1 h2 (by decide)
  have o4 : a_ok (i + 4) sL := a_ok8 h0 h1 h2 (by decide)
  have o5 : a_ok (i + 5) sL := a_ok8 h0 h1 h2 (by decide)
  have o6 : a_ok (i + 6) sL := a_ok8 h0 h1 h2 (by decide)
  have o7 : a_ok (i + 7) sL := a_ok8 h0 h1 h2 (by decide)
  simp only [qL_338, qL_339, qL_340, qL_341, qL_342, qL_343, qL_344, qL_345, qL_346, qL_347, qL_348, qL_349, as_nil, as_i, as_r, Nat.reduceAdd, Nat.reduceLeDiff, z_eq0, z_eq1, z_or, z_em, Classical.not_not, not_false_eq_true, not_true_eq_false, true_and, and_true, false_and, and_false, and_self, true_implies, false_implies, implies_true, Option.toList_some, Option.toList_none, List.cons_append, List.nil_append, Nat.add_eq_zero_iff, a_nl_i, a_nl_r, a_nl_n, true_or, or_true, eq_self, a_isRA_22, a_isRA_24, a_isRA_32, a_isA_20, kb, o1, o2, o3, o4, o5, o6, o7, k_0 hS, z_C hS]
  refine cd_bench hb h (fun v n2 t2 K2 L2 J2 R2 hx => ?_)
  have kb2 := hx.1.2.2.2.2
  have hm := hx.1.2.1
  simp only [qL_352, qL_353, qL_354, qL_355, qL_356, qL_357, qL_358, qL_359, qL_360, qL_361, qL_362, qL_363, qL_364, as_nil, as_i, as_r, Nat.reduceAdd, Nat.reduceLeDiff, z_eq0, z_eq1, z_or, z_em, Classical.not_not, not_false_eq_true, not_true_eq_false, true_and, and_true, false_and, and_false, and_self, true_implies, false_implies, implies_true, Option.toList_some, Option.toList_none, List.cons_append, List.nil_append, Nat.add_eq_zero_iff, a_nl_i, a_nl_r, a_nl_n, true_or, or_true, eq_self, a_isRA_22, a_isRA_24, a_isRA_32, a_isA_20, kb2, o1, o2, o3, o4, o5, o6, o7, m_0 hm, m_K hm]
  refine rd_bench hx hc (fun v2 J3 hI => ?_)
  simp only [qL_367, qL_368, as_nil, as_i, as_r, Nat.reduceAdd, Nat.reduceLeDiff, z_eq0, z_eq1, z_or, z_em, Classical.not_not, not_false_eq_true, not_true_eq_false, true_and, and_true, false_and, and_false, and_self, true_implies, false_implies, implies_true, Option.toList_some, Option.toList_none, List.cons_append, List.nil_append, Nat.add_eq_zero_iff, a_nl_i, a_nl_r, a_nl_n, true_or, or_true, eq_self, a_isRA_22, a_isRA_24, a_isRA_32, a_isA_20]
  exact hn _ _ _ _ _ _ hI
theorem lc_set (hb : b < C) (h : lawI b C c n t K L J R) (hc : 120 * c + 130 ≤ 84000) {i : Int32} (h0 : 0 ≤ i) (h1 : i.toInt + 8 ≤ sL) (h2 : sL ≤ 4096) (hn : ∀ n t K L J R, lawI b C (c + 1) n t K L J R → a_at 700 (lx b sL sx) 1547 [some (.ref b), some (a_rf C), some (a_rf (C + 44)), some (.int i)] [] (n + 1, t, K, L, J, R) P) : a_at 700 (lx b sL sx) 371 [some (.ref b), some (a_rf C), some (a_rf (C + 44)), some (.int i)] [] (n + 1, t, K, L, J, R) P := by
  have hS := h.1.1.s
  have kb := h.2.2.2.2.1
  have o1 : a_ok (i + 1) sL := a_ok8 h0 h1 h2 (by decide)
  have o2 : a_ok (i + 2) sL := a_ok8 h0 h1 h2 (by decide)
  have o3 : a_ok (i + 3) sL := a_ok8 h0 h1 h2 (by decide)
  have o4 : a_ok (i + 4) sL := a_ok8 h0 h1 h2 (by decide)
  have o5 : a_ok (i + 5) sL := a_ok8 h0 h1 h2 (by decide)
  have o6 : a_ok (i + 6) sL := a_ok8 h0 h1 h2 (by decide)
  have o7 : a_ok (i + 7) sL := a_ok8 h0 h1 h2 (by decide)
  simp only [qL_371, qL_372, qL_373, qL_374, qL_375, qL_376, qL_377, qL_378, qL_379, qL_380, qL_381, qL_382, as_nil, as_i, as_r, Nat.reduceAdd, Nat.reduceLeDiff, z_eq0, z_eq1, z_or, z_em, Classical.not_not, not_false_eq_true, not_true_eq_false, true_and, and_true, false_and, and_false, and_self, true_implies, false_implies, implies_true, Option.toList_some, Option.toList_none, List.cons_append, List.nil_append, Nat.add_eq_zero_iff, a_nl_i, a_nl_r, a_nl_n, true_or, or_true, eq_self, a_isRA_22, a_isRA_24, a_isRA_32, a_isA_20, kb, o1, o2, o3, o4, o5, o6, o7, k_0 hS, z_C hS]
  refine cd_set hb h (fun v n2 t2 K2 L2 J2 R2 hx => ?_)
  have kb2 := hx.1.2.2.2.2
  have hm := hx.1.2.1
  simp only [qL_385, qL_386, qL_387, qL_388, qL_389, qL_390, qL_391, qL_392, qL_393, qL_394, qL_395, qL_396, qL_397, as_nil, as_i, as_r, Nat.reduceAdd, Nat.reduceLeDiff, z_eq0, z_eq1, z_or, z_em, Classical.not_not, not_false_eq_true, not_true_eq_false, true_and, and_true, false_and, and_false, and_self, true_implies, false_implies, implies_true, Option.toList_some, Option.toList_none, List.cons_append, List.nil_append, Nat.add_eq_zero_iff, a_nl_i, a_nl_r, a_nl_n, true_or, or_true, eq_self, a_isRA_22, a_isRA_24, a_isRA_32, a_isA_20, kb2, o1, o2, o3, o4, o5, o6, o7, m_0 hm, m_K hm]
  refine rd_set hx hc (fun v2 J3 hI => ?_)
  simp only [qL_400, qL_401, as_nil, as_i, as_r, Nat.reduceAdd, Nat.reduceLeDiff, z_eq0, z_eq1, z_or, z_em, Classical.not_not, not_false_eq_true, not_true_eq_false, true_and, and_true, false_and, and_false, and_self, true_implies, false_implies, implies_true, Option.toList_some, Option.toList_none, List.cons_append, List.nil_append, Nat.add_eq_zero_iff, a_nl_i, a_nl_r, a_nl_n, true_or, or_true, eq_self, a_isRA_22, a_isRA_24, a_isRA_32, a_isA_20]
  exact hn _ _ _ _ _ _ hI
theorem lc_draft (hb : b < C) (h : lawI b C c n t K L J R) (hc : 120 * c + 130 ≤ 84000) {i : Int32} (h0 : 0 ≤ i) (h1 : i.toInt + 8 ≤ sL) (h2 : sL ≤ 4096) (hn : ∀ n t K L J R, lawI b C (c + 1) n t K L J R → a_at 700 (lx b sL sx) 1547 [some (.ref b), some (a_rf C), some (a_rf (C + 44)), some (.int i)] [] (n + 1, t, K, L, J, R) P) : a_at 700 (lx b sL sx) 404 [some (.ref b), some (a_rf C), some (a_rf (C + 44)), some (.int i)] [] (n + 1, t, K, L, J, R) P := by
  have hS := h.1.1.s
  have kb := h.2.2.2.2.1
  have o1 : a_ok (i + 1) sL := a_ok8 h0 h1 h2 (by decide)
  have o2 : a_ok (i + 2) sL := a_ok8 h0 h1 h2 (by decide)
  have o3 : a_ok (i + 3) sL := a_ok8 h0 h1 h2 (by decide)
  have o4 : a_ok (i + 4) sL := a_ok8 h0 h1 h2 (by decide)
  have o5 : a_ok (i + 5) sL := a_ok8 h0 h1 h2 (by decide)
  have o6 : a_ok (i + 6) sL := a_ok8 h0 h1 h2 (by decide)
  have o7 : a_ok (i + 7) sL := a_ok8 h0 h1 h2 (by decide)
  simp only [qL_404, qL_405, qL_406, qL_407, qL_408, qL_409, qL_410, qL_411, qL_412, qL_413, qL_414, qL_415, qL_416, qL_417, qL_418, qL_419, qL_420, qL_421, qL_422, qL_423, qL_424, qL_425, as_nil, as_i, as_r, Nat.reduceAdd, Nat.reduceLeDiff, z_eq0, z_eq1, z_or, z_em, Classical.not_not, not_false_eq_true, not_true_eq_false, true_and, and_true, false_and, and_false, and_self, true_implies, false_implies, implies_true, Option.toList_some, Option.toList_none, List.cons_append, List.nil_append, Nat.add_eq_zero_iff, a_nl_i, a_nl_r, a_nl_n, true_or, or_true, eq_self, a_isRA_22, a_isRA_24, a_isRA_32, a_isA_20, kb, o1, o2, o3, o4, o5, o6, o7, k_0 hS, z_C hS]
  refine cd_draft hb h (fun v n2 t2 K2 L2 J2 R2 hx => ?_)
  have kb2 := hx.1.2.2.2.2
  have hm := hx.1.2.1
  simp only [qL_428, qL_429, qL_430, qL_431, qL_432, qL_433, qL_434, qL_435, qL_436, qL_437, qL_438, qL_439, qL_440, qL_441, qL_442, qL_443, qL_444, qL_445, qL_446, qL_447, qL_448, qL_449, qL_450, as_nil, as_i, as_r, Nat.reduceAdd, Nat.reduceLeDiff, z_eq0, z_eq1, z_or, z_em, Classical.not_not, not_false_eq_true, not_true_eq_false, true_and, and_true, false_and, and_false, and_self, true_implies, false_implies, implies_true, Option.toList_some, Option.toList_none, List.cons_append, List.nil_append, Nat.add_eq_zero_iff, a_nl_i, a_nl_r, a_nl_n, true_or, or_true, eq_self, a_isRA_22, a_isRA_24, a_isRA_32, a_isA_20, kb2, o1, o2, o3, o4, o5, o6, o7, m_0 hm, m_K hm]
  refine rd_draft hx hc (fun v2 J3 hI => ?_)
  simp only [qL_453, qL_454, as_nil, as_i, as_r, Nat.reduceAdd, Nat.reduceLeDiff, z_eq0, z_eq1, z_or, z_em, Classical.not_not, not_false_eq_true, not_true_eq_false, true_and, and_true, false_and, and_false, and_self, true_implies, false_implies, implies_true, Option.toList_some, Option.toList_none, List.cons_append, List.nil_append, Nat.add_eq_zero_iff, a_nl_i, a_nl_r, a_nl_n, true_or, or_true, eq_self, a_isRA_22, a_isRA_24, a_isRA_32, a_isA_20]
  exact hn _ _ _ _ _ _ hI
theorem lc_ask (hb : b < C) (h : lawI b C c n t K L J R) (hc : 120 * c + 130 ≤ 84000) {i : Int32} (h0 : 0 ≤ i) (h1 : i.toInt + 8 ≤ sL) (h2 : sL ≤ 4096) (hn : ∀ n t K L J R, lawI b C (c + 1) n t K L J R → a_at 700 (lx b sL sx) 1547 [some (.ref b), some (a_rf C), some (a_rf (C + 44)), some (.int i)] [] (n + 1, t, K, L, J, R) P) : a_at 700 (lx b sL sx) 457 [some (.ref b), some (a_rf C), some (a_rf (C + 44)), some (.int i)] [] (n + 1, t, K, L, J, R) P := by
  have hS := h.1.1.s
  have kb := h.2.2.2.2.1
  have o1 : a_ok (i + 1) sL := a_ok8 h0 h1 h2 (by decide)
  have o2 : a_ok (i + 2) sL := a_ok8 h0 h1 h2 (by decide)
  have o3 : a_ok (i + 3) sL := a_ok8 h0 h1 h2 (by decide)
  have o4 : a_ok (i + 4) sL := a_ok8 h0 h1 h2 (by decide)
  have o5 : a_ok (i + 5) sL := a_ok8 h0 h1 h2 (by decide)
  have o6 : a_ok (i + 6) sL := a_ok8 h0 h1 h2 (by decide)
  have o7 : a_ok (i + 7) sL := a_ok8 h0 h1 h2 (by decide)
  simp only [qL_457, qL_458, qL_459, qL_460, qL_461, qL_462, qL_463, qL_464, qL_465, qL_466, qL_467, qL_468, qL_469, qL_470, qL_471, qL_472, qL_473, qL_474, qL_475, qL_476, qL_477, qL_478, qL_479, qL_480, qL_481, qL_482, qL_483, qL_484, qL_485, qL_487, qL_488, qL_489, qL_490, qL_491, qL_493, qL_494, qL_495, as_nil, as_i, as_r, Nat.reduceAdd, Nat.reduceLeDiff, z_eq0, z_eq1, z_or, z_em, Classical.not_not, not_false_eq_true, not_true_eq_false, true_and, and_true, false_and, and_false, and_self, true_implies, false_implies, implies_true, Option.toList_some, Option.toList_none, List.cons_append, List.nil_append, Nat.add_eq_zero_iff, a_nl_i, a_nl_r, a_nl_n, true_or, or_true, eq_self, a_isRA_22, a_isRA_24, a_isRA_32, a_isA_20, kb, o1, o2, o3, o4, o5, o6, o7, k_0 hS, z_C hS]
  refine cd_ask hb h (fun n2 t2 K2 L2 J2 R2 hx => ?_)
  have kb2 := hx.1.2.2.2.2
  have hm := hx.1.2.1
  simp only [qL_498, qL_499, qL_500, qL_501, qL_502, qL_503, qL_504, qL_505, qL_506, qL_507, qL_508, qL_509, qL_510, qL_511, qL_512, qL_513, qL_514, qL_515, qL_516, qL_517, qL_518, qL_519, qL_520, qL_521, qL_522, qL_523, qL_524, qL_525, qL_526, qL_527, qL_529, qL_530, qL_531, qL_532, qL_533, qL_535, qL_536, qL_537, as_nil, as_i, as_r, Nat.reduceAdd, Nat.reduceLeDiff, z_eq0, z_eq1, z_or, z_em, Classical.not_not, not_false_eq_true, not_true_eq_false, true_and, and_true, false_and, and_false, and_self, true_implies, false_implies, implies_true, Option.toList_some, Option.toList_none, List.cons_append, List.nil_append, Nat.add_eq_zero_iff, a_nl_i, a_nl_r, a_nl_n, true_or, or_true, eq_self, a_isRA_22, a_isRA_24, a_isRA_32, a_isA_20, kb2, o1, o2, o3, o4, o5, o6, o7, m_0 hm, m_K hm]
  refine rd_ask hx hc (fun J3 hI => ?_)
  simp only [qL_540, qL_541, as_nil, as_i, as_r, Nat.reduceAdd, Nat.reduceLeDiff, z_eq0, z_eq1, z_or, z_em, Classical.not_not, not_false_eq_true, not_true_eq_false, true_and, and_true, false_and, and_false, and_self, true_implies, false_implies, implies_true, Option.toList_some, Option.toList_none, List.cons_append, List.nil_append, Nat.add_eq_zero_iff, a_nl_i, a_nl_r, a_nl_n, true_or, or_true, eq_self, a_isRA_22, a_isRA_24, a_isRA_32, a_isA_20]
  exact hn _ _ _ _ _ _ hI
theorem lc_withdraw (hb : b < C) (h : lawI b C c n t K L J R) (hc : 120 * c + 130 ≤ 84000) {i : Int32} (h0 : 0 ≤ i) (h1 : i.toInt + 8 ≤ sL) (h2 : sL ≤ 4096) (hn : ∀ n t K L J R, lawI b C (c + 1) n t K L J R → a_at 700 (lx b sL sx) 1547 [some (.ref b), some (a_rf C), some (a_rf (C + 44)), some (.int i)] [] (n + 1, t, K, L, J, R) P) : a_at 700 (lx b sL sx) 544 [some (.ref b), some (a_rf C), some (a_rf (C + 44)), some (.int i)] [] (n + 1, t, K, L, J, R) P := by
  have hS := h.1.1.s
  have kb := h.2.2.2.2.1
  have o1 : a_ok (i + 1) sL := a_ok8 h0 h1 h2 (by decide)
  have o2 : a_ok (i + 2) sL := a_ok8 h0 h1 h2 (by decide)
  have o3 : a_ok (i + 3) sL := a_ok8 h0 h1 h2 (by decide)
  have o4 : a_ok (i + 4) sL := a_ok8 h0 h1 h2 (by decide)
  have o5 : a_ok (i + 5) sL := a_ok8 h0 h1 h2 (by decide)
  have o6 : a_ok (i + 6) sL := a_ok8 h0 h1 h2 (by decide)
  have o7 : a_ok (i + 7) sL := a_ok8 h0 h1 h2 (by decide)
  simp only [qL_544, qL_545, qL_546, qL_547, qL_548, qL_549, qL_550, as_nil, as_i, as_r, Nat.reduceAdd, Nat.reduceLeDiff, z_eq0, z_eq1, z_or, z_em, Classical.not_not, not_false_eq_true, not_true_eq_false, true_and, and_true, false_and, and_false, and_self, true_implies, false_implies, implies_true, Option.toList_some, Option.toList_none, List.cons_append, List.nil_append, Nat.add_eq_zero_iff, a_nl_i, a_nl_r, a_nl_n, true_or, or_true, eq_self, a_isRA_22, a_isRA_24, a_isRA_32, a_isA_20, kb, o1, o2, o3, o4, o5, o6, o7, k_0 hS, z_C hS]
  refine cd_withdraw hb h (fun n2 t2 K2 L2 J2 R2 hx => ?_)
  have kb2 := hx.1.2.2.2.2
  have hm := hx.1.2.1
  simp only [qL_553, qL_554, qL_555, qL_556, qL_557, qL_558, qL_559, qL_560, as_nil, as_i, as_r, Nat.reduceAdd, Nat.reduceLeDiff, z_eq0, z_eq1, z_or, z_em, Classical.not_not, not_false_eq_true, not_true_eq_false, true_and, and_true, false_and, and_false, and_self, true_implies, false_implies, implies_true, Option.toList_some, Option.toList_none, List.cons_append, List.nil_append, Nat.add_eq_zero_iff, a_nl_i, a_nl_r, a_nl_n, true_or, or_true, eq_self, a_isRA_22, a_isRA_24, a_isRA_32, a_isA_20, kb2, o1, o2, o3, o4, o5, o6, o7, m_0 hm, m_K hm]
  refine rd_withdraw hx hc (fun J3 hI => ?_)
  simp only [qL_563, qL_564, as_nil, as_i, as_r, Nat.reduceAdd, Nat.reduceLeDiff, z_eq0, z_eq1, z_or, z_em, Classical.not_not, not_false_eq_true, not_true_eq_false, true_and, and_true, false_and, and_false, and_self, true_implies, false_implies, implies_true, Option.toList_some, Option.toList_none, List.cons_append, List.nil_append, Nat.add_eq_zero_iff, a_nl_i, a_nl_r, a_nl_n, true_or, or_true, eq_self, a_isRA_22, a_isRA_24, a_isRA_32, a_isA_20]
  exact hn _ _ _ _ _ _ hI
theorem lc_askOf (hb : b < C) (h : lawI b C c n t K L J R) (hc : 120 * c + 130 ≤ 84000) {i : Int32} (h0 : 0 ≤ i) (h1 : i.toInt + 8 ≤ sL) (h2 : sL ≤ 4096) (hn : ∀ n t K L J R, lawI b C (c + 1) n t K L J R → a_at 700 (lx b sL sx) 1547 [some (.ref b), some (a_rf C), some (a_rf (C + 44)), some (.int i)] [] (n + 1, t, K, L, J, R) P) : a_at 700 (lx b sL sx) 567 [some (.ref b), some (a_rf C), some (a_rf (C + 44)), some (.int i)] [] (n + 1, t, K, L, J, R) P := by
  have hS := h.1.1.s
  have kb := h.2.2.2.2.1
  have o1 : a_ok (i + 1) sL := a_ok8 h0 h1 h2 (by decide)
  have o2 : a_ok (i + 2) sL := a_ok8 h0 h1 h2 (by decide)
  have o3 : a_ok (i + 3) sL := a_ok8 h0 h1 h2 (by decide)
  have o4 : a_ok (i + 4) sL := a_ok8 h0 h1 h2 (by decide)
  have o5 : a_ok (i + 5) sL := a_ok8 h0 h1 h2 (by decide)
  have o6 : a_ok (i + 6) sL := a_ok8 h0 h1 h2 (by decide)
  have o7 : a_ok (i + 7) sL := a_ok8 h0 h1 h2 (by decide)
  simp only [qL_567, qL_568, qL_569, qL_570, qL_571, qL_572, qL_573, qL_574, qL_575, qL_576, qL_577, qL_578, as_nil, as_i, as_r, Nat.reduceAdd, Nat.reduceLeDiff, z_eq0, z_eq1, z_or, z_em, Classical.not_not, not_false_eq_true, not_true_eq_false, true_and, and_true, false_and, and_false, and_self, true_implies, false_implies, implies_true, Option.toList_some, Option.toList_none, List.cons_append, List.nil_append, Nat.add_eq_zero_iff, a_nl_i, a_nl_r, a_nl_n, true_or, or_true, eq_self, a_isRA_22, a_isRA_24, a_isRA_32, a_isA_20, kb, o1, o2, o3, o4, o5, o6, o7, k_0 hS, z_C hS]
  refine cd_askOf hb h (fun v n2 t2 K2 L2 J2 R2 hx => ?_)
  have kb2 := hx.1.2.2.2.2
  have hm := hx.1.2.1
  simp only [qL_581, qL_582, qL_583, qL_584, qL_585, qL_586, qL_587, qL_588, qL_589, qL_590, qL_591, qL_592, qL_593, as_nil, as_i, as_r, Nat.reduceAdd, Nat.reduceLeDiff, z_eq0, z_eq1, z_or, z_em, Classical.not_not, not_false_eq_true, not_true_eq_false, true_and, and_true, false_and, and_false, and_self, true_implies, false_implies, implies_true, Option.toList_some, Option.toList_none, List.cons_append, List.nil_append, Nat.add_eq_zero_iff, a_nl_i, a_nl_r, a_nl_n, true_or, or_true, eq_self, a_isRA_22, a_isRA_24, a_isRA_32, a_isA_20, kb2, o1, o2, o3, o4, o5, o6, o7, m_0 hm, m_K hm]
  refine rd_askOf hx hc (fun v2 J3 hI => ?_)
  simp only [qL_596, qL_597, as_nil, as_i, as_r, Nat.reduceAdd, Nat.reduceLeDiff, z_eq0, z_eq1, z_or, z_em, Classical.not_not, not_false_eq_true, not_true_eq_false, true_and, and_true, false_and, and_false, and_self, true_implies, false_implies, implies_true, Option.toList_some, Option.toList_none, List.cons_append, List.nil_append, Nat.add_eq_zero_iff, a_nl_i, a_nl_r, a_nl_n, true_or, or_true, eq_self, a_isRA_22, a_isRA_24, a_isRA_32, a_isA_20]
  exact hn _ _ _ _ _ _ hI
theorem lc_feed (hb : b < C) (h : lawI b C c n t K L J R) (hc : 120 * c + 130 ≤ 84000) {i : Int32} (h0 : 0 ≤ i) (h1 : i.toInt + 8 ≤ sL) (h2 : sL ≤ 4096) (hn : ∀ n t K L J R, lawI b C (c + 1) n t K L J R → a_at 700 (lx b sL sx) 1547 [some (.ref b), some (a_rf C), some (a_rf (C + 44)), some (.int i)] [] (n + 1, t, K, L, J, R) P) : a_at 700 (lx b sL sx) 600 [some (.ref b), some (a_rf C), some (a_rf (C + 44)), some (.int i)] [] (n + 1, t, K, L, J, R) P := by
  have hS := h.1.1.s
  have kb := h.2.2.2.2.1
  have o1 : a_ok (i + 1) sL := a_ok8 h0 h1 h2 (by decide)
  have o2 : a_ok (i + 2) sL := a_ok8 h0 h1 h2 (by decide)
  have o3 : a_ok (i + 3) sL := a_ok8 h0 h1 h2 (by decide)
  have o4 : a_ok (i + 4) sL := a_ok8 h0 h1 h2 (by decide)
  have o5 : a_ok (i + 5) sL := a_ok8 h0 h1 h2 (by decide)
  have o6 : a_ok (i + 6) sL := a_ok8 h0 h1 h2 (by decide)
  have o7 : a_ok (i + 7) sL := a_ok8 h0 h1 h2 (by decide)
  simp only [qL_600, qL_601, qL_602, qL_603, qL_604, qL_605, qL_606, qL_607, qL_608, qL_609, qL_610, qL_611, qL_612, qL_614, qL_615, qL_616, qL_617, qL_618, qL_619, qL_620, qL_621, qL_624, qL_625, qL_626, as_nil, as_i, as_r, Nat.reduceAdd, Nat.reduceLeDiff, z_eq0, z_eq1, z_or, z_em, Classical.not_not, not_false_eq_true, not_true_eq_false, true_and, and_true, false_and, and_false, and_self, true_implies, false_implies, implies_true, Option.toList_some, Option.toList_none, List.cons_append, List.nil_append, Nat.add_eq_zero_iff, a_nl_i, a_nl_r, a_nl_n, true_or, or_true, eq_self, a_isRA_22, a_isRA_24, a_isRA_32, a_isA_20, kb, o1, o2, o3, o4, o5, o6, o7, k_0 hS, z_C hS]
  refine cd_feed hb h (fun v n2 t2 K2 L2 J2 R2 hx => ?_)
  have kb2 := hx.1.2.2.2.2
  have hm := hx.1.2.1
  simp only [qL_629, qL_630, qL_631, qL_632, qL_633, qL_634, qL_635, qL_636, qL_637, qL_638, qL_639, qL_640, qL_641, qL_642, qL_644, qL_645, qL_646, qL_647, qL_648, qL_649, qL_650, qL_651, qL_654, qL_655, qL_656, as_nil, as_i, as_r, Nat.reduceAdd, Nat.reduceLeDiff, z_eq0, z_eq1, z_or, z_em, Classical.not_not, not_false_eq_true, not_true_eq_false, true_and, and_true, false_and, and_false, and_self, true_implies, false_implies, implies_true, Option.toList_some, Option.toList_none, List.cons_append, List.nil_append, Nat.add_eq_zero_iff, a_nl_i, a_nl_r, a_nl_n, true_or, or_true, eq_self, a_isRA_22, a_isRA_24, a_isRA_32, a_isA_20, kb2, o1, o2, o3, o4, o5, o6, o7, m_0 hm, m_K hm]
  refine rd_feed hx hc (fun v2 J3 hI => ?_)
  simp only [qL_659, qL_660, as_nil, as_i, as_r, Nat.reduceAdd, Nat.reduceLeDiff, z_eq0, z_eq1, z_or, z_em, Classical.not_not, not_false_eq_true, not_true_eq_false, true_and, and_true, false_and, and_false, and_self, true_implies, false_implies, implies_true, Option.toList_some, Option.toList_none, List.cons_append, List.nil_append, Nat.add_eq_zero_iff, a_nl_i, a_nl_r, a_nl_n, true_or, or_true, eq_self, a_isRA_22, a_isRA_24, a_isRA_32, a_isA_20]
  exact hn _ _ _ _ _ _ hI
theorem lc_text (hb : b < C) (h : lawI b C c n t K L J R) (hc : 120 * c + 130 ≤ 84000) {i : Int32} (h0 : 0 ≤ i) (h1 : i.toInt + 8 ≤ sL) (h2 : sL ≤ 4096) (hn : ∀ n t K L J R, lawI b C (c + 1) n t K L J R → a_at 700 (lx b sL sx) 1547 [some (.ref b), some (a_rf C), some (a_rf (C + 44)), some (.int i)] [] (n + 1, t, K, L, J, R) P) : a_at 700 (lx b sL sx) 663 [some (.ref b), some (a_rf C), some (a_rf (C + 44)), some (.int i)] [] (n + 1, t, K, L, J, R) P := by
  have hS := h.1.1.s
  have kb := h.2.2.2.2.1
  have o1 : a_ok (i + 1) sL := a_ok8 h0 h1 h2 (by decide)
  have o2 : a_ok (i + 2) sL := a_ok8 h0 h1 h2 (by decide)
  have o3 : a_ok (i + 3) sL := a_ok8 h0 h1 h2 (by decide)
  have o4 : a_ok (i + 4) sL := a_ok8 h0 h1 h2 (by decide)
  have o5 : a_ok (i + 5) sL := a_ok8 h0 h1 h2 (by decide)
  have o6 : a_ok (i + 6) sL := a_ok8 h0 h1 h2 (by decide)
  have o7 : a_ok (i + 7) sL := a_ok8 h0 h1 h2 (by decide)
  simp only [qL_663, qL_664, qL_665, qL_666, qL_667, qL_668, qL_669, as_nil, as_i, as_r, Nat.reduceAdd, Nat.reduceLeDiff, z_eq0, z_eq1, z_or, z_em, Classical.not_not, not_false_eq_true, not_true_eq_false, true_and, and_true, false_and, and_false, and_self, true_implies, false_implies, implies_true, Option.toList_some, Option.toList_none, List.cons_append, List.nil_append, Nat.add_eq_zero_iff, a_nl_i, a_nl_r, a_nl_n, true_or, or_true, eq_self, a_isRA_22, a_isRA_24, a_isRA_32, a_isA_20, kb, o1, o2, o3, o4, o5, o6, o7, k_0 hS, z_C hS]
  refine cd_text hb h (fun v n2 t2 K2 L2 J2 R2 hx => ?_)
  have kb2 := hx.1.2.2.2.2
  have hm := hx.1.2.1
  simp only [qL_672, qL_673, qL_674, qL_675, qL_676, qL_677, qL_678, qL_679, as_nil, as_i, as_r, Nat.reduceAdd, Nat.reduceLeDiff, z_eq0, z_eq1, z_or, z_em, Classical.not_not, not_false_eq_true, not_true_eq_false, true_and, and_true, false_and, and_false, and_self, true_implies, false_implies, implies_true, Option.toList_some, Option.toList_none, List.cons_append, List.nil_append, Nat.add_eq_zero_iff, a_nl_i, a_nl_r, a_nl_n, true_or, or_true, eq_self, a_isRA_22, a_isRA_24, a_isRA_32, a_isA_20, kb2, o1, o2, o3, o4, o5, o6, o7, m_0 hm, m_K hm]
  refine rd_text hx hc (fun v2 J3 hI => ?_)
  simp only [qL_682, qL_683, as_nil, as_i, as_r, Nat.reduceAdd, Nat.reduceLeDiff, z_eq0, z_eq1, z_or, z_em, Classical.not_not, not_false_eq_true, not_true_eq_false, true_and, and_true, false_and, and_false, and_self, true_implies, false_implies, implies_true, Option.toList_some, Option.toList_none, List.cons_append, List.nil_append, Nat.add_eq_zero_iff, a_nl_i, a_nl_r, a_nl_n, true_or, or_true, eq_self, a_isRA_22, a_isRA_24, a_isRA_32, a_isA_20]
  exact hn _ _ _ _ _ _ hI
theorem lc_strike (hb : b < C) (h : lawI b C c n t K L J R) (hc : 120 * c + 130 ≤ 84000) {i : Int32} (h0 : 0 ≤ i) (h1 : i.toInt + 8 ≤ sL) (h2 : sL ≤ 4096) (hn : ∀ n t K L J R, lawI b C (c + 1) n t K L J R → a_at 700 (lx b sL sx) 1547 [some (.ref b), some (a_rf C), some (a_rf (C + 44)), some (.int i)] [] (n + 1, t, K, L, J, R) P) : a_at 700 (lx b sL sx) 686 [some (.ref b), some (a_rf C), some (a_rf (C + 44)), some (.int i)] [] (n + 1, t, K, L, J, R) P := by
  have hS := h.1.1.s
  have kb := h.2.2.2.2.1
  have o1 : a_ok (i + 1) sL := a_ok8 h0 h1 h2 (by decide)
  have o2 : a_ok (i + 2) sL := a_ok8 h0 h1 h2 (by decide)
  have o3 : a_ok (i + 3) sL := a_ok8 h0 h1 h2 (by decide)
  have o4 : a_ok (i + 4) sL := a_ok8 h0 h1 h2 (by decide)
  have o5 : a_ok (i + 5) sL := a_ok8 h0 h1 h2 (by decide)
  have o6 : a_ok (i + 6) sL := a_ok8 h0 h1 h2 (by decide)
  have o7 : a_ok (i + 7) sL := a_ok8 h0 h1 h2 (by decide)
  simp only [qL_686, qL_687, qL_688, qL_689, qL_690, qL_691, qL_692, qL_693, qL_694, qL_695, qL_696, qL_697, as_nil, as_i, as_r, Nat.reduceAdd, Nat.reduceLeDiff, z_eq0, z_eq1, z_or, z_em, Classical.not_not, not_false_eq_true, not_true_eq_false, true_and, and_true, false_and, and_false, and_self, true_implies, false_implies, implies_true, Option.toList_some, Option.toList_none, List.cons_append, List.nil_append, Nat.add_eq_zero_iff, a_nl_i, a_nl_r, a_nl_n, true_or, or_true, eq_self, a_isRA_22, a_isRA_24, a_isRA_32, a_isA_20, kb, o1, o2, o3, o4, o5, o6, o7, k_0 hS, z_C hS]
  refine cd_strike hb h (fun n2 t2 K2 L2 J2 R2 hx => ?_)
  have kb2 := hx.1.2.2.2.2
  have hm := hx.1.2.1
  simp only [qL_700, qL_701, qL_702, qL_703, qL_704, qL_705, qL_706, qL_707, qL_708, qL_709, qL_710, qL_711, qL_712, as_nil, as_i, as_r, Nat.reduceAdd, Nat.reduceLeDiff, z_eq0, z_eq1, z_or, z_em, Classical.not_not, not_false_eq_true, not_true_eq_false, true_and, and_true, false_and, and_false, and_self, true_implies, false_implies, implies_true, Option.toList_some, Option.toList_none, List.cons_append, List.nil_append, Nat.add_eq_zero_iff, a_nl_i, a_nl_r, a_nl_n, true_or, or_true, eq_self, a_isRA_22, a_isRA_24, a_isRA_32, a_isA_20, kb2, o1, o2, o3, o4, o5, o6, o7, m_0 hm, m_K hm]
  refine rd_strike hx hc (fun J3 hI => ?_)
  simp only [qL_715, qL_716, as_nil, as_i, as_r, Nat.reduceAdd, Nat.reduceLeDiff, z_eq0, z_eq1, z_or, z_em, Classical.not_not, not_false_eq_true, not_true_eq_false, true_and, and_true, false_and, and_false, and_self, true_implies, false_implies, implies_true, Option.toList_some, Option.toList_none, List.cons_append, List.nil_append, Nat.add_eq_zero_iff, a_nl_i, a_nl_r, a_nl_n, true_or, or_true, eq_self, a_isRA_22, a_isRA_24, a_isRA_32, a_isA_20]
  exact hn _ _ _ _ _ _ hI
theorem lc_barred (hb : b < C) (h : lawI b C c n t K L J R) (hc : 120 * c + 130 ≤ 84000) {i : Int32} (h0 : 0 ≤ i) (h1 : i.toInt + 8 ≤ sL) (h2 : sL ≤ 4096) (hn : ∀ n t K L J R, lawI b C (c + 1) n t K L J R → a_at 700 (lx b sL sx) 1547 [some (.ref b), some (a_rf C), some (a_rf (C + 44)), some (.int i)] [] (n + 1, t, K, L, J, R) P) : a_at 700 (lx b sL sx) 719 [some (.ref b), some (a_rf C), some (a_rf (C + 44)), some (.int i)] [] (n + 1, t, K, L, J, R) P := by
  have hS := h.1.1.s
  have kb := h.2.2.2.2.1
  have o1 : a_ok (i + 1) sL := a_ok8 h0 h1 h2 (by decide)
  have o2 : a_ok (i + 2) sL := a_ok8 h0 h1 h2 (by decide)
  have o3 : a_ok (i + 3) sL := a_ok8 h0 h1 h2 (by decide)
  have o4 : a_ok (i + 4) sL := a_ok8 h0 h1 h2 (by decide)
  have o5 : a_ok (i + 5) sL := a_ok8 h0 h1 h2 (by decide)
  have o6 : a_ok (i + 6) sL := a_ok8 h0 h1 h2 (by decide)
  have o7 : a_ok (i + 7) sL := a_ok8 h0 h1 h2 (by decide)
  simp only [qL_719, qL_720, qL_721, qL_722, qL_723, qL_724, qL_725, qL_726, qL_727, qL_728, qL_729, qL_730, qL_731, qL_732, qL_733, qL_734, qL_735, qL_736, qL_737, qL_738, qL_739, qL_740, as_nil, as_i, as_r, Nat.reduceAdd, Nat.reduceLeDiff, z_eq0, z_eq1, z_or, z_em, Classical.not_not, not_false_eq_true, not_true_eq_false, true_and, and_true, false_and, and_false, and_self, true_implies, false_implies, implies_true, Option.toList_some, Option.toList_none, List.cons_append, List.nil_append, Nat.add_eq_zero_iff, a_nl_i, a_nl_r, a_nl_n, true_or, or_true, eq_self, a_isRA_22, a_isRA_24, a_isRA_32, a_isA_20, kb, o1, o2, o3, o4, o5, o6, o7, k_0 hS, z_C hS]
  refine cd_barred hb h (fun v n2 t2 K2 L2 J2 R2 hx => ?_)
  have kb2 := hx.1.2.2.2.2
  have hm := hx.1.2.1
  simp only [qL_743, qL_744, qL_745, qL_746, qL_747, qL_748, qL_749, qL_750, qL_751, qL_752, qL_753, qL_754, qL_755, qL_756, qL_757, qL_758, qL_759, qL_760, qL_761, qL_762, qL_763, qL_764, qL_765, as_nil, as_i, as_r, Nat.reduceAdd, Nat.reduceLeDiff, z_eq0, z_eq1, z_or, z_em, Classical.not_not, not_false_eq_true, not_true_eq_false, true_and, and_true, false_and, and_false, and_self, true_implies, false_implies, implies_true, Option.toList_some, Option.toList_none, List.cons_append, List.nil_append, Nat.add_eq_zero_iff, a_nl_i, a_nl_r, a_nl_n, true_or, or_true, eq_self, a_isRA_22, a_isRA_24, a_isRA_32, a_isA_20, kb2, o1, o2, o3, o4, o5, o6, o7, m_0 hm, m_K hm]
  refine rd_barred hx hc (fun v2 J3 hI => ?_)
  simp only [qL_768, qL_769, as_nil, as_i, as_r, Nat.reduceAdd, Nat.reduceLeDiff, z_eq0, z_eq1, z_or, z_em, Classical.not_not, not_false_eq_true, not_true_eq_false, true_and, and_true, false_and, and_false, and_self, true_implies, false_implies, implies_true, Option.toList_some, Option.toList_none, List.cons_append, List.nil_append, Nat.add_eq_zero_iff, a_nl_i, a_nl_r, a_nl_n, true_or, or_true, eq_self, a_isRA_22, a_isRA_24, a_isRA_32, a_isA_20]
  exact hn _ _ _ _ _ _ hI
theorem lc_kin (hb : b < C) (h : lawI b C c n t K L J R) (hc : 120 * c + 130 ≤ 84000) {i : Int32} (h0 : 0 ≤ i) (h1 : i.toInt + 8 ≤ sL) (h2 : sL ≤ 4096) (hn : ∀ n t K L J R, lawI b C (c + 1) n t K L J R → a_at 700 (lx b sL sx) 1547 [some (.ref b), some (a_rf C), some (a_rf (C + 44)), some (.int i)] [] (n + 1, t, K, L, J, R) P) : a_at 700 (lx b sL sx) 772 [some (.ref b), some (a_rf C), some (a_rf (C + 44)), some (.int i)] [] (n + 1, t, K, L, J, R) P := by
  have hS := h.1.1.s
  have kb := h.2.2.2.2.1
  have o1 : a_ok (i + 1) sL := a_ok8 h0 h1 h2 (by decide)
  have o2 : a_ok (i + 2) sL := a_ok8 h0 h1 h2 (by decide)
  have o3 : a_ok (i + 3) sL := a_ok8 h0 h1 h2 (by decide)
  have o4 : a_ok (i + 4) sL := a_ok8 h0 h1 h2 (by decide)
  have o5 : a_ok (i + 5) sL := a_ok8 h0 h1 h2 (by decide)
  have o6 : a_ok (i + 6) sL := a_ok8 h0 h1 h2 (by decide)
  have o7 : a_ok (i + 7) sL := a_ok8 h0 h1 h2 (by decide)
  simp only [qL_772, qL_773, qL_774, qL_775, qL_776, qL_777, qL_778, qL_779, qL_780, qL_781, qL_782, qL_783, as_nil, as_i, as_r, Nat.reduceAdd, Nat.reduceLeDiff, z_eq0, z_eq1, z_or, z_em, Classical.not_not, not_false_eq_true, not_true_eq_false, true_and, and_true, false_and, and_false, and_self, true_implies, false_implies, implies_true, Option.toList_some, Option.toList_none, List.cons_append, List.nil_append, Nat.add_eq_zero_iff, a_nl_i, a_nl_r, a_nl_n, true_or, or_true, eq_self, a_isRA_22, a_isRA_24, a_isRA_32, a_isA_20, kb, o1, o2, o3, o4, o5, o6, o7, k_0 hS, z_C hS]
  refine cd_kin hb h (fun v n2 t2 K2 L2 J2 R2 hx => ?_)
  have kb2 := hx.1.2.2.2.2
  have hm := hx.1.2.1
  simp only [qL_786, qL_787, qL_788, qL_789, qL_790, qL_791, qL_792, qL_793, qL_794, qL_795, qL_796, qL_797, qL_798, as_nil, as_i, as_r, Nat.reduceAdd, Nat.reduceLeDiff, z_eq0, z_eq1, z_or, z_em, Classical.not_not, not_false_eq_true, not_true_eq_false, true_and, and_true, false_and, and_false, and_self, true_implies, false_implies, implies_true, Option.toList_some, Option.toList_none, List.cons_append, List.nil_append, Nat.add_eq_zero_iff, a_nl_i, a_nl_r, a_nl_n, true_or, or_true, eq_self, a_isRA_22, a_isRA_24, a_isRA_32, a_isA_20, kb2, o1, o2, o3, o4, o5, o6, o7, m_0 hm, m_K hm]
  refine rd_kin hx hc (fun v2 J3 hI => ?_)
  simp only [qL_801, qL_802, as_nil, as_i, as_r, Nat.reduceAdd, Nat.reduceLeDiff, z_eq0, z_eq1, z_or, z_em, Classical.not_not, not_false_eq_true, not_true_eq_false, true_and, and_true, false_and, and_false, and_self, true_implies, false_implies, implies_true, Option.toList_some, Option.toList_none, List.cons_append, List.nil_append, Nat.add_eq_zero_iff, a_nl_i, a_nl_r, a_nl_n, true_or, or_true, eq_self, a_isRA_22, a_isRA_24, a_isRA_32, a_isA_20]
  exact hn _ _ _ _ _ _ hI
theorem lc_mark (hb : b < C) (h : lawI b C c n t K L J R) (hc : 120 * c + 130 ≤ 84000) {i : Int32} (h0 : 0 ≤ i) (h1 : i.toInt + 8 ≤ sL) (h2 : sL ≤ 4096) (hn : ∀ n t K L J R, lawI b C (c + 1) n t K L J R → a_at 700 (lx b sL sx) 1547 [some (.ref b), some (a_rf C), some (a_rf (C + 44)), some (.int i)] [] (n + 1, t, K, L, J, R) P) : a_at 700 (lx b sL sx) 805 [some (.ref b), some (a_rf C), some (a_rf (C + 44)), some (.int i)] [] (n + 1, t, K, L, J, R) P := by
  have hS := h.1.1.s
  have kb := h.2.2.2.2.1
  have o1 : a_ok (i + 1) sL := a_ok8 h0 h1 h2 (by decide)
  have o2 : a_ok (i + 2) sL := a_ok8 h0 h1 h2 (by decide)
  have o3 : a_ok (i + 3) sL := a_ok8 h0 h1 h2 (by decide)
  have o4 : a_ok (i + 4) sL := a_ok8 h0 h1 h2 (by decide)
  have o5 : a_ok (i + 5) sL := a_ok8 h0 h1 h2 (by decide)
  have o6 : a_ok (i + 6) sL := a_ok8 h0 h1 h2 (by decide)
  have o7 : a_ok (i + 7) sL := a_ok8 h0 h1 h2 (by decide)
  simp only [qL_805, qL_806, qL_807, qL_808, qL_809, qL_810, qL_811, qL_812, qL_813, qL_814, qL_815, qL_816, qL_817, qL_818, qL_819, qL_820, qL_821, as_nil, as_i, as_r, Nat.reduceAdd, Nat.reduceLeDiff, z_eq0, z_eq1, z_or, z_em, Classical.not_not, not_false_eq_true, not_true_eq_false, true_and, and_true, false_and, and_false, and_self, true_implies, false_implies, implies_true, Option.toList_some, Option.toList_none, List.cons_append, List.nil_append, Nat.add_eq_zero_iff, a_nl_i, a_nl_r, a_nl_n, true_or, or_true, eq_self, a_isRA_22, a_isRA_24, a_isRA_32, a_isA_20, kb, o1, o2, o3, o4, o5, o6, o7, k_0 hS, z_C hS]
  refine cd_mark hb h (fun n2 t2 K2 L2 J2 R2 hx => ?_)
  have kb2 := hx.1.2.2.2.2
  have hm := hx.1.2.1
  simp only [qL_824, qL_825, qL_826, qL_827, qL_828, qL_829, qL_830, qL_831, qL_832, qL_833, qL_834, qL_835, qL_836, qL_837, qL_838, qL_839, qL_840, qL_841, as_nil, as_i, as_r, Nat.reduceAdd, Nat.reduceLeDiff, z_eq0, z_eq1, z_or, z_em, Classical.not_not, not_false_eq_true, not_true_eq_false, true_and, and_true, false_and, and_false, and_self, true_implies, false_implies, implies_true, Option.toList_some, Option.toList_none, List.cons_append, List.nil_append, Nat.add_eq_zero_iff, a_nl_i, a_nl_r, a_nl_n, true_or, or_true, eq_self, a_isRA_22, a_isRA_24, a_isRA_32, a_isA_20, kb2, o1, o2, o3, o4, o5, o6, o7, m_0 hm, m_K hm]
  refine rd_mark hx hc (fun J3 hI => ?_)
  simp only [qL_844, qL_845, as_nil, as_i, as_r, Nat.reduceAdd, Nat.reduceLeDiff, z_eq0, z_eq1, z_or, z_em, Classical.not_not, not_false_eq_true, not_true_eq_false, true_and, and_true, false_and, and_false, and_self, true_implies, false_implies, implies_true, Option.toList_some, Option.toList_none, List.cons_append, List.nil_append, Nat.add_eq_zero_iff, a_nl_i, a_nl_r, a_nl_n, true_or, or_true, eq_self, a_isRA_22, a_isRA_24, a_isRA_32, a_isA_20]
  exact hn _ _ _ _ _ _ hI
theorem lc_markOf (hb : b < C) (h : lawI b C c n t K L J R) (hc : 120 * c + 130 ≤ 84000) {i : Int32} (h0 : 0 ≤ i) (h1 : i.toInt + 8 ≤ sL) (h2 : sL ≤ 4096) (hn : ∀ n t K L J R, lawI b C (c + 1) n t K L J R → a_at 700 (lx b sL sx) 1547 [some (.ref b), some (a_rf C), some (a_rf (C + 44)), some (.int i)] [] (n + 1, t, K, L, J, R) P) : a_at 700 (lx b sL sx) 848 [some (.ref b), some (a_rf C), some (a_rf (C + 44)), some (.int i)] [] (n + 1, t, K, L, J, R) P := by
  have hS := h.1.1.s
  have kb := h.2.2.2.2.1
  have o1 : a_ok (i + 1) sL := a_ok8 h0 h1 h2 (by decide)
  have o2 : a_ok (i + 2) sL := a_ok8 h0 h1 h2 (by decide)
  have o3 : a_ok (i + 3) sL := a_ok8 h0 h1 h2 (by decide)
  have o4 : a_ok (i + 4) sL := a_ok8 h0 h1 h2 (by decide)
  have o5 : a_ok (i + 5) sL := a_ok8 h0 h1 h2 (by decide)
  have o6 : a_ok (i + 6) sL := a_ok8 h0 h1 h2 (by decide)
  have o7 : a_ok (i + 7) sL := a_ok8 h0 h1 h2 (by decide)
  simp only [qL_848, qL_849, qL_850, qL_851, qL_852, qL_853, qL_854, as_nil, as_i, as_r, Nat.reduceAdd, Nat.reduceLeDiff, z_eq0, z_eq1, z_or, z_em, Classical.not_not, not_false_eq_true, not_true_eq_false, true_and, and_true, false_and, and_false, and_self, true_implies, false_implies, implies_true, Option.toList_some, Option.toList_none, List.cons_append, List.nil_append, Nat.add_eq_zero_iff, a_nl_i, a_nl_r, a_nl_n, true_or, or_true, eq_self, a_isRA_22, a_isRA_24, a_isRA_32, a_isA_20, kb, o1, o2, o3, o4, o5, o6, o7, k_0 hS, z_C hS]
  refine cd_markOf hb h (fun n2 t2 K2 L2 J2 R2 hx => ?_)
  have kb2 := hx.1.2.2.2.2
  have hm := hx.1.2.1
  simp only [qL_857, qL_858, qL_859, qL_860, qL_861, qL_862, qL_863, qL_864, as_nil, as_i, as_r, Nat.reduceAdd, Nat.reduceLeDiff, z_eq0, z_eq1, z_or, z_em, Classical.not_not, not_false_eq_true, not_true_eq_false, true_and, and_true, false_and, and_false, and_self, true_implies, false_implies, implies_true, Option.toList_some, Option.toList_none, List.cons_append, List.nil_append, Nat.add_eq_zero_iff, a_nl_i, a_nl_r, a_nl_n, true_or, or_true, eq_self, a_isRA_22, a_isRA_24, a_isRA_32, a_isA_20, kb2, o1, o2, o3, o4, o5, o6, o7, m_0 hm, m_K hm]
  refine rd_markOf hx hc (fun J3 hI => ?_)
  simp only [qL_867, qL_868, as_nil, as_i, as_r, Nat.reduceAdd, Nat.reduceLeDiff, z_eq0, z_eq1, z_or, z_em, Classical.not_not, not_false_eq_true, not_true_eq_false, true_and, and_true, false_and, and_false, and_self, true_implies, false_implies, implies_true, Option.toList_some, Option.toList_none, List.cons_append, List.nil_append, Nat.add_eq_zero_iff, a_nl_i, a_nl_r, a_nl_n, true_or, or_true, eq_self, a_isRA_22, a_isRA_24, a_isRA_32, a_isA_20]
  exact hn _ _ _ _ _ _ hI
theorem lc_habit (hb : b < C) (h : lawI b C c n t K L J R) (hc : 120 * c + 130 ≤ 84000) {i : Int32} (h0 : 0 ≤ i) (h1 : i.toInt + 8 ≤ sL) (h2 : sL ≤ 4096) (hn : ∀ n t K L J R, lawI b C (c + 1) n t K L J R → a_at 700 (lx b sL sx) 1547 [some (.ref b), some (a_rf C), some (a_rf (C + 44)), some (.int i)] [] (n + 1, t, K, L, J, R) P) : a_at 700 (lx b sL sx) 871 [some (.ref b), some (a_rf C), some (a_rf (C + 44)), some (.int i)] [] (n + 1, t, K, L, J, R) P := by
  have hS := h.1.1.s
  have kb := h.2.2.2.2.1
  have o1 : a_ok (i + 1) sL := a_ok8 h0 h1 h2 (by decide)
  have o2 : a_ok (i + 2) sL := a_ok8 h0 h1 h2 (by decide)
  have o3 : a_ok (i + 3) sL := a_ok8 h0 h1 h2 (by decide)
  have o4 : a_ok (i + 4) sL := a_ok8 h0 h1 h2 (by decide)
  have o5 : a_ok (i + 5) sL := a_ok8 h0 h1 h2 (by decide)
  have o6 : a_ok (i + 6) sL := a_ok8 h0 h1 h2 (by decide)
  have o7 : a_ok (i + 7) sL := a_ok8 h0 h1 h2 (by decide)
  simp only [qL_871, qL_872, qL_873, qL_874, qL_875, qL_876, qL_877, qL_878, qL_879, qL_880, qL_881, qL_882, as_nil, as_i, as_r, Nat.reduceAdd, Nat.reduceLeDiff, z_eq0, z_eq1, z_or, z_em, Classical.not_not, not_false_eq_true, not_true_eq_false, true_and, and_true, false_and, and_false, and_self, true_implies, false_implies, implies_true, Option.toList_some, Option.toList_none, List.cons_append, List.nil_append, Nat.add_eq_zero_iff, a_nl_i, a_nl_r, a_nl_n, true_or, or_true, eq_self, a_isRA_22, a_isRA_24, a_isRA_32, a_isA_20, kb, o1, o2, o3, o4, o5, o6, o7, k_0 hS, z_C hS]
  refine cd_habit hb h (fun v n2 t2 K2 L2 J2 R2 hx => ?_)
  have kb2 := hx.1.2.2.2.2
  have hm := hx.1.2.1
  simp only [qL_885, qL_886, qL_887, qL_888, qL_889, qL_890, qL_891, qL_892, qL_893, qL_894, qL_895, qL_896, qL_897, as_nil, as_i, as_r, Nat.reduceAdd, Nat.reduceLeDiff, z_eq0, z_eq1, z_or, z_em, Classical.not_not, not_false_eq_true, not_true_eq_false, true_and, and_true, false_and, and_false, and_self, true_implies, false_implies, implies_true, Option.toList_some, Option.toList_none, List.cons_append, List.nil_append, Nat.add_eq_zero_iff, a_nl_i, a_nl_r, a_nl_n, true_or, or_true, eq_self, a_isRA_22, a_isRA_24, a_isRA_32, a_isA_20, kb2, o1, o2, o3, o4, o5, o6, o7, m_0 hm, m_K hm]
  refine rd_habit hx hc (fun v2 J3 hI => ?_)
  simp only [qL_900, qL_901, as_nil, as_i, as_r, Nat.reduceAdd, Nat.reduceLeDiff, z_eq0, z_eq1, z_or, z_em, Classical.not_not, not_false_eq_true, not_true_eq_false, true_and, and_true, false_and, and_false, and_self, true_implies, false_implies, implies_true, Option.toList_some, Option.toList_none, List.cons_append, List.nil_append, Nat.add_eq_zero_iff, a_nl_i, a_nl_r, a_nl_n, true_or, or_true, eq_self, a_isRA_22, a_isRA_24, a_isRA_32, a_isA_20]
  exact hn _ _ _ _ _ _ hI
theorem lc_fit (hb : b < C) (h : lawI b C c n t K L J R) (hc : 120 * c + 130 ≤ 84000) {i : Int32} (h0 : 0 ≤ i) (h1 : i.toInt + 8 ≤ sL) (h2 : sL ≤ 4096) (hn : ∀ n t K L J R, lawI b C (c + 1) n t K L J R → a_at 700 (lx b sL sx) 1547 [some (.ref b), some (a_rf C), some (a_rf (C + 44)), some (.int i)] [] (n + 1, t, K, L, J, R) P) : a_at 700 (lx b sL sx) 904 [some (.ref b), some (a_rf C), some (a_rf (C + 44)), some (.int i)] [] (n + 1, t, K, L, J, R) P := by
  have hS := h.1.1.s
  have kb := h.2.2.2.2.1
  have o1 : a_ok (i + 1) sL := a_ok8 h0 h1 h2 (by decide)
  have o2 : a_ok (i + 2) sL := a_ok8 h0 h1 h2 (by decide)
  have o3 : a_ok (i + 3) sL := a_ok8 h0 h1 h2 (by decide)
  have o4 : a_ok (i + 4) sL := a_ok8 h0 h1 h2 (by decide)
  have o5 : a_ok (i + 5) sL := a_ok8 h0 h1 h2 (by decide)
  have o6 : a_ok (i + 6) sL := a_ok8 h0 h1 h2 (by decide)
  have o7 : a_ok (i + 7) sL := a_ok8 h0 h1 h2 (by decide)
  simp only [qL_904, qL_905, qL_906, qL_907, qL_908, qL_909, qL_910, qL_911, qL_912, qL_913, qL_914, qL_915, qL_916, qL_917, qL_918, qL_919, qL_920, as_nil, as_i, as_r, Nat.reduceAdd, Nat.reduceLeDiff, z_eq0, z_eq1, z_or, z_em, Classical.not_not, not_false_eq_true, not_true_eq_false, true_and, and_true, false_and, and_false, and_self, true_implies, false_implies, implies_true, Option.toList_some, Option.toList_none, List.cons_append, List.nil_append, Nat.add_eq_zero_iff, a_nl_i, a_nl_r, a_nl_n, true_or, or_true, eq_self, a_isRA_22, a_isRA_24, a_isRA_32, a_isA_20, kb, o1, o2, o3, o4, o5, o6, o7, k_0 hS, z_C hS]
  refine cd_fit hb h (fun n2 t2 K2 L2 J2 R2 hx => ?_)
  have kb2 := hx.1.2.2.2.2
  have hm := hx.1.2.1
  simp only [qL_923, qL_924, qL_925, qL_926, qL_927, qL_928, qL_929, qL_930, qL_931, qL_932, qL_933, qL_934, qL_935, qL_936, qL_937, qL_938, qL_939, qL_940, as_nil, as_i, as_r, Nat.reduceAdd, Nat.reduceLeDiff, z_eq0, z_eq1, z_or, z_em, Classical.not_not, not_false_eq_true, not_true_eq_false, true_and, and_true, false_and, and_false, and_self, true_implies, false_implies, implies_true, Option.toList_some, Option.toList_none, List.cons_append, List.nil_append, Nat.add_eq_zero_iff, a_nl_i, a_nl_r, a_nl_n, true_or, or_true, eq_self, a_isRA_22, a_isRA_24, a_isRA_32, a_isA_20, kb2, o1, o2, o3, o4, o5, o6, o7, m_0 hm, m_K hm]
  refine rd_fit hx hc (fun J3 hI => ?_)
  simp only [qL_943, qL_944, as_nil, as_i, as_r, Nat.reduceAdd, Nat.reduceLeDiff, z_eq0, z_eq1, z_or, z_em, Classical.not_not, not_false_eq_true, not_true_eq_false, true_and, and_true, false_and, and_false, and_self, true_implies, false_implies, implies_true, Option.toList_some, Option.toList_none, List.cons_append, List.nil_append, Nat.add_eq_zero_iff, a_nl_i, a_nl_r, a_nl_n, true_or, or_true, eq_self, a_isRA_22, a_isRA_24, a_isRA_32, a_isA_20]
  exact hn _ _ _ _ _ _ hI
theorem lc_give (hb : b < C) (h : lawI b C c n t K L J R) (hc : 120 * c + 130 ≤ 84000) {i : Int32} (h0 : 0 ≤ i) (h1 : i.toInt + 8 ≤ sL) (h2 : sL ≤ 4096) (hn : ∀ n t K L J R, lawI b C (c + 1) n t K L J R → a_at 700 (lx b sL sx) 1547 [some (.ref b), some (a_rf C), some (a_rf (C + 44)), some (.int i)] [] (n + 1, t, K, L, J, R) P) : a_at 700 (lx b sL sx) 947 [some (.ref b), some (a_rf C), some (a_rf (C + 44)), some (.int i)] [] (n + 1, t, K, L, J, R) P := by
  have hS := h.1.1.s
  have kb := h.2.2.2.2.1
  have o1 : a_ok (i + 1) sL := a_ok8 h0 h1 h2 (by decide)
  have o2 : a_ok (i + 2) sL := a_ok8 h0 h1 h2 (by decide)
  have o3 : a_ok (i + 3) sL := a_ok8 h0 h1 h2 (by decide)
  have o4 : a_ok (i + 4) sL := a_ok8 h0 h1 h2 (by decide)
  have o5 : a_ok (i + 5) sL := a_ok8 h0 h1 h2 (by decide)
  have o6 : a_ok (i + 6) sL := a_ok8 h0 h1 h2 (by decide)
  have o7 : a_ok (i + 7) sL := a_ok8 h0 h1 h2 (by decide)
  simp only [qL_947, qL_948, qL_949, qL_950, qL_951, qL_952, qL_953, qL_954, qL_955, qL_956, qL_957, qL_958, qL_959, qL_960, qL_961, qL_962, qL_963, as_nil, as_i, as_r, Nat.reduceAdd, Nat.reduceLeDiff, z_eq0, z_eq1, z_or, z_em, Classical.not_not, not_false_eq_true, not_true_eq_false, true_and, and_true, false_and, and_false, and_self, true_implies, false_implies, implies_true, Option.toList_some, Option.toList_none, List.cons_append, List.nil_append, Nat.add_eq_zero_iff, a_nl_i, a_nl_r, a_nl_n, true_or, or_true, eq_self, a_isRA_22, a_isRA_24, a_isRA_32, a_isA_20, kb, o1, o2, o3, o4, o5, o6, o7, k_0 hS, z_C hS]
  refine cd_give hb h (fun n2 t2 K2 L2 J2 R2 hx => ?_)
  have kb2 := hx.1.2.2.2.2
  have hm := hx.1.2.1
  simp only [qL_966, qL_967, qL_968, qL_969, qL_970, qL_971, qL_972, qL_973, qL_974, qL_975, qL_976, qL_977, qL_978, qL_979, qL_980, qL_981, qL_982, qL_983, as_nil, as_i, as_r, Nat.reduceAdd, Nat.reduceLeDiff, z_eq0, z_eq1, z_or, z_em, Classical.not_not, not_false_eq_true, not_true_eq_false, true_and, and_true, false_and, and_false, and_self, true_implies, false_implies, implies_true, Option.toList_some, Option.toList_none, List.cons_append, List.nil_append, Nat.add_eq_zero_iff, a_nl_i, a_nl_r, a_nl_n, true_or, or_true, eq_self, a_isRA_22, a_isRA_24, a_isRA_32, a_isA_20, kb2, o1, o2, o3, o4, o5, o6, o7, m_0 hm, m_K hm]
  refine rd_give hx hc (fun J3 hI => ?_)
  simp only [qL_986, qL_987, as_nil, as_i, as_r, Nat.reduceAdd, Nat.reduceLeDiff, z_eq0, z_eq1, z_or, z_em, Classical.not_not, not_false_eq_true, not_true_eq_false, true_and, and_true, false_and, and_false, and_self, true_implies, false_implies, implies_true, Option.toList_some, Option.toList_none, List.cons_append, List.nil_append, Nat.add_eq_zero_iff, a_nl_i, a_nl_r, a_nl_n, true_or, or_true, eq_self, a_isRA_22, a_isRA_24, a_isRA_32, a_isA_20]
  exact hn _ _ _ _ _ _ hI
theorem lc_take (hb : b < C) (h : lawI b C c n t K L J R) (hc : 120 * c + 130 ≤ 84000) {i : Int32} (h0 : 0 ≤ i) (h1 : i.toInt + 8 ≤ sL) (h2 : sL ≤ 4096) (hn : ∀ n t K L J R, lawI b C (c + 1) n t K L J R → a_at 700 (lx b sL sx) 1547 [some (.ref b), some (a_rf C), some (a_rf (C + 44)), some (.int i)] [] (n + 1, t, K, L, J, R) P) : a_at 700 (lx b sL sx) 990 [some (.ref b), some (a_rf C), some (a_rf (C + 44)), some (.int i)] [] (n + 1, t, K, L, J, R) P := by
  have hS := h.1.1.s
  have kb := h.2.2.2.2.1
  have o1 : a_ok (i + 1) sL := a_ok8 h0 h1 h2 (by decide)
  have o2 : a_ok (i + 2) sL := a_ok8 h0 h1 h2 (by decide)
  have o3 : a_ok (i + 3) sL := a_ok8 h0 h1 h2 (by decide)
  have o4 : a_ok (i + 4) sL := a_ok8 h0 h1 h2 (by decide)
  have o5 : a_ok (i + 5) sL := a_ok8 h0 h1 h2 (by decide)
  have o6 : a_ok (i + 6) sL := a_ok8 h0 h1 h2 (by decide)
  have o7 : a_ok (i + 7) sL := a_ok8 h0 h1 h2 (by decide)
  simp only [qL_990, qL_991, qL_992, qL_993, qL_994, qL_995, qL_996, as_nil, as_i, as_r, Nat.reduceAdd, Nat.reduceLeDiff, z_eq0, z_eq1, z_or, z_em, Classical.not_not, not_false_eq_true, not_true_eq_false, true_and, and_true, false_and, and_false, and_self, true_implies, false_implies, implies_true, Option.toList_some, Option.toList_none, List.cons_append, List.nil_append, Nat.add_eq_zero_iff, a_nl_i, a_nl_r, a_nl_n, true_or, or_true, eq_self, a_isRA_22, a_isRA_24, a_isRA_32, a_isA_20, kb, o1, o2, o3, o4, o5, o6, o7, k_0 hS, z_C hS]
  refine cd_take hb h (fun n2 t2 K2 L2 J2 R2 hx => ?_)
  have kb2 := hx.1.2.2.2.2
  have hm := hx.1.2.1
  simp only [qL_999, qL_1000, qL_1001, qL_1002, qL_1003, qL_1004, qL_1005, qL_1006, as_nil, as_i, as_r, Nat.reduceAdd, Nat.reduceLeDiff, z_eq0, z_eq1, z_or, z_em, Classical.not_not, not_false_eq_true, not_true_eq_false, true_and, and_true, false_and, and_false, and_self, true_implies, false_implies, implies_true, Option.toList_some, Option.toList_none, List.cons_append, List.nil_append, Nat.add_eq_zero_iff, a_nl_i, a_nl_r, a_nl_n, true_or, or_true, eq_self, a_isRA_22, a_isRA_24, a_isRA_32, a_isA_20, kb2, o1, o2, o3, o4, o5, o6, o7, m_0 hm, m_K hm]
  refine rd_take hx hc (fun J3 hI => ?_)
  simp only [qL_1009, qL_1010, as_nil, as_i, as_r, Nat.reduceAdd, Nat.reduceLeDiff, z_eq0, z_eq1, z_or, z_em, Classical.not_not, not_false_eq_true, not_true_eq_false, true_and, and_true, false_and, and_false, and_self, true_implies, false_implies, implies_true, Option.toList_some, Option.toList_none, List.cons_append, List.nil_append, Nat.add_eq_zero_iff, a_nl_i, a_nl_r, a_nl_n, true_or, or_true, eq_self, a_isRA_22, a_isRA_24, a_isRA_32, a_isA_20]
  exact hn _ _ _ _ _ _ hI
theorem lc_plan (hb : b < C) (h : lawI b C c n t K L J R) (hc : 120 * c + 130 ≤ 84000) {i : Int32} (h0 : 0 ≤ i) (h1 : i.toInt + 8 ≤ sL) (h2 : sL ≤ 4096) (hn : ∀ n t K L J R, lawI b C (c + 1) n t K L J R → a_at 700 (lx b sL sx) 1547 [some (.ref b), some (a_rf C), some (a_rf (C + 44)), some (.int i)] [] (n + 1, t, K, L, J, R) P) : a_at 700 (lx b sL sx) 1013 [some (.ref b), some (a_rf C), some (a_rf (C + 44)), some (.int i)] [] (n + 1, t, K, L, J, R) P := by
  have hS := h.1.1.s
  have kb := h.2.2.2.2.1
  have o1 : a_ok (i + 1) sL := a_ok8 h0 h1 h2 (by decide)
  have o2 : a_ok (i + 2) sL := a_ok8 h0 h1 h2 (by decide)
  have o3 : a_ok (i + 3) sL := a_ok8 h0 h1 h2 (by decide)
  have o4 : a_ok (i + 4) sL := a_ok8 h0 h1 h2 (by decide)
  have o5 : a_ok (i + 5) sL := a_ok8 h0 h1 h2 (by decide)
  have o6 : a_ok (i + 6) sL := a_ok8 h0 h1 h2 (by decide)
  have o7 : a_ok (i + 7) sL := a_ok8 h0 h1 h2 (by decide)
  simp only [qL_1013, qL_1014, qL_1015, qL_1016, qL_1017, qL_1018, qL_1019, qL_1020, qL_1021, qL_1022, qL_1023, qL_1024, as_nil, as_i, as_r, Nat.reduceAdd, Nat.reduceLeDiff, z_eq0, z_eq1, z_or, z_em, Classical.not_not, not_false_eq_true, not_true_eq_false, true_and, and_true, false_and, and_false, and_self, true_implies, false_implies, implies_true, Option.toList_some, Option.toList_none, List.cons_append, List.nil_append, Nat.add_eq_zero_iff, a_nl_i, a_nl_r, a_nl_n, true_or, or_true, eq_self, a_isRA_22, a_isRA_24, a_isRA_32, a_isA_20, kb, o1, o2, o3, o4, o5, o6, o7, k_0 hS, z_C hS]
  refine cd_plan hb h (fun n2 t2 K2 L2 J2 R2 hx => ?_)
  have kb2 := hx.1.2.2.2.2
  have hm := hx.1.2.1
  simp only [qL_1027, qL_1028, qL_1029, qL_1030, qL_1031, qL_1032, qL_1033, qL_1034, qL_1035, qL_1036, qL_1037, qL_1038, qL_1039, as_nil, as_i, as_r, Nat.reduceAdd, Nat.reduceLeDiff, z_eq0, z_eq1, z_or, z_em, Classical.not_not, not_false_eq_true, not_true_eq_false, true_and, and_true, false_and, and_false, and_self, true_implies, false_implies, implies_true, Option.toList_some, Option.toList_none, List.cons_append, List.nil_append, Nat.add_eq_zero_iff, a_nl_i, a_nl_r, a_nl_n, true_or, or_true, eq_self, a_isRA_22, a_isRA_24, a_isRA_32, a_isA_20, kb2, o1, o2, o3, o4, o5, o6, o7, m_0 hm, m_K hm]
  refine rd_plan hx hc (fun J3 hI => ?_)
  simp only [qL_1042, qL_1043, as_nil, as_i, as_r, Nat.reduceAdd, Nat.reduceLeDiff, z_eq0, z_eq1, z_or, z_em, Classical.not_not, not_false_eq_true, not_true_eq_false, true_and, and_true, false_and, and_false, and_self, true_implies, false_implies, implies_true, Option.toList_some, Option.toList_none, List.cons_append, List.nil_append, Nat.add_eq_zero_iff, a_nl_i, a_nl_r, a_nl_n, true_or, or_true, eq_self, a_isRA_22, a_isRA_24, a_isRA_32, a_isA_20]
  exact hn _ _ _ _ _ _ hI
theorem lc_passed (hb : b < C) (h : lawI b C c n t K L J R) (hc : 120 * c + 130 ≤ 84000) {i : Int32} (h0 : 0 ≤ i) (h1 : i.toInt + 8 ≤ sL) (h2 : sL ≤ 4096) (hn : ∀ n t K L J R, lawI b C (c + 1) n t K L J R → a_at 700 (lx b sL sx) 1547 [some (.ref b), some (a_rf C), some (a_rf (C + 44)), some (.int i)] [] (n + 1, t, K, L, J, R) P) : a_at 700 (lx b sL sx) 1046 [some (.ref b), some (a_rf C), some (a_rf (C + 44)), some (.int i)] [] (n + 1, t, K, L, J, R) P := by
  have hS := h.1.1.s
  have kb := h.2.2.2.2.1
  have o1 : a_ok (i + 1) sL := a_ok8 h0 h1 h2 (by decide)
  have o2 : a_ok (i + 2) sL := a_ok8 h0 h1 h2 (by decide)
  have o3 : a_ok (i + 3) sL := a_ok8 h0 h1 h2 (by decide)
  have o4 : a_ok (i + 4) sL := a_ok8 h0 h1 h2 (by decide)
  have o5 : a_ok (i + 5) sL := a_ok8 h0 h1 h2 (by decide)
  have o6 : a_ok (i + 6) sL := a_ok8 h0 h1 h2 (by decide)
  have o7 : a_ok (i + 7) sL := a_ok8 h0 h1 h2 (by decide)
  simp only [qL_1046, qL_1047, qL_1048, qL_1049, qL_1050, qL_1051, qL_1052, as_nil, as_i, as_r, Nat.reduceAdd, Nat.reduceLeDiff, z_eq0, z_eq1, z_or, z_em, Classical.not_not, not_false_eq_true, not_true_eq_false, true_and, and_true, false_and, and_false, and_self, true_implies, false_implies, implies_true, Option.toList_some, Option.toList_none, List.cons_append, List.nil_append, Nat.add_eq_zero_iff, a_nl_i, a_nl_r, a_nl_n, true_or, or_true, eq_self, a_isRA_22, a_isRA_24, a_isRA_32, a_isA_20, kb, o1, o2, o3, o4, o5, o6, o7, k_0 hS, z_C hS]
  refine cd_passed hb h (fun v n2 t2 K2 L2 J2 R2 hx => ?_)
  have kb2 := hx.1.2.2.2.2
  have hm := hx.1.2.1
  simp only [qL_1055, qL_1056, qL_1057, qL_1058, qL_1059, qL_1060, qL_1061, qL_1062, as_nil, as_i, as_r, Nat.reduceAdd, Nat.reduceLeDiff, z_eq0, z_eq1, z_or, z_em, Classical.not_not, not_false_eq_true, not_true_eq_false, true_and, and_true, false_and, and_false, and_self, true_implies, false_implies, implies_true, Option.toList_some, Option.toList_none, List.cons_append, List.nil_append, Nat.add_eq_zero_iff, a_nl_i, a_nl_r, a_nl_n, true_or, or_true, eq_self, a_isRA_22, a_isRA_24, a_isRA_32, a_isA_20, kb2, o1, o2, o3, o4, o5, o6, o7, m_0 hm, m_K hm]
  refine rd_passed hx hc (fun v2 J3 hI => ?_)
  simp only [qL_1065, qL_1066, as_nil, as_i, as_r, Nat.reduceAdd, Nat.reduceLeDiff, z_eq0, z_eq1, z_or, z_em, Classical.not_not, not_false_eq_true, not_true_eq_false, true_and, and_true, false_and, and_false, and_self, true_implies, false_implies, implies_true, Option.toList_some, Option.toList_none, List.cons_append, List.nil_append, Nat.add_eq_zero_iff, a_nl_i, a_nl_r, a_nl_n, true_or, or_true, eq_self, a_isRA_22, a_isRA_24, a_isRA_32, a_isA_20]
  exact hn _ _ _ _ _ _ hI
theorem lc_why (hb : b < C) (h : lawI b C c n t K L J R) (hc : 120 * c + 130 ≤ 84000) {i : Int32} (h0 : 0 ≤ i) (h1 : i.toInt + 8 ≤ sL) (h2 : sL ≤ 4096) (hn : ∀ n t K L J R, lawI b C (c + 1) n t K L J R → a_at 700 (lx b sL sx) 1547 [some (.ref b), some (a_rf C), some (a_rf (C + 44)), some (.int i)] [] (n + 1, t, K, L, J, R) P) : a_at 700 (lx b sL sx) 1069 [some (.ref b), some (a_rf C), some (a_rf (C + 44)), some (.int i)] [] (n + 1, t, K, L, J, R) P := by
  have hS := h.1.1.s
  have kb := h.2.2.2.2.1
  have o1 : a_ok (i + 1) sL := a_ok8 h0 h1 h2 (by decide)
  have o2 : a_ok (i + 2) sL := a_ok8 h0 h1 h2 (by decide)
  have o3 : a_ok (i + 3) sL := a_ok8 h0 h1 h2 (by decide)
  have o4 : a_ok (i + 4) sL := a_ok8 h0 h1 h2 (by decide)
  have o5 : a_ok (i + 5) sL := a_ok8 h0 h1 h2 (by decide)
  have o6 : a_ok (i + 6) sL := a_ok8 h0 h1 h2 (by decide)
  have o7 : a_ok (i + 7) sL := a_ok8 h0 h1 h2 (by decide)
  simp only [qL_1069, qL_1070, qL_1071, qL_1072, qL_1073, qL_1074, qL_1075, qL_1076, qL_1077, qL_1078, qL_1079, qL_1080, qL_1081, qL_1082, qL_1083, qL_1084, qL_1085, qL_1086, qL_1087, qL_1088, qL_1089, qL_1090, qL_1091, qL_1092, qL_1093, qL_1094, qL_1095, as_nil, as_i, as_r, Nat.reduceAdd, Nat.reduceLeDiff, z_eq0, z_eq1, z_or, z_em, Classical.not_not, not_false_eq_true, not_true_eq_false, true_and, and_true, false_and, and_false, and_self, true_implies, false_implies, implies_true, Option.toList_some, Option.toList_none, List.cons_append, List.nil_append, Nat.add_eq_zero_iff, a_nl_i, a_nl_r, a_nl_n, true_or, or_true, eq_self, a_isRA_22, a_isRA_24, a_isRA_32, a_isA_20, kb, o1, o2, o3, o4, o5, o6, o7, k_0 hS, z_C hS]
  refine cd_why hb h (fun n2 t2 K2 L2 J2 R2 hx => ?_)
  have kb2 := hx.1.2.2.2.2
  have hm := hx.1.2.1
  simp only [qL_1098, qL_1099, qL_1100, qL_1101, qL_1102, qL_1103, qL_1104, qL_1105, qL_1106, qL_1107, qL_1108, qL_1109, qL_1110, qL_1111, qL_1112, qL_1113, qL_1114, qL_1115, qL_1116, qL_1117, qL_1118, qL_1119, qL_1120, qL_1121, qL_1122, qL_1123, qL_1124, qL_1125, as_nil, as_i, as_r, Nat.reduceAdd, Nat.reduceLeDiff, z_eq0, z_eq1, z_or, z_em, Classical.not_not, not_false_eq_true, not_true_eq_false, true_and, and_true, false_and, and_false, and_self, true_implies, false_implies, implies_true, Option.toList_some, Option.toList_none, List.cons_append, List.nil_append, Nat.add_eq_zero_iff, a_nl_i, a_nl_r, a_nl_n, true_or, or_true, eq_self, a_isRA_22, a_isRA_24, a_isRA_32, a_isA_20, kb2, o1, o2, o3, o4, o5, o6, o7, m_0 hm, m_K hm]
  refine rd_why hx hc (fun J3 hI => ?_)
  simp only [qL_1128, qL_1129, as_nil, as_i, as_r, Nat.reduceAdd, Nat.reduceLeDiff, z_eq0, z_eq1, z_or, z_em, Classical.not_not, not_false_eq_true, not_true_eq_false, true_and, and_true, false_and, and_false, and_self, true_implies, false_implies, implies_true, Option.toList_some, Option.toList_none, List.cons_append, List.nil_append, Nat.add_eq_zero_iff, a_nl_i, a_nl_r, a_nl_n, true_or, or_true, eq_self, a_isRA_22, a_isRA_24, a_isRA_32, a_isA_20]
  exact hn _ _ _ _ _ _ hI
theorem lc_best (hb : b < C) (h : lawI b C c n t K L J R) (hc : 120 * c + 130 ≤ 84000) {i : Int32} (h0 : 0 ≤ i) (h1 : i.toInt + 8 ≤ sL) (h2 : sL ≤ 4096) (hn : ∀ n t K L J R, lawI b C (c + 1) n t K L J R → a_at 700 (lx b sL sx) 1547 [some (.ref b), some (a_rf C), some (a_rf (C + 44)), some (.int i)] [] (n + 1, t, K, L, J, R) P) : a_at 700 (lx b sL sx) 1132 [some (.ref b), some (a_rf C), some (a_rf (C + 44)), some (.int i)] [] (n + 1, t, K, L, J, R) P := by
  have hS := h.1.1.s
  have kb := h.2.2.2.2.1
  have o1 : a_ok (i + 1) sL := a_ok8 h0 h1 h2 (by decide)
  have o2 : a_ok (i + 2) sL := a_ok8 h0 h1 h2 (by decide)
  have o3 : a_ok (i + 3) sL := a_ok8 h0 h1 h2 (by decide)
  have o4 : a_ok (i + 4) sL := a_ok8 h0 h1 h2 (by decide)
  have o5 : a_ok (i + 5) sL := a_ok8 h0 h1 h2 (by decide)
  have o6 : a_ok (i + 6) sL := a_ok8 h0 h1 h2 (by decide)
  have o7 : a_ok (i + 7) sL := a_ok8 h0 h1 h2 (by decide)
  simp only [qL_1132, qL_1133, qL_1134, qL_1135, qL_1136, qL_1137, qL_1138, qL_1139, qL_1140, qL_1141, qL_1142, qL_1143, qL_1144, qL_1145, qL_1146, qL_1147, qL_1148, qL_1149, qL_1150, qL_1151, qL_1152, qL_1153, as_nil, as_i, as_r, Nat.reduceAdd, Nat.reduceLeDiff, z_eq0, z_eq1, z_or, z_em, Classical.not_not, not_false_eq_true, not_true_eq_false, true_and, and_true, false_and, and_false, and_self, true_implies, false_implies, implies_true, Option.toList_some, Option.toList_none, List.cons_append, List.nil_append, Nat.add_eq_zero_iff, a_nl_i, a_nl_r, a_nl_n, true_or, or_true, eq_self, a_isRA_22, a_isRA_24, a_isRA_32, a_isA_20, kb, o1, o2, o3, o4, o5, o6, o7, k_0 hS, z_C hS]
  refine cd_best hb h (fun v n2 t2 K2 L2 J2 R2 hx => ?_)
  have kb2 := hx.1.2.2.2.2
  have hm := hx.1.2.1
  simp only [qL_1156, qL_1157, qL_1158, qL_1159, qL_1160, qL_1161, qL_1162, qL_1163, qL_1164, qL_1165, qL_1166, qL_1167, qL_1168, qL_1169, qL_1170, qL_1171, qL_1172, qL_1173, qL_1174, qL_1175, qL_1176, qL_1177, qL_1178, as_nil, as_i, as_r, Nat.reduceAdd, Nat.reduceLeDiff, z_eq0, z_eq1, z_or, z_em, Classical.not_not, not_false_eq_true, not_true_eq_false, true_and, and_true, false_and, and_false, and_self, true_implies, false_implies, implies_true, Option.toList_some, Option.toList_none, List.cons_append, List.nil_append, Nat.add_eq_zero_iff, a_nl_i, a_nl_r, a_nl_n, true_or, or_true, eq_self, a_isRA_22, a_isRA_24, a_isRA_32, a_isA_20, kb2, o1, o2, o3, o4, o5, o6, o7, m_0 hm, m_K hm]
  refine rd_best hx hc (fun v2 J3 hI => ?_)
  simp only [qL_1181, qL_1182, as_nil, as_i, as_r, Nat.reduceAdd, Nat.reduceLeDiff, z_eq0, z_eq1, z_or, z_em, Classical.not_not, not_false_eq_true, not_true_eq_false, true_and, and_true, false_and, and_false, and_self, true_implies, false_implies, implies_true, Option.toList_some, Option.toList_none, List.cons_append, List.nil_append, Nat.add_eq_zero_iff, a_nl_i, a_nl_r, a_nl_n, true_or, or_true, eq_self, a_isRA_22, a_isRA_24, a_isRA_32, a_isA_20]
  exact hn _ _ _ _ _ _ hI
theorem lc_hosts (hb : b < C) (h : lawI b C c n t K L J R) (hc : 120 * c + 130 ≤ 84000) {i : Int32} (h0 : 0 ≤ i) (h1 : i.toInt + 8 ≤ sL) (h2 : sL ≤ 4096) (hn : ∀ n t K L J R, lawI b C (c + 1) n t K L J R → a_at 700 (lx b sL sx) 1547 [some (.ref b), some (a_rf C), some (a_rf (C + 44)), some (.int i)] [] (n + 1, t, K, L, J, R) P) : a_at 700 (lx b sL sx) 1185 [some (.ref b), some (a_rf C), some (a_rf (C + 44)), some (.int i)] [] (n + 1, t, K, L, J, R) P := by
  have hS := h.1.1.s
  have kb := h.2.2.2.2.1
  have o1 : a_ok (i + 1) sL := a_ok8 h0 h1 h2 (by decide)
  have o2 : a_ok (i + 2) sL := a_ok8 h0 h1 h2 (by decide)
  have o3 : a_ok (i + 3) sL := a_ok8 h0 h1 h2 (by decide)
  have o4 : a_ok (i + 4) sL := a_ok8 h0 h1 h2 (by decide)
  have o5 : a_ok (i + 5) sL := a_ok8 h0 h1 h2 (by decide)
  have o6 : a_ok (i + 6) sL := a_ok8 h0 h1 h2 (by decide)
  have o7 : a_ok (i + 7) sL := a_ok8 h0 h1 h2 (by decide)
  simp only [qL_1185, qL_1186, qL_1187, qL_1188, qL_1189, qL_1190, qL_1191, qL_1192, qL_1193, qL_1194, qL_1195, qL_1196, as_nil, as_i, as_r, Nat.reduceAdd, Nat.reduceLeDiff, z_eq0, z_eq1, z_or, z_em, Classical.not_not, not_false_eq_true, not_true_eq_false, true_and, and_true, false_and, and_false, and_self, true_implies, false_implies, implies_true, Option.toList_some, Option.toList_none, List.cons_append, List.nil_append, Nat.add_eq_zero_iff, a_nl_i, a_nl_r, a_nl_n, true_or, or_true, eq_self, a_isRA_22, a_isRA_24, a_isRA_32, a_isA_20, kb, o1, o2, o3, o4, o5, o6, o7, k_0 hS, z_C hS]
  refine cd_hosts hb h (fun v n2 t2 K2 L2 J2 R2 hx => ?_)
  have kb2 := hx.1.2.2.2.2
  have hm := hx.1.2.1
  simp only [qL_1199, qL_1200, qL_1201, qL_1202, qL_1203, qL_1204, qL_1205, qL_1206, qL_1207, qL_1208, qL_1209, qL_1210, qL_1211, as_nil, as_i, as_r, Nat.reduceAdd, Nat.reduceLeDiff, z_eq0, z_eq1, z_or, z_em, Classical.not_not, not_false_eq_true, not_true_eq_false, true_and, and_true, false_and, and_false, and_self, true_implies, false_implies, implies_true, Option.toList_some, Option.toList_none, List.cons_append, List.nil_append, Nat.add_eq_zero_iff, a_nl_i, a_nl_r, a_nl_n, true_or, or_true, eq_self, a_isRA_22, a_isRA_24, a_isRA_32, a_isA_20, kb2, o1, o2, o3, o4, o5, o6, o7, m_0 hm, m_K hm]
  refine rd_hosts hx hc (fun v2 J3 hI => ?_)
  simp only [qL_1214, qL_1215, as_nil, as_i, as_r, Nat.reduceAdd, Nat.reduceLeDiff, z_eq0, z_eq1, z_or, z_em, Classical.not_not, not_false_eq_true, not_true_eq_false, true_and, and_true, false_and, and_false, and_self, true_implies, false_implies, implies_true, Option.toList_some, Option.toList_none, List.cons_append, List.nil_append, Nat.add_eq_zero_iff, a_nl_i, a_nl_r, a_nl_n, true_or, or_true, eq_self, a_isRA_22, a_isRA_24, a_isRA_32, a_isA_20]
  exact hn _ _ _ _ _ _ hI
theorem lc_owe (hb : b < C) (h : lawI b C c n t K L J R) (hc : 120 * c + 130 ≤ 84000) {i : Int32} (h0 : 0 ≤ i) (h1 : i.toInt + 8 ≤ sL) (h2 : sL ≤ 4096) (hn : ∀ n t K L J R, lawI b C (c + 1) n t K L J R → a_at 700 (lx b sL sx) 1547 [some (.ref b), some (a_rf C), some (a_rf (C + 44)), some (.int i)] [] (n + 1, t, K, L, J, R) P) : a_at 700 (lx b sL sx) 1218 [some (.ref b), some (a_rf C), some (a_rf (C + 44)), some (.int i)] [] (n + 1, t, K, L, J, R) P := by
  have hS := h.1.1.s
  have kb := h.2.2.2.2.1
  have o1 : a_ok (i + 1) sL := a_ok8 h0 h1 h2 (by decide)
  have o2 : a_ok (i + 2) sL := a_ok8 h0 h1 h2 (by decide)
  have o3 : a_ok (i + 3) sL := a_ok8 h0 h1 h2 (by decide)
  have o4 : a_ok (i + 4) sL := a_ok8 h0 h1 h2 (by decide)
  have o5 : a_ok (i + 5) sL := a_ok8 h0 h1 h2 (by decide)
  have o6 : a_ok (i + 6) sL := a_ok8 h0 h1 h2 (by decide)
  have o7 : a_ok (i + 7) sL := a_ok8 h0 h1 h2 (by decide)
  simp only [qL_1218, qL_1219, qL_1220, qL_1221, qL_1222, qL_1223, qL_1224, as_nil, as_i, as_r, Nat.reduceAdd, Nat.reduceLeDiff, z_eq0, z_eq1, z_or, z_em, Classical.not_not, not_false_eq_true, not_true_eq_false, true_and, and_true, false_and, and_false, and_self, true_implies, false_implies, implies_true, Option.toList_some, Option.toList_none, List.cons_append, List.nil_append, Nat.add_eq_zero_iff, a_nl_i, a_nl_r, a_nl_n, true_or, or_true, eq_self, a_isRA_22, a_isRA_24, a_isRA_32, a_isA_20, kb, o1, o2, o3, o4, o5, o6, o7, k_0 hS, z_C hS]
  refine cd_owe hb h (fun n2 t2 K2 L2 J2 R2 hx hbd => ?_)
  have kb2 := hx.1.2.2.2.2
  have hm := hx.1.2.1
  simp only [qL_1227, qL_1228, qL_1229, qL_1230, qL_1231, qL_1232, qL_1233, qL_1234, as_nil, as_i, as_r, Nat.reduceAdd, Nat.reduceLeDiff, z_eq0, z_eq1, z_or, z_em, Classical.not_not, not_false_eq_true, not_true_eq_false, true_and, and_true, false_and, and_false, and_self, true_implies, false_implies, implies_true, Option.toList_some, Option.toList_none, List.cons_append, List.nil_append, Nat.add_eq_zero_iff, a_nl_i, a_nl_r, a_nl_n, true_or, or_true, eq_self, a_isRA_22, a_isRA_24, a_isRA_32, a_isA_20, kb2, o1, o2, o3, o4, o5, o6, o7, m_0 hm, m_K hm]
  refine rd_owe hx hc hbd (fun J3 hI => ?_)
  simp only [qL_1237, qL_1238, as_nil, as_i, as_r, Nat.reduceAdd, Nat.reduceLeDiff, z_eq0, z_eq1, z_or, z_em, Classical.not_not, not_false_eq_true, not_true_eq_false, true_and, and_true, false_and, and_false, and_self, true_implies, false_implies, implies_true, Option.toList_some, Option.toList_none, List.cons_append, List.nil_append, Nat.add_eq_zero_iff, a_nl_i, a_nl_r, a_nl_n, true_or, or_true, eq_self, a_isRA_22, a_isRA_24, a_isRA_32, a_isA_20]
  exact hn _ _ _ _ _ _ hI
theorem lc_again (hb : b < C) (h : lawI b C c n t K L J R) (hc : 120 * c + 130 ≤ 84000) {i : Int32} (h0 : 0 ≤ i) (h1 : i.toInt + 8 ≤ sL) (h2 : sL ≤ 4096) (hn : ∀ n t K L J R, lawI b C (c + 1) n t K L J R → a_at 700 (lx b sL sx) 1547 [some (.ref b), some (a_rf C), some (a_rf (C + 44)), some (.int i)] [] (n + 1, t, K, L, J, R) P) : a_at 700 (lx b sL sx) 1241 [some (.ref b), some (a_rf C), some (a_rf (C + 44)), some (.int i)] [] (n + 1, t, K, L, J, R) P := by
  have hS := h.1.1.s
  have kb := h.2.2.2.2.1
  have o1 : a_ok (i + 1) sL := a_ok8 h0 h1 h2 (by decide)
  have o2 : a_ok (i + 2) sL := a_ok8 h0 h1 h2 (by decide)
  have o3 : a_ok (i + 3) sL := a_ok8 h0 h1 h2 (by decide)
  have o4 : a_ok (i + 4) sL := a_ok8 h0 h1 h2 (by decide)
  have o5 : a_ok (i + 5) sL := a_ok8 h0 h1 h2 (by decide)
  have o6 : a_ok (i + 6) sL := a_ok8 h0 h1 h2 (by decide)
  have o7 : a_ok (i + 7) sL := a_ok8 h0 h1 h2 (by decide)
  simp only [qL_1241, qL_1242, as_nil, as_i, as_r, Nat.reduceAdd, Nat.reduceLeDiff, z_eq0, z_eq1, z_or, z_em, Classical.not_not, not_false_eq_true, not_true_eq_false, true_and, and_true, false_and, and_false, and_self, true_implies, false_implies, implies_true, Option.toList_some, Option.toList_none, List.cons_append, List.nil_append, Nat.add_eq_zero_iff, a_nl_i, a_nl_r, a_nl_n, true_or, or_true, eq_self, a_isRA_22, a_isRA_24, a_isRA_32, a_isA_20, kb, o1, o2, o3, o4, o5, o6, o7, k_0 hS, z_C hS]
  refine cd_again hb h (fun n2 t2 K2 L2 J2 R2 hx => ?_)
  have kb2 := hx.1.2.2.2.2
  have hm := hx.1.2.1
  simp only [qL_1245, qL_1246, qL_1247, as_nil, as_i, as_r, Nat.reduceAdd, Nat.reduceLeDiff, z_eq0, z_eq1, z_or, z_em, Classical.not_not, not_false_eq_true, not_true_eq_false, true_and, and_true, false_and, and_false, and_self, true_implies, false_implies, implies_true, Option.toList_some, Option.toList_none, List.cons_append, List.nil_append, Nat.add_eq_zero_iff, a_nl_i, a_nl_r, a_nl_n, true_or, or_true, eq_self, a_isRA_22, a_isRA_24, a_isRA_32, a_isA_20, kb2, o1, o2, o3, o4, o5, o6, o7, m_0 hm, m_K hm]
  refine rd_again hx hc (fun J3 hI => ?_)
  simp only [qL_1250, qL_1251, as_nil, as_i, as_r, Nat.reduceAdd, Nat.reduceLeDiff, z_eq0, z_eq1, z_or, z_em, Classical.not_not, not_false_eq_true, not_true_eq_false, true_and, and_true, false_and, and_false, and_self, true_implies, false_implies, implies_true, Option.toList_some, Option.toList_none, List.cons_append, List.nil_append, Nat.add_eq_zero_iff, a_nl_i, a_nl_r, a_nl_n, true_or, or_true, eq_self, a_isRA_22, a_isRA_24, a_isRA_32, a_isA_20]
  exact hn _ _ _ _ _ _ hI
theorem lc_danger (hb : b < C) (h : lawI b C c n t K L J R) (hc : 120 * c + 130 ≤ 84000) {i : Int32} (h0 : 0 ≤ i) (h1 : i.toInt + 8 ≤ sL) (h2 : sL ≤ 4096) (hn : ∀ n t K L J R, lawI b C (c + 1) n t K L J R → a_at 700 (lx b sL sx) 1547 [some (.ref b), some (a_rf C), some (a_rf (C + 44)), some (.int i)] [] (n + 1, t, K, L, J, R) P) : a_at 700 (lx b sL sx) 1254 [some (.ref b), some (a_rf C), some (a_rf (C + 44)), some (.int i)] [] (n + 1, t, K, L, J, R) P := by
  have hS := h.1.1.s
  have kb := h.2.2.2.2.1
  have o1 : a_ok (i + 1) sL := a_ok8 h0 h1 h2 (by decide)
  have o2 : a_ok (i + 2) sL := a_ok8 h0 h1 h2 (by decide)
  have o3 : a_ok (i + 3) sL := a_ok8 h0 h1 h2 (by decide)
  have o4 : a_ok (i + 4) sL := a_ok8 h0 h1 h2 (by decide)
  have o5 : a_ok (i + 5) sL := a_ok8 h0 h1 h2 (by decide)
  have o6 : a_ok (i + 6) sL := a_ok8 h0 h1 h2 (by decide)
  have o7 : a_ok (i + 7) sL := a_ok8 h0 h1 h2 (by decide)
  simp only [qL_1254, qL_1255, qL_1256, qL_1257, qL_1258, qL_1259, qL_1260, qL_1261, qL_1262, qL_1263, qL_1264, qL_1265, as_nil, as_i, as_r, Nat.reduceAdd, Nat.reduceLeDiff, z_eq0, z_eq1, z_or, z_em, Classical.not_not, not_false_eq_true, not_true_eq_false, true_and, and_true, false_and, and_false, and_self, true_implies, false_implies, implies_true, Option.toList_some, Option.toList_none, List.cons_append, List.nil_append, Nat.add_eq_zero_iff, a_nl_i, a_nl_r, a_nl_n, true_or, or_true, eq_self, a_isRA_22, a_isRA_24, a_isRA_32, a_isA_20, kb, o1, o2, o3, o4, o5, o6, o7, k_0 hS, z_C hS]
  refine cd_danger hb h (fun n2 t2 K2 L2 J2 R2 hx => ?_)
  have kb2 := hx.1.2.2.2.2
  have hm := hx.1.2.1
  simp only [qL_1268, qL_1269, qL_1270, qL_1271, qL_1272, qL_1273, qL_1274, qL_1275, qL_1276, qL_1277, qL_1278, qL_1279, qL_1280, as_nil, as_i, as_r, Nat.reduceAdd, Nat.reduceLeDiff, z_eq0, z_eq1, z_or, z_em, Classical.not_not, not_false_eq_true, not_true_eq_false, true_and, and_true, false_and, and_false, and_self, true_implies, false_implies, implies_true, Option.toList_some, Option.toList_none, List.cons_append, List.nil_append, Nat.add_eq_zero_iff, a_nl_i, a_nl_r, a_nl_n, true_or, or_true, eq_self, a_isRA_22, a_isRA_24, a_isRA_32, a_isA_20, kb2, o1, o2, o3, o4, o5, o6, o7, m_0 hm, m_K hm]
  refine rd_danger hx hc (fun J3 hI => ?_)
  simp only [qL_1283, qL_1284, as_nil, as_i, as_r, Nat.reduceAdd, Nat.reduceLeDiff, z_eq0, z_eq1, z_or, z_em, Classical.not_not, not_false_eq_true, not_true_eq_false, true_and, and_true, false_and, and_false, and_self, true_implies, false_implies, implies_true, Option.toList_some, Option.toList_none, List.cons_append, List.nil_append, Nat.add_eq_zero_iff, a_nl_i, a_nl_r, a_nl_n, true_or, or_true, eq_self, a_isRA_22, a_isRA_24, a_isRA_32, a_isA_20]
  exact hn _ _ _ _ _ _ hI
theorem lc_wish (hb : b < C) (h : lawI b C c n t K L J R) (hc : 120 * c + 130 ≤ 84000) {i : Int32} (h0 : 0 ≤ i) (h1 : i.toInt + 8 ≤ sL) (h2 : sL ≤ 4096) (hn : ∀ n t K L J R, lawI b C (c + 1) n t K L J R → a_at 700 (lx b sL sx) 1547 [some (.ref b), some (a_rf C), some (a_rf (C + 44)), some (.int i)] [] (n + 1, t, K, L, J, R) P) : a_at 700 (lx b sL sx) 1287 [some (.ref b), some (a_rf C), some (a_rf (C + 44)), some (.int i)] [] (n + 1, t, K, L, J, R) P := by
  have hS := h.1.1.s
  have kb := h.2.2.2.2.1
  have o1 : a_ok (i + 1) sL := a_ok8 h0 h1 h2 (by decide)
  have o2 : a_ok (i + 2) sL := a_ok8 h0 h1 h2 (by decide)
  have o3 : a_ok (i + 3) sL := a_ok8 h0 h1 h2 (by decide)
  have o4 : a_ok (i + 4) sL := a_ok8 h0 h1 h2 (by decide)
  have o5 : a_ok (i + 5) sL := a_ok8 h0 h1 h2 (by decide)
  have o6 : a_ok (i + 6) sL := a_ok8 h0 h1 h2 (by decide)
  have o7 : a_ok (i + 7) sL := a_ok8 h0 h1 h2 (by decide)
  simp only [qL_1287, qL_1288, qL_1289, qL_1290, qL_1291, qL_1292, qL_1293, qL_1294, qL_1295, qL_1296, qL_1297, qL_1298, qL_1299, qL_1300, qL_1301, qL_1302, qL_1303, qL_1306, qL_1307, qL_1310, qL_1311, as_nil, as_i, as_r, Nat.reduceAdd, Nat.reduceLeDiff, z_eq0, z_eq1, z_or, z_em, Classical.not_not, not_false_eq_true, not_true_eq_false, true_and, and_true, false_and, and_false, and_self, true_implies, false_implies, implies_true, Option.toList_some, Option.toList_none, List.cons_append, List.nil_append, Nat.add_eq_zero_iff, a_nl_i, a_nl_r, a_nl_n, true_or, or_true, eq_self, a_isRA_22, a_isRA_24, a_isRA_32, a_isA_20, kb, o1, o2, o3, o4, o5, o6, o7, k_0 hS, z_C hS]
  have hgo : ∀ w : Int32, (w = 0 ∨ w = 1) → (w = if sx (i + 3).toNatClampNeg = 0 then 0 else 1) → a_does 700 147 [a_rf C, .int (sx (i + 1).toNatClampNeg), .int (sx (i + 2).toNatClampNeg), .int w] (n + 1, t, K, L, J, R) (fun r h' => a_at 700 (lx b sL sx) 1314 [some (.ref b), some (a_rf C), some (a_rf (C + 44)), some (.int i)] (r.toList ++ []) h' P) := fun w hw hq => by
    refine cd_wish hw hb h (fun n2 t2 K2 L2 J2 R2 hx => ?_)
    have kb2 := hx.1.2.2.2.2
    have hm := hx.1.2.1
    have hgo2 : a_does 700 250 [a_rf (C + 44), .int (sx (i + 1).toNatClampNeg), .int (sx (i + 2).toNatClampNeg), .int w] (n2 + 1, t2, K2, L2, J2, R2) (fun r h' => a_at 700 (lx b sL sx) 1342 [some (.ref b), some (a_rf C), some (a_rf (C + 44)), some (.int i)] (r.toList ++ []) h' P) := by
      refine rd_wish hw hx hc (fun J3 hI => ?_)
      simp only [qL_1342, qL_1343, as_nil, as_i, as_r, Nat.reduceAdd, Nat.reduceLeDiff, z_eq0, z_eq1, z_or, z_em, Classical.not_not, not_false_eq_true, not_true_eq_false, true_and, and_true, false_and, and_false, and_self, true_implies, false_implies, implies_true, Option.toList_some, Option.toList_none, List.cons_append, List.nil_append, Nat.add_eq_zero_iff, a_nl_i, a_nl_r, a_nl_n, true_or, or_true, eq_self, a_isRA_22, a_isRA_24, a_isRA_32, a_isA_20]
      exact hn _ _ _ _ _ _ hI
    simp only [qL_1314, qL_1315, qL_1316, qL_1317, qL_1318, qL_1319, qL_1320, qL_1321, qL_1322, qL_1323, qL_1324, qL_1325, qL_1326, qL_1327, qL_1328, qL_1329, qL_1330, qL_1331, qL_1334, qL_1335, qL_1338, qL_1339, as_nil, as_i, as_r, Nat.reduceAdd, Nat.reduceLeDiff, z_eq0, z_eq1, z_or, z_em, Classical.not_not, not_false_eq_true, not_true_eq_false, true_and, and_true, false_and, and_false, and_self, true_implies, false_implies, implies_true, Option.toList_some, Option.toList_none, List.cons_append, List.nil_append, Nat.add_eq_zero_iff, a_nl_i, a_nl_r, a_nl_n, true_or, or_true, eq_self, a_isRA_22, a_isRA_24, a_isRA_32, a_isA_20, kb2, o1, o2, o3, o4, o5, o6, o7, m_0 hm, m_K hm]
    refine ⟨fun q => ?_, fun q => ?_⟩
    · first
        | (have e : w = 0 := by rw [hq, if_pos q]
           subst e
           exact hgo2)
        | (have e : w = 1 := by rw [hq, if_neg q]
           subst e
           exact hgo2)
    · first
        | (have e : w = 0 := by rw [hq, if_pos q]
           subst e
           exact hgo2)
        | (have e : w = 1 := by rw [hq, if_neg q]
           subst e
           exact hgo2)
  refine ⟨fun q => ?_, fun q => ?_⟩
  · first
      | exact hgo 1 (Or.inr rfl) (by rw [if_neg q])
      | exact hgo 0 (Or.inl rfl) (by rw [if_pos q])
  · first
      | exact hgo 0 (Or.inl rfl) (by rw [if_pos q])
      | exact hgo 1 (Or.inr rfl) (by rw [if_neg q])
      | exact hgo 0 (Or.inl rfl) (by rw [if_pos (Classical.byContradiction q)])
theorem lc_ring (hb : b < C) (h : lawI b C c n t K L J R) (hc : 120 * c + 130 ≤ 84000) {i : Int32} (h0 : 0 ≤ i) (h1 : i.toInt + 8 ≤ sL) (h2 : sL ≤ 4096) (hn : ∀ n t K L J R, lawI b C (c + 1) n t K L J R → a_at 700 (lx b sL sx) 1547 [some (.ref b), some (a_rf C), some (a_rf (C + 44)), some (.int i)] [] (n + 1, t, K, L, J, R) P) : a_at 700 (lx b sL sx) 1346 [some (.ref b), some (a_rf C), some (a_rf (C + 44)), some (.int i)] [] (n + 1, t, K, L, J, R) P := by
  have hS := h.1.1.s
  have kb := h.2.2.2.2.1
  have o1 : a_ok (i + 1) sL := a_ok8 h0 h1 h2 (by decide)
  have o2 : a_ok (i + 2) sL := a_ok8 h0 h1 h2 (by decide)
  have o3 : a_ok (i + 3) sL := a_ok8 h0 h1 h2 (by decide)
  have o4 : a_ok (i + 4) sL := a_ok8 h0 h1 h2 (by decide)
  have o5 : a_ok (i + 5) sL := a_ok8 h0 h1 h2 (by decide)
  have o6 : a_ok (i + 6) sL := a_ok8 h0 h1 h2 (by decide)
  have o7 : a_ok (i + 7) sL := a_ok8 h0 h1 h2 (by decide)
  simp only [qL_1346, qL_1347, qL_1348, qL_1349, qL_1350, qL_1351, qL_1352, as_nil, as_i, as_r, Nat.reduceAdd, Nat.reduceLeDiff, z_eq0, z_eq1, z_or, z_em, Classical.not_not, not_false_eq_true, not_true_eq_false, true_and, and_true, false_and, and_false, and_self, true_implies, false_implies, implies_true, Option.toList_some, Option.toList_none, List.cons_append, List.nil_append, Nat.add_eq_zero_iff, a_nl_i, a_nl_r, a_nl_n, true_or, or_true, eq_self, a_isRA_22, a_isRA_24, a_isRA_32, a_isA_20, kb, o1, o2, o3, o4, o5, o6, o7, k_0 hS, z_C hS]
  refine cd_ring hb h (fun v n2 t2 K2 L2 J2 R2 ho hx => ?_)
  have kb2 := hx.1.2.2.2.2
  have hm := hx.1.2.1
  simp only [qL_1355, qL_1356, qL_1357, qL_1358, qL_1359, qL_1360, qL_1361, qL_1362, as_nil, as_i, as_r, Nat.reduceAdd, Nat.reduceLeDiff, z_eq0, z_eq1, z_or, z_em, Classical.not_not, not_false_eq_true, not_true_eq_false, true_and, and_true, false_and, and_false, and_self, true_implies, false_implies, implies_true, Option.toList_some, Option.toList_none, List.cons_append, List.nil_append, Nat.add_eq_zero_iff, a_nl_i, a_nl_r, a_nl_n, true_or, or_true, eq_self, a_isRA_22, a_isRA_24, a_isRA_32, a_isA_20, kb2, o1, o2, o3, o4, o5, o6, o7, m_0 hm, m_K hm]
  refine rd_ring hx hc ho (fun J3 hI => ?_)
  simp only [qL_1365, qL_1366, as_nil, as_i, as_r, Nat.reduceAdd, Nat.reduceLeDiff, z_eq0, z_eq1, z_or, z_em, Classical.not_not, not_false_eq_true, not_true_eq_false, true_and, and_true, false_and, and_false, and_self, true_implies, false_implies, implies_true, Option.toList_some, Option.toList_none, List.cons_append, List.nil_append, Nat.add_eq_zero_iff, a_nl_i, a_nl_r, a_nl_n, true_or, or_true, eq_self, a_isRA_22, a_isRA_24, a_isRA_32, a_isA_20]
  exact hn _ _ _ _ _ _ hI
theorem lc_swap (hb : b < C) (h : lawI b C c n t K L J R) (hc : 120 * c + 130 ≤ 84000) {i : Int32} (h0 : 0 ≤ i) (h1 : i.toInt + 8 ≤ sL) (h2 : sL ≤ 4096) (hn : ∀ n t K L J R, lawI b C (c + 1) n t K L J R → a_at 700 (lx b sL sx) 1547 [some (.ref b), some (a_rf C), some (a_rf (C + 44)), some (.int i)] [] (n + 1, t, K, L, J, R) P) : a_at 700 (lx b sL sx) 1369 [some (.ref b), some (a_rf C), some (a_rf (C + 44)), some (.int i)] [] (n + 1, t, K, L, J, R) P := by
  have hS := h.1.1.s
  have kb := h.2.2.2.2.1
  have o1 : a_ok (i + 1) sL := a_ok8 h0 h1 h2 (by decide)
  have o2 : a_ok (i + 2) sL := a_ok8 h0 h1 h2 (by decide)
  have o3 : a_ok (i + 3) sL := a_ok8 h0 h1 h2 (by decide)
  have o4 : a_ok (i + 4) sL := a_ok8 h0 h1 h2 (by decide)
  have o5 : a_ok (i + 5) sL := a_ok8 h0 h1 h2 (by decide)
  have o6 : a_ok (i + 6) sL := a_ok8 h0 h1 h2 (by decide)
  have o7 : a_ok (i + 7) sL := a_ok8 h0 h1 h2 (by decide)
  simp only [qL_1369, qL_1370, as_nil, as_i, as_r, Nat.reduceAdd, Nat.reduceLeDiff, z_eq0, z_eq1, z_or, z_em, Classical.not_not, not_false_eq_true, not_true_eq_false, true_and, and_true, false_and, and_false, and_self, true_implies, false_implies, implies_true, Option.toList_some, Option.toList_none, List.cons_append, List.nil_append, Nat.add_eq_zero_iff, a_nl_i, a_nl_r, a_nl_n, true_or, or_true, eq_self, a_isRA_22, a_isRA_24, a_isRA_32, a_isA_20, kb, o1, o2, o3, o4, o5, o6, o7, k_0 hS, z_C hS]
  refine cd_swap hb h (fun v Z2 n2 t2 K2 L2 J2 R2 ho hx => ?_)
  have kb2 := hx.1.2.2.2.2
  have hm := hx.1.2.1
  simp only [qL_1373, qL_1374, as_nil, as_i, as_r, Nat.reduceAdd, Nat.reduceLeDiff, z_eq0, z_eq1, z_or, z_em, Classical.not_not, not_false_eq_true, not_true_eq_false, true_and, and_true, false_and, and_false, and_self, true_implies, false_implies, implies_true, Option.toList_some, Option.toList_none, List.cons_append, List.nil_append, Nat.add_eq_zero_iff, a_nl_i, a_nl_r, a_nl_n, true_or, or_true, eq_self, a_isRA_22, a_isRA_24, a_isRA_32, a_isA_20, kb2, o1, o2, o3, o4, o5, o6, o7, m_0 hm, m_K hm]
  refine rd_swap hx hc ho (fun J3 hI => ?_)
  simp only [qL_1377, qL_1380, qL_1381, as_nil, as_i, as_r, Nat.reduceAdd, Nat.reduceLeDiff, z_eq0, z_eq1, z_or, z_em, Classical.not_not, not_false_eq_true, not_true_eq_false, true_and, and_true, false_and, and_false, and_self, true_implies, false_implies, implies_true, Option.toList_some, Option.toList_none, List.cons_append, List.nil_append, Nat.add_eq_zero_iff, a_nl_i, a_nl_r, a_nl_n, true_or, or_true, eq_self, a_isRA_22, a_isRA_24, a_isRA_32, a_isA_20]
  first
    | exact hn _ _ _ _ _ _ hI
    | exact ⟨fun _ => hn _ _ _ _ _ _ hI, fun q9 => absurd rfl q9⟩
theorem lc_had (hb : b < C) (h : lawI b C c n t K L J R) (hc : 120 * c + 130 ≤ 84000) {i : Int32} (h0 : 0 ≤ i) (h1 : i.toInt + 8 ≤ sL) (h2 : sL ≤ 4096) (hn : ∀ n t K L J R, lawI b C (c + 1) n t K L J R → a_at 700 (lx b sL sx) 1547 [some (.ref b), some (a_rf C), some (a_rf (C + 44)), some (.int i)] [] (n + 1, t, K, L, J, R) P) : a_at 700 (lx b sL sx) 1382 [some (.ref b), some (a_rf C), some (a_rf (C + 44)), some (.int i)] [] (n + 1, t, K, L, J, R) P := by
  have hS := h.1.1.s
  have kb := h.2.2.2.2.1
  have o1 : a_ok (i + 1) sL := a_ok8 h0 h1 h2 (by decide)
  have o2 : a_ok (i + 2) sL := a_ok8 h0 h1 h2 (by decide)
  have o3 : a_ok (i + 3) sL := a_ok8 h0 h1 h2 (by decide)
  have o4 : a_ok (i + 4) sL := a_ok8 h0 h1 h2 (by decide)
  have o5 : a_ok (i + 5) sL := a_ok8 h0 h1 h2 (by decide)
  have o6 : a_ok (i + 6) sL := a_ok8 h0 h1 h2 (by decide)
  have o7 : a_ok (i + 7) sL := a_ok8 h0 h1 h2 (by decide)
  simp only [qL_1382, qL_1383, qL_1384, qL_1385, qL_1386, qL_1387, qL_1388, qL_1389, qL_1390, qL_1391, qL_1392, qL_1393, qL_1394, qL_1395, qL_1396, qL_1397, qL_1398, as_nil, as_i, as_r, Nat.reduceAdd, Nat.reduceLeDiff, z_eq0, z_eq1, z_or, z_em, Classical.not_not, not_false_eq_true, not_true_eq_false, true_and, and_true, false_and, and_false, and_self, true_implies, false_implies, implies_true, Option.toList_some, Option.toList_none, List.cons_append, List.nil_append, Nat.add_eq_zero_iff, a_nl_i, a_nl_r, a_nl_n, true_or, or_true, eq_self, a_isRA_22, a_isRA_24, a_isRA_32, a_isA_20, kb, o1, o2, o3, o4, o5, o6, o7, k_0 hS, z_C hS]
  refine cd_had hb h (fun v n2 t2 K2 L2 J2 R2 hx => ?_)
  have kb2 := hx.1.2.2.2.2
  have hm := hx.1.2.1
  simp only [qL_1401, qL_1402, qL_1403, qL_1404, qL_1405, qL_1406, qL_1407, qL_1408, qL_1409, qL_1410, qL_1411, qL_1412, qL_1413, qL_1414, qL_1415, qL_1416, qL_1417, qL_1418, as_nil, as_i, as_r, Nat.reduceAdd, Nat.reduceLeDiff, z_eq0, z_eq1, z_or, z_em, Classical.not_not, not_false_eq_true, not_true_eq_false, true_and, and_true, false_and, and_false, and_self, true_implies, false_implies, implies_true, Option.toList_some, Option.toList_none, List.cons_append, List.nil_append, Nat.add_eq_zero_iff, a_nl_i, a_nl_r, a_nl_n, true_or, or_true, eq_self, a_isRA_22, a_isRA_24, a_isRA_32, a_isA_20, kb2, o1, o2, o3, o4, o5, o6, o7, m_0 hm, m_K hm]
  refine rd_had hx hc (fun v2 J3 hI => ?_)
  simp only [qL_1421, qL_1422, as_nil, as_i, as_r, Nat.reduceAdd, Nat.reduceLeDiff, z_eq0, z_eq1, z_or, z_em, Classical.not_not, not_false_eq_true, not_true_eq_false, true_and, and_true, false_and, and_false, and_self, true_implies, false_implies, implies_true, Option.toList_some, Option.toList_none, List.cons_append, List.nil_append, Nat.add_eq_zero_iff, a_nl_i, a_nl_r, a_nl_n, true_or, or_true, eq_self, a_isRA_22, a_isRA_24, a_isRA_32, a_isA_20]
  exact hn _ _ _ _ _ _ hI
theorem lc_lead (hb : b < C) (h : lawI b C c n t K L J R) (hc : 120 * c + 130 ≤ 84000) {i : Int32} (h0 : 0 ≤ i) (h1 : i.toInt + 8 ≤ sL) (h2 : sL ≤ 4096) (hn : ∀ n t K L J R, lawI b C (c + 1) n t K L J R → a_at 700 (lx b sL sx) 1547 [some (.ref b), some (a_rf C), some (a_rf (C + 44)), some (.int i)] [] (n + 1, t, K, L, J, R) P) : a_at 700 (lx b sL sx) 1425 [some (.ref b), some (a_rf C), some (a_rf (C + 44)), some (.int i)] [] (n + 1, t, K, L, J, R) P := by
  have hS := h.1.1.s
  have kb := h.2.2.2.2.1
  have o1 : a_ok (i + 1) sL := a_ok8 h0 h1 h2 (by decide)
  have o2 : a_ok (i + 2) sL := a_ok8 h0 h1 h2 (by decide)
  have o3 : a_ok (i + 3) sL := a_ok8 h0 h1 h2 (by decide)
  have o4 : a_ok (i + 4) sL := a_ok8 h0 h1 h2 (by decide)
  have o5 : a_ok (i + 5) sL := a_ok8 h0 h1 h2 (by decide)
  have o6 : a_ok (i + 6) sL := a_ok8 h0 h1 h2 (by decide)
  have o7 : a_ok (i + 7) sL := a_ok8 h0 h1 h2 (by decide)
  simp only [qL_1425, qL_1426, qL_1427, qL_1428, qL_1429, qL_1430, qL_1431, qL_1432, qL_1433, qL_1434, qL_1435, qL_1436, as_nil, as_i, as_r, Nat.reduceAdd, Nat.reduceLeDiff, z_eq0, z_eq1, z_or, z_em, Classical.not_not, not_false_eq_true, not_true_eq_false, true_and, and_true, false_and, and_false, and_self, true_implies, false_implies, implies_true, Option.toList_some, Option.toList_none, List.cons_append, List.nil_append, Nat.add_eq_zero_iff, a_nl_i, a_nl_r, a_nl_n, true_or, or_true, eq_self, a_isRA_22, a_isRA_24, a_isRA_32, a_isA_20, kb, o1, o2, o3, o4, o5, o6, o7, k_0 hS, z_C hS]
  refine cd_lead hb h (fun v n2 t2 K2 L2 J2 R2 hx => ?_)
  have kb2 := hx.1.2.2.2.2
  have hm := hx.1.2.1
  simp only [qL_1439, qL_1440, qL_1441, qL_1442, qL_1443, qL_1444, qL_1445, qL_1446, qL_1447, qL_1448, qL_1449, qL_1450, qL_1451, as_nil, as_i, as_r, Nat.reduceAdd, Nat.reduceLeDiff, z_eq0, z_eq1, z_or, z_em, Classical.not_not, not_false_eq_true, not_true_eq_false, true_and, and_true, false_and, and_false, and_self, true_implies, false_implies, implies_true, Option.toList_some, Option.toList_none, List.cons_append, List.nil_append, Nat.add_eq_zero_iff, a_nl_i, a_nl_r, a_nl_n, true_or, or_true, eq_self, a_isRA_22, a_isRA_24, a_isRA_32, a_isA_20, kb2, o1, o2, o3, o4, o5, o6, o7, m_0 hm, m_K hm]
  refine rd_lead hx hc (fun v2 J3 hI => ?_)
  simp only [qL_1454, qL_1455, as_nil, as_i, as_r, Nat.reduceAdd, Nat.reduceLeDiff, z_eq0, z_eq1, z_or, z_em, Classical.not_not, not_false_eq_true, not_true_eq_false, true_and, and_true, false_and, and_false, and_self, true_implies, false_implies, implies_true, Option.toList_some, Option.toList_none, List.cons_append, List.nil_append, Nat.add_eq_zero_iff, a_nl_i, a_nl_r, a_nl_n, true_or, or_true, eq_self, a_isRA_22, a_isRA_24, a_isRA_32, a_isA_20]
  exact hn _ _ _ _ _ _ hI
theorem lc_put (hb : b < C) (h : lawI b C c n t K L J R) (hc : 120 * c + 130 ≤ 84000) {i : Int32} (h0 : 0 ≤ i) (h1 : i.toInt + 8 ≤ sL) (h2 : sL ≤ 4096) (hn : ∀ n t K L J R, lawI b C (c + 1) n t K L J R → a_at 700 (lx b sL sx) 1547 [some (.ref b), some (a_rf C), some (a_rf (C + 44)), some (.int i)] [] (n + 1, t, K, L, J, R) P) : a_at 700 (lx b sL sx) 1458 [some (.ref b), some (a_rf C), some (a_rf (C + 44)), some (.int i)] [] (n + 1, t, K, L, J, R) P := by
  have hS := h.1.1.s
  have kb := h.2.2.2.2.1
  have o1 : a_ok (i + 1) sL := a_ok8 h0 h1 h2 (by decide)
  have o2 : a_ok (i + 2) sL := a_ok8 h0 h1 h2 (by decide)
  have o3 : a_ok (i + 3) sL := a_ok8 h0 h1 h2 (by decide)
  have o4 : a_ok (i + 4) sL := a_ok8 h0 h1 h2 (by decide)
  have o5 : a_ok (i + 5) sL := a_ok8 h0 h1 h2 (by decide)
  have o6 : a_ok (i + 6) sL := a_ok8 h0 h1 h2 (by decide)
  have o7 : a_ok (i + 7) sL := a_ok8 h0 h1 h2 (by decide)
  simp only [qL_1458, qL_1459, qL_1460, qL_1461, qL_1462, qL_1463, qL_1464, as_nil, as_i, as_r, Nat.reduceAdd, Nat.reduceLeDiff, z_eq0, z_eq1, z_or, z_em, Classical.not_not, not_false_eq_true, not_true_eq_false, true_and, and_true, false_and, and_false, and_self, true_implies, false_implies, implies_true, Option.toList_some, Option.toList_none, List.cons_append, List.nil_append, Nat.add_eq_zero_iff, a_nl_i, a_nl_r, a_nl_n, true_or, or_true, eq_self, a_isRA_22, a_isRA_24, a_isRA_32, a_isA_20, kb, o1, o2, o3, o4, o5, o6, o7, k_0 hS, z_C hS]
  refine cd_put hb h (fun n2 t2 K2 L2 J2 R2 hx => ?_)
  have kb2 := hx.1.2.2.2.2
  have hm := hx.1.2.1
  simp only [qL_1467, qL_1468, qL_1469, qL_1470, qL_1471, qL_1472, qL_1473, qL_1474, as_nil, as_i, as_r, Nat.reduceAdd, Nat.reduceLeDiff, z_eq0, z_eq1, z_or, z_em, Classical.not_not, not_false_eq_true, not_true_eq_false, true_and, and_true, false_and, and_false, and_self, true_implies, false_implies, implies_true, Option.toList_some, Option.toList_none, List.cons_append, List.nil_append, Nat.add_eq_zero_iff, a_nl_i, a_nl_r, a_nl_n, true_or, or_true, eq_self, a_isRA_22, a_isRA_24, a_isRA_32, a_isA_20, kb2, o1, o2, o3, o4, o5, o6, o7, m_0 hm, m_K hm]
  refine rd_put hx hc (fun J3 hI => ?_)
  simp only [qL_1477, qL_1478, as_nil, as_i, as_r, Nat.reduceAdd, Nat.reduceLeDiff, z_eq0, z_eq1, z_or, z_em, Classical.not_not, not_false_eq_true, not_true_eq_false, true_and, and_true, false_and, and_false, and_self, true_implies, false_implies, implies_true, Option.toList_some, Option.toList_none, List.cons_append, List.nil_append, Nat.add_eq_zero_iff, a_nl_i, a_nl_r, a_nl_n, true_or, or_true, eq_self, a_isRA_22, a_isRA_24, a_isRA_32, a_isA_20]
  exact hn _ _ _ _ _ _ hI
theorem lc_check (hb : b < C) (h : lawI b C c n t K L J R) (hc : 120 * c + 130 ≤ 84000) {i : Int32} (h0 : 0 ≤ i) (h1 : i.toInt + 8 ≤ sL) (h2 : sL ≤ 4096) (hn : ∀ n t K L J R, lawI b C (c + 1) n t K L J R → a_at 700 (lx b sL sx) 1547 [some (.ref b), some (a_rf C), some (a_rf (C + 44)), some (.int i)] [] (n + 1, t, K, L, J, R) P) : a_at 700 (lx b sL sx) 1481 [some (.ref b), some (a_rf C), some (a_rf (C + 44)), some (.int i)] [] (n + 1, t, K, L, J, R) P := by
  have hS := h.1.1.s
  have kb := h.2.2.2.2.1
  have o1 : a_ok (i + 1) sL := a_ok8 h0 h1 h2 (by decide)
  have o2 : a_ok (i + 2) sL := a_ok8 h0 h1 h2 (by decide)
  have o3 : a_ok (i + 3) sL := a_ok8 h0 h1 h2 (by decide)
  have o4 : a_ok (i + 4) sL := a_ok8 h0 h1 h2 (by decide)
  have o5 : a_ok (i + 5) sL := a_ok8 h0 h1 h2 (by decide)
  have o6 : a_ok (i + 6) sL := a_ok8 h0 h1 h2 (by decide)
  have o7 : a_ok (i + 7) sL := a_ok8 h0 h1 h2 (by decide)
  simp only [qL_1481, qL_1482, qL_1483, qL_1484, qL_1485, qL_1486, qL_1487, qL_1488, qL_1489, qL_1490, qL_1491, qL_1492, qL_1493, qL_1494, qL_1495, qL_1496, qL_1497, as_nil, as_i, as_r, Nat.reduceAdd, Nat.reduceLeDiff, z_eq0, z_eq1, z_or, z_em, Classical.not_not, not_false_eq_true, not_true_eq_false, true_and, and_true, false_and, and_false, and_self, true_implies, false_implies, implies_true, Option.toList_some, Option.toList_none, List.cons_append, List.nil_append, Nat.add_eq_zero_iff, a_nl_i, a_nl_r, a_nl_n, true_or, or_true, eq_self, a_isRA_22, a_isRA_24, a_isRA_32, a_isA_20, kb, o1, o2, o3, o4, o5, o6, o7, k_0 hS, z_C hS]
  refine cd_check hb h (fun v n2 t2 K2 L2 J2 R2 hx => ?_)
  have kb2 := hx.1.2.2.2.2
  have hm := hx.1.2.1
  simp only [qL_1500, qL_1501, qL_1502, qL_1503, qL_1504, qL_1505, qL_1506, qL_1507, qL_1508, qL_1509, qL_1510, qL_1511, qL_1512, qL_1513, qL_1514, qL_1515, qL_1516, qL_1517, as_nil, as_i, as_r, Nat.reduceAdd, Nat.reduceLeDiff, z_eq0, z_eq1, z_or, z_em, Classical.not_not, not_false_eq_true, not_true_eq_false, true_and, and_true, false_and, and_false, and_self, true_implies, false_implies, implies_true, Option.toList_some, Option.toList_none, List.cons_append, List.nil_append, Nat.add_eq_zero_iff, a_nl_i, a_nl_r, a_nl_n, true_or, or_true, eq_self, a_isRA_22, a_isRA_24, a_isRA_32, a_isA_20, kb2, o1, o2, o3, o4, o5, o6, o7, m_0 hm, m_K hm]
  refine rd_check hx hc (fun v2 J3 hI => ?_)
  simp only [qL_1520, qL_1521, as_nil, as_i, as_r, Nat.reduceAdd, Nat.reduceLeDiff, z_eq0, z_eq1, z_or, z_em, Classical.not_not, not_false_eq_true, not_true_eq_false, true_and, and_true, false_and, and_false, and_self, true_implies, false_implies, implies_true, Option.toList_some, Option.toList_none, List.cons_append, List.nil_append, Nat.add_eq_zero_iff, a_nl_i, a_nl_r, a_nl_n, true_or, or_true, eq_self, a_isRA_22, a_isRA_24, a_isRA_32, a_isA_20]
  exact hn _ _ _ _ _ _ hI
theorem lc_count (hb : b < C) (h : lawI b C c n t K L J R) (hc : 120 * c + 130 ≤ 84000) {i : Int32} (h0 : 0 ≤ i) (h1 : i.toInt + 8 ≤ sL) (h2 : sL ≤ 4096) (hn : ∀ n t K L J R, lawI b C (c + 1) n t K L J R → a_at 700 (lx b sL sx) 1547 [some (.ref b), some (a_rf C), some (a_rf (C + 44)), some (.int i)] [] (n + 1, t, K, L, J, R) P) : a_at 700 (lx b sL sx) 1524 [some (.ref b), some (a_rf C), some (a_rf (C + 44)), some (.int i)] [] (n + 1, t, K, L, J, R) P := by
  have hS := h.1.1.s
  have kb := h.2.2.2.2.1
  have o1 : a_ok (i + 1) sL := a_ok8 h0 h1 h2 (by decide)
  have o2 : a_ok (i + 2) sL := a_ok8 h0 h1 h2 (by decide)
  have o3 : a_ok (i + 3) sL := a_ok8 h0 h1 h2 (by decide)
  have o4 : a_ok (i + 4) sL := a_ok8 h0 h1 h2 (by decide)
  have o5 : a_ok (i + 5) sL := a_ok8 h0 h1 h2 (by decide)
  have o6 : a_ok (i + 6) sL := a_ok8 h0 h1 h2 (by decide)
  have o7 : a_ok (i + 7) sL := a_ok8 h0 h1 h2 (by decide)
  simp only [qL_1524, qL_1525, qL_1526, qL_1527, qL_1528, qL_1529, qL_1530, as_nil, as_i, as_r, Nat.reduceAdd, Nat.reduceLeDiff, z_eq0, z_eq1, z_or, z_em, Classical.not_not, not_false_eq_true, not_true_eq_false, true_and, and_true, false_and, and_false, and_self, true_implies, false_implies, implies_true, Option.toList_some, Option.toList_none, List.cons_append, List.nil_append, Nat.add_eq_zero_iff, a_nl_i, a_nl_r, a_nl_n, true_or, or_true, eq_self, a_isRA_22, a_isRA_24, a_isRA_32, a_isA_20, kb, o1, o2, o3, o4, o5, o6, o7, k_0 hS, z_C hS]
  refine cd_count hb h (fun v n2 t2 K2 L2 J2 R2 hx => ?_)
  have kb2 := hx.1.2.2.2.2
  have hm := hx.1.2.1
  simp only [qL_1533, qL_1534, qL_1535, qL_1536, qL_1537, qL_1538, qL_1539, qL_1540, as_nil, as_i, as_r, Nat.reduceAdd, Nat.reduceLeDiff, z_eq0, z_eq1, z_or, z_em, Classical.not_not, not_false_eq_true, not_true_eq_false, true_and, and_true, false_and, and_false, and_self, true_implies, false_implies, implies_true, Option.toList_some, Option.toList_none, List.cons_append, List.nil_append, Nat.add_eq_zero_iff, a_nl_i, a_nl_r, a_nl_n, true_or, or_true, eq_self, a_isRA_22, a_isRA_24, a_isRA_32, a_isA_20, kb2, o1, o2, o3, o4, o5, o6, o7, m_0 hm, m_K hm]
  refine rd_count hx hc (fun v2 J3 hI => ?_)
  simp only [qL_1543, qL_1544, as_nil, as_i, as_r, Nat.reduceAdd, Nat.reduceLeDiff, z_eq0, z_eq1, z_or, z_em, Classical.not_not, not_false_eq_true, not_true_eq_false, true_and, and_true, false_and, and_false, and_self, true_implies, false_implies, implies_true, Option.toList_some, Option.toList_none, List.cons_append, List.nil_append, Nat.add_eq_zero_iff, a_nl_i, a_nl_r, a_nl_n, true_or, or_true, eq_self, a_isRA_22, a_isRA_24, a_isRA_32, a_isA_20]
  exact hn _ _ _ _ _ _ hI
end KO
/-! the first place -/
section YE0
variable {d n t M : Nat} {K L : Nat → Nat} {I I0 J J0 J1 J2 : Nat → Nat → Int32} {R : Nat → Nat → Nat} {P : Option Value → AH → Prop} {f : Nat → Int32} {e : Int32}
variable {Y Z : Nat → Nat → Int32}
theorem ft_0 {a b f : Int32} : ∀ (k : Nat) (i : Int32), ftI Y a b f k i = 0 → ∀ x : Nat, x < k → ¬ 0 < brY Y a b (f + (i + Int32.ofNat x)) f := by
  intro k
  induction k with
  | zero => intro i _ x hx; exact absurd hx (Nat.not_lt_zero x)
  | succ k ih =>
    intro i h x hx
    unfold ftI at h
    by_cases c : 0 < brY Y a b (f + i) f
    · rw [if_pos c] at h
      rw [h] at c
      exact absurd c (by decide)
    · rw [if_neg c] at h
      cases x with
      | zero =>
        rw [show Int32.ofNat 0 = 0 from rfl, Int32.add_zero]
        exact c
      | succ x =>
        have := ih (i + 1) h x (by omega)
        rw [Int32.add_assoc, Int32.add_comm 1] at this
        rw [Int32.ofNat_add]
        exact this
/-- what a place at which an ASK fits is like -/
theorem ft_br {a b f : Int32} (h : ftY Y a b f = 0) {i : Int32} (h0 : 0 ≤ i) (h1 : i < Y 10 a.toNatClampNeg) : brY Y a b (f + i) f = 0 := by
  have := ft_0 (Y := Y) (a := a) (b := b) (f := f) _ 0 h i.toNatClampNeg (cl_lt h0 h1)
  rw [Int32.zero_add, ← on_cl h0] at this
  exact Int32.le_antisymm (Int32.not_lt.mp this) brY_rng
theorem br_fx {a b s f : Int32} (h : brY Y a b s f = 0) : fxY Y a b s = 0 ∧ hgI Y a b s (Y 0 17).toNatClampNeg 0 0 = 0 := by
  unfold brY at h
  by_cases c : fxY Y a b s = 0
  · rw [if_neg (fun q => q c)] at h
    by_cases c2 : hgI Y a b s (Y 0 17).toNatClampNeg 0 0 = 0
    · exact ⟨c, c2⟩
    · rw [if_pos c2] at h
      exact absurd h c2
  · rw [if_pos c] at h
    exact absurd h c
theorem ft_in {a b f : Int32} (h : ftY Y a b f = 0) (hl : 1 ≤ Y 10 a.toNatClampNeg ∧ Y 10 a.toNatClampNeg ≤ 4) (hf : 0 ≤ f ∧ f ≤ 500) : f ≤ 199 ∧ f + Y 10 a.toNatClampNeg ≤ 200 := by
  have h1 := fx_lt (br_fx (ft_br h (i := 0) (by decide) (by clear h; grind))).1
  have h2 := fx_lt (br_fx (ft_br h (i := Y 10 a.toNatClampNeg - 1) (by clear h h1; grind) (by clear h h1; grind))).1
  clear h
  rw [Int32.add_zero] at h1
  grind
theorem gf_b {a s m : Int32} : ∀ (k : Nat) (b : Int32), 0 ≤ b → b ≤ m → m.toNatClampNeg = b.toNatClampNeg + k → 0 ≤ gfB Y a s k b → ftY Y a (gfB Y a s k b) s = 0 ∧ 0 ≤ gfB Y a s k b ∧ gfB Y a s k b < m := by
  intro k
  induction k with
  | zero => intro b _ _ _ h; exact absurd h (by unfold gfB; decide)
  | succ k ih =>
    intro b h0 h1 h2 h
    have w : b < m := cl_lt2 h0 (Int32.le_trans h0 h1) (by omega)
    obtain ⟨s1, s2, s3, s4⟩ := lp_st h0 w
    unfold gfB at h ⊢
    by_cases c : ftY Y a b s = 0
    · rw [if_pos c] at h ⊢
      exact ⟨c, h0, w⟩
    · rw [if_neg c] at h ⊢
      exact ih (b + 1) s2 s3 (by omega) h
theorem gs_nx {s l e : Int32} (hl : 1 ≤ l ∧ l ≤ 4) (he : e ≤ 199) (hs : 0 ≤ s ∧ s ≤ 210) (h : ¬ e < s + l - 1) : (0 ≤ s + 1 ∧ s + 1 ≤ 210) ∧ s ≤ 199 := by
  have a0 := Int32.le_iff_toInt_le.mp hs.1
  have a1 := Int32.le_iff_toInt_le.mp hs.2
  have b0 := Int32.le_iff_toInt_le.mp hl.1
  have b1 := Int32.le_iff_toInt_le.mp hl.2
  have c0 := Int32.le_iff_toInt_le.mp he
  have d0 := Int32.le_iff_toInt_le.mp (Int32.not_lt.mp h)
  have w0 : (0 : Int32).toInt = 0 := rfl
  have w1 : (1 : Int32).toInt = 1 := rfl
  have w4 : (4 : Int32).toInt = 4 := rfl
  have w199 : (199 : Int32).toInt = 199 := rfl
  have w210 : (210 : Int32).toInt = 210 := rfl
  rw [w0] at a0
  rw [w210] at a1
  rw [w1] at b0
  rw [w4] at b1
  rw [w199] at c0
  have e1 : (s + l).toInt = s.toInt + l.toInt := by rw [Int32.toInt_add, in_bm (by omega) (by omega)]
  have e2 : (s + l - 1).toInt = s.toInt + l.toInt - 1 := by rw [Int32.toInt_sub, e1, w1, in_bm (by omega) (by omega)]
  have e3 : (s + 1).toInt = s.toInt + 1 := by rw [Int32.toInt_add, w1, in_bm (by omega) (by omega)]
  rw [e2] at d0
  exact ⟨⟨by rw [Int32.le_iff_toInt_le, e3, w0]; omega, by rw [Int32.le_iff_toInt_le, e3, w210]; omega⟩, by rw [Int32.le_iff_toInt_le, w199]; omega⟩
theorem gf_s (hb : 0 ≤ Y 0 6) {a e : Int32} (hl : 1 ≤ Y 10 a.toNatClampNeg ∧ Y 10 a.toNatClampNeg ≤ 4) (he : e ≤ 199) : ∀ (k : Nat) (s : Int32), 0 ≤ s ∧ s ≤ 210 → 0 ≤ (gfS Y a e k s).2 → ftY Y a (gfS Y a e k s).2 (gfS Y a e k s).1 = 0 ∧ (gfS Y a e k s).2 < Y 0 6 ∧ ¬ e < (gfS Y a e k s).1 + Y 10 a.toNatClampNeg - 1 ∧ 0 ≤ (gfS Y a e k s).1 ∧ (gfS Y a e k s).1 ≤ 210 := by
  intro k
  induction k with
  | zero => intro s _ h; exact absurd (show (0 : Int32) ≤ -1 from h) (by decide)
  | succ k ih =>
    intro s h0 h
    unfold gfS at h ⊢
    by_cases c : e < s + Y 10 a.toNatClampNeg - 1
    · rw [if_pos c] at h
      exact absurd (show (0 : Int32) ≤ -1 from h) (by decide)
    · rw [if_neg c] at h ⊢
      by_cases c2 : 0 ≤ gfB Y a s (Y 0 6).toNatClampNeg 0
      · rw [if_pos c2] at h ⊢
        obtain ⟨q1, q2, q3⟩ := gf_b (Y := Y) (a := a) (s := s) (m := Y 0 6) _ 0 (by decide) hb (by rw [show (0 : Int32).toNatClampNeg = 0 from rfl, Nat.zero_add]) c2
        exact ⟨q1, q3, c, h0⟩
      · rw [if_neg c2] at h ⊢
        exact ih (s + 1) (gs_nx hl he h0 c).1 h
/-- the first place is one -/
theorem gn_ok (hb : 0 ≤ Y 0 6) {a f e : Int32} (hl : 1 ≤ Y 10 a.toNatClampNeg ∧ Y 10 a.toNatClampNeg ≤ 4) (hf : 0 ≤ f ∧ f ≤ 210) (he : e ≤ 199) (h : 0 ≤ (gnY Y a f e).2) : ftY Y a (gnY Y a f e).2 (gnY Y a f e).1 = 0 ∧ (gnY Y a f e).2 < Y 0 6 ∧ (0 ≤ (gnY Y a f e).1 ∧ (gnY Y a f e).1 ≤ 199) ∧ (gnY Y a f e).1 + Y 10 a.toNatClampNeg ≤ 200 := by
  obtain ⟨q1, q2, q3, q4, q5⟩ := gf_s hb hl he 240 f hf h
  have q := ft_in q1 hl ⟨q4, Int32.le_trans q5 (by decide)⟩
  exact ⟨q1, q2, ⟨q4, q.1⟩, q.2⟩
theorem inP_gi (hi : inP Y) (hb : 0 ≤ Y 0 6 ∧ Y 0 6 ≤ 6) {a f e : Int32} {ok : Bool} (hl : 1 ≤ Y 10 a.toNatClampNeg ∧ Y 10 a.toNatClampNeg ≤ 4) (hf : 0 ≤ f ∧ f ≤ 210) (he : e ≤ 199) : inP (giY Y a f e ok) ∧ sbE Y (giY Y a f e ok) := by
  unfold giY
  by_cases c : ok = true ∧ 0 ≤ (gnY Y a f e).2
  · rw [if_pos c]
    obtain ⟨q1, q2, q3, q4⟩ := gn_ok hb.1 hl hf he c.2
    exact ⟨inP_pu hi ⟨q3.1, Int32.le_trans q3.2 (by decide), q4⟩ (by clear q1 q3 q4; grind), puY_b⟩
  · rw [if_neg c]
    exact ⟨hi, fun _ _ _ => rfl⟩
theorem yR_gs (hg : gs M I0 I Y) {W : Nat → Nat → Int32} (h : yR M I J W) (hp : psE Z W) : gs M I0 J Z := ⟨h.1, fun x j p => by rw [h.2.1 x j p]; exact hg.2.1 x j p, psE_tr hp (psE_of (fun k j p => h.2.2 k j (by unfold ps1 at p; omega) (by unfold ps1 at p; unfold mk0; omega)))⟩
/-- whether SHARE stands in the way -/
def okB (Y : Nat → Nat → Int32) (a f e w : Int32) : Bool := if w = 0 then true else shB Y a f e
theorem xt_giveFirst_21 (hS : m_S M K L R) (hm : moY Y) (h17 : 0 ≤ Y 0 17 ∧ Y 0 17 ≤ 30) (h10 : ∀ j, 0 ≤ Y 10 j ∧ Y 10 j ≤ 4) (h6 : 0 ≤ Y 0 6 ∧ Y 0 6 ≤ 6) {a f e w s : Int32} (ha : 0 ≤ a ∧ a < 30) (hs : 0 ≤ s ∧ s ≤ 199) {ev : Int32} (hev : ev ≤ 83996) {V : Int32} (hG : okB Y a f e w = true → 0 ≤ V → ∀ J, gs M I0 J (puY Y a V s) → P (some (.int 1)) (n, t, K, L, J, R)) (hN : ¬ (okB Y a f e w = true ∧ 0 ≤ V) → ∀ J b, gs M I0 J Y → J M 35 = ev → a_at (d + 11) (a_xm a_m238) 74 [some (a_rf M), some (.int a), some (.int f), some (.int e), some (.int w), some (.int s), some (.int b)] [] (n, t, K, L, J, R) P) : ∀ b : Int32, b ≤ 6 → ∀ J, 0 ≤ b → b ≤ Y 0 6 → gs M I0 J Y → J M 35 = ev → (okB Y a f e w = true → gfB Y a s ((Y 0 6).toNatClampNeg - b.toNatClampNeg) b = V) → a_at (d + 11) (a_xm a_m238) 21 [some (a_rf M), some (.int a), some (.int f), some (.int e), some (.int w), some (.int s), some (.int b)] [] (n, t, K, L, J, R) P := by
  refine up_ind 6 (fun b b6 ih => ?_)
  intro J h0 h1 hg he hV
  have e6 : J M 6 = Y 0 6 := hg.2.2.1 0 6 (by unfold ps1; omega)
  generalize ez : Y 0 6 = z at h6 h1 e6 hV ih
  have hexit : ¬ b < z → a_at (d + 11) (a_xm a_m238) 74 [some (a_rf M), some (.int a), some (.int f), some (.int e), some (.int w), some (.int s), some (.int b)] [] (n, t, K, L, J, R) P := fun c => by
    rw [(lp_end h1 c).1] at hV
    exact hN (fun q => by
      have := hV q.1
      rw [← this] at q
      exact absurd q.2 (by unfold gfB; decide)) J b hg he
  have hcall : b < z → a_does (d + 11) 221 [a_rf M, .int a, .int b, .int s] (n, t, K, L, J, R) (fun r h' => a_at (d + 11) (a_xm a_m238) 39 [some (a_rf M), some (.int a), some (.int f), some (.int e), some (.int w), some (.int s), some (.int b)] (r.toList ++ []) h' P) := fun c => by
    obtain ⟨s1, s2, s3, s4⟩ := lp_st h0 c
    have b5 : 0 ≤ b ∧ b ≤ 5 := ⟨h0, by clear hV ih hexit hG hN; grind⟩
    refine xt_fitOf (d := d + 1) hS (moP_of hg.1 hm hg.2.2) (mC_refl hg.1) ha b5 hs (fun J2 c2 => ?_)
    rw [ftY_p h17 h10 hg.2.2]
    have hg2 := gs_C hg c2
    have he2 : J2 M 35 = ev := by rw [c2.2 _ _ (by unfold sC; omega)]; exact he
    have hgo : (okB Y a f e w = true → gfB Y a s (z.toNatClampNeg - (b + 1).toNatClampNeg) (b + 1) = V) → a_at (d + 11) (a_xm a_m238) 68 [some (a_rf M), some (.int a), some (.int f), some (.int e), some (.int w), some (.int s), some (.int b)] [] (n, t, K, L, J2, R) P := fun q => by
      have hi := ih (Int32.lt_of_lt_of_le c h6.2) J2 s2 s3 hg2 he2 q
      clear ih hV hexit hG hN hm hg hg2
      simp only [q238_68, q238_71, as_nil, as_i, as_r, Nat.reduceAdd, Nat.reduceLeDiff, z_eq0, z_eq1, z_or, z_em, Classical.not_not, not_false_eq_true, not_true_eq_false, true_and, and_true, false_and, and_false, and_self, true_implies, false_implies, implies_true, Option.toList_some, Option.toList_none, List.cons_append, List.nil_append, Nat.add_eq_zero_iff, a_nl_i, a_nl_r, a_nl_n, true_or, or_true, eq_self, ok_4, ok_5, ok_6, ok_7, ok_9, ok_10, ok_20, ok_21, ok_24, ok_30, ok_48, ok_50, ok_60, ok_80, ok_120, ok_180, ok_192, ok_200, ok_900, ok_1000, ok_84000]
      exact hi
    by_cases cf : ftY Y a b s = 0
    · have hgive : okB Y a f e w = true → a_at (d + 11) (a_xm a_m238) 57 [some (a_rf M), some (.int a), some (.int f), some (.int e), some (.int w), some (.int s), some (.int b)] [] (n, t, K, L, J2, R) P := fun q => by
        have hv := hV q
        rw [s1] at hv
        unfold gfB at hv
        rw [if_pos cf] at hv
        have hG := hG q (by rw [← hv]; exact h0)
        rw [← hv] at hG
        simp only [q238_57, q238_58, q238_59, q238_61, q238_63, m_0 hS, m_K hS, as_nil, as_i, as_r, Nat.reduceAdd, Nat.reduceLeDiff, z_eq0, z_eq1, z_or, z_em, Classical.not_not, not_false_eq_true, not_true_eq_false, true_and, and_true, false_and, and_false, and_self, true_implies, false_implies, implies_true, Option.toList_some, Option.toList_none, List.cons_append, List.nil_append, Nat.add_eq_zero_iff, a_nl_i, a_nl_r, a_nl_n, true_or, or_true, eq_self, ok_4, ok_5, ok_6, ok_7, ok_9, ok_10, ok_20, ok_21, ok_24, ok_30, ok_48, ok_50, ok_60, ok_80, ok_120, ok_180, ok_192, ok_200, ok_900, ok_1000, ok_84000]
        refine xt_giveTo0 (d := d) hS (moP_of hg2.1 hm hg2.2.2) (by rw [he2]; exact hev) ha b5 ⟨by clear hV ih hexit hG hN; grind, by clear hV ih hexit hG hN; grind⟩ (fun J3 y3 => ?_)
        have hp := hG J3 (yR_gs hg2 y3 (puY_p h17 h10 hg2.2.2 ha))
        clear ih hV hexit hG hN hm
        simp only [q238_66, q238_67, as_nil, as_i, as_r, Nat.reduceAdd, Nat.reduceLeDiff, z_eq0, z_eq1, z_or, z_em, Classical.not_not, not_false_eq_true, not_true_eq_false, true_and, and_true, false_and, and_false, and_self, true_implies, false_implies, implies_true, Option.toList_some, Option.toList_none, List.cons_append, List.nil_append, Nat.add_eq_zero_iff, a_nl_i, a_nl_r, a_nl_n, true_or, or_true, eq_self, ok_4, ok_5, ok_6, ok_7, ok_9, ok_10, ok_20, ok_21, ok_24, ok_30, ok_48, ok_50, ok_60, ok_80, ok_120, ok_180, ok_192, ok_200, ok_900, ok_1000, ok_84000]
        exact hp
      have hno : okB Y a f e w = false → a_at (d + 11) (a_xm a_m238) 68 [some (a_rf M), some (.int a), some (.int f), some (.int e), some (.int w), some (.int s), some (.int b)] [] (n, t, K, L, J2, R) P := fun q => hgo (fun q2 => by rw [q] at q2; cases q2)
      by_cases cw : w = 0
      · have hgive := hgive (by unfold okB; rw [if_pos cw])
        clear ih hV hexit hG hN hm hg hg2 hgo hno
        simp only [q238_39, q238_42, q238_44, as_nil, as_i, as_r, Nat.reduceAdd, Nat.reduceLeDiff, z_eq0, z_eq1, z_or, z_em, Classical.not_not, not_false_eq_true, not_true_eq_false, true_and, and_true, false_and, and_false, and_self, true_implies, false_implies, implies_true, Option.toList_some, Option.toList_none, List.cons_append, List.nil_append, Nat.add_eq_zero_iff, a_nl_i, a_nl_r, a_nl_n, true_or, or_true, eq_self, ok_4, ok_5, ok_6, ok_7, ok_9, ok_10, ok_20, ok_21, ok_24, ok_30, ok_48, ok_50, ok_60, ok_80, ok_120, ok_180, ok_192, ok_200, ok_900, ok_1000, ok_84000, cf, cw]
        try simp only [true_and, and_true, true_implies, false_implies, implies_true, not_true_eq_false, not_false_eq_true]
        first
          | exact hgive
          | (rw [cw] at hgive; exact hgive)
      · have hw := xt_isWithinShare (d := d + 9) (n := n) (t := t) (f := f) (e := e) (P := fun r h' => a_at (d + 11) (a_xm a_m238) 54 [some (a_rf M), some (.int a), some (.int f), some (.int e), some (.int w), some (.int s), some (.int b)] (r.toList ++ []) h' P) hS hg2 h17 ha (by
          have eo : okB Y a f e w = shB Y a f e := by unfold okB; rw [if_neg cw]
          rw [eo] at hgive hno
          clear ih hV hexit hG hN hm hg hg2 hgo
          by_cases cs : shB Y a f e = true
          · rw [if_pos cs]
            have n10 : ¬ (1 : Int32) = 0 := by decide
            have hgive := hgive cs
            simp only [q238_54, as_nil, as_i, as_r, Nat.reduceAdd, Nat.reduceLeDiff, z_eq0, z_eq1, z_or, z_em, Classical.not_not, not_false_eq_true, not_true_eq_false, true_and, and_true, false_and, and_false, and_self, true_implies, false_implies, implies_true, Option.toList_some, Option.toList_none, List.cons_append, List.nil_append, Nat.add_eq_zero_iff, a_nl_i, a_nl_r, a_nl_n, true_or, or_true, eq_self, ok_4, ok_5, ok_6, ok_7, ok_9, ok_10, ok_20, ok_21, ok_24, ok_30, ok_48, ok_50, ok_60, ok_80, ok_120, ok_180, ok_192, ok_200, ok_900, ok_1000, ok_84000, n10]
            try simp only [true_and, and_true, true_implies, false_implies, implies_true, not_true_eq_false, not_false_eq_true]
            exact hgive
          · rw [if_neg cs]
            have hno := hno (by cases q : shB Y a f e; rfl; exact absurd q cs)
            simp only [q238_54, as_nil, as_i, as_r, Nat.reduceAdd, Nat.reduceLeDiff, z_eq0, z_eq1, z_or, z_em, Classical.not_not, not_false_eq_true, not_true_eq_false, true_and, and_true, false_and, and_false, and_self, true_implies, false_implies, implies_true, Option.toList_some, Option.toList_none, List.cons_append, List.nil_append, Nat.add_eq_zero_iff, a_nl_i, a_nl_r, a_nl_n, true_or, or_true, eq_self, ok_4, ok_5, ok_6, ok_7, ok_9, ok_10, ok_20, ok_21, ok_24, ok_30, ok_48, ok_50, ok_60, ok_80, ok_120, ok_180, ok_192, ok_200, ok_900, ok_1000, ok_84000]
            try simp only [true_and, and_true, true_implies, false_implies, implies_true, not_true_eq_false, not_false_eq_true]
            exact hno)
        clear ih hV hexit hG hN hm hg hg2 hgo hno hgive
        simp only [q238_39, q238_42, q238_44, q238_47, q238_48, q238_49, q238_50, q238_51, m_0 hS, m_K hS, as_nil, as_i, as_r, Nat.reduceAdd, Nat.reduceLeDiff, z_eq0, z_eq1, z_or, z_em, Classical.not_not, not_false_eq_true, not_true_eq_false, true_and, and_true, false_and, and_false, and_self, true_implies, false_implies, implies_true, Option.toList_some, Option.toList_none, List.cons_append, List.nil_append, Nat.add_eq_zero_iff, a_nl_i, a_nl_r, a_nl_n, true_or, or_true, eq_self, ok_4, ok_5, ok_6, ok_7, ok_9, ok_10, ok_20, ok_21, ok_24, ok_30, ok_48, ok_50, ok_60, ok_80, ok_120, ok_180, ok_192, ok_200, ok_900, ok_1000, ok_84000, cf, cw]
        try simp only [true_and, and_true, true_implies, false_implies, implies_true, not_true_eq_false, not_false_eq_true]
        exact hw
    · have hgo := hgo (fun q => by
        have hv := hV q
        rw [s1] at hv
        unfold gfB at hv
        rw [if_neg cf] at hv
        exact hv)
      clear ih hV hexit hG hN hm hg hg2
      simp only [q238_39, as_nil, as_i, as_r, Nat.reduceAdd, Nat.reduceLeDiff, z_eq0, z_eq1, z_or, z_em, Classical.not_not, not_false_eq_true, not_true_eq_false, true_and, and_true, false_and, and_false, and_self, true_implies, false_implies, implies_true, Option.toList_some, Option.toList_none, List.cons_append, List.nil_append, Nat.add_eq_zero_iff, a_nl_i, a_nl_r, a_nl_n, true_or, or_true, eq_self, ok_4, ok_5, ok_6, ok_7, ok_9, ok_10, ok_20, ok_21, ok_24, ok_30, ok_48, ok_50, ok_60, ok_80, ok_120, ok_180, ok_192, ok_200, ok_900, ok_1000, ok_84000, cf]
      try simp only [true_and, and_true, true_implies, false_implies, implies_true, not_true_eq_false, not_false_eq_true]
      exact hgo
  clear ih hV hG hN hm hg
  rw [q238_21]
  repeat' first
    | with_reducible apply And.intro
    | with_reducible assumption
    | with_reducible intro _
    | refine hexit ?_
    | refine hcall ?_
    | simp only [q238_23, q238_24, q238_27, q238_30, q238_31, q238_32, q238_34, q238_36, m_0 hS, m_K hS, as_nil, as_i, as_r, Nat.reduceAdd, Nat.reduceLeDiff, z_eq0, z_eq1, z_or, z_em, Classical.not_not, not_false_eq_true, not_true_eq_false, true_and, and_true, false_and, and_false, and_self, true_implies, false_implies, implies_true, Option.toList_some, Option.toList_none, List.cons_append, List.nil_append, Nat.add_eq_zero_iff, a_nl_i, a_nl_r, a_nl_n, true_or, or_true, eq_self, ok_4, ok_5, ok_6, ok_7, ok_9, ok_10, ok_20, ok_21, ok_24, ok_30, ok_48, ok_50, ok_60, ok_80, ok_120, ok_180, ok_192, ok_200, ok_900, ok_1000, ok_84000, e6]
  all_goals ((try clear hexit); (try clear hcall); (try clear hS); grind [ui_ap])
theorem xt_giveFirst_3 (hS : m_S M K L R) (hm : moY Y) (h17 : 0 ≤ Y 0 17 ∧ Y 0 17 ≤ 30) (h10 : ∀ j, 0 ≤ Y 10 j ∧ Y 10 j ≤ 4) (h6 : 0 ≤ Y 0 6 ∧ Y 0 6 ≤ 6) {a f e w : Int32} (ha : 0 ≤ a ∧ a < 30) (hl : 1 ≤ Y 10 a.toNatClampNeg) (he9 : e ≤ 199) {ev : Int32} (hev : ev ≤ 83996) {V : Int32 × Int32} (hP1 : okB Y a f e w = true → 0 ≤ V.2 → ∀ J, gs M I0 J (puY Y a V.2 V.1) → P (some (.int 1)) (n, t, K, L, J, R)) (hP0 : ¬ (okB Y a f e w = true ∧ 0 ≤ V.2) → ∀ J, gs M I0 J Y → P (some (.int 0)) (n, t, K, L, J, R)) : ∀ s : Int32, s ≤ 203 → ∀ J b (k : Nat), 0 ≤ s → (203 : Int32).toNatClampNeg < s.toNatClampNeg + k → gs M I0 J Y → J M 35 = ev → (okB Y a f e w = true → gfS Y a e k s = V) → a_at (d + 11) (a_xm a_m238) 3 [some (a_rf M), some (.int a), some (.int f), some (.int e), some (.int w), some (.int s), b] [] (n, t, K, L, J, R) P := by
  have hl4 := (h10 a.toNatClampNeg).2
  refine up_ind 203 (fun s s203 ih => ?_)
  intro J b k h0 hk hg he hV
  have e10 : J (M + 10) a.toNatClampNeg = Y 10 a.toNatClampNeg := hg.2.2.1 10 _ (by unfold ps1; omega)
  have c203 : s.toNatClampNeg ≤ (203 : Int32).toNatClampNeg := cl_le0 h0 s203
  obtain ⟨k, rfl⟩ : ∃ q, k = q + 1 := ⟨k - 1, by omega⟩
  have hexit : e < s + Y 10 a.toNatClampNeg - 1 → P (some (.int 0)) (n, t, K, L, J, R) := fun c => hP0 (fun q => by
    have hv := hV q.1
    unfold gfS at hv
    rw [if_pos c] at hv
    rw [← hv] at q
    exact absurd (show (0 : Int32) ≤ -1 from q.2) (by decide)) J hg
  have hin : ¬ e < s + Y 10 a.toNatClampNeg - 1 → a_at (d + 11) (a_xm a_m238) 21 [some (a_rf M), some (.int a), some (.int f), some (.int e), some (.int w), some (.int s), some (.int 0)] [] (n, t, K, L, J, R) P := fun c => by
    have s199 : 0 ≤ s ∧ s ≤ 199 := ⟨h0, (gs_nx ⟨hl, hl4⟩ he9 ⟨h0, Int32.le_trans s203 (by decide)⟩ c).2⟩
    have hs1 : s < 203 := Int32.lt_of_le_of_lt s199.2 (by decide)
    obtain ⟨-, t2, -, t4⟩ := lp_st h0 hs1
    have hV2 : okB Y a f e w = true → (if 0 ≤ gfB Y a s (Y 0 6).toNatClampNeg 0 then (s, gfB Y a s (Y 0 6).toNatClampNeg 0) else gfS Y a e k (s + 1)) = V := fun q => by
      have hv := hV q
      unfold gfS at hv
      rw [if_neg c] at hv
      exact hv
    refine xt_giveFirst_21 (d := d) (I0 := I0) hS hm h17 h10 h6 ha s199 hev (V := gfB Y a s (Y 0 6).toNatClampNeg 0) (fun q1 q2 J2 g2 => ?_) (fun q J2 b2 g2 e2 => ?_) 0 (by decide) J (by decide) h6.1 hg he (fun _ => by rw [lp_0])
    · have hv := hV2 q1
      rw [if_pos q2] at hv
      refine hP1 q1 (by rw [← hv]; exact q2) J2 ?_
      rw [← hv]
      exact g2
    · have hn := ih hs1 J2 (some (.int b2)) k t2 (by omega) g2 e2 (fun q3 => by
        have hv := hV2 q3
        rw [if_neg (fun q4 => q ⟨q3, q4⟩)] at hv
        exact hv)
      clear ih hV hV2 hexit hP1 hP0 hm hg
      simp only [q238_74, q238_77, as_nil, as_i, as_r, Nat.reduceAdd, Nat.reduceLeDiff, z_eq0, z_eq1, z_or, z_em, Classical.not_not, not_false_eq_true, not_true_eq_false, true_and, and_true, false_and, and_false, and_self, true_implies, false_implies, implies_true, Option.toList_some, Option.toList_none, List.cons_append, List.nil_append, Nat.add_eq_zero_iff, a_nl_i, a_nl_r, a_nl_n, true_or, or_true, eq_self, ok_4, ok_5, ok_6, ok_7, ok_9, ok_10, ok_20, ok_21, ok_24, ok_30, ok_48, ok_50, ok_60, ok_80, ok_120, ok_180, ok_192, ok_200, ok_900, ok_1000, ok_84000]
      exact hn
  clear ih hV hP1 hP0 hm hg
  rw [q238_3]
  repeat' first
    | with_reducible apply And.intro
    | with_reducible assumption
    | with_reducible intro _
    | refine hexit ?_
    | refine hin ?_
    | refine hin ?_
    | simp only [q238_5, q238_6, q238_9, q238_10, q238_11, q238_12, q238_13, q238_14, q238_15, q238_18, q238_19, q238_80, q238_81, m_0 hS, m_K hS, mR_length hS, mK_length hS, mL_length hS, as_nil, as_i, as_r, Nat.reduceAdd, Nat.reduceLeDiff, z_eq0, z_eq1, z_or, z_em, Classical.not_not, not_false_eq_true, not_true_eq_false, true_and, and_true, false_and, and_false, and_self, true_implies, false_implies, implies_true, Option.toList_some, Option.toList_none, List.cons_append, List.nil_append, Nat.add_eq_zero_iff, a_nl_i, a_nl_r, a_nl_n, true_or, or_true, eq_self, ok_4, ok_5, ok_6, ok_7, ok_9, ok_10, ok_20, ok_21, ok_24, ok_30, ok_48, ok_50, ok_60, ok_80, ok_120, ok_180, ok_192, ok_200, ok_900, ok_1000, ok_84000, e10, ha]
  all_goals ((try clear hexit); (try clear hin); (try clear hS); grind [ui_ap])
theorem xt_giveFirst0 (hS : m_S M K L R) (hm : moY Y) (h17 : 0 ≤ Y 0 17 ∧ Y 0 17 ≤ 30) (h10 : ∀ j, 0 ≤ Y 10 j ∧ Y 10 j ≤ 4) (h6 : 0 ≤ Y 0 6 ∧ Y 0 6 ≤ 6) {a f e w : Int32} (ha : 0 ≤ a ∧ a < 30) (hl : 1 ≤ Y 10 a.toNatClampNeg) (hf : 0 ≤ f ∧ f ≤ 202) (he9 : e ≤ 199) (hev : I M 35 ≤ 83996) (hg : gs M I0 I Y) (hP : ∀ J, gs M I0 J (giY Y a f e (okB Y a f e w)) → P (some (.int (if okB Y a f e w = true ∧ 0 ≤ (gnY Y a f e).2 then 1 else 0))) (n, t, K, L, J, R)) : a_does (d + 12) 238 [a_rf M, .int a, .int f, .int e, .int w] (n, t, K, L, I, R) P := by
  have c203 : (203 : Int32).toNatClampNeg = 203 := rfl
  have hl3 := xt_giveFirst_3 (d := d) (P := P) (I0 := I0) (w := w) hS hm h17 h10 h6 ha hl he9 hev (V := gnY Y a f e) (fun q1 q2 J g => by
    have hp := hP J
    unfold giY at hp
    rw [if_pos ⟨q1, q2⟩, if_pos ⟨q1, q2⟩] at hp
    exact hp g) (fun q J g => by
    have hp := hP J
    unfold giY at hp
    rw [if_neg q, if_neg q] at hp
    exact hp g) f (Int32.le_trans hf.2 (by decide)) I none 240 hf.1 (by rw [c203]; omega) hg rfl (fun _ => rfl)
  clear hP hm hg
  rw [a_enter1 (M := a_m238) rfl (a_cat_rf (a_cat_int (a_cat_int (a_cat_int (a_cat_int a_cat_nil))))) (show 5 ≤ 7 by decide)]
  show a_at _ (a_xm a_m238) 0 [some (a_rf M), some (.int a), some (.int f), some (.int e), some (.int w), none, none] [] _ _
  simp only [q238_0, q238_1, as_nil, as_i, as_r, Nat.reduceAdd, Nat.reduceLeDiff, z_eq0, z_eq1, z_or, z_em, Classical.not_not, not_false_eq_true, not_true_eq_false, true_and, and_true, false_and, and_false, and_self, true_implies, false_implies, implies_true, Option.toList_some, Option.toList_none, List.cons_append, List.nil_append, Nat.add_eq_zero_iff, a_nl_i, a_nl_r, a_nl_n, true_or, or_true, eq_self, ok_4, ok_5, ok_6, ok_7, ok_9, ok_10, ok_20, ok_21, ok_24, ok_30, ok_48, ok_50, ok_60, ok_80, ok_120, ok_180, ok_192, ok_200, ok_900, ok_1000, ok_84000]
  exact hl3
/-- with the row of events, and what it leaves -/
theorem xt_giveFirst (hS : m_S M K L R) {I1 : Nat → Nat → Int32} (hm : moY Y) (h17 : 0 ≤ Y 0 17 ∧ Y 0 17 ≤ 30) (h10 : ∀ j, 0 ≤ Y 10 j ∧ Y 10 j ≤ 4) (h6 : 0 ≤ Y 0 6 ∧ Y 0 6 ≤ 6) {c : Nat} (hF : mF M c I1 I) (hc : c + 4 ≤ 84000) {a f e w : Int32} (ha : 0 ≤ a ∧ a < 30) (hl : 1 ≤ Y 10 a.toNatClampNeg) (hf : 0 ≤ f ∧ f ≤ 202) (he9 : e ≤ 199) (hg : gs M I0 I Y) (hP : ∀ J, mF M (c + 4) I1 J → gv M I J → gs M I0 J (giY Y a f e (okB Y a f e w)) → P (some (.int (if okB Y a f e w = true ∧ 0 ≤ (gnY Y a f e).2 then 1 else 0))) (n, t, K, L, J, R)) : a_does (d + 12) 238 [a_rf M, .int a, .int f, .int e, .int w] (n, t, K, L, I, R) P := by
  have h1 := ct_giveFirst (d := d) (o := w) hS hF hc ha hf he9 (P := fun r h' => ∃ J, h' = (n, t, K, L, J, R) ∧ mF M (c + 4) I1 J ∧ gv M I J) (fun v J q1 q2 _ => ⟨J, rfl, q1, q2⟩)
  have h2 := xt_giveFirst0 (d := d) hS hm h17 h10 h6 (w := w) ha hl hf he9 (mE_ev hF.2 hF.1.1 hc) hg (P := fun r h' => r = some (.int (if okB Y a f e w = true ∧ 0 ≤ (gnY Y a f e).2 then 1 else 0)) ∧ ∃ J, h' = (n, t, K, L, J, R) ∧ gs M I0 J (giY Y a f e (okB Y a f e w))) (fun J q => ⟨rfl, J, rfl, q⟩)
  refine (does_and h1 h2).weaken (fun r h' q => ?_)
  obtain ⟨⟨J, e2, q1, q3⟩, ⟨e1, J2, e3, q2⟩⟩ := q
  subst e1
  subst e2
  cases e3
  exact hP J q1 q3 q2
end YE0
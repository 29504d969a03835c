/-! PLAN -/
section YF0
variable {d n t M : Nat} {K L : Nat → Nat} {I I0 J J0 J1 J2 : Nat → Nat → Int32} {R : Nat → Nat → Nat} {P : Option Value → AH → Prop} {f : Nat → Int32} {e : Int32}
variable {Y Z : Nat → Nat → Int32}
theorem and1_or (y : Int32) : y &&& 1 = 0 ∨ y &&& 1 = 1 := by
  cases e : bq y 0 with
  | false => exact Or.inl ((bq_and1 y).mpr e)
  | true =>
    refine Or.inr (bq_ext (fun i hi => ?_))
    rw [bq_and, bq_1 i hi]
    by_cases c : i = 0
    · subst c
      rw [e]
      rfl
    · rw [decide_eq_false c, Bool.and_false]
theorem bt_bq {g a : Int32} (h0 : 0 ≤ a) (h : a.toNatClampNeg < 32) : btB g a = bq g a.toNatClampNeg := by
  have hq := bq_at h g
  rw [← on_cl h0] at hq
  unfold btB
  cases e : bq g a.toNatClampNeg with
  | false =>
    rw [decide_eq_false]
    rw [hq.mpr e]
    decide
  | true =>
    rw [decide_eq_true]
    exact (and1_or _).resolve_left (fun q => by rw [hq.mp q] at e; cases e)
theorem orF_q {q w : Int32 → Bool} {n : Int32} (h : ∀ a : Int32, 0 ≤ a → a < n → w a = q a) : ∀ (k : Nat) (a : Int32) (p : (Nat → Int32) × Nat), 0 ≤ a → a ≤ n → n.toNatClampNeg = a.toNatClampNeg + k → orF Y w k a p = orF Y q k a p := by
  intro k
  induction k with
  | zero => intro a p _ _ _; rfl
  | succ k ih =>
    intro a p h0 h1 h2
    have w9 : a < n := cl_lt2 h0 (Int32.le_trans h0 h1) (by omega)
    obtain ⟨s1, s2, s3, s4⟩ := lp_st h0 w9
    unfold orF
    rw [h a h0 w9]
    exact ih _ _ s2 s3 (by omega)
/-- who has no place and isn't withdrawn -/
def seB (Y : Nat → Nat → Int32) (a : Int32) : Bool := decide (¬ 0 ≤ Y 20 a.toNatClampNeg ∧ Y 18 a.toNatClampNeg = 0)
/-- the row of ORDER of a PLAN -/
def orP (Y : Nat → Nat → Int32) : (Nat → Int32) × Nat := orF Y (seB Y) (Y 0 17).toNatClampNeg 0 (fun _ => 0, 0)
/-- one by one places are given; who is passed -/
def plS (o : Nat → Int32) (f e : Int32) : Nat → Nat → (Nat → Nat → Int32) × Nat × (Nat → Int32) → (Nat → Nat → Int32) × Nat × (Nat → Int32)
  | 0, _, p => p
  | k + 1, i, p => plS o f e k (i + 1) (if shB p.1 (o i) f e = true ∧ 0 ≤ (gnY p.1 (o i) f e).2 then (puY p.1 (o i) (gnY p.1 (o i) f e).2 (gnY p.1 (o i) f e).1, p.2.1, p.2.2) else (p.1, p.2.1 + 1, up1 p.2.2 p.2.1 (o i)))
def plY (Y : Nat → Nat → Int32) (f e : Int32) : (Nat → Nat → Int32) × Nat × (Nat → Int32) := plS (orP Y).1 f e (orP Y).2 0 (Y, 0, fun _ => 0)
theorem xt_plan_19 (hS : m_S M K L R) (hg : gs M I0 I Y) (h17 : 0 ≤ Y 0 17 ∧ Y 0 17 ≤ 30) {a b : Int32} (hN : ∀ g k, (∀ x : Int32, 0 ≤ x → x < Y 0 17 → btB g x = seB Y x) → a_at (d + 13) (a_xm a_m234) 64 [some (a_rf M), some (.int a), some (.int b), some (.int g), some (.int k), none] [] (n, t, K, L, I, R) P) : ∀ k : Int32, k ≤ 30 → ∀ g, 0 ≤ k → k ≤ Y 0 17 → (∀ j, j < 32 → (bq g j = true ↔ (j < k.toNatClampNeg ∧ seB Y (Int32.ofNat j) = true))) → a_at (d + 13) (a_xm a_m234) 19 [some (a_rf M), some (.int a), some (.int b), some (.int g), some (.int k), none] [] (n, t, K, L, I, R) P := by
  have e17 : I M 17 = Y 0 17 := hg.2.2.1 0 17 (by unfold ps1; omega)
  have e20 : ∀ j, I (M + 20) j = Y 20 j := fun j => hg.2.2.1 20 j (by unfold ps1; omega)
  have e18 : ∀ j, I (M + 18) j = Y 18 j := fun j => hg.2.2.1 18 j (by unfold ps1; omega)
  have l30 := cl_le0 h17.1 h17.2
  rw [show (30 : Int32).toNatClampNeg = 30 from rfl] at l30
  clear hg
  refine up_ind 30 (fun k k30 ih => ?_)
  intro g h0 h1 hb
  have hexit : ¬ k < Y 0 17 → a_at (d + 13) (a_xm a_m234) 64 [some (a_rf M), some (.int a), some (.int b), some (.int g), some (.int k), none] [] (n, t, K, L, I, R) P := fun w => by
    have e := (lp_end h1 w).2
    refine hN g k (fun x x0 x1 => ?_)
    have hx := cl_lt x0 x1
    rw [bt_bq x0 (by omega)]
    have := hb x.toNatClampNeg (by omega)
    rw [← on_cl x0, e] at this
    cases q : seB Y x with
    | true => exact this.mpr ⟨hx, q⟩
    | false =>
      cases q2 : bq g x.toNatClampNeg with
      | false => rfl
      | true =>
        have := (this.mp q2).2
        rw [q] at this
        cases this
  have hgo : k < Y 0 17 → ∀ g2, g2 = (if seB Y k = true then g ||| ((1 : Int32) <<< (k &&& 31)) else g ||| 0) → a_at (d + 13) (a_xm a_m234) 19 [some (a_rf M), some (.int a), some (.int b), some (.int g2), some (.int (k + 1)), none] [] (n, t, K, L, I, R) P := fun w g2 eg => by
    obtain ⟨s1, s2, s3, s4⟩ := lp_st h0 w
    have kT := cl_lt h0 w
    refine ih (Int32.lt_of_lt_of_le w h17.2) g2 s2 s3 (fun j hj => ?_)
    have hset := bq_set (k := k.toNatClampNeg) (i := j) (by omega) hj g
    rw [← on_cl h0] at hset
    rw [eg, s4]
    by_cases c : seB Y k = true
    · rw [if_pos c, hset, Bool.or_eq_true, hb j hj]
      refine ⟨fun r => ?_, fun r => ?_⟩
      · rcases r with r | r
        · exact ⟨by omega, r.2⟩
        · have r := of_decide_eq_true r
          rw [r, ← on_cl h0]
          exact ⟨by omega, c⟩
      · by_cases e : j = k.toNatClampNeg
        · exact Or.inr (decide_eq_true e)
        · exact Or.inl ⟨by omega, r.2⟩
    · rw [if_neg c, Int32.or_zero, hb j hj]
      refine ⟨fun r => ⟨by omega, r.2⟩, fun r => ⟨?_, r.2⟩⟩
      by_cases e : j = k.toNatClampNeg
      · rw [e, ← on_cl h0] at r
        exact absurd r.2 c
      · omega
  have k30' : k < Y 0 17 → 0 ≤ k ∧ k < 30 := fun w => ⟨h0, Int32.lt_of_lt_of_le w h17.2⟩
  have hyes : k < Y 0 17 → ¬ 0 ≤ Y 20 k.toNatClampNeg → Y 18 k.toNatClampNeg = 0 → a_at (d + 13) (a_xm a_m234) 19 [some (a_rf M), some (.int a), some (.int b), some (.int (g ||| ((1 : Int32) <<< (k &&& 31)))), some (.int (k + 1)), none] [] (n, t, K, L, I, R) P := fun w c1 c2 => hgo w _ (by rw [if_pos (show seB Y k = true from decide_eq_true ⟨c1, c2⟩)])
  have hno : k < Y 0 17 → (0 ≤ Y 20 k.toNatClampNeg ∨ ¬ Y 18 k.toNatClampNeg = 0) → a_at (d + 13) (a_xm a_m234) 19 [some (a_rf M), some (.int a), some (.int b), some (.int (g ||| 0)), some (.int (k + 1)), none] [] (n, t, K, L, I, R) P := fun w c => hgo w _ (by rw [if_neg (show ¬ seB Y k = true from fun q => by have := of_decide_eq_true q; exact c.elim this.1 (fun z => z this.2))])
  clear ih hN hb hgo
  rw [q234_19]
  repeat' first
    | with_reducible apply And.intro
    | with_reducible assumption
    | with_reducible intro _
    | refine hexit ?_
    | refine hyes ?_ ?_ ?_
    | refine hno ?_ ?_
    | refine hno ?_ ?_
    | simp only [q234_21, q234_22, q234_25, q234_28, q234_29, q234_30, q234_32, q234_35, q234_38, q234_39, q234_42, q234_44, q234_45, q234_48, q234_49, q234_51, q234_52, q234_55, q234_56, q234_57, q234_58, q234_61, m_0 hS, m_K hS, mR_isGone hS, mK_isGone hS, mL_isGone hS, sp_hasPlace hS, as_nil, as_i, as_r, Nat.reduceAdd, Nat.reduceLeDiff, z_eq0, z_eq1, z_or, z_em, Classical.not_not, not_false_eq_true, not_true_eq_false, true_and, and_true, false_and, and_false, and_self, true_implies, false_implies, implies_true, Option.toList_some, Option.toList_none, List.cons_append, List.nil_append, Nat.add_eq_zero_iff, a_nl_i, a_nl_r, a_nl_n, true_or, or_true, eq_self, ok_4, ok_5, ok_6, ok_7, ok_9, ok_10, ok_20, ok_21, ok_24, ok_30, ok_48, ok_50, ok_60, ok_80, ok_120, ok_180, ok_192, ok_200, ok_900, ok_1000, ok_84000, e17, e20, e18]
  all_goals ((try clear hexit); (try clear hyes); (try clear hno); (try clear e20); (try clear e18); (try clear hS); grind [ui_ap])
theorem sb_tr {X : Nat → Nat → Int32} (h : sbE Y Z) (h2 : sbE Z X) : sbE Y X := fun k j p => (h2 k j p).trans (h k j p)
theorem gi_ok {a f e : Int32} : giY Y a f e (okB Y a f e 1) = if shB Y a f e = true ∧ 0 ≤ (gnY Y a f e).2 then puY Y a (gnY Y a f e).2 (gnY Y a f e).1 else Y := by
  have e : okB Y a f e 1 = shB Y a f e := by unfold okB; rw [if_neg (by decide)]
  unfold giY
  rw [e]
theorem xt_plan_80 (hS : m_S M K L R) {I1 : Nat → Nat → Int32} (hm : moY Y) (h17 : 0 ≤ Y 0 17 ∧ Y 0 17 ≤ 30) (h10 : ∀ j, 0 ≤ Y 10 j ∧ Y 10 j ≤ 4) (h6 : 0 ≤ Y 0 6 ∧ Y 0 6 ≤ 6) (hl : ∀ i : Int32, 0 ≤ i → i < Y 0 17 → 1 ≤ Y 10 i.toNatClampNeg) {c : Nat} (hc : c + 130 ≤ 84000) {f e g : Int32} (hf : 0 ≤ f ∧ f ≤ 199) (he9 : e ≤ 199) {o : Nat → Int32} {m : Nat} (hm30 : m ≤ 30) (ho : ∀ j, j < m → 0 ≤ o j ∧ o j < Y 0 17) {V : (Nat → Nat → Int32) × Nat × (Nat → Int32)} (hP : ∀ J, mF M (c + 120) I1 J → gs M I0 J V.1 → sbE Y V.1 → inP V.1 → V.2.1 ≤ m → J M 61 = Int32.ofNat V.2.1 → (∀ j, j < V.2.1 → J (M + 39) j = V.2.2 j) → P (some (.int (Int32.ofNat (m - V.2.1)))) (n, t, K, L, J, R)) : ∀ (k i : Nat) (J W : Nat → Nat → Int32) (pc : Nat) (ps : Nat → Int32), i + k = m → mF M (c + 4 * i) I1 J → gs M I0 J W → sbE Y W → inP W → J M 64 = Int32.ofNat m → (∀ j, j < m → J (M + 40) j = o j) → pc ≤ i → J M 61 = Int32.ofNat pc → (∀ j, j < pc → J (M + 39) j = ps j) → plS o f e k i (W, pc, ps) = V → a_at (d + 12) (a_xm a_m234) 80 [some (a_rf M), some (.int f), some (.int e), some (.int g), some (.int (Int32.ofNat (i - pc))), some (.int (Int32.ofNat i))] [] (n, t, K, L, J, R) P := by
  intro k
  induction k with
  | zero =>
    intro i J W pc ps hk hF hg hb hi h64 hor hpc h61 hpa hV
    have e : (W, pc, ps) = V := hV
    subst e
    have hp := hP J (mF_le hF (by omega)) hg hb hi (by show pc ≤ m; omega) h61 hpa
    have ei : i = m := by omega
    rw [ei]
    clear hP hF hg hb hi hm hor hpa ho hl
    rw [q234_80]
    simp only [q234_82, q234_83, q234_86, q234_144, q234_146, m_0 hS, m_K hS, as_nil, as_i, as_r, Nat.reduceAdd, Nat.reduceLeDiff, z_eq0, z_eq1, z_or, z_em, Classical.not_not, not_false_eq_true, not_true_eq_false, true_and, and_true, false_and, and_false, and_self, true_implies, false_implies, implies_true, Option.toList_some, Option.toList_none, List.cons_append, List.nil_append, Nat.add_eq_zero_iff, a_nl_i, a_nl_r, a_nl_n, true_or, or_true, eq_self, ok_4, ok_5, ok_6, ok_7, ok_9, ok_10, ok_20, ok_21, ok_24, ok_30, ok_48, ok_50, ok_60, ok_80, ok_120, ok_180, ok_192, ok_200, ok_900, ok_1000, ok_84000, h64]
    first
      | exact hp
      | exact ⟨fun _ => hp, fun q => absurd (Int32.le_refl _) q⟩
      | grind
  | succ k ih =>
    intro i J W pc ps hk hF hg hb hi h64 hor hpc h61 hpa hV
    obtain ⟨q1, q2⟩ := ho i (by omega)
    have w17 : W 0 17 = Y 0 17 := hb 0 17 (by unfold sb; omega)
    have w10 : W 10 = Y 10 := sbE_r hb (by omega)
    have w6 : W 0 6 = Y 0 6 := hb 0 6 (by unfold sb; omega)
    have hlt : Int32.ofNat i < Int32.ofNat m := by rw [on_lt (by omega) (by omega)]; omega
    have hok : 0 ≤ Int32.ofNat i ∧ Int32.ofNat i < 30 := ⟨Int32.not_lt.mp (fun q => by rw [show (0 : Int32) = Int32.ofNat 0 from rfl, on_lt (by omega) (by omega)] at q; omega), by rw [show (30 : Int32) = Int32.ofNat 30 from rfl, on_lt (by omega) (by omega)]; omega⟩
    have hokp : 0 ≤ Int32.ofNat pc ∧ Int32.ofNat pc < 30 := ⟨Int32.not_lt.mp (fun q => by rw [show (0 : Int32) = Int32.ofNat 0 from rfl, on_lt (by omega) (by omega)] at q; omega), by rw [show (30 : Int32) = Int32.ofNat 30 from rfl, on_lt (by omega) (by omega)]; omega⟩
    have ei := (on_p (p := i) (by omega)).2.2.1
    have ei1 := (on_p (p := i) (by omega)).2.2.2.2.1
    have epc := (on_p (p := pc) (by omega)).2.2.1
    have epc1 := (on_p (p := pc) (by omega)).2.2.2.2.1
    have en := (on_p (p := i - pc) (by omega)).2.2.2.2.1
    have hlo : 1 ≤ W 10 (o i).toNatClampNeg := by rw [w10]; exact hl _ q1 q2
    have hcall := xt_giveFirst (d := d) (n := n) (t := t) (f := f) (e := e) (w := 1) (P := fun r h' => a_at (d + 12) (a_xm a_m234) 103 [some (a_rf M), some (.int f), some (.int e), some (.int g), some (.int (Int32.ofNat (i - pc))), some (.int (Int32.ofNat i))] (r.toList ++ []) h' P) hS (moY_b hm hb hi) (by rw [w17]; exact h17) (by rw [w10]; exact h10) (by rw [w6]; exact h6) hF (by omega) ⟨q1, Int32.lt_of_lt_of_le q2 h17.2⟩ hlo ⟨hf.1, Int32.le_trans hf.2 (by decide)⟩ he9 hg (fun J2 f2 v2 g2 => by
      have i2 := inP_gi hi (by rw [w6]; exact h6) (a := o i) (f := f) (e := e) (ok := okB W (o i) f e 1) ⟨hlo, by rw [w10]; exact (h10 _).2⟩ ⟨hf.1, Int32.le_trans hf.2 (by decide)⟩ he9
      have h64' : J2 M 64 = Int32.ofNat m := by rw [gv_orderMany v2]; exact h64
      have h61' : J2 M 61 = Int32.ofNat pc := by rw [gv_passedMany v2]; exact h61
      have hor' : ∀ j, j < m → J2 (M + 40) j = o j := fun j hj => by
        rw [v2 (M + 40) j (by unfold evC; omega) (by unfold sC; omega) (by omega) (by omega)]
        exact hor j hj
      have hpa' : ∀ j, j < pc → J2 (M + 39) j = ps j := fun j hj => by
        rw [v2 (M + 39) j (by unfold evC; omega) (by unfold sC; omega) (by omega) (by omega)]
        exact hpa j hj
      have f3 : mF M (c + 4 * (i + 1)) I1 J2 := mF_le f2 (by omega)
      unfold plS at hV
      rw [gi_ok] at g2 i2
      have eo : okB W (o i) f e 1 = shB W (o i) f e := by unfold okB; rw [if_neg (by decide)]
      rw [eo]
      by_cases cg : shB W (o i) f e = true ∧ 0 ≤ (gnY W (o i) f e).2
      · rw [if_pos cg] at hV g2 i2 ⊢
        have hn := ih (i + 1) J2 _ pc ps (by omega) f3 g2 (sb_tr hb i2.2) i2.1 h64' hor' (by omega) h61' hpa' hV
        rw [show i + 1 - pc = (i - pc) + 1 by omega] at hn
        have n10 : ¬ (1 : Int32) = 0 := by decide
        clear ih hP hF hg hb hi hm hor hpa ho hl hV f2 f3 g2 i2 v2 hor' hpa'
        simp only [q234_103, q234_106, q234_109, q234_138, q234_141, as_nil, as_i, as_r, Nat.reduceAdd, Nat.reduceLeDiff, z_eq0, z_eq1, z_or, z_em, Classical.not_not, not_false_eq_true, not_true_eq_false, true_and, and_true, false_and, and_false, and_self, true_implies, false_implies, implies_true, Option.toList_some, Option.toList_none, List.cons_append, List.nil_append, Nat.add_eq_zero_iff, a_nl_i, a_nl_r, a_nl_n, true_or, or_true, eq_self, ok_4, ok_5, ok_6, ok_7, ok_9, ok_10, ok_20, ok_21, ok_24, ok_30, ok_48, ok_50, ok_60, ok_80, ok_120, ok_180, ok_192, ok_200, ok_900, ok_1000, ok_84000, n10, en, ei1]
        try simp only [true_and, and_true, true_implies, false_implies, implies_true, not_true_eq_false, not_false_eq_true]
        exact hn
      · rw [if_neg cg] at hV g2 i2 ⊢
        have hn := ih (i + 1) (a_ui (a_ui J2 (M + 39) pc (o i)) M 61 (Int32.ofNat (pc + 1))) W (pc + 1) (up1 ps pc (o i)) (by omega) (sF_passedMany (sF_passedAsk f3) ⟨by rw [← epc1]; clear ih hV hP hor hpa ho hl; grind, by rw [← epc1]; clear ih hV hP hor hpa ho hl; grind⟩) (gs_u0 (gs_ui g2 (sR_passedAsk g2.1) (by omega) ⟨by unfold ps1; omega, by omega⟩) (sR_passedMany (sR_passedAsk g2.1) ⟨by rw [← epc1]; clear ih hV hP hor hpa ho hl; grind, by rw [← epc1]; clear ih hV hP hor hpa ho hl; grind⟩) (by unfold ps1; omega)) hb hi (by rw [ui_ap, if_neg (by omega), ui_ap, if_neg (by omega)]; exact h64') (fun j hj => by rw [ui_ap, if_neg (by omega), ui_ap, if_neg (by omega)]; exact hor' j hj) (by omega) (by rw [ui_ap, if_pos ⟨rfl, rfl⟩]) (fun j hj => by
          rw [ui_ap, if_neg (by omega), ui_ap]
          unfold up1
          by_cases e : j = pc
          · rw [if_pos ⟨rfl, e⟩, if_pos e]
          · rw [if_neg (fun q => e q.2), if_neg e]
            exact hpa' j (by omega)) hV
        rw [show i + 1 - (pc + 1) = i - pc by omega] at hn
        have hoi := hor' i (by omega)
        clear ih hP hF hg hb hi hm hor hpa ho hl hV f2 f3 g2 i2 v2 hor' hpa'
        simp only [q234_103, q234_112, q234_113, q234_116, q234_117, q234_120, q234_121, q234_124, q234_126, q234_127, q234_128, q234_129, q234_130, q234_133, q234_134, q234_135, q234_138, q234_141, m_0 hS, m_K hS, mR_passedAsk hS, mK_passedAsk hS, mL_passedAsk hS, mR_order hS, mK_order hS, mL_order hS, as_nil, as_i, as_r, Nat.reduceAdd, Nat.reduceLeDiff, z_eq0, z_eq1, z_or, z_em, Classical.not_not, not_false_eq_true, not_true_eq_false, true_and, and_true, false_and, and_false, and_self, true_implies, false_implies, implies_true, Option.toList_some, Option.toList_none, List.cons_append, List.nil_append, Nat.add_eq_zero_iff, a_nl_i, a_nl_r, a_nl_n, true_or, or_true, eq_self, ok_4, ok_5, ok_6, ok_7, ok_9, ok_10, ok_20, ok_21, ok_24, ok_30, ok_48, ok_50, ok_60, ok_80, ok_120, ok_180, ok_192, ok_200, ok_900, ok_1000, ok_84000, ui_ap, ne_MM, ne_M0, ne_0M, Nat.reduceEqDiff, reduceIte, if_true, if_false, h61', hoi, ei, epc, epc1, hok, hokp, ei1]
        try simp only [true_and, and_true, true_implies, false_implies, implies_true, not_true_eq_false, not_false_eq_true]
        exact hn)
    have hoi := hor i (by omega)
    clear ih hP hF hg hb hi hm hor hpa ho hl hV
    rw [q234_80]
    have nle : ¬ Int32.ofNat m ≤ Int32.ofNat i := Int32.not_le.mpr hlt
    simp only [q234_82, q234_83, q234_86, q234_89, q234_90, q234_91, q234_94, q234_96, q234_97, q234_98, q234_99, q234_100, m_0 hS, m_K hS, mR_order hS, mK_order hS, mL_order hS, as_nil, as_i, as_r, Nat.reduceAdd, Nat.reduceLeDiff, z_eq0, z_eq1, z_or, z_em, Classical.not_not, not_false_eq_true, not_true_eq_false, true_and, and_true, false_and, and_false, and_self, true_implies, false_implies, implies_true, Option.toList_some, Option.toList_none, List.cons_append, List.nil_append, Nat.add_eq_zero_iff, a_nl_i, a_nl_r, a_nl_n, true_or, or_true, eq_self, ok_4, ok_5, ok_6, ok_7, ok_9, ok_10, ok_20, ok_21, ok_24, ok_30, ok_48, ok_50, ok_60, ok_80, ok_120, ok_180, ok_192, ok_200, ok_900, ok_1000, ok_84000, h64, hoi, ei, hok, nle, hlt]
    try simp only [true_and, and_true, true_implies, false_implies, implies_true, not_true_eq_false, not_false_eq_true]
    exact hcall
/-- PLAN -/
theorem xt_plan14 (hS : m_S M K L R) {I1 : Nat → Nat → Int32} (hm : moY Y) (h17 : 0 ≤ Y 0 17 ∧ Y 0 17 ≤ 30) (h10 : ∀ j, 0 ≤ Y 10 j ∧ Y 10 j ≤ 4) (h6 : 0 ≤ Y 0 6 ∧ Y 0 6 ≤ 6) (hl : ∀ i : Int32, 0 ≤ i → i < Y 0 17 → 1 ≤ Y 10 i.toNatClampNeg) {c : Nat} (hc : c + 130 ≤ 84000) (hF : mF M c I1 I) (hg : gs M I0 I Y) {f e : Int32} (hf : 0 ≤ f ∧ f ≤ 199) (he9 : e ≤ 199) (hP : ∀ J, mF M (c + 120) I1 J → gs M I0 J (plY Y f e).1 → sbE Y (plY Y f e).1 → inP (plY Y f e).1 → (plY Y f e).2.1 ≤ (orP Y).2 → J M 61 = Int32.ofNat (plY Y f e).2.1 → (∀ j, j < (plY Y f e).2.1 → J (M + 39) j = (plY Y f e).2.2 j) → P (some (.int (Int32.ofNat ((orP Y).2 - (plY Y f e).2.1)))) (n, t, K, L, J, R)) : a_at (d + 13) (a_xm a_m234) 14 [some (a_rf M), some (.int f), some (.int e), none, none, none] [] (n, t, K, L, I, R) P := by
  have hl19 := xt_plan_19 (d := d) (P := P) (a := f) (b := e) hS hg h17 (fun g k hbit => by
    simp only [q234_64, q234_65, q234_66, m_0 hS, m_K hS, as_nil, as_i, as_r, Nat.reduceAdd, Nat.reduceLeDiff, z_eq0, z_eq1, z_or, z_em, Classical.not_not, not_false_eq_true, not_true_eq_false, true_and, and_true, false_and, and_false, and_self, true_implies, false_implies, implies_true, Option.toList_some, Option.toList_none, List.cons_append, List.nil_append, Nat.add_eq_zero_iff, a_nl_i, a_nl_r, a_nl_n, true_or, or_true, eq_self, ok_4, ok_5, ok_6, ok_7, ok_9, ok_10, ok_20, ok_21, ok_24, ok_30, ok_48, ok_50, ok_60, ok_80, ok_120, ok_180, ok_192, ok_200, ok_900, ok_1000, ok_84000]
    have h1 := ct_findOrder (d := d + 9) (g := g) hS hF (P := fun r h' => r = none ∧ ∃ J, h' = (n, t, K, L, J, R) ∧ mF M c I1 J) (fun J q _ => ⟨rfl, J, rfl, q⟩)
    have eo : orF Y (btB g) (Y 0 17).toNatClampNeg 0 (fun _ => 0, 0) = orP Y := orF_q (n := Y 0 17) hbit _ 0 _ (by decide) h17.1 (by rw [show (0 : Int32).toNatClampNeg = 0 from rfl, Nat.zero_add])
    have h2 := xt_findOrder (d := d + 9) (g := g) hS hm h17 hg (P := fun r h' => r = none ∧ ∃ J, h' = (n, t, K, L, J, R) ∧ gs M I0 J Y ∧ J M 64 = Int32.ofNat (orP Y).2 ∧ (orP Y).2 ≤ 30 ∧ (∀ j, j < (orP Y).2 → J (M + 40) j = (orP Y).1 j ∧ 0 ≤ (orP Y).1 j ∧ (orP Y).1 j < Y 0 17)) (fun J q1 q2 q3 q4 => by
      rw [eo] at q2 q3 q4
      exact ⟨rfl, J, rfl, q1, q2, q3, q4⟩)
    refine (does_and h1 h2).weaken (fun r h' q => ?_)
    obtain ⟨⟨e1, J, e2, f1⟩, ⟨-, J2, e3, g1, o1, o2, o3⟩⟩ := q
    subst e1
    subst e2
    cases e3
    have e00 : Int32.ofNat 0 = 0 := rfl
    have hn := xt_plan_80 (d := d + 1) (P := P) (I0 := I0) (g := g) hS hm h17 h10 h6 hl hc hf he9 (o := (orP Y).1) o2 (fun j hj => (o3 j hj).2) hP (orP Y).2 0 (a_ui J M 61 0) Y 0 (fun _ => 0) (by omega) (sF_passedMany (mF_le f1 (by omega)) (by decide)) (gs_u0 g1 (sR_passedMany g1.1 (by decide)) (by unfold ps1; omega)) (fun _ _ _ => rfl) hm.2.2.2.1 (by rw [ui_ap, if_neg (by omega)]; exact o1) (fun j hj => by rw [ui_ap, if_neg (by omega)]; exact (o3 j hj).1) (Nat.le_refl _) (by rw [ui_ap, if_pos ⟨rfl, rfl⟩]; rfl) (fun j hj => absurd hj (Nat.not_lt_zero j)) rfl
    rw [Nat.sub_zero, e00] at hn
    clear hP hm hg g1 o3 hl hF f1
    simp only [q234_69, q234_70, q234_71, q234_74, q234_75, q234_77, q234_78, m_0 hS, m_K hS, as_nil, as_i, as_r, Nat.reduceAdd, Nat.reduceLeDiff, z_eq0, z_eq1, z_or, z_em, Classical.not_not, not_false_eq_true, not_true_eq_false, true_and, and_true, false_and, and_false, and_self, true_implies, false_implies, implies_true, Option.toList_some, Option.toList_none, List.cons_append, List.nil_append, Nat.add_eq_zero_iff, a_nl_i, a_nl_r, a_nl_n, true_or, or_true, eq_self, ok_4, ok_5, ok_6, ok_7, ok_9, ok_10, ok_20, ok_21, ok_24, ok_30, ok_48, ok_50, ok_60, ok_80, ok_120, ok_180, ok_192, ok_200, ok_900, ok_1000, ok_84000]
    exact hn) 0 (by decide) 0 (by decide) h17.1 (fun j hj => by
    rw [bq_0, show (0 : Int32).toNatClampNeg = 0 from rfl]
    exact ⟨fun q => absurd q Bool.false_ne_true, fun q => absurd q.1 (Nat.not_lt_zero j)⟩)
  clear hP hm hg hl hF
  simp only [q234_14, q234_15, q234_16, q234_17, as_nil, as_i, as_r, Nat.reduceAdd, Nat.reduceLeDiff, z_eq0, z_eq1, z_or, z_em, Classical.not_not, not_false_eq_true, not_true_eq_false, true_and, and_true, false_and, and_false, and_self, true_implies, false_implies, implies_true, Option.toList_some, Option.toList_none, List.cons_append, List.nil_append, Nat.add_eq_zero_iff, a_nl_i, a_nl_r, a_nl_n, true_or, or_true, eq_self, ok_4, ok_5, ok_6, ok_7, ok_9, ok_10, ok_20, ok_21, ok_24, ok_30, ok_48, ok_50, ok_60, ok_80, ok_120, ok_180, ok_192, ok_200, ok_900, ok_1000, ok_84000]
  exact hl19
end YF0
/-! what is made -/
section ZG0
variable {d n t C c : Nat} {K L : Nat → Nat} {I I0 J J0 J1 J2 : Nat → Nat → Int32} {R : Nat → Nat → Nat} {P : Option Value → AH → Prop}
variable {Y Z W : Nat → Nat → Int32} {R' R1 : Nat → Nat → Nat} {K' L' : Nat → Nat}
theorem cu_grow {m : Nat} (hH : cH C c m t K L I R) (hu : cuP C K L I R Y) (hK : ∀ x, x < m → K' x = K x) (hL : ∀ x, x < m → L' x = L x) (hJ : ∀ x j, x < m → J x j = I x j) (hR : ∀ x j, x < m → R' x j = R x j) : cuP C K' L' J R' Y := by
  have hT := hH.1
  have hC := hH.2.2.1
  have lt : ∀ {x k : Nat}, K x = k → ¬ k = 0 → x < m := fun hk h0 => kn_lt hH.2.1 hk h0
  have hc := hu.1
  have bb : ∀ b : Int32, 0 ≤ b → b < Y 0 6 → (R (C + 16) b.toNatClampNeg) < m := fun b b0 b1 => lt (hc.2.1.2.2.1 b b0 b1).1 (by decide)
  have tt : ∀ k : Int32, 0 ≤ k → k < Y 0 41 → (R (C + 8) k.toNatClampNeg) < m := fun k k0 k1 => lt (hc.2.2.2.1.2 k k0 k1).1 (by decide)
  have R16 : ∀ j, R' (C + 16) j = R (C + 16) j := fun j => hR _ _ (by omega)
  have R15 : ∀ j, R' (C + 15) j = R (C + 15) j := fun j => hR _ _ (by omega)
  have R8 : ∀ j, R' (C + 8) j = R (C + 8) j := fun j => hR _ _ (by omega)
  have R11 : R' C 11 = R C 11 := hR _ _ (by omega)
  have hcp : cpP C K' L' J R' Y := cp_mk hT hc (fun _ _ _ => rfl) hc.2.2.2.2.2.2.2.2.2.2.1 (fun x hx => ⟨hK x (lt rfl hx), hL x (lt rfl hx)⟩) (fun x j hx _ _ _ _ => hR x j (lt rfl hx)) (fun k j hk => hJ _ _ (by omega)) (fun x j kx _ _ => hJ _ _ (lt kx (by decide))) (fun x j kx _ => hJ _ _ (lt kx (by decide))) (fun x j kx => hJ _ _ (lt kx (by decide))) (fun k k0 k1 j => hJ _ _ (lt (hT.g_txt _ (hc.2.2.2.1.2 k k0 k1).1).2.2.1 (by decide))) (fun o o0 o1 => by
    have ao := hc.2.2.1.2.1 o o0 o1
    rw [hJ _ _ (lt ao.1 (by decide)), hJ _ _ (lt ao.1 (by decide))]
    exact (hc.2.2.1.2.2.2 o o0 o1).2.2.2.1) (plP_eq hc.2.1.2.2.2 (fun b b0 b1 => funext (fun j => hJ _ _ (lt (hT.g_bnc _ (hc.2.1.2.2.1 b b0 b1).1).2.1.2.1 (by decide)))) (fun b b0 b1 => funext (fun j => hJ _ _ (lt (hT.g_bnc _ (hc.2.1.2.2.1 b b0 b1).1).2.2.1.2.1 (by decide)))))
  obtain ⟨s1, s2, s3, s4⟩ := hu.2.1
  refine ⟨hcp, ⟨fun b b0 b1 => ?_, fun b c b0 b1 c0 c1 e => ?_, fun k b k0 k1 b0 b1 => ?_, fun b c b0 b1 c0 c1 => ?_⟩, ⟨siM_e hu.2.2.1.1 (fun k j hk => hJ _ _ (by omega)) (fun _ _ _ => rfl), siT_e hu.2.2.1.2.1 (fun k j hk => hJ _ _ (by omega)) (fun _ _ _ => rfl), ?_, hu.2.2.1.2.2.2⟩, hu.2.2.2.1, stP_f hc hu.2.2.2.2 (fun x hx => hJ _ _ (lt hx (by decide))) R8⟩
  · rw [R16, hR _ _ (bb b b0 b1), hR _ _ (bb b b0 b1), hR _ _ (bb b b0 b1)]
    exact s1 b b0 b1
  · rw [R16, R16] at e
    exact s2 b c b0 b1 c0 c1 e
  · rw [R8, R16, hR _ _ (tt k k0 k1), hR _ _ (bb b b0 b1)]
    exact s3 k b k0 k1 b0 b1
  · rw [R16, R16, hR _ _ (bb b b0 b1)]
    exact s4 b c b0 b1 c0 c1
  · obtain ⟨d1, d2⟩ := hu.2.2.1.2.2.1
    unfold siD
    rw [R11]
    refine ⟨d1, fun hd => ?_⟩
    obtain ⟨e1, e2, e3, e4⟩ := d2 hd
    have hl := lt e1 (by decide)
    rw [hK _ hl]
    refine ⟨e1, ?_, ?_, fun i i0 i1 => by rw [R15]; exact e4 i i0 i1⟩
    · rw [hJ _ _ hl, hJ _ _ hl, hJ _ _ hl, hJ _ _ hl]
      exact e2
    · rw [hJ _ _ hl, hJ _ _ hl, hJ _ _ hl, hJ _ _ hl, hJ _ _ hl]
      exact e3
/-- another draft -/
theorem cu_dr (hT : cT C K L I R) (hu : cuP C K L I R Y) {v : Nat} (hz : ∀ k j, ¬ (k = 0 ∧ 12 ≤ j ∧ j ≤ 16) → Z k j = Y k j) (hd : siD C K I (a_ur R C 11 v) Z) : cuP C K L I (a_ur R C 11 v) Z := by
  have hc0 := hT.s.1
  have e16 : a_ur R C 11 v (C + 16) = R (C + 16) := funext (fun j => by rw [ur_ap, if_neg (by omega)])
  have e15 : a_ur R C 11 v (C + 15) = R (C + 15) := funext (fun j => by rw [ur_ap, if_neg (by omega)])
  have e8 : a_ur R C 11 v (C + 8) = R (C + 8) := funext (fun j => by rw [ur_ap, if_neg (by omega)])
  have h2 : ∀ x j, ¬ j = 11 → a_ur R C 11 v x j = R x j := fun x j hj => by rw [ur_ap, if_neg (fun q => hj q.2)]
  have zr : ∀ k, ¬ k = 0 → Z k = Y k := fun k hk => funext (fun j => hz k j (by omega))
  have z0 : ∀ j, ¬ (12 ≤ j ∧ j ≤ 16) → Z 0 j = Y 0 j := fun j hj => hz 0 j (by omega)
  have wh : whC C I (a_ur R C 11 v) = whC C I R := funext (fun b => by unfold whC; rw [e16, h2 _ _ (by decide)])
  have sn : snC C I (a_ur R C 11 v) = snC C I R := funext (fun b => by unfold snC; rw [e16, h2 _ _ (by decide)])
  have wt : ∀ x, wtY Z x = wtY Y x := fun x => by
    unfold wtY
    rw [zr 28 (by omega)]
  have wv : ∀ x, wvY Z x = wvY Y x := fun x => by
    funext fc
    unfold wvY
    rw [wt, zr 29 (by omega)]
  obtain ⟨ec, eh⟩ := cmk_e (Y := Y) (Z := Z) (fun k j hk => hz k j (by unfold kK at hk; omega))
  obtain ⟨⟨⟨p1, p2, p3⟩, ⟨q1, q2, q3, q4⟩, ⟨r1, r2, r3, r4⟩, ⟨x1, x2⟩, hy⟩, hse, ⟨sM, sT, -, sY⟩, hno, hst⟩ := hu
  refine ⟨⟨⟨by rw [z0 0 (by omega)]; exact p1, fun j => by rw [zr 1 (by omega)]; exact p2 j, lsP_e p3 (fun _ => rfl) (fun k j hk => hz k j (by unfold kL at hk; omega))⟩, ⟨by rw [z0 6 (by omega)]; exact q1, by rw [z0 9 (by omega)]; exact q2, fun b b0 b1 => ?_, ?_⟩, ⟨by rw [z0 17 (by omega)]; exact r1, fun o o0 o1 => ?_, fun o o0 o1 => ?_, fun o o0 o1 => ?_⟩, ⟨by rw [z0 41 (by omega)]; exact x1, fun k k0 k1 => ?_⟩, ?_⟩, ?_, ⟨siM_e sM (fun _ _ _ => rfl) (fun k j hk => hz k j (by unfold kM at hk; omega)), siT_e sT (fun _ _ _ => rfl) (fun k j hk => hz k j (by unfold kT at hk; omega)), hd, siY_e sY (fun k j hk => hz k j (by unfold kY at hk; omega))⟩, ?_, ?_⟩
  · rw [z0 6 (by omega)] at b1
    rw [e16, zr 5 (by omega), zr 6 (by omega)]
    exact q3 b b0 b1
  · rw [wh, sn]
    unfold plP at q4 ⊢
    rw [z0 17 (by omega), z0 6 (by omega), zr 20 (by omega), zr 21 (by omega), zr 10 (by omega), zr 22 (by omega)]
    exact q4
  · rw [z0 17 (by omega)] at o1
    rw [e15]
    exact r2 o o0 o1
  · rw [z0 17 (by omega)] at o1
    rw [e15, ec, eh]
    exact r3 o o0 o1
  · rw [z0 17 (by omega)] at o1
    have hl := r4 o o0 o1
    have er : ∀ k, 7 ≤ k ∧ k ≤ 21 → Z k = Y k := fun k hk => zr k (by omega)
    rw [e15]
    unfold alP at hl ⊢
    rw [er 7 (by omega), er 8 (by omega), er 9 (by omega), er 10 (by omega), er 11 (by omega), er 12 (by omega), er 13 (by omega), er 14 (by omega), er 15 (by omega), er 16 (by omega), er 17 (by omega), er 18 (by omega), er 19 (by omega), er 20 (by omega), er 21 (by omega)]
    exact hl
  · rw [z0 41 (by omega)] at k1
    rw [e8, h2 _ 2 (by decide), wt, wv, zr 30 (by omega), zr 31 (by omega)]
    exact x2 k k0 k1
  · obtain ⟨h1, h2, h3, h4, h5, h6, h7, h8, h9, h10⟩ := hy
    refine ⟨by rw [z0 41 (by omega)]; exact h1, by rw [zr 10 (by omega)]; exact h2, by rw [z0 17 (by omega), zr 10 (by omega)]; exact h3, by rw [z0 9 (by omega)]; exact h4, by rw [z0 17 (by omega)]; exact h5, by rw [z0 6 (by omega)]; exact h6, ?_, ?_, ?_, by rw [z0 17 (by omega), zr 7 (by omega), zr 16 (by omega)]; exact h10⟩
    · unfold inP at h7 ⊢
      rw [zr 20 (by omega), zr 21 (by omega), zr 10 (by omega)]
      exact h7
    · unfold mkP at h8 ⊢
      rw [zr 38 (by omega), zr 36 (by omega)]
      exact h8
    · unfold hbP at h9 ⊢
      rw [zr 6 (by omega)]
      exact h9
  · unfold seP at hse ⊢
    simp only [e16, e8, z0 6 (by decide), z0 41 (by decide), h2 _ 2 (by decide), h2 _ 3 (by decide), h2 _ 4 (by decide), h2 _ 5 (by decide)]
    exact hse
  · unfold noP at hno ⊢
    rw [zr 20 (by omega), zr 21 (by omega)]
    exact hno
  · unfold stP at hst ⊢
    rw [e8, zr 31 (by omega), z0 41 (by omega)]
    exact hst
end ZG0
section ZG1
variable {d n t C c n0 n' n'' t' : Nat} {K L K0 L0 K' L' K'' L'' : Nat → Nat} {I I0 J J0 J1 J2 : Nat → Nat → Int32} {R R0 R' R'' : Nat → Nat → Nat} {P : Option Value → AH → Prop}
variable {Y Z : Nat → Nat → Int32}
theorem ce_Ainit (hH : cH C c (n + 1) t K L I R) {g l m w : Int32} (hm : 1 ≤ m ∧ m ≤ 4) (hP : ∀ J, cH C (c + 1) (n + 1 + 1) (t + 17) (a_up K (n + 1) 1) (a_up L (n + 1) 17) J (a_zr R (n + 1)) → (∀ x j, x < n + 1 → J x j = I x j) → (J (n + 1) 0 = g ∧ J (n + 1) 1 = l ∧ J (n + 1) 2 = m ∧ J (n + 1) 3 = w) → (J (n + 1) 12 = -9 ∧ J (n + 1) 13 = -9 ∧ J (n + 1) 14 = -9 ∧ J (n + 1) 15 = 0 ∧ J (n + 1) 16 = 0) → P none (n + 1 + 1, t + 17, a_up K (n + 1) 1, a_up L (n + 1) 17, J, a_zr R (n + 1))) : a_does (d + 1) 37 [a_rf (n + 1), .int g, .int l, .int m, .int w] (n + 1 + 1, t + 17, a_up K (n + 1) 1, a_up L (n + 1) 17, a_zi I (n + 1), a_zr R (n + 1)) P := by
  have hZ := cZ_refl hH
  have fr := hZ.2.1.2.1
  have hC := hZ.2.1.2.2.1
  have f0 : (n + 1 = 0) = False := eq_false (by omega)
  rw [a_enter1 (M := a_m37) rfl (a_cat_rf (a_cat_int (a_cat_int (a_cat_int (a_cat_int a_cat_nil))))) (show 5 ≤ 5 by decide)]
  show a_at _ (a_xm a_m37) 0 [some (a_rf (n+1)), some (.int g), some (.int l), some (.int m), some (.int w)] [] _ _
  simp only [q37_0, as_nil, as_i, as_r, Nat.reduceAdd, Nat.reduceLeDiff, z_eq0, z_eq1, z_or, z_em, Classical.not_not, not_false_eq_true, not_true_eq_false, true_and, and_true, false_and, and_false, and_self, true_implies, false_implies, implies_true, Option.toList_some, Option.toList_none, List.cons_append, List.nil_append, Nat.add_eq_zero_iff, a_nl_i, a_nl_r, a_nl_n, true_or, or_true, eq_self, a_isRA_22, a_isRA_24, a_isRA_32, a_isA_20, ok_4, ok_5, ok_6, ok_7, ok_9, ok_20, ok_21, ok_30, ok_50, ok_180, ok_192, ok_200]
  rw [q37_1 (show ¬ n + 1 = 0 by omega) (show a_sum [] ≤ 8 by decide)]
  simp only [q37_4, q37_5, q37_6, q37_9, q37_10, q37_11, q37_14, q37_15, q37_16, q37_19, q37_20, q37_22, q37_25, q37_26, q37_28, q37_31, q37_32, q37_34, q37_37, q37_38, q37_40, q37_43, as_nil, as_i, as_r, Nat.reduceAdd, Nat.reduceLeDiff, z_eq0, z_eq1, z_or, z_em, Classical.not_not, not_false_eq_true, not_true_eq_false, true_and, and_true, false_and, and_false, and_self, true_implies, false_implies, implies_true, Option.toList_some, Option.toList_none, List.cons_append, List.nil_append, Nat.add_eq_zero_iff, a_nl_i, a_nl_r, a_nl_n, true_or, or_true, eq_self, a_isRA_22, a_isRA_24, a_isRA_32, a_isA_20, ok_4, ok_5, ok_6, ok_7, ok_9, ok_20, ok_21, ok_30, ok_50, ok_180, ok_192, ok_200, up_ap, up_eq, Nat.add_left_cancel_iff, Nat.add_right_cancel_iff, Nat.reduceEqDiff, if_true, if_false, f0]
  generalize hi : a_ui (a_ui (a_ui (a_ui (a_ui (a_ui (a_ui (a_zi I (n + 1)) (n + 1) 0 g) (n + 1) 1 l) (n + 1) 2 m) (n + 1) 3 w) (n + 1) 12 (-9)) (n + 1) 13 (-9)) (n + 1) 14 (-9) = I5
  have i0 : I5 (n + 1) 0 = g ∧ I5 (n + 1) 1 = l ∧ I5 (n + 1) 2 = m ∧ I5 (n + 1) 3 = w := by rw [← hi]; simp [ui_ap]
  have i4 : I5 (n + 1) 4 = 0 := by rw [← hi]; simp [ui_ap, zi_ap]
  have i13 : I5 (n + 1) 12 = -9 ∧ I5 (n + 1) 13 = -9 ∧ I5 (n + 1) 14 = -9 ∧ I5 (n + 1) 15 = 0 ∧ I5 (n + 1) 16 = 0 := by rw [← hi]; simp [ui_ap, zi_ap]
  have ix : ∀ x j, x < n + 1 → I5 x j = I x j := fun x j hx => by
    have e : ¬ x = n + 1 := by omega
    rw [← hi]
    simp [ui_ap, zi_ap, e]
  clear hi
  have hz := cZ_new (m := 1) (s := 17) (K' := a_up K (n + 1) 1) (L' := a_up L (n + 1) 17) (J := I5) (R' := a_zr R (n + 1)) hZ (by decide) (by decide) (fun x hx => up_ne (by omega)) (fun x hx => up_ne (by omega)) ix (fun x j hx => zr_ne (by omega)) (fun x hx => by rw [up_ne (by omega)]; exact fr x (by omega)) (fun a h1 h2 => by
    by_cases e : a = n + 1
    · subst e
      rw [i0.2.2.1, i4, i13.2.1]
      exact ⟨by omega, hm, by decide, fun h => absurd h (by decide)⟩
    · rw [up_ne e, fr a (by omega)] at h2; cases h2) (fun b h1 h2 => by
    by_cases e : b = n + 1
    · subst e
      rw [up_eq] at h2; cases h2
    · rw [up_ne e, fr b (by omega)] at h2; cases h2) (fun x h1 h2 => by
    by_cases e : x = n + 1
    · subst e
      rw [up_eq] at h2; cases h2
    · rw [up_ne e, fr x (by omega)] at h2; cases h2)
  exact hP I5 hz.2.1 ix i0 i13
/-- the words behind a draft -/
def drW (Y : Nat → Nat → Int32) (g l m w : Int32) : Nat → Nat → Int32 := upY (upY (upY (upY (upY Y 0 12 1) 0 13 g) 0 14 l) 0 15 m) 0 16 w
def drY (Y : Nat → Nat → Int32) (g l m w : Int32) : Nat → Nat → Int32 := if dv g l m w = 1 then drW Y g l m w else Y
theorem dr_no {g l m w : Int32} {k j : Nat} (h : ¬ (k = 0 ∧ 12 ≤ j ∧ j ≤ 16)) : drW Y g l m w k j = Y k j := by
  unfold drW
  rw [up_no (by omega), up_no (by omega), up_no (by omega), up_no (by omega), up_no (by omega)]
theorem dr_at {g l m w : Int32} : drW Y g l m w 0 12 = 1 ∧ drW Y g l m w 0 13 = g ∧ drW Y g l m w 0 14 = l ∧ drW Y g l m w 0 15 = m ∧ drW Y g l m w 0 16 = w := by
  unfold drW
  refine ⟨?_, ?_, ?_, ?_, up_at⟩
  · rw [up_no (by omega), up_no (by omega), up_no (by omega), up_no (by omega), up_at]
  · rw [up_no (by omega), up_no (by omega), up_no (by omega), up_at]
  · rw [up_no (by omega), up_no (by omega), up_at]
  · rw [up_no (by omega), up_at]
theorem ge_draft (hH : cH C c (n + 1) t K L I R) (hu : cuP C K L I R Y) {g l m w : Int32} (hP : ∀ v n' t' K' L' J R', cH C (c + 4) (n' + 1) t' K' L' J R' → cuP C K' L' J R' (drY Y g l m w) → P (some (.int v)) (n' + 1, t', K', L', J, R')) : a_does (d + 70) 36 [a_rf C, .int g, .int l, .int m, .int w] (n + 1, t, K, L, I, R) P := by
  have hT := hH.1
  have hS := hT.s
  have hq : ∀ v J, v = dv g l m w → ¬ v = 1 → rfQ C c (n + 1) t K L I R J → P (some (.int v)) (n + 1, t, K, L, J, R) := fun v J e e1 z => hP v n t K L J R (cH_le z.1 (by omega)) (by
    unfold drY
    rw [← e, if_neg e1]
    exact cu_re hH hu z)
  have f0 : (n + 1 = 0) = False := eq_false (by omega)
  have hC := hH.2.2.1
  have nC : (C = n + 1) = False := eq_false (by omega)
  have hgo : ¬ g < 0 → ¬ 10 ≤ g → ¬ l < 0 → l < 5 → ¬ m < 1 → 0 ≤ w → ¬ 4 < m → w ≤ 7 → a_at (d + 69) (a_xm a_m36) 61 [some (a_rf C), some (.int g), some (.int l), some (.int m), some (.int w)] [] (n + 1, t, K, L, I, R) P := fun a1 a2 a3 a4 a5 a6 a7 a8 => by
    have hm : 1 ≤ m ∧ m ≤ 4 := ⟨Int32.not_lt.mp a5, Int32.not_lt.mp a7⟩
    have hv : dv g l m w = 1 := by clear hq hP hu hH hT hS; unfold dv; grind
    unfold drY at hP
    rw [if_pos hv] at hP
    simp only [q36_61, q36_62, q36_65, q36_66, q36_67, q36_68, q36_69, q36_71, as_nil, as_i, as_r, Nat.reduceAdd, Nat.reduceLeDiff, z_eq0, z_eq1, z_or, z_em, Classical.not_not, not_false_eq_true, not_true_eq_false, true_and, and_true, false_and, and_false, and_self, true_implies, false_implies, implies_true, Option.toList_some, Option.toList_none, List.cons_append, List.nil_append, Nat.add_eq_zero_iff, a_nl_i, a_nl_r, a_nl_n, true_or, or_true, eq_self, a_isRA_22, a_isRA_24, a_isRA_32, a_isA_20, ok_4, ok_5, ok_6, ok_7, ok_9, ok_20, ok_21, ok_30, ok_50, ok_180, ok_192, ok_200, f0]
    refine ce_Ainit hH hm (fun J z f1 f2 f3 => ?_)
    have hS := z.1.s
    have k1 : a_up K (n + 1) 1 (n + 1) = 1 := up_eq
    have hu2 := cu_grow (K' := a_up K (n + 1) 1) (L' := a_up L (n + 1) 17) (R' := a_zr R (n + 1)) hH hu (fun x hx => up_ne (by omega)) (fun x hx => up_ne (by omega)) f1 (fun x j hx => zr_ne (by omega))
    obtain ⟨b1, b2, b3, b4, b5⟩ := dr_at (Y := Y) (g := g) (l := l) (m := m) (w := w)
    have rn : a_ur (a_zr R (n + 1)) C 11 (n + 1) C 11 = n + 1 := by rw [ur_ap, if_pos ⟨rfl, rfl⟩]
    have hp := hP 1 (n + 1) (t + 17) _ _ J (a_ur (a_zr R (n + 1)) C 11 (n + 1)) (cH_le (cZ_Rd (cZ_refl z) (Or.inr k1)).2.1 (by omega)) (cu_dr z.1 hu2 (fun k j hk => dr_no hk) (by
      unfold siD
      rw [rn, b1, b2, b3, b4, b5, k1, dr_no (by omega)]
      refine ⟨⟨fun q => absurd q (by omega), fun q => absurd q (by decide)⟩, fun _ => ⟨rfl, f2, f3, fun i i0 i1 => ?_⟩⟩
      rw [ur_ap, if_neg (by omega), zr_ne (by omega)]
      have := kn_lt hH.2.1 (hu.1.2.2.1.2.1 i i0 i1).1 (by decide)
      omega))
    clear hP hq hu hu2
    simp only [q36_74, q36_77, q36_78, k_0 hS, z_C hS, as_nil, as_i, as_r, Nat.reduceAdd, Nat.reduceLeDiff, z_eq0, z_eq1, z_or, z_em, Classical.not_not, not_false_eq_true, not_true_eq_false, true_and, and_true, false_and, and_false, and_self, true_implies, false_implies, implies_true, Option.toList_some, Option.toList_none, List.cons_append, List.nil_append, Nat.add_eq_zero_iff, a_nl_i, a_nl_r, a_nl_n, true_or, or_true, eq_self, a_isRA_22, a_isRA_24, a_isRA_32, a_isA_20, ok_4, ok_5, ok_6, ok_7, ok_9, ok_20, ok_21, ok_30, ok_50, ok_180, ok_192, ok_200, ui_ap, cc_ne, cc_n0, cc_0n, Nat.reduceEqDiff, reduceIte, if_true, if_false]
    try simp only [true_and, and_true, true_implies, false_implies, implies_true, not_true_eq_false, not_false_eq_true]
    first
      | exact hp
      | grind
  clear hP
  rw [a_enter1 (M := a_m36) rfl (a_cat_rf (a_cat_int (a_cat_int (a_cat_int (a_cat_int a_cat_nil))))) (show 5 ≤ 5 by decide)]
  show a_at _ (a_xm a_m36) 0 [some (a_rf C), some (.int g), some (.int l), some (.int m), some (.int w)] [] _ _
  repeat' first
    | with_reducible apply And.intro
    | with_reducible assumption
    | with_reducible intro _
    | refine cr_refuse hH (fun _ _ => ?_)
    | refine hq _ _ ?_ (by decide) (by assumption)
    | exact hgo (by assumption) (by assumption) (by assumption) (by assumption) (by assumption) (by assumption) (by assumption) (by assumption)
    | simp only [q36_0, q36_1, q36_4, q36_5, q36_7, q36_10, q36_11, q36_14, q36_15, q36_16, q36_19, q36_20, q36_21, q36_24, q36_25, q36_26, q36_27, q36_30, q36_32, q36_35, q36_36, q36_38, q36_41, q36_42, q36_43, q36_44, q36_47, q36_49, q36_51, q36_54, q36_55, q36_57, q36_60, k_0 hS, z_C hS, as_nil, as_i, as_r, Nat.reduceAdd, Nat.reduceLeDiff, z_eq0, z_eq1, z_or, z_em, Classical.not_not, not_false_eq_true, not_true_eq_false, true_and, and_true, false_and, and_false, and_self, true_implies, false_implies, implies_true, Option.toList_some, Option.toList_none, List.cons_append, List.nil_append, Nat.add_eq_zero_iff, a_nl_i, a_nl_r, a_nl_n, true_or, or_true, eq_self, a_isRA_22, a_isRA_24, a_isRA_32, a_isA_20, ok_4, ok_5, ok_6, ok_7, ok_9, ok_20, ok_21, ok_30, ok_50, ok_180, ok_192, ok_200]
  all_goals ((try clear hgo); (try clear hq); (try clear hP); (try clear hu); (try clear hH); (try clear hT); (try clear hS); grind [ui_ap, dv])
end ZG1
section ZG2
variable {d n t M : Nat} {K L : Nat → Nat} {I I0 J J0 J1 J2 : Nat → Nat → Int32} {R : Nat → Nat → Nat} {P : Option Value → AH → Prop} {f : Nat → Int32} {e : Int32}
variable {Y Z W : Nat → Nat → Int32}
theorem xp_draft (hS : m_S M K L R) {I1 : Nat → Nat → Int32} (hm : okY Y) {c : Nat} (hc : c + 130 ≤ 84000) (hF : mF M c I1 I) (hg : gs M I0 I Y) {g l m w : Int32} (hP : ∀ v J, J M 35 = I M 35 → gs M I0 J (drY Y g l m w) → P (some (.int v)) (n, t, K, L, J, R)) : a_does (d + 13) 180 [a_rf M, .int g, .int l, .int m, .int w] (n, t, K, L, I, R) P := by
  have hy := hm.1
  have h17 := hy.2.2.2.2.1
  have h10 := hy.2.1
  have h6 := hy.2.2.2.2.2.1
  have hl := hy.2.2.1
  have hrf : ∀ k : Nat, mF M (c + 120) I1 (a_ui I (M + 23) k (I (M + 23) k + 1)) ∧ gs M I0 (a_ui I (M + 23) k (I (M + 23) k + 1)) Y := fun k => ⟨mF_le (sF_refused hF) (by omega), gs_ui hg (sR_refused hg.1) (by omega) ⟨by unfold ps1; omega, by omega⟩⟩
  have e17 : I M 17 = Y 0 17 := hg.2.2.1 0 17 (by unfold ps1; omega)
  have e6 : I M 6 = Y 0 6 := hg.2.2.1 0 6 (by unfold ps1; omega)
  have e0 : I M 0 = Y 0 0 := hg.2.2.1 0 0 (by unfold ps1; omega)
  have m17 : ∀ x : Int32, (x ≤ Y 0 17 - 1) = (x < Y 0 17) := fun x => le_m1 h17
  have m6 : ∀ x : Int32, (x ≤ Y 0 6 - 1) = (x < Y 0 6) := fun x => le_m1 ⟨h6.1, Int32.le_trans h6.2 (by decide)⟩
  have m199 : ∀ x : Int32, (x ≤ 199) = (x < 200) := fun x => propext ⟨fun q => Int32.lt_of_le_of_lt q (by decide), fun q => by clear hP hrf hm hg hF; grind⟩
  have hq : ∀ k : Nat, ∀ v, ¬ dv g l m w = 1 → P (some (.int v)) (n, t, K, L, (a_ui I (M + 23) k (I (M + 23) k + 1)), R) := fun k v e => by
    unfold drY at hP
    rw [if_neg e] at hP
    exact hP v _ (by rw [ui_ap, if_neg (by omega)]) (hrf k).2
  have hn : ∀ x : Int32, (x ≤ 9) = (x < 10) := fun x => propext (by clear hP hrf hm hy hl hg hF hq; grind)
  by_cases c1 : (0 ≤ g ∧ g ≤ 9) ∧ (0 ≤ l ∧ l ≤ 4)
  · by_cases c2 : m < 1 ∨ w < 0
    · have hr := hq 4 (-4) (by unfold dv; rw [if_neg (fun q => q c1), if_pos c2]; decide)
      clear hP hrf hm hy hl hg hF hq hn
      rw [a_enter1 (M := a_m180) rfl (a_cat_rf (a_cat_int (a_cat_int (a_cat_int (a_cat_int a_cat_nil))))) (show 5 ≤ 5 by decide)]
      show a_at _ (a_xm a_m180) 0 [some (a_rf M), some (.int g), some (.int l), some (.int m), some (.int w)] [] _ _
      simp only [q180_0, q180_1, q180_2, q180_4, q180_7, q180_10, q180_11, q180_12, q180_13, q180_16, q180_19, q180_20, q180_21, q180_24, q180_25, q180_26, q180_27, q180_30, q180_32, q180_35, q180_36, q180_38, q180_41, m_0 hS, m_K hS, sp_in, sp_refuse_1 hS, sp_refuse_2 hS, sp_refuse_3 hS, sp_refuse_4 hS, sp_refuse_5 hS, sp_refuse_6 hS, as_nil, as_i, as_r, Nat.reduceAdd, Nat.reduceLeDiff, z_eq0, z_eq1, z_or, z_em, Classical.not_not, not_false_eq_true, not_true_eq_false, true_and, and_true, false_and, and_false, and_self, true_implies, false_implies, implies_true, Option.toList_some, Option.toList_none, List.cons_append, List.nil_append, Nat.add_eq_zero_iff, a_nl_i, a_nl_r, a_nl_n, true_or, or_true, eq_self, ok_4, ok_5, ok_6, ok_7, ok_9, ok_10, ok_20, ok_21, ok_24, ok_30, ok_48, ok_50, ok_60, ok_80, ok_120, ok_180, ok_192, ok_200, ok_900, ok_1000, ok_84000, c1]
      try simp only [true_and, and_true, true_implies, false_implies, implies_true, not_true_eq_false, not_false_eq_true]
      grind
    · by_cases c3 : 4 < m ∨ 7 < w
      · have hr := hq 6 (-6) (by unfold dv; rw [if_neg (fun q => q c1), if_neg c2, if_pos c3]; decide)
        clear hP hrf hm hy hl hg hF hq hn
        rw [a_enter1 (M := a_m180) rfl (a_cat_rf (a_cat_int (a_cat_int (a_cat_int (a_cat_int a_cat_nil))))) (show 5 ≤ 5 by decide)]
        show a_at _ (a_xm a_m180) 0 [some (a_rf M), some (.int g), some (.int l), some (.int m), some (.int w)] [] _ _
        simp only [q180_0, q180_1, q180_2, q180_4, q180_7, q180_10, q180_11, q180_12, q180_13, q180_16, q180_19, q180_20, q180_21, q180_24, q180_25, q180_26, q180_27, q180_30, q180_32, q180_35, q180_36, q180_38, q180_41, q180_42, q180_43, q180_44, q180_47, q180_49, q180_51, q180_54, q180_55, q180_57, q180_60, m_0 hS, m_K hS, sp_in, sp_refuse_1 hS, sp_refuse_2 hS, sp_refuse_3 hS, sp_refuse_4 hS, sp_refuse_5 hS, sp_refuse_6 hS, as_nil, as_i, as_r, Nat.reduceAdd, Nat.reduceLeDiff, z_eq0, z_eq1, z_or, z_em, Classical.not_not, not_false_eq_true, not_true_eq_false, true_and, and_true, false_and, and_false, and_self, true_implies, false_implies, implies_true, Option.toList_some, Option.toList_none, List.cons_append, List.nil_append, Nat.add_eq_zero_iff, a_nl_i, a_nl_r, a_nl_n, true_or, or_true, eq_self, ok_4, ok_5, ok_6, ok_7, ok_9, ok_10, ok_20, ok_21, ok_24, ok_30, ok_48, ok_50, ok_60, ok_80, ok_120, ok_180, ok_192, ok_200, ok_900, ok_1000, ok_84000, c1]
        try simp only [true_and, and_true, true_implies, false_implies, implies_true, not_true_eq_false, not_false_eq_true]
        grind
      · have e1 : dv g l m w = 1 := by unfold dv; rw [if_neg (fun q => q c1), if_neg c2, if_neg c3]
        unfold drY at hP
        rw [if_pos e1] at hP
        have s1 := gs_up2 hg (k := 0) (j := 12) (v := 1) (by omega) (by omega) (sR_hasDraft hg.1)
        have s2 := gs_up2 s1 (k := 0) (j := 13) (v := g) (by omega) (by omega) (sR_draftGroup s1.1 c1.1)
        have s3 := gs_up2 s2 (k := 0) (j := 14) (v := l) (by omega) (by omega) (sR_draftLand s2.1)
        have s4 := gs_up2 s3 (k := 0) (j := 15) (v := m) (by omega) (by omega) (sR_draftLong s3.1 (by clear hP hrf hm hy hl hg hF hq s1 s2 s3 hn; grind))
        have s5 := gs_up2 s4 (k := 0) (j := 16) (v := w) (by omega) (by omega) (sR_draftWants s4.1)
        have hp := hP 1 _ (by rw [ui_ap, if_neg (by omega), ui_ap, if_neg (by omega), ui_ap, if_neg (by omega), ui_ap, if_neg (by omega), ui_ap, if_neg (by omega)]) s5
        have a11 : (1 : Int32) &&& 1 = 1 := by decide
        clear hP hrf hm hy hl hg hF hq s1 s2 s3 s4 s5 hn
        rw [a_enter1 (M := a_m180) rfl (a_cat_rf (a_cat_int (a_cat_int (a_cat_int (a_cat_int a_cat_nil))))) (show 5 ≤ 5 by decide)]
        show a_at _ (a_xm a_m180) 0 [some (a_rf M), some (.int g), some (.int l), some (.int m), some (.int w)] [] _ _
        simp only [q180_0, q180_1, q180_2, q180_4, q180_7, q180_10, q180_11, q180_12, q180_13, q180_16, q180_19, q180_20, q180_21, q180_24, q180_25, q180_26, q180_27, q180_30, q180_32, q180_35, q180_36, q180_38, q180_41, q180_42, q180_43, q180_44, q180_47, q180_49, q180_51, q180_54, q180_55, q180_57, q180_60, q180_61, q180_62, q180_63, q180_66, q180_67, q180_68, q180_71, q180_72, q180_73, q180_76, q180_77, q180_78, q180_81, q180_82, q180_84, q180_87, q180_88, m_0 hS, m_K hS, sp_in, sp_refuse_1 hS, sp_refuse_2 hS, sp_refuse_3 hS, sp_refuse_4 hS, sp_refuse_5 hS, sp_refuse_6 hS, as_nil, as_i, as_r, Nat.reduceAdd, Nat.reduceLeDiff, z_eq0, z_eq1, z_or, z_em, Classical.not_not, not_false_eq_true, not_true_eq_false, true_and, and_true, false_and, and_false, and_self, true_implies, false_implies, implies_true, Option.toList_some, Option.toList_none, List.cons_append, List.nil_append, Nat.add_eq_zero_iff, a_nl_i, a_nl_r, a_nl_n, true_or, or_true, eq_self, ok_4, ok_5, ok_6, ok_7, ok_9, ok_10, ok_20, ok_21, ok_24, ok_30, ok_48, ok_50, ok_60, ok_80, ok_120, ok_180, ok_192, ok_200, ok_900, ok_1000, ok_84000, c1, a11]
        try simp only [true_and, and_true, true_implies, false_implies, implies_true, not_true_eq_false, not_false_eq_true]
        grind
  · have hr := hq 1 (-1) (by unfold dv; rw [if_pos c1]; decide)
    clear hP hrf hm hy hl hg hF hq hn
    rw [a_enter1 (M := a_m180) rfl (a_cat_rf (a_cat_int (a_cat_int (a_cat_int (a_cat_int a_cat_nil))))) (show 5 ≤ 5 by decide)]
    show a_at _ (a_xm a_m180) 0 [some (a_rf M), some (.int g), some (.int l), some (.int m), some (.int w)] [] _ _
    simp only [q180_0, q180_1, q180_2, q180_4, q180_7, q180_10, q180_11, q180_12, q180_13, q180_16, q180_19, q180_20, q180_21, q180_24, m_0 hS, m_K hS, sp_in, sp_refuse_1 hS, sp_refuse_2 hS, sp_refuse_3 hS, sp_refuse_4 hS, sp_refuse_5 hS, sp_refuse_6 hS, as_nil, as_i, as_r, Nat.reduceAdd, Nat.reduceLeDiff, z_eq0, z_eq1, z_or, z_em, Classical.not_not, not_false_eq_true, not_true_eq_false, true_and, and_true, false_and, and_false, and_self, true_implies, false_implies, implies_true, Option.toList_some, Option.toList_none, List.cons_append, List.nil_append, Nat.add_eq_zero_iff, a_nl_i, a_nl_r, a_nl_n, true_or, or_true, eq_self, ok_4, ok_5, ok_6, ok_7, ok_9, ok_10, ok_20, ok_21, ok_24, ok_30, ok_48, ok_50, ok_60, ok_80, ok_120, ok_180, ok_192, ok_200, ok_900, ok_1000, ok_84000]
    try simp only [true_and, and_true, true_implies, false_implies, implies_true, not_true_eq_false, not_false_eq_true]
    grind
end ZG2

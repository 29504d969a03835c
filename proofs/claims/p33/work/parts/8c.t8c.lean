/-! the class: swap, the public call -/
section ZCC
variable {d n t C c : Nat} {K L : Nat → Nat} {I I0 J J0 J1 J2 : Nat → Nat → Int32} {R : Nat → Nat → Nat} {P : Option Value → AH → Prop}
variable {Y Z W : Nat → Nat → Int32} {R' R1 R2 : Nat → Nat → Nat} {K' L' : Nat → Nat} {m : Nat} {g : Nat → Int32}
theorem kp_fq (hH : cH C c n t K L I R) (hT : cT C K L J R) {g : Nat → Int32} {p q : Nat} (k : kpP C R Y g I p q J) : fqP C c n t K L I R J R := ⟨cH_J hH hT, fun _ _ _ _ _ => rfl, fun x j _ _ _ _ a5 a6 a7 => k.1 x j a5 a6 a7⟩
theorem ce_turn {z : Int32} (ez : z.toNatClampNeg = m) (hz : 1 ≤ z ∧ z ≤ 5) (hH : cH C c (n + 1) t K L I R) (hu : cuP C K L I R Y) (r : rgA Y m g) (hb : mbP C R Y m g) (es : I (C + 35) 7 = z) (hP : ∀ n' t' K' L' J R', cH C c (n' + 1) t' K' L' J R' → cuP C K' L' J R' (swS g m Y m) → P (some (.int z)) (n' + 1, t', K', L', J, R')) : a_does (d + 8) 159 [a_rf (C + 35)] (n + 1, t, K, L, I, R) P := by
  have hT := hH.1
  have hS := hT.s
  have ty := rg_ty r
  have tp : tuP C R Y m g := ⟨fun k hk => ⟨(ty.1 k hk).1, (ty.1 k hk).2, (hb k hk).2⟩, ty.2.1, ty.2.2⟩
  have hz0 : 0 ≤ z ∧ z ≤ 5 := ⟨Int32.le_trans (by decide) hz.1, hz.2⟩
  have hno0 : noP Y := hu.2.2.2.1
  have yl : ∀ k, k < m → (0 ≤ Y 20 (g k).toNatClampNeg ∧ Y 20 (g k).toNatClampNeg < Y 0 6) ∧ (0 ≤ (Y 21 (g k).toNatClampNeg) ∧ (Y 21 (g k).toNatClampNeg) ≤ 199) ∧ (Y 21 (g k).toNatClampNeg) + (Y 10 (g 0).toNatClampNeg) ≤ 200 := fun k hk => by
    obtain ⟨a1, a2, a3, -⟩ := tp_pl hu.1 tp hk
    exact ⟨a1, a2, a3⟩
  have hmain := ce_keep (d := d + 5) (n := n + 1) (t := t) hT hu.1 hu.2.1 tp ez hz0 es (P := fun r' h' => a_at (d + 7) (a_xm a_m159) 4 [some (a_rf (C + 35)), none, none] (r'.toList ++ []) h' P) (fun J1 T1 k1 => by
    have hS1 := T1.s
    have q1 := kp_fq hH T1 k1
    have hu1 := fq_cu hH hu q1
    have e7 : J1 (C + 35) 7 = z := (k1.1 _ _ (by omega) (by omega) (by omega)).trans es
    have hl := le_swap_6 (d := d) (c := c) (C := C) (P := P) ez hz ty (fun n t K L J R1 w hH hu kv e7 => by
      have hS := hH.1.s
      have hg := le_swap_35 (d := d) (n := n) (t := t) (P := P) (R1 := R1) ez hz ty r.2 yl hno0 (fun J2 h2 u2 => hP n t K L J2 R1 h2 u2) 0 (by decide) J none (by decide) hz0.1 hH hu kv e7
      clear hP hu kv
      simp only [q159_33, q159_34, as_nil, as_i, as_r, Nat.reduceAdd, Nat.reduceLeDiff, z_eq0, z_eq1, z_or, z_em, Classical.not_not, not_false_eq_true, not_true_eq_false, true_and, and_true, false_and, and_false, and_self, true_implies, false_implies, implies_true, Option.toList_some, Option.toList_none, List.cons_append, List.nil_append, Nat.add_eq_zero_iff, a_nl_i, a_nl_r, a_nl_n, true_or, or_true, eq_self, a_isRA_22, a_isRA_24, a_isRA_32, a_isA_20, ok_4, ok_5, ok_6, ok_7, ok_9, ok_20, ok_21, ok_30, ok_50, ok_180, ok_192, ok_200]
      exact hg) 0 (by decide) n t K L J1 R (by decide) hz0.1 q1.1 hu1 (fun k hk => ⟨k1.2.1 k hk, (hb k hk).2⟩) e7
    clear hP hu hu1 k1 yl tp hb r
    simp only [q159_4, q159_5, as_nil, as_i, as_r, Nat.reduceAdd, Nat.reduceLeDiff, z_eq0, z_eq1, z_or, z_em, Classical.not_not, not_false_eq_true, not_true_eq_false, true_and, and_true, false_and, and_false, and_self, true_implies, false_implies, implies_true, Option.toList_some, Option.toList_none, List.cons_append, List.nil_append, Nat.add_eq_zero_iff, a_nl_i, a_nl_r, a_nl_n, true_or, or_true, eq_self, a_isRA_22, a_isRA_24, a_isRA_32, a_isA_20, ok_4, ok_5, ok_6, ok_7, ok_9, ok_20, ok_21, ok_30, ok_50, ok_180, ok_192, ok_200]
    exact hl)
  clear hP hu yl tp hb r
  rw [a_enter1 (M := a_m159) rfl (a_cat_rf a_cat_nil) (show 1 ≤ 3 by decide)]
  show a_at _ (a_xm a_m159) 0 [some (a_rf (C + 35)), none, none] [] _ _
  simp only [q159_0, q159_1, k_35 hS, z_35, as_nil, as_i, as_r, Nat.reduceAdd, Nat.reduceLeDiff, z_eq0, z_eq1, z_or, z_em, Classical.not_not, not_false_eq_true, not_true_eq_false, true_and, and_true, false_and, and_false, and_self, true_implies, false_implies, implies_true, Option.toList_some, Option.toList_none, List.cons_append, List.nil_append, Nat.add_eq_zero_iff, a_nl_i, a_nl_r, a_nl_n, true_or, or_true, eq_self, a_isRA_22, a_isRA_24, a_isRA_32, a_isA_20, ok_4, ok_5, ok_6, ok_7, ok_9, ok_20, ok_21, ok_30, ok_50, ok_180, ok_192, ok_200]
  exact hmain
theorem ge_swap (hH : cH C c (n + 1) t K L I R) (hu : cuP C K L I R Y) (hP : ∀ v Z n' t' K' L' J R', swO Y v Z → cH C c (n' + 1) t' K' L' J R' → cuP C K' L' J R' Z → P (some (.int v)) (n' + 1, t', K', L', J, R')) : a_does (d + 70) 158 [a_rf C] (n + 1, t, K, L, I, R) P := by
  have hS := hH.1.s
  have hl := ce_find (d := d + 28) (n := n + 1) hH hu (P := fun r' h' => a_at (d + 69) (a_xm a_m158) 7 [some (a_rf C)] (r'.toList ++ []) h' P) (fun v J R1 g q es hv hr hb => by
    have hT2 := q.1.1
    have hS := hT2.s
    have hu2 := fq_cu hH hu q
    by_cases c1 : v = 0
    · have hf := ge_refuse (d := d + 68) (v := -3) q.1 hu2 (P := fun r' h' => a_at (d + 69) (a_xm a_m158) 16 [some (a_rf C)] (r'.toList ++ []) h' P) (fun J2 z2 u2 => by
        have hS := z2.1.s
        have hp := hP (-3) Y n t K L J2 R1 ⟨_, g, hr, Or.inl ⟨by rw [c1]; rfl, rfl, rfl⟩⟩ z2 u2
        clear hP hu hu2 hr hb q
        simp only [q158_16, as_nil, as_i, as_r, Nat.reduceAdd, Nat.reduceLeDiff, z_eq0, z_eq1, z_or, z_em, Classical.not_not, not_false_eq_true, not_true_eq_false, true_and, and_true, false_and, and_false, and_self, true_implies, false_implies, implies_true, Option.toList_some, Option.toList_none, List.cons_append, List.nil_append, Nat.add_eq_zero_iff, a_nl_i, a_nl_r, a_nl_n, true_or, or_true, eq_self, a_isRA_22, a_isRA_24, a_isRA_32, a_isA_20, ok_4, ok_5, ok_6, ok_7, ok_9, ok_20, ok_21, ok_30, ok_50, ok_180, ok_192, ok_200]
        exact hp)
      clear hP hu hu2 hr hb q
      simp only [q158_7, q158_10, q158_11, q158_13, k_0 hS, z_C hS, as_nil, as_i, as_r, Nat.reduceAdd, Nat.reduceLeDiff, z_eq0, z_eq1, z_or, z_em, Classical.not_not, not_false_eq_true, not_true_eq_false, true_and, and_true, false_and, and_false, and_self, true_implies, false_implies, implies_true, Option.toList_some, Option.toList_none, List.cons_append, List.nil_append, Nat.add_eq_zero_iff, a_nl_i, a_nl_r, a_nl_n, true_or, or_true, eq_self, a_isRA_22, a_isRA_24, a_isRA_32, a_isA_20, ok_4, ok_5, ok_6, ok_7, ok_9, ok_20, ok_21, ok_30, ok_50, ok_180, ok_192, ok_200, c1]
      try simp only [true_and, and_true, true_implies, false_implies, implies_true, not_true_eq_false, not_false_eq_true]
      first
        | exact hf
        | exact ⟨fun h => absurd rfl h, fun _ => hf⟩
        | grind
    · have v25 := hv.resolve_left c1
      have v1 : 1 ≤ v ∧ v ≤ 5 := ⟨Int32.le_trans (by decide) v25.1, v25.2⟩
      have v0 : 0 ≤ v := Int32.le_trans (by decide) v25.1
      have vn : 1 < v.toNatClampNeg := cl_lt (i := 1) (by decide) (Int32.lt_of_lt_of_le (by decide) v25.1)
      rcases hr with ⟨e, -⟩ | hr2
      · omega
      · have ht := ce_turn (d := d + 61) (m := v.toNatClampNeg) rfl v1 q.1 hu2 hr2.2.1 hb es (P := fun r' h' => a_at (d + 69) (a_xm a_m158) 24 [some (a_rf C)] (r'.toList ++ []) h' P) (fun n' t' K' L' J2 R2 z2 u2 => by
          have hS := z2.1.s
          have hp := hP v _ n' t' K' L' J2 R2 ⟨_, g, Or.inr hr2, Or.inr ⟨by omega, on_cl v0, rfl⟩⟩ z2 u2
          clear hP hu hu2 hr2 hb q
          simp only [q158_24, as_nil, as_i, as_r, Nat.reduceAdd, Nat.reduceLeDiff, z_eq0, z_eq1, z_or, z_em, Classical.not_not, not_false_eq_true, not_true_eq_false, true_and, and_true, false_and, and_false, and_self, true_implies, false_implies, implies_true, Option.toList_some, Option.toList_none, List.cons_append, List.nil_append, Nat.add_eq_zero_iff, a_nl_i, a_nl_r, a_nl_n, true_or, or_true, eq_self, a_isRA_22, a_isRA_24, a_isRA_32, a_isA_20, ok_4, ok_5, ok_6, ok_7, ok_9, ok_20, ok_21, ok_30, ok_50, ok_180, ok_192, ok_200]
          exact hp)
        clear hP hu hu2 hr2 hb q
        simp only [q158_7, q158_17, q158_18, q158_21, k_0 hS, z_C hS, r_0_7 hS, k_35 hS, z_35, as_nil, as_i, as_r, Nat.reduceAdd, Nat.reduceLeDiff, z_eq0, z_eq1, z_or, z_em, Classical.not_not, not_false_eq_true, not_true_eq_false, true_and, and_true, false_and, and_false, and_self, true_implies, false_implies, implies_true, Option.toList_some, Option.toList_none, List.cons_append, List.nil_append, Nat.add_eq_zero_iff, a_nl_i, a_nl_r, a_nl_n, true_or, or_true, eq_self, a_isRA_22, a_isRA_24, a_isRA_32, a_isA_20, ok_4, ok_5, ok_6, ok_7, ok_9, ok_20, ok_21, ok_30, ok_50, ok_180, ok_192, ok_200, c1]
        try simp only [true_and, and_true, true_implies, false_implies, implies_true, not_true_eq_false, not_false_eq_true]
        first
          | exact ht
          | grind)
  clear hP hu
  rw [a_enter1 (M := a_m158) rfl (a_cat_rf a_cat_nil) (show 1 ≤ 1 by decide)]
  show a_at _ (a_xm a_m158) 0 [some (a_rf C)] [] _ _
  simp only [q158_0, q158_1, q158_4, k_0 hS, z_C hS, r_0_7 hS, k_35 hS, z_35, as_nil, as_i, as_r, Nat.reduceAdd, Nat.reduceLeDiff, z_eq0, z_eq1, z_or, z_em, Classical.not_not, not_false_eq_true, not_true_eq_false, true_and, and_true, false_and, and_false, and_self, true_implies, false_implies, implies_true, Option.toList_some, Option.toList_none, List.cons_append, List.nil_append, Nat.add_eq_zero_iff, a_nl_i, a_nl_r, a_nl_n, true_or, or_true, eq_self, a_isRA_22, a_isRA_24, a_isRA_32, a_isA_20, ok_4, ok_5, ok_6, ok_7, ok_9, ok_20, ok_21, ok_30, ok_50, ok_180, ok_192, ok_200]
  try simp only [true_and, and_true, true_implies, false_implies, implies_true, not_true_eq_false, not_false_eq_true]
  first
    | exact hl
    | grind
end ZCC
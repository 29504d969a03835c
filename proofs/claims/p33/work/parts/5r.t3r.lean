/-! hosts as bits -/
/-- the least free ones -/
def sdI (f : Int32) : Nat → Int32 → Int32 → Int32 → Int32
  | 0, _, p, _ => p
  | k + 1, h, p, m => if 0 < m then (if (f >>> (h &&& 31)) &&& 1 = 1 then sdI f k (h + 1) (p ||| (1 <<< (h &&& 31))) (m - 1) else sdI f k (h + 1) p m) else p
/-- who stands: the least, or the two least -/
def sfB (f m : Int32) : Int32 := sdI f 8 0 0 m
section YR
variable {d n t M : Nat} {K L : Nat → Nat} {I I0 J J0 J1 J2 : Nat → Nat → Int32} {R : Nat → Nat → Nat} {P : Option Value → AH → Prop} {f : Nat → Int32} {e : Int32}
theorem nn255 (z : Int32) : 0 ≤ z &&& 255 ∧ z &&& 255 ≤ 255 := by
  have h : (z &&& 255).toBitVec.toNat ≤ 255 := by
    rw [Int32.toBitVec_and, BitVec.toNat_and]
    exact Nat.and_le_right
  have h2 : (z &&& 255).toInt = ((z &&& 255).toBitVec.toNat : Int) := BitVec.toInt_eq_toNat_of_lt (by omega)
  have c0 : (0 : Int32).toInt = 0 := rfl
  have c255 : (255 : Int32).toInt = 255 := rfl
  exact ⟨by rw [Int32.le_iff_toInt_le, h2, c0]; omega, by rw [Int32.le_iff_toInt_le, h2, c255]; omega⟩
theorem fin256 {x : Int32} (h : 0 ≤ x ∧ x ≤ 255) : ∃ k : Fin 256, x = Int32.ofNat k.val := by
  have a := Int32.le_iff_toInt_le.mp h.1
  have b := Int32.le_iff_toInt_le.mp h.2
  have c0 : (0 : Int32).toInt = 0 := rfl
  have c255 : (255 : Int32).toInt = 255 := rfl
  have e : x.toNatClampNeg = x.toInt.toNat := rfl
  exact ⟨⟨x.toNatClampNeg, by omega⟩, on_cl h.1⟩
theorem and_255 {x : Int32} (h : 0 ≤ x ∧ x ≤ 255) : x &&& 255 = x := by
  obtain ⟨k, rfl⟩ := fin256 h
  have key : ∀ k : Fin 256, Int32.ofNat k.val &&& 255 = Int32.ofNat k.val := by decide +kernel
  exact key k
theorem and_8 {x y : Int32} (h : 0 ≤ x ∧ x ≤ 255) : 0 ≤ x &&& y ∧ x &&& y ≤ 255 := by
  have e : x &&& y = (x &&& y) &&& 255 := by
    conv => lhs; rw [← and_255 h]
    rw [Int32.and_assoc, Int32.and_assoc, Int32.and_comm 255 y]
  rw [e]
  exact nn255 _
theorem sf_1 {f : Int32} (h : 0 ≤ f ∧ f ≤ 255) : sfB f 1 = f &&& -f := by
  obtain ⟨k, rfl⟩ := fin256 h
  have key : ∀ k : Fin 256, sfB (Int32.ofNat k.val) 1 = Int32.ofNat k.val &&& -(Int32.ofNat k.val) := by decide +kernel
  exact key k
theorem sf_2 {f : Int32} (h : 0 ≤ f ∧ f ≤ 255) : sfB f 2 = (f &&& -f) ||| ((f &&& ((f &&& -f) ^^^ -1)) &&& -(f &&& ((f &&& -f) ^^^ -1))) := by
  obtain ⟨k, rfl⟩ := fin256 h
  have key : ∀ k : Fin 256, sfB (Int32.ofNat k.val) 2 = (Int32.ofNat k.val &&& -(Int32.ofNat k.val)) ||| ((Int32.ofNat k.val &&& ((Int32.ofNat k.val &&& -(Int32.ofNat k.val)) ^^^ -1)) &&& -(Int32.ofNat k.val &&& ((Int32.ofNat k.val &&& -(Int32.ofNat k.val)) ^^^ -1))) := by decide +kernel
  exact key k
theorem bc_st : ∀ k : Fin 256, 0 < k.val → bcf (Int32.ofNat k.val) = (Int32.ofNat k.val - Int32.ofNat (k.val / 2) * 2) + bcf (Int32.ofNat (k.val / 2)) ∧ Int32.ofNat k.val / 2 = Int32.ofNat (k.val / 2) ∧ ¬ Int32.ofNat k.val ≤ 0 := by decide +kernel
theorem xt_ones_4 {v V : Int32} {h : AH} (hP : P (some (.int V)) h) : ∀ (b : Nat) (q : Int32), b < 256 → q + bcf (Int32.ofNat b) = V → a_at d (a_xm a_m226) 4 [some (.int v), some (.int q), some (.int (Int32.ofNat b))] [] h P := by
  intro b
  induction b using Nat.strongRecOn with
  | ind b ih =>
    intro q hb hV
    rw [q226_4]
    by_cases c : b = 0
    · subst c
      have hq : q = V := by
        rw [← hV, show bcf (Int32.ofNat 0) = 0 from rfl, Int32.add_zero]
      have c0 : Int32.ofNat 0 ≤ 0 := by decide
      subst hq
      clear ih hV
      simp only [q226_5, q226_21, q226_22, as_nil, as_i, as_r, Nat.reduceAdd, Nat.reduceLeDiff, z_eq0, z_eq1, z_or, z_em, Classical.not_not, not_false_eq_true, not_true_eq_false, true_and, and_true, false_and, and_false, and_self, true_implies, false_implies, implies_true, Option.toList_some, Option.toList_none, List.cons_append, List.nil_append, Nat.add_eq_zero_iff, a_nl_i, a_nl_r, a_nl_n, true_or, or_true, eq_self, ok_4, ok_5, ok_6, ok_7, ok_9, ok_10, ok_20, ok_21, ok_24, ok_30, ok_48, ok_50, ok_60, ok_80, ok_120, ok_180, ok_192, ok_200, ok_900, ok_1000, ok_84000, c0]
      first
        | exact hP
        | exact ⟨fun _ => hP, fun w => absurd c0 w⟩
        | grind
    · obtain ⟨s1, s2, s3⟩ := bc_st ⟨b, hb⟩ (Nat.pos_of_ne_zero c)
      have s1 : bcf (Int32.ofNat b) = (Int32.ofNat b - Int32.ofNat (b / 2) * 2) + bcf (Int32.ofNat (b / 2)) := s1
      have s2 : Int32.ofNat b / 2 = Int32.ofNat (b / 2) := s2
      have s3 : ¬ Int32.ofNat b ≤ 0 := s3
      have hg := ih (b / 2) (by omega) (q + (Int32.ofNat b - Int32.ofNat (b / 2) * 2)) (by omega) (by rw [← hV, s1, Int32.add_assoc])
      clear ih hV hP
      simp only [q226_5, q226_8, q226_9, q226_10, q226_11, q226_12, q226_13, q226_14, q226_15, q226_16, q226_17, q226_18, as_nil, as_i, as_r, Nat.reduceAdd, Nat.reduceLeDiff, z_eq0, z_eq1, z_or, z_em, Classical.not_not, not_false_eq_true, not_true_eq_false, true_and, and_true, false_and, and_false, and_self, true_implies, false_implies, implies_true, Option.toList_some, Option.toList_none, List.cons_append, List.nil_append, Nat.add_eq_zero_iff, a_nl_i, a_nl_r, a_nl_n, true_or, or_true, eq_self, ok_4, ok_5, ok_6, ok_7, ok_9, ok_10, ok_20, ok_21, ok_24, ok_30, ok_48, ok_50, ok_60, ok_80, ok_120, ok_180, ok_192, ok_200, ok_900, ok_1000, ok_84000, s2, s3]
      first
        | exact hg
        | exact ⟨fun w => absurd w s3, fun _ => hg⟩
        | grind
theorem xt_ones {v : Int32} {h : AH} (hv : 0 ≤ v ∧ v ≤ 255) (hP : P (some (.int (bcf v))) h) : a_does (d + 1) 226 [.int v] h P := by
  obtain ⟨⟨b, hb⟩, e⟩ := fin256 hv
  have e : v = Int32.ofNat b := e
  have hl := xt_ones_4 (d := d) (v := v) (V := bcf v) (h := h) (P := P) hP b 0 hb (by rw [Int32.zero_add, e])
  rw [← e] at hl
  rw [a_enter1 (M := a_m226) rfl (a_cat_int a_cat_nil) (show 1 ≤ 3 by decide)]
  show a_at _ (a_xm a_m226) 0 [some (.int v), none, none] [] _ _
  simp only [q226_0, q226_1, q226_2, q226_3, as_nil, as_i, as_r, Nat.reduceAdd, Nat.reduceLeDiff, z_eq0, z_eq1, z_or, z_em, Classical.not_not, not_false_eq_true, not_true_eq_false, true_and, and_true, false_and, and_false, and_self, true_implies, false_implies, implies_true, Option.toList_some, Option.toList_none, List.cons_append, List.nil_append, Nat.add_eq_zero_iff, a_nl_i, a_nl_r, a_nl_n, true_or, or_true, eq_self, ok_4, ok_5, ok_6, ok_7, ok_9, ok_10, ok_20, ok_21, ok_24, ok_30, ok_48, ok_50, ok_60, ok_80, ok_120, ok_180, ok_192, ok_200, ok_900, ok_1000, ok_84000]
  exact hl
theorem xt_standFor_32 {a b s f : Int32} {h : AH} {V : Int32} (hP : P (some (.int V)) h) : ∀ i : Int32, i ≤ 8 → ∀ m p, 0 ≤ i → 0 ≤ m → m ≤ 2 → sdI f ((8 : Int32).toNatClampNeg - i.toNatClampNeg) i p m = V → a_at (d + 1) (a_xm a_m232) 32 [some (a_rf M), some (.int a), some (.int b), some (.int s), some (.int f), some (.int m), some (.int p), some (.int i)] [] h P := by
  refine up_ind 8 (fun i i8 ih => ?_)
  intro m p h0 m0 m2 hV
  have hexit : ¬ i < 8 → P (some (.int p)) h := fun w => by
    rw [(lp_end i8 w).1] at hV
    rw [show p = V from hV]
    exact hP
  have hV2 : i < 8 → (if 0 < m then (if (f >>> (i &&& 31)) &&& 1 = 1 then sdI f ((8 : Int32).toNatClampNeg - (i + 1).toNatClampNeg) (i + 1) (p ||| (1 <<< (i &&& 31))) (m - 1) else sdI f ((8 : Int32).toNatClampNeg - (i + 1).toNatClampNeg) (i + 1) p m) else p) = V := fun w => by
    rw [(lp_st h0 w).1] at hV
    exact hV
  have h0' : i < 8 → ¬ 0 < m → P (some (.int p)) h := fun w w2 => by
    have hV := hV2 w
    rw [if_neg w2] at hV
    rw [hV]
    exact hP
  have h1' : i < 8 → 0 < m → (f >>> (i &&& 31)) &&& 1 = 1 → ∀ m2 p2, m2 = m - 1 → p2 = (p ||| (1 <<< (i &&& 31))) → a_at (d + 1) (a_xm a_m232) 32 [some (a_rf M), some (.int a), some (.int b), some (.int s), some (.int f), some (.int m2), some (.int p2), some (.int (i + 1))] [] h P := fun w w2 w3 m2' p2' em ep => by
    have hV := hV2 w
    rw [if_pos w2, if_pos w3] at hV
    obtain ⟨s1, s2, s3, s4⟩ := lp_st h0 w
    rw [em, ep]
    exact ih w _ _ s2 (by clear ih hV hV2 hP h0' hexit em; grind) (by clear ih hV hV2 hP h0' hexit em; grind) hV
  have h2' : i < 8 → 0 < m → ¬ (f >>> (i &&& 31)) &&& 1 = 1 → a_at (d + 1) (a_xm a_m232) 32 [some (a_rf M), some (.int a), some (.int b), some (.int s), some (.int f), some (.int m), some (.int p), some (.int (i + 1))] [] h P := fun w w2 w3 => by
    have hV := hV2 w
    rw [if_pos w2, if_neg w3] at hV
    obtain ⟨s1, s2, s3, s4⟩ := lp_st h0 w
    exact ih w _ _ s2 m0 m2 hV
  clear ih hV hV2 hP
  rw [q232_32]
  repeat' first
    | with_reducible apply And.intro
    | with_reducible assumption
    | with_reducible intro _
    | with_reducible exact hexit (Int32.not_lt.mpr (by assumption))
    | with_reducible exact h0' (Int32.not_le.mp (by assumption)) (Int32.not_lt.mpr (by assumption))
    | with_reducible refine h1' (Int32.not_le.mp (by assumption)) (Int32.not_le.mp (by assumption)) (by assumption) _ _ ?_ ?_
    | with_reducible exact h2' (Int32.not_le.mp (by assumption)) (Int32.not_le.mp (by assumption)) (by assumption)
    | simp only [q232_34, q232_36, q232_39, q232_41, q232_44, q232_46, q232_48, q232_49, q232_50, q232_51, q232_52, q232_55, q232_57, q232_58, q232_60, q232_61, q232_62, q232_64, q232_67, q232_70, q232_73, q232_75, as_nil, as_i, as_r, Nat.reduceAdd, Nat.reduceLeDiff, z_eq0, z_eq1, z_or, z_em, Classical.not_not, not_false_eq_true, not_true_eq_false, true_and, and_true, false_and, and_false, and_self, true_implies, false_implies, implies_true, Option.toList_some, Option.toList_none, List.cons_append, List.nil_append, Nat.add_eq_zero_iff, a_nl_i, a_nl_r, a_nl_n, true_or, or_true, eq_self, ok_4, ok_5, ok_6, ok_7, ok_9, ok_10, ok_20, ok_21, ok_24, ok_30, ok_48, ok_50, ok_60, ok_80, ok_120, ok_180, ok_192, ok_200, ok_900, ok_1000, ok_84000]
  all_goals ((try clear hexit); (try clear h0'); (try clear h1'); (try clear h2'); grind [ui_ap])
end YR
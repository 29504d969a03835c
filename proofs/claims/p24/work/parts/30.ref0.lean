/-! small rules -/
theorem ui_ap (f : Nat → Nat → Int32) (a k : Nat) (v : Int32) (x j : Nat) : a_ui f a k v x j = if x = a ∧ j = k then v else f x j := rfl
theorem ur_ap (f : Nat → Nat → Nat) (a k : Nat) (v : Nat) (x j : Nat) : a_ur f a k v x j = if x = a ∧ j = k then v else f x j := rfl
theorem ok_n {i : Int32} {n : Nat} (k : Int32) (hk : k.toInt = n) : a_ok i n ↔ 0 ≤ i ∧ i < k := by
  unfold a_ok
  rw [not_or, Int32.not_lt, Nat.not_le, Int32.lt_iff_toInt_lt, hk, Int32.le_iff_toInt_le]
  show (0 ≤ i.toInt ∧ i.toInt.toNat < n) ↔ (0 ≤ i.toInt ∧ i.toInt < n)
  omega
theorem ok_4 (i : Int32) : a_ok i 4 ↔ 0 ≤ i ∧ i < 4 := ok_n 4 rfl
theorem ok_5 (i : Int32) : a_ok i 5 ↔ 0 ≤ i ∧ i < 5 := ok_n 5 rfl
theorem ok_6 (i : Int32) : a_ok i 6 ↔ 0 ≤ i ∧ i < 6 := ok_n 6 rfl
theorem ok_7 (i : Int32) : a_ok i 7 ↔ 0 ≤ i ∧ i < 7 := ok_n 7 rfl
theorem ok_9 (i : Int32) : a_ok i 9 ↔ 0 ≤ i ∧ i < 9 := ok_n 9 rfl
theorem ok_10 (i : Int32) : a_ok i 10 ↔ 0 ≤ i ∧ i < 10 := ok_n 10 rfl
theorem ok_20 (i : Int32) : a_ok i 20 ↔ 0 ≤ i ∧ i < 20 := ok_n 20 rfl
theorem ok_21 (i : Int32) : a_ok i 21 ↔ 0 ≤ i ∧ i < 21 := ok_n 21 rfl
theorem ok_24 (i : Int32) : a_ok i 24 ↔ 0 ≤ i ∧ i < 24 := ok_n 24 rfl
theorem ok_30 (i : Int32) : a_ok i 30 ↔ 0 ≤ i ∧ i < 30 := ok_n 30 rfl
theorem ok_48 (i : Int32) : a_ok i 48 ↔ 0 ≤ i ∧ i < 48 := ok_n 48 rfl
theorem ok_50 (i : Int32) : a_ok i 50 ↔ 0 ≤ i ∧ i < 50 := ok_n 50 rfl
theorem ok_60 (i : Int32) : a_ok i 60 ↔ 0 ≤ i ∧ i < 60 := ok_n 60 rfl
theorem ok_80 (i : Int32) : a_ok i 80 ↔ 0 ≤ i ∧ i < 80 := ok_n 80 rfl
theorem ok_120 (i : Int32) : a_ok i 120 ↔ 0 ≤ i ∧ i < 120 := ok_n 120 rfl
theorem ok_180 (i : Int32) : a_ok i 180 ↔ 0 ≤ i ∧ i < 180 := ok_n 180 rfl
theorem ok_192 (i : Int32) : a_ok i 192 ↔ 0 ≤ i ∧ i < 192 := ok_n 192 rfl
theorem ok_200 (i : Int32) : a_ok i 200 ↔ 0 ≤ i ∧ i < 200 := ok_n 200 rfl
theorem ok_900 (i : Int32) : a_ok i 900 ↔ 0 ≤ i ∧ i < 900 := ok_n 900 rfl
theorem ok_1000 (i : Int32) : a_ok i 1000 ↔ 0 ≤ i ∧ i < 1000 := ok_n 1000 rfl
theorem ok_84000 (i : Int32) : a_ok i 84000 ↔ 0 ≤ i ∧ i < 84000 := ok_n 84000 rfl
theorem ti_0 (c : Int32) : (c.toInt = 0) = (c = 0) := propext ⟨fun h => Int32.toInt_inj.mp (by rw [h]; rfl), fun h => by subst h; rfl⟩
theorem ti_1 (c : Int32) : (c.toInt = 1) = (c = 1) := propext ⟨fun h => Int32.toInt_inj.mp (by rw [h]; rfl), fun h => by subst h; rfl⟩
theorem ti_2 (c : Int32) : (c.toInt = 2) = (c = 2) := propext ⟨fun h => Int32.toInt_inj.mp (by rw [h]; rfl), fun h => by subst h; rfl⟩
theorem ti_3 (c : Int32) : (c.toInt = 3) = (c = 3) := propext ⟨fun h => Int32.toInt_inj.mp (by rw [h]; rfl), fun h => by subst h; rfl⟩
theorem ti_4 (c : Int32) : (c.toInt = 4) = (c = 4) := propext ⟨fun h => Int32.toInt_inj.mp (by rw [h]; rfl), fun h => by subst h; rfl⟩
theorem ti_5 (c : Int32) : (c.toInt = 5) = (c = 5) := propext ⟨fun h => Int32.toInt_inj.mp (by rw [h]; rfl), fun h => by subst h; rfl⟩
theorem ti_6 (c : Int32) : (c.toInt = 6) = (c = 6) := propext ⟨fun h => Int32.toInt_inj.mp (by rw [h]; rfl), fun h => by subst h; rfl⟩
theorem ti_7 (c : Int32) : (c.toInt = 7) = (c = 7) := propext ⟨fun h => Int32.toInt_inj.mp (by rw [h]; rfl), fun h => by subst h; rfl⟩
theorem ti_8 (c : Int32) : (c.toInt = 8) = (c = 8) := propext ⟨fun h => Int32.toInt_inj.mp (by rw [h]; rfl), fun h => by subst h; rfl⟩
theorem ti_9 (c : Int32) : (c.toInt = 9) = (c = 9) := propext ⟨fun h => Int32.toInt_inj.mp (by rw [h]; rfl), fun h => by subst h; rfl⟩
theorem ti_10 (c : Int32) : (c.toInt = 10) = (c = 10) := propext ⟨fun h => Int32.toInt_inj.mp (by rw [h]; rfl), fun h => by subst h; rfl⟩
theorem ti_11 (c : Int32) : (c.toInt = 11) = (c = 11) := propext ⟨fun h => Int32.toInt_inj.mp (by rw [h]; rfl), fun h => by subst h; rfl⟩
theorem ti_12 (c : Int32) : (c.toInt = 12) = (c = 12) := propext ⟨fun h => Int32.toInt_inj.mp (by rw [h]; rfl), fun h => by subst h; rfl⟩
theorem ti_13 (c : Int32) : (c.toInt = 13) = (c = 13) := propext ⟨fun h => Int32.toInt_inj.mp (by rw [h]; rfl), fun h => by subst h; rfl⟩
theorem ti_14 (c : Int32) : (c.toInt = 14) = (c = 14) := propext ⟨fun h => Int32.toInt_inj.mp (by rw [h]; rfl), fun h => by subst h; rfl⟩
theorem ti_15 (c : Int32) : (c.toInt = 15) = (c = 15) := propext ⟨fun h => Int32.toInt_inj.mp (by rw [h]; rfl), fun h => by subst h; rfl⟩
theorem ti_16 (c : Int32) : (c.toInt = 16) = (c = 16) := propext ⟨fun h => Int32.toInt_inj.mp (by rw [h]; rfl), fun h => by subst h; rfl⟩
theorem ti_17 (c : Int32) : (c.toInt = 17) = (c = 17) := propext ⟨fun h => Int32.toInt_inj.mp (by rw [h]; rfl), fun h => by subst h; rfl⟩
theorem ti_18 (c : Int32) : (c.toInt = 18) = (c = 18) := propext ⟨fun h => Int32.toInt_inj.mp (by rw [h]; rfl), fun h => by subst h; rfl⟩
theorem ti_19 (c : Int32) : (c.toInt = 19) = (c = 19) := propext ⟨fun h => Int32.toInt_inj.mp (by rw [h]; rfl), fun h => by subst h; rfl⟩
theorem ti_98 (c : Int32) : (c.toInt = 98) = (c = 98) := propext ⟨fun h => Int32.toInt_inj.mp (by rw [h]; rfl), fun h => by subst h; rfl⟩
theorem ti_99 (c : Int32) : (c.toInt = 99) = (c = 99) := propext ⟨fun h => Int32.toInt_inj.mp (by rw [h]; rfl), fun h => by subst h; rfl⟩
theorem ti_100 (c : Int32) : (c.toInt = 100) = (c = 100) := propext ⟨fun h => Int32.toInt_inj.mp (by rw [h]; rfl), fun h => by subst h; rfl⟩
theorem ti_101 (c : Int32) : (c.toInt = 101) = (c = 101) := propext ⟨fun h => Int32.toInt_inj.mp (by rw [h]; rfl), fun h => by subst h; rfl⟩
theorem ti_102 (c : Int32) : (c.toInt = 102) = (c = 102) := propext ⟨fun h => Int32.toInt_inj.mp (by rw [h]; rfl), fun h => by subst h; rfl⟩
theorem ti_103 (c : Int32) : (c.toInt = 103) = (c = 103) := propext ⟨fun h => Int32.toInt_inj.mp (by rw [h]; rfl), fun h => by subst h; rfl⟩
theorem ti_104 (c : Int32) : (c.toInt = 104) = (c = 104) := propext ⟨fun h => Int32.toInt_inj.mp (by rw [h]; rfl), fun h => by subst h; rfl⟩
theorem ti_105 (c : Int32) : (c.toInt = 105) = (c = 105) := propext ⟨fun h => Int32.toInt_inj.mp (by rw [h]; rfl), fun h => by subst h; rfl⟩
theorem ti_106 (c : Int32) : (c.toInt = 106) = (c = 106) := propext ⟨fun h => Int32.toInt_inj.mp (by rw [h]; rfl), fun h => by subst h; rfl⟩
theorem ti_107 (c : Int32) : (c.toInt = 107) = (c = 107) := propext ⟨fun h => Int32.toInt_inj.mp (by rw [h]; rfl), fun h => by subst h; rfl⟩
theorem ti_108 (c : Int32) : (c.toInt = 108) = (c = 108) := propext ⟨fun h => Int32.toInt_inj.mp (by rw [h]; rfl), fun h => by subst h; rfl⟩
theorem ti_109 (c : Int32) : (c.toInt = 109) = (c = 109) := propext ⟨fun h => Int32.toInt_inj.mp (by rw [h]; rfl), fun h => by subst h; rfl⟩
theorem ti_110 (c : Int32) : (c.toInt = 110) = (c = 110) := propext ⟨fun h => Int32.toInt_inj.mp (by rw [h]; rfl), fun h => by subst h; rfl⟩
theorem ti_111 (c : Int32) : (c.toInt = 111) = (c = 111) := propext ⟨fun h => Int32.toInt_inj.mp (by rw [h]; rfl), fun h => by subst h; rfl⟩
theorem ti_112 (c : Int32) : (c.toInt = 112) = (c = 112) := propext ⟨fun h => Int32.toInt_inj.mp (by rw [h]; rfl), fun h => by subst h; rfl⟩
theorem ti_113 (c : Int32) : (c.toInt = 113) = (c = 113) := propext ⟨fun h => Int32.toInt_inj.mp (by rw [h]; rfl), fun h => by subst h; rfl⟩
theorem ti_114 (c : Int32) : (c.toInt = 114) = (c = 114) := propext ⟨fun h => Int32.toInt_inj.mp (by rw [h]; rfl), fun h => by subst h; rfl⟩
theorem ti_115 (c : Int32) : (c.toInt = 115) = (c = 115) := propext ⟨fun h => Int32.toInt_inj.mp (by rw [h]; rfl), fun h => by subst h; rfl⟩
theorem ti_116 (c : Int32) : (c.toInt = 116) = (c = 116) := propext ⟨fun h => Int32.toInt_inj.mp (by rw [h]; rfl), fun h => by subst h; rfl⟩
theorem as_nil : a_sum [] = 0 := rfl
theorem as_i (v : Int32) (st : List Value) : a_sum (.int v :: st) = 1 + a_sum st := by simp [a_sum, Value.category]
theorem as_r (r : Nat) (st : List Value) : a_sum (a_rf r :: st) = 1 + a_sum st := by simp [a_sum, a_rf_cat]
theorem z_eq0 (c : Prop) [Decidable c] : ((if c then (1 : Int32) else 0) = 0) = ¬ c := by by_cases h : c <;> simp [h]
theorem z_eq1 (c : Prop) [Decidable c] : ((if c then (1 : Int32) else 0) = 1) = c := by by_cases h : c <;> simp [h]
theorem z_em (c : Prop) : (¬ c ∨ c) = True := eq_true (Classical.em c |>.symm)
theorem z_or (c : Prop) [Decidable c] : (((if c then (1 : Int32) else 0) = 0) ∨ ((if c then (1 : Int32) else 0) = 1)) = True := by by_cases h : c <;> simp [h]
theorem up_ind {Q : Int32 → Prop} (B : Int32) (h : ∀ s, s ≤ B → (s < B → Q (s + 1)) → Q s) : ∀ s, s ≤ B → Q s := by
  have : ∀ (z : Nat) (s : Int32), s ≤ B → (B.toInt - s.toInt).toNat = z → Q s := by
    intro z
    induction z with
    | zero =>
      intro s hs hz
      refine h s hs (fun hl => ?_)
      rw [Int32.lt_iff_toInt_lt] at hl
      omega
    | succ z ih =>
      intro s hs hz
      refine h s hs (fun hl => ih (s + 1) (by grind) ?_)
      have h1 : (s + 1).toInt = s.toInt + 1 := by
        rw [Int32.lt_iff_toInt_lt] at hl
        have h2 := Int32.toInt_lt B
        have h3 := Int32.le_toInt s
        rw [Int32.toInt_add]
        simp [Int.bmod_def]
        omega
      omega
  exact fun s hs => this _ s hs rfl
theorem dn_ind {Q : Int32 → Prop} (B : Int32) (h : ∀ s, B ≤ s → (B < s → Q (s + (-1))) → Q s) : ∀ s, B ≤ s → Q s := by
  have : ∀ (z : Nat) (s : Int32), B ≤ s → (s.toInt - B.toInt).toNat = z → Q s := by
    intro z
    induction z with
    | zero =>
      intro s hs hz
      refine h s hs (fun hl => ?_)
      rw [Int32.lt_iff_toInt_lt] at hl
      omega
    | succ z ih =>
      intro s hs hz
      refine h s hs (fun hl => ih (s + (-1)) (by grind) ?_)
      have h1 : (s + (-1)).toInt = s.toInt - 1 := by
        rw [Int32.lt_iff_toInt_lt] at hl
        have h2 := Int32.le_toInt B
        have h3 := Int32.toInt_lt s
        rw [Int32.toInt_add]
        simp [Int.bmod_def]
        omega
      omega
  exact fun s hs => this _ s hs rfl
theorem us_ind {Q : Int32 → Prop} (B : Int32) (h : ∀ s, s ≤ B → (∀ s', s < s' → s' ≤ B → Q s') → Q s) : ∀ s, s ≤ B → Q s := by
  have : ∀ (z : Nat) (s : Int32), s ≤ B → (B.toInt - s.toInt).toNat < z → Q s := by
    intro z
    induction z with
    | zero => intro s hs hz; omega
    | succ z ih =>
      intro s hs hz
      refine h s hs (fun s' h1 h2 => ih s' h2 ?_)
      rw [Int32.lt_iff_toInt_lt] at h1
      rw [Int32.le_iff_toInt_le] at h2
      omega
  exact fun s hs => this _ s hs (Nat.lt_succ_self _)
theorem lt_ind {Q : Int32 → Prop} (h : ∀ s, (∀ s', 0 ≤ s' → s' < s → Q s') → Q s) : ∀ s, Q s := by
  have : ∀ (z : Nat) (s : Int32), s.toInt.toNat < z → Q s := by
    intro z
    induction z with
    | zero => intro s hz; omega
    | succ z ih =>
      intro s hz
      refine h s (fun s' h1 h2 => ih s' ?_)
      rw [Int32.lt_iff_toInt_lt] at h2
      have h3 := Int32.le_iff_toInt_le.mp h1
      simp at h3
      omega
  exact fun s => this _ s (Nat.lt_succ_self _)
/-! what holds of the reference's numbers at all times -/
def mR (M : Nat) (J : Nat → Nat → Int32) : Prop :=
  (0 ≤ J M 0 ∧ J M 0 ≤ 1600) ∧
  (0 ≤ J M 2 ∧ J M 2 ≤ 20) ∧
  (0 ≤ J M 6 ∧ J M 6 ≤ 6) ∧
  (0 ≤ J M 17 ∧ J M 17 ≤ 30) ∧
  (0 ≤ J M 9 ∧ J M 9 ≤ 3) ∧
  (0 ≤ J M 13 ∧ J M 13 ≤ 9) ∧
  (0 ≤ J M 15 ∧ J M 15 ≤ 4) ∧
  (0 ≤ J M 40 ∧ J M 40 ≤ 50) ∧
  (0 ≤ J M 41 ∧ J M 41 ≤ 20) ∧
  (0 ≤ J M 61 ∧ J M 61 ≤ 30) ∧
  (0 ≤ J M 79 ∧ J M 79 ≤ 21) ∧
  (0 ≤ J M 35 ∧ J M 35 ≤ 84000) ∧
  (0 ≤ J M 47 ∧ J M 47 ≤ 950) ∧
  (∀ j, (0) ≤ J (M + 8) j ∧ J (M + 8) j ≤ 9) ∧
  (∀ j, (0) ≤ J (M + 10) j ∧ J (M + 10) j ≤ 4) ∧
  (∀ j, (-9) ≤ J (M + 20) j ∧ J (M + 20) j ≤ 5) ∧
  (∀ j, (-9) ≤ J (M + 21) j ∧ J (M + 21) j ≤ 200) ∧
  (∀ j, (0) ≤ J (M + 29) j ∧ J (M + 29) j ≤ 50) ∧
  (∀ j, (0) ≤ J (M + 40) j ∧ J (M + 40) j ≤ 29) ∧
  (∀ j, (0) ≤ J (M + 41) j ∧ J (M + 41) j ≤ 29) ∧
  (∀ j, (0) ≤ J (M + 44) j ∧ J (M + 44) j ≤ 48) ∧
  (∀ j, (-9) ≤ J (M + 49) j ∧ J (M + 49) j ≤ 5) ∧
  (∀ j, (-9) ≤ J (M + 50) j ∧ J (M + 50) j ≤ 200) ∧
  (∀ j, J (M + 7) j = 1 → 0 ≤ J (M + 16) j ∧ J (M + 16) j ≤ 29)
section RG
variable {M : Nat} {I J : Nat → Nat → Int32}
theorem rg_now (h : mR M J) : (0 ≤ J M 0 ∧ J M 0 ≤ 1600) := h.1
theorem rg_trips (h : mR M J) : (0 ≤ J M 2 ∧ J M 2 ≤ 20) := h.2.1
theorem rg_benches (h : mR M J) : (0 ≤ J M 6 ∧ J M 6 ≤ 6) := h.2.2.1
theorem rg_asks (h : mR M J) : (0 ≤ J M 17 ∧ J M 17 ≤ 30) := h.2.2.2.1
theorem rg_rest (h : mR M J) : (0 ≤ J M 9 ∧ J M 9 ≤ 3) := h.2.2.2.2.1
theorem rg_draftGroup (h : mR M J) : (0 ≤ J M 13 ∧ J M 13 ≤ 9) := h.2.2.2.2.2.1
theorem rg_draftLong (h : mR M J) : (0 ≤ J M 15 ∧ J M 15 ≤ 4) := h.2.2.2.2.2.2.1
theorem rg_tapeMany (h : mR M J) : (0 ≤ J M 40 ∧ J M 40 ≤ 50) := h.2.2.2.2.2.2.2.1
theorem rg_texts (h : mR M J) : (0 ≤ J M 41 ∧ J M 41 ≤ 20) := h.2.2.2.2.2.2.2.2.1
theorem rg_passedMany (h : mR M J) : (0 ≤ J M 61 ∧ J M 61 ≤ 30) := h.2.2.2.2.2.2.2.2.2.1
theorem rg_rowMany (h : mR M J) : (0 ≤ J M 79 ∧ J M 79 ≤ 21) := h.2.2.2.2.2.2.2.2.2.2.1
theorem rg_events (h : mR M J) : (0 ≤ J M 35 ∧ J M 35 ≤ 84000) := h.2.2.2.2.2.2.2.2.2.2.2.1
theorem rg_base (h : mR M J) : (0 ≤ J M 47 ∧ J M 47 ≤ 950) := h.2.2.2.2.2.2.2.2.2.2.2.2.1
theorem rg_group (h : mR M J) (j : Nat) : (0) ≤ J (M + 8) j ∧ J (M + 8) j ≤ 9 := (h.2.2.2.2.2.2.2.2.2.2.2.2.2.1) j
theorem rg_length (h : mR M J) (j : Nat) : (0) ≤ J (M + 10) j ∧ J (M + 10) j ≤ 4 := (h.2.2.2.2.2.2.2.2.2.2.2.2.2.2.1) j
theorem rg_atBench (h : mR M J) (j : Nat) : (-9) ≤ J (M + 20) j ∧ J (M + 20) j ≤ 5 := (h.2.2.2.2.2.2.2.2.2.2.2.2.2.2.2.1) j
theorem rg_atShift (h : mR M J) (j : Nat) : (-9) ≤ J (M + 21) j ∧ J (M + 21) j ≤ 200 := (h.2.2.2.2.2.2.2.2.2.2.2.2.2.2.2.2.1) j
theorem rg_writtenMany (h : mR M J) (j : Nat) : (0) ≤ J (M + 29) j ∧ J (M + 29) j ≤ 50 := (h.2.2.2.2.2.2.2.2.2.2.2.2.2.2.2.2.2.1) j
theorem rg_order (h : mR M J) (j : Nat) : (0) ≤ J (M + 40) j ∧ J (M + 40) j ≤ 29 := (h.2.2.2.2.2.2.2.2.2.2.2.2.2.2.2.2.2.2.1) j
theorem rg_few (h : mR M J) (j : Nat) : (0) ≤ J (M + 41) j ∧ J (M + 41) j ≤ 29 := (h.2.2.2.2.2.2.2.2.2.2.2.2.2.2.2.2.2.2.2.1) j
theorem rg_bestWay (h : mR M J) (j : Nat) : (0) ≤ J (M + 44) j ∧ J (M + 44) j ≤ 48 := (h.2.2.2.2.2.2.2.2.2.2.2.2.2.2.2.2.2.2.2.2.1) j
theorem rg_oldBench (h : mR M J) (j : Nat) : (-9) ≤ J (M + 49) j ∧ J (M + 49) j ≤ 5 := (h.2.2.2.2.2.2.2.2.2.2.2.2.2.2.2.2.2.2.2.2.2.1) j
theorem rg_oldShift (h : mR M J) (j : Nat) : (-9) ≤ J (M + 50) j ∧ J (M + 50) j ≤ 200 := (h.2.2.2.2.2.2.2.2.2.2.2.2.2.2.2.2.2.2.2.2.2.2.1) j
theorem rg_tied (h : mR M J) (j : Nat) : J (M + 7) j = 1 → 0 ≤ J (M + 16) j ∧ J (M + 16) j ≤ 29 := (h.2.2.2.2.2.2.2.2.2.2.2.2.2.2.2.2.2.2.2.2.2.2.2) j
/-- the reference's cells that only some calls may change, and all that isn't the reference's -/
def eC (M x j : Nat) : Prop := x < M ∨ M + 52 < x ∨ x = M + 1 ∨ x = M + 2 ∨ x = M + 3 ∨ x = M + 4 ∨ x = M + 5 ∨ x = M + 6 ∨ x = M + 35 ∨ x = M + 52 ∨ x = M + 27 ∨ x = M + 28 ∨ x = M + 29 ∨ x = M + 30 ∨ x = M + 31 ∨ (x = M ∧ (j = 0 ∨ j = 2 ∨ j = 6 ∨ j = 9 ∨ j = 10 ∨ j = 11 ∨ j = 79 ∨ j = 40 ∨ j = 41))
def fr (M : Nat) (I J : Nat → Nat → Int32) : Prop := ∀ x j, eC M x j → J x j = I x j
/-- the reader's own cells -/
def sC (M x j : Nat) : Prop := x = M + 32 ∨ x = M + 33 ∨ x = M + 34 ∨ (x = M ∧ (j = 46 ∨ j = 47 ∨ j = 48 ∨ j = 49 ∨ j = 50 ∨ j = 51 ∨ j = 54 ∨ j = 56))
def scr (M : Nat) (I J : Nat → Nat → Int32) : Prop := ∀ x j, ¬ sC M x j → J x j = I x j
def mG (M : Nat) (I J : Nat → Nat → Int32) : Prop := mR M J ∧ fr M I J
def mC (M : Nat) (I J : Nat → Nat → Int32) : Prop := mR M J ∧ scr M I J
theorem mG_refl (h : mR M I) : mG M I I := ⟨h, fun _ _ _ => rfl⟩
theorem mC_refl (h : mR M I) : mC M I I := ⟨h, fun _ _ _ => rfl⟩
theorem mC_R (h : mC M I J) : mR M J := h.1
theorem ne_MM (a b : Nat) : (M + a = M + b) = (a = b) := by simp
theorem ne_M0 (b : Nat) : (M = M + b) = (b = 0) := by simp
theorem ne_0M (b : Nat) : (M + b = M) = (b = 0) := by simp
theorem sR_now (h : mR M J) {v : Int32} (hv : (0) ≤ v ∧ v ≤ 1600) : mR M (a_ui J M 0 v) := by
  unfold mR at h ⊢
  simp only [ui_ap, ne_MM, ne_M0, ne_0M, reduceCtorEq, Nat.reduceEqDiff, false_and, and_false, if_false, true_and, and_self, if_true] at h ⊢
  grind
theorem sR_trips (h : mR M J) {v : Int32} (hv : (0) ≤ v ∧ v ≤ 20) : mR M (a_ui J M 2 v) := by
  unfold mR at h ⊢
  simp only [ui_ap, ne_MM, ne_M0, ne_0M, reduceCtorEq, Nat.reduceEqDiff, false_and, and_false, if_false, true_and, and_self, if_true] at h ⊢
  grind
theorem sR_tHour (h : mR M J) {k : Nat} {v : Int32} : mR M (a_ui J (M + 2) k v) := by
  unfold mR
  simp only [ui_ap, ne_MM, ne_M0, ne_0M, reduceCtorEq, Nat.reduceEqDiff, false_and, and_false, if_false]
  exact h
theorem sR_tMany (h : mR M J) {k : Nat} {v : Int32} : mR M (a_ui J (M + 3) k v) := by
  unfold mR
  simp only [ui_ap, ne_MM, ne_M0, ne_0M, reduceCtorEq, Nat.reduceEqDiff, false_and, and_false, if_false]
  exact h
theorem sR_tFound (h : mR M J) {k : Nat} {v : Int32} : mR M (a_ui J (M + 4) k v) := by
  unfold mR
  simp only [ui_ap, ne_MM, ne_M0, ne_0M, reduceCtorEq, Nat.reduceEqDiff, false_and, and_false, if_false]
  exact h
theorem sR_benches (h : mR M J) {v : Int32} (hv : (0) ≤ v ∧ v ≤ 6) : mR M (a_ui J M 6 v) := by
  unfold mR at h ⊢
  simp only [ui_ap, ne_MM, ne_M0, ne_0M, reduceCtorEq, Nat.reduceEqDiff, false_and, and_false, if_false, true_and, and_self, if_true] at h ⊢
  grind
theorem sR_can (h : mR M J) {k : Nat} {v : Int32} : mR M (a_ui J (M + 5) k v) := by
  unfold mR
  simp only [ui_ap, ne_MM, ne_M0, ne_0M, reduceCtorEq, Nat.reduceEqDiff, false_and, and_false, if_false]
  exact h
theorem sR_hostsOf (h : mR M J) {k : Nat} {v : Int32} : mR M (a_ui J (M + 6) k v) := by
  unfold mR
  simp only [ui_ap, ne_MM, ne_M0, ne_0M, reduceCtorEq, Nat.reduceEqDiff, false_and, and_false, if_false]
  exact h
theorem sR_rest (h : mR M J) {v : Int32} (hv : (0) ≤ v ∧ v ≤ 3) : mR M (a_ui J M 9 v) := by
  unfold mR at h ⊢
  simp only [ui_ap, ne_MM, ne_M0, ne_0M, reduceCtorEq, Nat.reduceEqDiff, false_and, and_false, if_false, true_and, and_self, if_true] at h ⊢
  grind
theorem sR_share (h : mR M J) {v : Int32} : mR M (a_ui J M 10 v) := by
  unfold mR
  simp only [ui_ap, ne_MM, ne_M0, ne_0M, reduceCtorEq, Nat.reduceEqDiff, false_and, and_false, if_false]
  exact h
theorem sR_scaled (h : mR M J) {v : Int32} : mR M (a_ui J M 11 v) := by
  unfold mR
  simp only [ui_ap, ne_MM, ne_M0, ne_0M, reduceCtorEq, Nat.reduceEqDiff, false_and, and_false, if_false]
  exact h
theorem sR_hasDraft (h : mR M J) {v : Int32} : mR M (a_ui J M 12 v) := by
  unfold mR
  simp only [ui_ap, ne_MM, ne_M0, ne_0M, reduceCtorEq, Nat.reduceEqDiff, false_and, and_false, if_false]
  exact h
theorem sR_draftGroup (h : mR M J) {v : Int32} (hv : (0) ≤ v ∧ v ≤ 9) : mR M (a_ui J M 13 v) := by
  unfold mR at h ⊢
  simp only [ui_ap, ne_MM, ne_M0, ne_0M, reduceCtorEq, Nat.reduceEqDiff, false_and, and_false, if_false, true_and, and_self, if_true] at h ⊢
  grind
theorem sR_draftLand (h : mR M J) {v : Int32} : mR M (a_ui J M 14 v) := by
  unfold mR
  simp only [ui_ap, ne_MM, ne_M0, ne_0M, reduceCtorEq, Nat.reduceEqDiff, false_and, and_false, if_false]
  exact h
theorem sR_draftLong (h : mR M J) {v : Int32} (hv : (0) ≤ v ∧ v ≤ 4) : mR M (a_ui J M 15 v) := by
  unfold mR at h ⊢
  simp only [ui_ap, ne_MM, ne_M0, ne_0M, reduceCtorEq, Nat.reduceEqDiff, false_and, and_false, if_false, true_and, and_self, if_true] at h ⊢
  grind
theorem sR_draftWants (h : mR M J) {v : Int32} : mR M (a_ui J M 16 v) := by
  unfold mR
  simp only [ui_ap, ne_MM, ne_M0, ne_0M, reduceCtorEq, Nat.reduceEqDiff, false_and, and_false, if_false]
  exact h
theorem sR_asks (h : mR M J) {v : Int32} (hv : (0) ≤ v ∧ v ≤ 30) : mR M (a_ui J M 17 v) := by
  unfold mR at h ⊢
  simp only [ui_ap, ne_MM, ne_M0, ne_0M, reduceCtorEq, Nat.reduceEqDiff, false_and, and_false, if_false, true_and, and_self, if_true] at h ⊢
  grind
theorem sR_kind (h : mR M J) {k : Nat} {v : Int32} (hv : v = 1 → 0 ≤ J (M + 16) k ∧ J (M + 16) k ≤ 29) : mR M (a_ui J (M + 7) k v) := by
  unfold mR at h ⊢
  simp only [ui_ap, ne_MM, ne_M0, ne_0M, reduceCtorEq, Nat.reduceEqDiff, false_and, and_false, if_false, true_and, and_self, if_true] at h ⊢
  grind
theorem sR_group (h : mR M J) {k : Nat} {v : Int32} (hv : (0) ≤ v ∧ v ≤ 9) : mR M (a_ui J (M + 8) k v) := by
  unfold mR at h ⊢
  simp only [ui_ap, ne_MM, ne_M0, ne_0M, reduceCtorEq, Nat.reduceEqDiff, false_and, and_false, if_false, true_and, and_self, if_true] at h ⊢
  grind
theorem sR_land (h : mR M J) {k : Nat} {v : Int32} : mR M (a_ui J (M + 9) k v) := by
  unfold mR
  simp only [ui_ap, ne_MM, ne_M0, ne_0M, reduceCtorEq, Nat.reduceEqDiff, false_and, and_false, if_false]
  exact h
theorem sR_length (h : mR M J) {k : Nat} {v : Int32} (hv : (0) ≤ v ∧ v ≤ 4) : mR M (a_ui J (M + 10) k v) := by
  unfold mR at h ⊢
  simp only [ui_ap, ne_MM, ne_M0, ne_0M, reduceCtorEq, Nat.reduceEqDiff, false_and, and_false, if_false, true_and, and_self, if_true] at h ⊢
  grind
theorem sR_wants (h : mR M J) {k : Nat} {v : Int32} : mR M (a_ui J (M + 11) k v) := by
  unfold mR
  simp only [ui_ap, ne_MM, ne_M0, ne_0M, reduceCtorEq, Nat.reduceEqDiff, false_and, and_false, if_false]
  exact h
theorem sR_benchSet (h : mR M J) {k : Nat} {v : Int32} : mR M (a_ui J (M + 12) k v) := by
  unfold mR
  simp only [ui_ap, ne_MM, ne_M0, ne_0M, reduceCtorEq, Nat.reduceEqDiff, false_and, and_false, if_false]
  exact h
theorem sR_modeSet (h : mR M J) {k : Nat} {v : Int32} : mR M (a_ui J (M + 13) k v) := by
  unfold mR
  simp only [ui_ap, ne_MM, ne_M0, ne_0M, reduceCtorEq, Nat.reduceEqDiff, false_and, and_false, if_false]
  exact h
theorem sR_gear (h : mR M J) {k : Nat} {v : Int32} : mR M (a_ui J (M + 14) k v) := by
  unfold mR
  simp only [ui_ap, ne_MM, ne_M0, ne_0M, reduceCtorEq, Nat.reduceEqDiff, false_and, and_false, if_false]
  exact h
theorem sR_danger (h : mR M J) {k : Nat} {v : Int32} : mR M (a_ui J (M + 15) k v) := by
  unfold mR
  simp only [ui_ap, ne_MM, ne_M0, ne_0M, reduceCtorEq, Nat.reduceEqDiff, false_and, and_false, if_false]
  exact h
theorem sR_isGone (h : mR M J) {k : Nat} {v : Int32} : mR M (a_ui J (M + 18) k v) := by
  unfold mR
  simp only [ui_ap, ne_MM, ne_M0, ne_0M, reduceCtorEq, Nat.reduceEqDiff, false_and, and_false, if_false]
  exact h
theorem sR_wasOwed (h : mR M J) {k : Nat} {v : Int32} : mR M (a_ui J (M + 19) k v) := by
  unfold mR
  simp only [ui_ap, ne_MM, ne_M0, ne_0M, reduceCtorEq, Nat.reduceEqDiff, false_and, and_false, if_false]
  exact h
theorem sR_atBench (h : mR M J) {k : Nat} {v : Int32} (hv : (-9) ≤ v ∧ v ≤ 5) : mR M (a_ui J (M + 20) k v) := by
  unfold mR at h ⊢
  simp only [ui_ap, ne_MM, ne_M0, ne_0M, reduceCtorEq, Nat.reduceEqDiff, false_and, and_false, if_false, true_and, and_self, if_true] at h ⊢
  grind
theorem sR_atShift (h : mR M J) {k : Nat} {v : Int32} (hv : (-9) ≤ v ∧ v ≤ 200) : mR M (a_ui J (M + 21) k v) := by
  unfold mR at h ⊢
  simp only [ui_ap, ne_MM, ne_M0, ne_0M, reduceCtorEq, Nat.reduceEqDiff, false_and, and_false, if_false, true_and, and_self, if_true] at h ⊢
  grind
theorem sR_standing (h : mR M J) {k : Nat} {v : Int32} : mR M (a_ui J (M + 22) k v) := by
  unfold mR
  simp only [ui_ap, ne_MM, ne_M0, ne_0M, reduceCtorEq, Nat.reduceEqDiff, false_and, and_false, if_false]
  exact h
theorem sR_refused (h : mR M J) {k : Nat} {v : Int32} : mR M (a_ui J (M + 23) k v) := by
  unfold mR
  simp only [ui_ap, ne_MM, ne_M0, ne_0M, reduceCtorEq, Nat.reduceEqDiff, false_and, and_false, if_false]
  exact h
theorem sR_events (h : mR M J) {v : Int32} (hv : (0) ≤ v ∧ v ≤ 84000) : mR M (a_ui J M 35 v) := by
  unfold mR at h ⊢
  simp only [ui_ap, ne_MM, ne_M0, ne_0M, reduceCtorEq, Nat.reduceEqDiff, false_and, and_false, if_false, true_and, and_self, if_true] at h ⊢
  grind
theorem sR_eWhere (h : mR M J) {k : Nat} {v : Int32} : mR M (a_ui J (M + 24) k v) := by
  unfold mR
  simp only [ui_ap, ne_MM, ne_M0, ne_0M, reduceCtorEq, Nat.reduceEqDiff, false_and, and_false, if_false]
  exact h
theorem sR_eHour (h : mR M J) {k : Nat} {v : Int32} : mR M (a_ui J (M + 25) k v) := by
  unfold mR
  simp only [ui_ap, ne_MM, ne_M0, ne_0M, reduceCtorEq, Nat.reduceEqDiff, false_and, and_false, if_false]
  exact h
theorem sR_eAsk (h : mR M J) {k : Nat} {v : Int32} : mR M (a_ui J (M + 26) k v) := by
  unfold mR
  simp only [ui_ap, ne_MM, ne_M0, ne_0M, reduceCtorEq, Nat.reduceEqDiff, false_and, and_false, if_false]
  exact h
theorem sR_tape (h : mR M J) {k : Nat} {v : Int32} : mR M (a_ui J (M + 27) k v) := by
  unfold mR
  simp only [ui_ap, ne_MM, ne_M0, ne_0M, reduceCtorEq, Nat.reduceEqDiff, false_and, and_false, if_false]
  exact h
theorem sR_tapeMany (h : mR M J) {v : Int32} (hv : (0) ≤ v ∧ v ≤ 50) : mR M (a_ui J M 40 v) := by
  unfold mR at h ⊢
  simp only [ui_ap, ne_MM, ne_M0, ne_0M, reduceCtorEq, Nat.reduceEqDiff, false_and, and_false, if_false, true_and, and_self, if_true] at h ⊢
  grind
theorem sR_texts (h : mR M J) {v : Int32} (hv : (0) ≤ v ∧ v ≤ 20) : mR M (a_ui J M 41 v) := by
  unfold mR at h ⊢
  simp only [ui_ap, ne_MM, ne_M0, ne_0M, reduceCtorEq, Nat.reduceEqDiff, false_and, and_false, if_false, true_and, and_self, if_true] at h ⊢
  grind
theorem sR_written (h : mR M J) {k : Nat} {v : Int32} : mR M (a_ui J (M + 28) k v) := by
  unfold mR
  simp only [ui_ap, ne_MM, ne_M0, ne_0M, reduceCtorEq, Nat.reduceEqDiff, false_and, and_false, if_false]
  exact h
theorem sR_writtenMany (h : mR M J) {k : Nat} {v : Int32} (hv : (0) ≤ v ∧ v ≤ 50) : mR M (a_ui J (M + 29) k v) := by
  unfold mR at h ⊢
  simp only [ui_ap, ne_MM, ne_M0, ne_0M, reduceCtorEq, Nat.reduceEqDiff, false_and, and_false, if_false, true_and, and_self, if_true] at h ⊢
  grind
theorem sR_textFrom (h : mR M J) {k : Nat} {v : Int32} : mR M (a_ui J (M + 30) k v) := by
  unfold mR
  simp only [ui_ap, ne_MM, ne_M0, ne_0M, reduceCtorEq, Nat.reduceEqDiff, false_and, and_false, if_false]
  exact h
theorem sR_struckFrom (h : mR M J) {k : Nat} {v : Int32} : mR M (a_ui J (M + 31) k v) := by
  unfold mR
  simp only [ui_ap, ne_MM, ne_M0, ne_0M, reduceCtorEq, Nat.reduceEqDiff, false_and, and_false, if_false]
  exact h
theorem sR_isTold (h : mR M J) {v : Int32} : mR M (a_ui J M 46 v) := by
  unfold mR
  simp only [ui_ap, ne_MM, ne_M0, ne_0M, reduceCtorEq, Nat.reduceEqDiff, false_and, and_false, if_false]
  exact h
theorem sR_base (h : mR M J) {v : Int32} (hv : (0) ≤ v ∧ v ≤ 950) : mR M (a_ui J M 47 v) := by
  unfold mR at h ⊢
  simp only [ui_ap, ne_MM, ne_M0, ne_0M, reduceCtorEq, Nat.reduceEqDiff, false_and, and_false, if_false, true_and, and_self, if_true] at h ⊢
  grind
theorem sR_end (h : mR M J) {v : Int32} : mR M (a_ui J M 48 v) := by
  unfold mR
  simp only [ui_ap, ne_MM, ne_M0, ne_0M, reduceCtorEq, Nat.reduceEqDiff, false_and, and_false, if_false]
  exact h
theorem sR_at (h : mR M J) {v : Int32} : mR M (a_ui J M 49 v) := by
  unfold mR
  simp only [ui_ap, ne_MM, ne_M0, ne_0M, reduceCtorEq, Nat.reduceEqDiff, false_and, and_false, if_false]
  exact h
theorem sR_isBad (h : mR M J) {v : Int32} : mR M (a_ui J M 50 v) := by
  unfold mR
  simp only [ui_ap, ne_MM, ne_M0, ne_0M, reduceCtorEq, Nat.reduceEqDiff, false_and, and_false, if_false]
  exact h
theorem sR_deep (h : mR M J) {v : Int32} : mR M (a_ui J M 51 v) := by
  unfold mR
  simp only [ui_ap, ne_MM, ne_M0, ne_0M, reduceCtorEq, Nat.reduceEqDiff, false_and, and_false, if_false]
  exact h
theorem sR_facts (h : mR M J) {k : Nat} {v : Int32} : mR M (a_ui J (M + 32) k v) := by
  unfold mR
  simp only [ui_ap, ne_MM, ne_M0, ne_0M, reduceCtorEq, Nat.reduceEqDiff, false_and, and_false, if_false]
  exact h
theorem sR_values (h : mR M J) {k : Nat} {v : Int32} : mR M (a_ui J (M + 33) k v) := by
  unfold mR
  simp only [ui_ap, ne_MM, ne_M0, ne_0M, reduceCtorEq, Nat.reduceEqDiff, false_and, and_false, if_false]
  exact h
theorem sR_valueMany (h : mR M J) {v : Int32} : mR M (a_ui J M 54 v) := by
  unfold mR
  simp only [ui_ap, ne_MM, ne_M0, ne_0M, reduceCtorEq, Nat.reduceEqDiff, false_and, and_false, if_false]
  exact h
theorem sR_signs (h : mR M J) {k : Nat} {v : Int32} : mR M (a_ui J (M + 34) k v) := by
  unfold mR
  simp only [ui_ap, ne_MM, ne_M0, ne_0M, reduceCtorEq, Nat.reduceEqDiff, false_and, and_false, if_false]
  exact h
theorem sR_signMany (h : mR M J) {v : Int32} : mR M (a_ui J M 56 v) := by
  unfold mR
  simp only [ui_ap, ne_MM, ne_M0, ne_0M, reduceCtorEq, Nat.reduceEqDiff, false_and, and_false, if_false]
  exact h
theorem sR_isKin (h : mR M J) {k : Nat} {v : Int32} : mR M (a_ui J (M + 35) k v) := by
  unfold mR
  simp only [ui_ap, ne_MM, ne_M0, ne_0M, reduceCtorEq, Nat.reduceEqDiff, false_and, and_false, if_false]
  exact h
theorem sR_marks (h : mR M J) {k : Nat} {v : Int32} : mR M (a_ui J (M + 36) k v) := by
  unfold mR
  simp only [ui_ap, ne_MM, ne_M0, ne_0M, reduceCtorEq, Nat.reduceEqDiff, false_and, and_false, if_false]
  exact h
theorem sR_isMarked (h : mR M J) {k : Nat} {v : Int32} : mR M (a_ui J (M + 37) k v) := by
  unfold mR
  simp only [ui_ap, ne_MM, ne_M0, ne_0M, reduceCtorEq, Nat.reduceEqDiff, false_and, and_false, if_false]
  exact h
theorem sR_doesCount (h : mR M J) {k : Nat} {v : Int32} : mR M (a_ui J (M + 38) k v) := by
  unfold mR
  simp only [ui_ap, ne_MM, ne_M0, ne_0M, reduceCtorEq, Nat.reduceEqDiff, false_and, and_false, if_false]
  exact h
theorem sR_passedMany (h : mR M J) {v : Int32} (hv : (0) ≤ v ∧ v ≤ 30) : mR M (a_ui J M 61 v) := by
  unfold mR at h ⊢
  simp only [ui_ap, ne_MM, ne_M0, ne_0M, reduceCtorEq, Nat.reduceEqDiff, false_and, and_false, if_false, true_and, and_self, if_true] at h ⊢
  grind
theorem sR_passedAsk (h : mR M J) {k : Nat} {v : Int32} : mR M (a_ui J (M + 39) k v) := by
  unfold mR
  simp only [ui_ap, ne_MM, ne_M0, ne_0M, reduceCtorEq, Nat.reduceEqDiff, false_and, and_false, if_false]
  exact h
theorem sR_order (h : mR M J) {k : Nat} {v : Int32} (hv : (0) ≤ v ∧ v ≤ 29) : mR M (a_ui J (M + 40) k v) := by
  unfold mR at h ⊢
  simp only [ui_ap, ne_MM, ne_M0, ne_0M, reduceCtorEq, Nat.reduceEqDiff, false_and, and_false, if_false, true_and, and_self, if_true] at h ⊢
  grind
theorem sR_orderMany (h : mR M J) {v : Int32} : mR M (a_ui J M 64 v) := by
  unfold mR
  simp only [ui_ap, ne_MM, ne_M0, ne_0M, reduceCtorEq, Nat.reduceEqDiff, false_and, and_false, if_false]
  exact h
theorem sR_few (h : mR M J) {k : Nat} {v : Int32} (hv : (0) ≤ v ∧ v ≤ 29) : mR M (a_ui J (M + 41) k v) := by
  unfold mR at h ⊢
  simp only [ui_ap, ne_MM, ne_M0, ne_0M, reduceCtorEq, Nat.reduceEqDiff, false_and, and_false, if_false, true_and, and_self, if_true] at h ⊢
  grind
theorem sR_fewMany (h : mR M J) {v : Int32} : mR M (a_ui J M 66 v) := by
  unfold mR
  simp only [ui_ap, ne_MM, ne_M0, ne_0M, reduceCtorEq, Nat.reduceEqDiff, false_and, and_false, if_false]
  exact h
theorem sR_way (h : mR M J) {k : Nat} {v : Int32} : mR M (a_ui J (M + 42) k v) := by
  unfold mR
  simp only [ui_ap, ne_MM, ne_M0, ne_0M, reduceCtorEq, Nat.reduceEqDiff, false_and, and_false, if_false]
  exact h
theorem sR_sumTo (h : mR M J) {k : Nat} {v : Int32} : mR M (a_ui J (M + 43) k v) := by
  unfold mR
  simp only [ui_ap, ne_MM, ne_M0, ne_0M, reduceCtorEq, Nat.reduceEqDiff, false_and, and_false, if_false]
  exact h
theorem sR_bestWay (h : mR M J) {k : Nat} {v : Int32} (hv : (0) ≤ v ∧ v ≤ 48) : mR M (a_ui J (M + 44) k v) := by
  unfold mR at h ⊢
  simp only [ui_ap, ne_MM, ne_M0, ne_0M, reduceCtorEq, Nat.reduceEqDiff, false_and, and_false, if_false, true_and, and_self, if_true] at h ⊢
  grind
theorem sR_wasBench (h : mR M J) {k : Nat} {v : Int32} : mR M (a_ui J (M + 45) k v) := by
  unfold mR
  simp only [ui_ap, ne_MM, ne_M0, ne_0M, reduceCtorEq, Nat.reduceEqDiff, false_and, and_false, if_false]
  exact h
theorem sR_wasShift (h : mR M J) {k : Nat} {v : Int32} : mR M (a_ui J (M + 46) k v) := by
  unfold mR
  simp only [ui_ap, ne_MM, ne_M0, ne_0M, reduceCtorEq, Nat.reduceEqDiff, false_and, and_false, if_false]
  exact h
theorem sR_isWish (h : mR M J) {k : Nat} {v : Int32} : mR M (a_ui J (M + 47) k v) := by
  unfold mR
  simp only [ui_ap, ne_MM, ne_M0, ne_0M, reduceCtorEq, Nat.reduceEqDiff, false_and, and_false, if_false]
  exact h
theorem sR_ringAsk (h : mR M J) {k : Nat} {v : Int32} : mR M (a_ui J (M + 48) k v) := by
  unfold mR
  simp only [ui_ap, ne_MM, ne_M0, ne_0M, reduceCtorEq, Nat.reduceEqDiff, false_and, and_false, if_false]
  exact h
theorem sR_ringMany (h : mR M J) {v : Int32} : mR M (a_ui J M 74 v) := by
  unfold mR
  simp only [ui_ap, ne_MM, ne_M0, ne_0M, reduceCtorEq, Nat.reduceEqDiff, false_and, and_false, if_false]
  exact h
theorem sR_oldBench (h : mR M J) {k : Nat} {v : Int32} (hv : (-9) ≤ v ∧ v ≤ 5) : mR M (a_ui J (M + 49) k v) := by
  unfold mR at h ⊢
  simp only [ui_ap, ne_MM, ne_M0, ne_0M, reduceCtorEq, Nat.reduceEqDiff, false_and, and_false, if_false, true_and, and_self, if_true] at h ⊢
  grind
theorem sR_oldShift (h : mR M J) {k : Nat} {v : Int32} (hv : (-9) ≤ v ∧ v ≤ 200) : mR M (a_ui J (M + 50) k v) := by
  unfold mR at h ⊢
  simp only [ui_ap, ne_MM, ne_M0, ne_0M, reduceCtorEq, Nat.reduceEqDiff, false_and, and_false, if_false, true_and, and_self, if_true] at h ⊢
  grind
theorem sR_oldStanding (h : mR M J) {k : Nat} {v : Int32} : mR M (a_ui J (M + 51) k v) := by
  unfold mR
  simp only [ui_ap, ne_MM, ne_M0, ne_0M, reduceCtorEq, Nat.reduceEqDiff, false_and, and_false, if_false]
  exact h
theorem sR_row (h : mR M J) {k : Nat} {v : Int32} : mR M (a_ui J (M + 52) k v) := by
  unfold mR
  simp only [ui_ap, ne_MM, ne_M0, ne_0M, reduceCtorEq, Nat.reduceEqDiff, false_and, and_false, if_false]
  exact h
theorem sR_rowMany (h : mR M J) {v : Int32} (hv : (0) ≤ v ∧ v ≤ 21) : mR M (a_ui J M 79 v) := by
  unfold mR at h ⊢
  simp only [ui_ap, ne_MM, ne_M0, ne_0M, reduceCtorEq, Nat.reduceEqDiff, false_and, and_false, if_false, true_and, and_self, if_true] at h ⊢
  grind
theorem sG_asks (h : mG M I J) {v : Int32} (hv : (0) ≤ v ∧ v ≤ 30) : mG M I (a_ui J M 17 v) := ⟨sR_asks h.1 hv, fun x j hx => by rw [ui_ap, if_neg (by unfold eC at hx; omega)]; exact h.2 x j hx⟩
theorem sG_kind (h : mG M I J) {k : Nat} {v : Int32} (hv : v = 1 → 0 ≤ J (M + 16) k ∧ J (M + 16) k ≤ 29) : mG M I (a_ui J (M + 7) k v) := ⟨sR_kind h.1 hv, fun x j hx => by rw [ui_ap, if_neg (by unfold eC at hx; omega)]; exact h.2 x j hx⟩
theorem sG_group (h : mG M I J) {k : Nat} {v : Int32} (hv : (0) ≤ v ∧ v ≤ 9) : mG M I (a_ui J (M + 8) k v) := ⟨sR_group h.1 hv, fun x j hx => by rw [ui_ap, if_neg (by unfold eC at hx; omega)]; exact h.2 x j hx⟩
theorem sG_land (h : mG M I J) {k : Nat} {v : Int32} : mG M I (a_ui J (M + 9) k v) := ⟨sR_land h.1, fun x j hx => by rw [ui_ap, if_neg (by unfold eC at hx; omega)]; exact h.2 x j hx⟩
theorem sG_length (h : mG M I J) {k : Nat} {v : Int32} (hv : (0) ≤ v ∧ v ≤ 4) : mG M I (a_ui J (M + 10) k v) := ⟨sR_length h.1 hv, fun x j hx => by rw [ui_ap, if_neg (by unfold eC at hx; omega)]; exact h.2 x j hx⟩
theorem sG_wants (h : mG M I J) {k : Nat} {v : Int32} : mG M I (a_ui J (M + 11) k v) := ⟨sR_wants h.1, fun x j hx => by rw [ui_ap, if_neg (by unfold eC at hx; omega)]; exact h.2 x j hx⟩
theorem sG_benchSet (h : mG M I J) {k : Nat} {v : Int32} : mG M I (a_ui J (M + 12) k v) := ⟨sR_benchSet h.1, fun x j hx => by rw [ui_ap, if_neg (by unfold eC at hx; omega)]; exact h.2 x j hx⟩
theorem sG_modeSet (h : mG M I J) {k : Nat} {v : Int32} : mG M I (a_ui J (M + 13) k v) := ⟨sR_modeSet h.1, fun x j hx => by rw [ui_ap, if_neg (by unfold eC at hx; omega)]; exact h.2 x j hx⟩
theorem sG_gear (h : mG M I J) {k : Nat} {v : Int32} : mG M I (a_ui J (M + 14) k v) := ⟨sR_gear h.1, fun x j hx => by rw [ui_ap, if_neg (by unfold eC at hx; omega)]; exact h.2 x j hx⟩
theorem sG_danger (h : mG M I J) {k : Nat} {v : Int32} : mG M I (a_ui J (M + 15) k v) := ⟨sR_danger h.1, fun x j hx => by rw [ui_ap, if_neg (by unfold eC at hx; omega)]; exact h.2 x j hx⟩
theorem sG_isGone (h : mG M I J) {k : Nat} {v : Int32} : mG M I (a_ui J (M + 18) k v) := ⟨sR_isGone h.1, fun x j hx => by rw [ui_ap, if_neg (by unfold eC at hx; omega)]; exact h.2 x j hx⟩
theorem sG_wasOwed (h : mG M I J) {k : Nat} {v : Int32} : mG M I (a_ui J (M + 19) k v) := ⟨sR_wasOwed h.1, fun x j hx => by rw [ui_ap, if_neg (by unfold eC at hx; omega)]; exact h.2 x j hx⟩
theorem sG_atBench (h : mG M I J) {k : Nat} {v : Int32} (hv : (-9) ≤ v ∧ v ≤ 5) : mG M I (a_ui J (M + 20) k v) := ⟨sR_atBench h.1 hv, fun x j hx => by rw [ui_ap, if_neg (by unfold eC at hx; omega)]; exact h.2 x j hx⟩
theorem sG_atShift (h : mG M I J) {k : Nat} {v : Int32} (hv : (-9) ≤ v ∧ v ≤ 200) : mG M I (a_ui J (M + 21) k v) := ⟨sR_atShift h.1 hv, fun x j hx => by rw [ui_ap, if_neg (by unfold eC at hx; omega)]; exact h.2 x j hx⟩
theorem sG_refused (h : mG M I J) {k : Nat} {v : Int32} : mG M I (a_ui J (M + 23) k v) := ⟨sR_refused h.1, fun x j hx => by rw [ui_ap, if_neg (by unfold eC at hx; omega)]; exact h.2 x j hx⟩
theorem sC_isTold (h : mC M I J) {v : Int32} : mC M I (a_ui J M 46 v) := ⟨sR_isTold h.1, fun x j hx => by rw [ui_ap, if_neg (by unfold sC at hx; omega)]; exact h.2 x j hx⟩
theorem sC_base (h : mC M I J) {v : Int32} (hv : (0) ≤ v ∧ v ≤ 950) : mC M I (a_ui J M 47 v) := ⟨sR_base h.1 hv, fun x j hx => by rw [ui_ap, if_neg (by unfold sC at hx; omega)]; exact h.2 x j hx⟩
theorem sC_end (h : mC M I J) {v : Int32} : mC M I (a_ui J M 48 v) := ⟨sR_end h.1, fun x j hx => by rw [ui_ap, if_neg (by unfold sC at hx; omega)]; exact h.2 x j hx⟩
theorem sC_at (h : mC M I J) {v : Int32} : mC M I (a_ui J M 49 v) := ⟨sR_at h.1, fun x j hx => by rw [ui_ap, if_neg (by unfold sC at hx; omega)]; exact h.2 x j hx⟩
theorem sC_isBad (h : mC M I J) {v : Int32} : mC M I (a_ui J M 50 v) := ⟨sR_isBad h.1, fun x j hx => by rw [ui_ap, if_neg (by unfold sC at hx; omega)]; exact h.2 x j hx⟩
theorem sC_deep (h : mC M I J) {v : Int32} : mC M I (a_ui J M 51 v) := ⟨sR_deep h.1, fun x j hx => by rw [ui_ap, if_neg (by unfold sC at hx; omega)]; exact h.2 x j hx⟩
theorem sC_facts (h : mC M I J) {k : Nat} {v : Int32} : mC M I (a_ui J (M + 32) k v) := ⟨sR_facts h.1, fun x j hx => by rw [ui_ap, if_neg (by unfold sC at hx; omega)]; exact h.2 x j hx⟩
theorem sC_values (h : mC M I J) {k : Nat} {v : Int32} : mC M I (a_ui J (M + 33) k v) := ⟨sR_values h.1, fun x j hx => by rw [ui_ap, if_neg (by unfold sC at hx; omega)]; exact h.2 x j hx⟩
theorem sC_valueMany (h : mC M I J) {v : Int32} : mC M I (a_ui J M 54 v) := ⟨sR_valueMany h.1, fun x j hx => by rw [ui_ap, if_neg (by unfold sC at hx; omega)]; exact h.2 x j hx⟩
theorem sC_signs (h : mC M I J) {k : Nat} {v : Int32} : mC M I (a_ui J (M + 34) k v) := ⟨sR_signs h.1, fun x j hx => by rw [ui_ap, if_neg (by unfold sC at hx; omega)]; exact h.2 x j hx⟩
theorem sC_signMany (h : mC M I J) {v : Int32} : mC M I (a_ui J M 56 v) := ⟨sR_signMany h.1, fun x j hx => by rw [ui_ap, if_neg (by unfold sC at hx; omega)]; exact h.2 x j hx⟩
theorem sG_marks (h : mG M I J) {k : Nat} {v : Int32} : mG M I (a_ui J (M + 36) k v) := ⟨sR_marks h.1, fun x j hx => by rw [ui_ap, if_neg (by unfold eC at hx; omega)]; exact h.2 x j hx⟩
theorem sG_isMarked (h : mG M I J) {k : Nat} {v : Int32} : mG M I (a_ui J (M + 37) k v) := ⟨sR_isMarked h.1, fun x j hx => by rw [ui_ap, if_neg (by unfold eC at hx; omega)]; exact h.2 x j hx⟩
theorem sG_doesCount (h : mG M I J) {k : Nat} {v : Int32} : mG M I (a_ui J (M + 38) k v) := ⟨sR_doesCount h.1, fun x j hx => by rw [ui_ap, if_neg (by unfold eC at hx; omega)]; exact h.2 x j hx⟩
theorem sG_passedMany (h : mG M I J) {v : Int32} (hv : (0) ≤ v ∧ v ≤ 30) : mG M I (a_ui J M 61 v) := ⟨sR_passedMany h.1 hv, fun x j hx => by rw [ui_ap, if_neg (by unfold eC at hx; omega)]; exact h.2 x j hx⟩
theorem sG_passedAsk (h : mG M I J) {k : Nat} {v : Int32} : mG M I (a_ui J (M + 39) k v) := ⟨sR_passedAsk h.1, fun x j hx => by rw [ui_ap, if_neg (by unfold eC at hx; omega)]; exact h.2 x j hx⟩
theorem sG_order (h : mG M I J) {k : Nat} {v : Int32} (hv : (0) ≤ v ∧ v ≤ 29) : mG M I (a_ui J (M + 40) k v) := ⟨sR_order h.1 hv, fun x j hx => by rw [ui_ap, if_neg (by unfold eC at hx; omega)]; exact h.2 x j hx⟩
theorem sG_orderMany (h : mG M I J) {v : Int32} : mG M I (a_ui J M 64 v) := ⟨sR_orderMany h.1, fun x j hx => by rw [ui_ap, if_neg (by unfold eC at hx; omega)]; exact h.2 x j hx⟩
theorem sG_few (h : mG M I J) {k : Nat} {v : Int32} (hv : (0) ≤ v ∧ v ≤ 29) : mG M I (a_ui J (M + 41) k v) := ⟨sR_few h.1 hv, fun x j hx => by rw [ui_ap, if_neg (by unfold eC at hx; omega)]; exact h.2 x j hx⟩
theorem sG_fewMany (h : mG M I J) {v : Int32} : mG M I (a_ui J M 66 v) := ⟨sR_fewMany h.1, fun x j hx => by rw [ui_ap, if_neg (by unfold eC at hx; omega)]; exact h.2 x j hx⟩
theorem sG_wasBench (h : mG M I J) {k : Nat} {v : Int32} : mG M I (a_ui J (M + 45) k v) := ⟨sR_wasBench h.1, fun x j hx => by rw [ui_ap, if_neg (by unfold eC at hx; omega)]; exact h.2 x j hx⟩
theorem sG_wasShift (h : mG M I J) {k : Nat} {v : Int32} : mG M I (a_ui J (M + 46) k v) := ⟨sR_wasShift h.1, fun x j hx => by rw [ui_ap, if_neg (by unfold eC at hx; omega)]; exact h.2 x j hx⟩
theorem sG_isWish (h : mG M I J) {k : Nat} {v : Int32} : mG M I (a_ui J (M + 47) k v) := ⟨sR_isWish h.1, fun x j hx => by rw [ui_ap, if_neg (by unfold eC at hx; omega)]; exact h.2 x j hx⟩
theorem sG_ringAsk (h : mG M I J) {k : Nat} {v : Int32} : mG M I (a_ui J (M + 48) k v) := ⟨sR_ringAsk h.1, fun x j hx => by rw [ui_ap, if_neg (by unfold eC at hx; omega)]; exact h.2 x j hx⟩
theorem sG_ringMany (h : mG M I J) {v : Int32} : mG M I (a_ui J M 74 v) := ⟨sR_ringMany h.1, fun x j hx => by rw [ui_ap, if_neg (by unfold eC at hx; omega)]; exact h.2 x j hx⟩
theorem sG_oldBench (h : mG M I J) {k : Nat} {v : Int32} (hv : (-9) ≤ v ∧ v ≤ 5) : mG M I (a_ui J (M + 49) k v) := ⟨sR_oldBench h.1 hv, fun x j hx => by rw [ui_ap, if_neg (by unfold eC at hx; omega)]; exact h.2 x j hx⟩
theorem sG_oldShift (h : mG M I J) {k : Nat} {v : Int32} (hv : (-9) ≤ v ∧ v ≤ 200) : mG M I (a_ui J (M + 50) k v) := ⟨sR_oldShift h.1 hv, fun x j hx => by rw [ui_ap, if_neg (by unfold eC at hx; omega)]; exact h.2 x j hx⟩
theorem eS_now (h : mC M I J) : J M 0 = I M 0 := h.2 _ _ (by unfold sC; omega)
theorem eS_benches (h : mC M I J) : J M 6 = I M 6 := h.2 _ _ (by unfold sC; omega)
theorem eS_asks (h : mC M I J) : J M 17 = I M 17 := h.2 _ _ (by unfold sC; omega)
theorem eS_length (h : mC M I J) (j : Nat) : J (M + 10) j = I (M + 10) j := h.2 _ _ (by unfold sC; omega)
theorem eS_atBench (h : mC M I J) (j : Nat) : J (M + 20) j = I (M + 20) j := h.2 _ _ (by unfold sC; omega)
theorem eS_atShift (h : mC M I J) (j : Nat) : J (M + 21) j = I (M + 21) j := h.2 _ _ (by unfold sC; omega)
theorem eS_events (h : mC M I J) : J M 35 = I M 35 := h.2 _ _ (by unfold sC; omega)
theorem eS_eWhere (h : mC M I J) (j : Nat) : J (M + 24) j = I (M + 24) j := h.2 _ _ (by unfold sC; omega)
theorem eS_eHour (h : mC M I J) (j : Nat) : J (M + 25) j = I (M + 25) j := h.2 _ _ (by unfold sC; omega)
theorem eS_way (h : mC M I J) (j : Nat) : J (M + 42) j = I (M + 42) j := h.2 _ _ (by unfold sC; omega)
theorem eS_oldBench (h : mC M I J) (j : Nat) : J (M + 49) j = I (M + 49) j := h.2 _ _ (by unfold sC; omega)
theorem eS_oldShift (h : mC M I J) (j : Nat) : J (M + 50) j = I (M + 50) j := h.2 _ _ (by unfold sC; omega)
theorem mG_C {I0 : Nat → Nat → Int32} (h : mG M I0 I) (h2 : mC M I J) : mG M I0 J := ⟨h2.1, fun x j hx => (h2.2 x j (by unfold eC at hx; unfold sC; omega)).trans (h.2 x j hx)⟩
end RG

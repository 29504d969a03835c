/-! one rule an instruction, over any body: what is asked there, and where it goes on -/
section AG
variable {d : Nat} {x : a_X} {pc : Nat} {ls : AL} {st : List Value} {h : AH} {P : Option Value → AH → Prop}
theorem a_rf_pos {r : Nat} (h : r ≠ 0) : a_rf r = .ref r := by unfold a_rf; rw [if_neg h]
theorem a_rf_zero : a_rf 0 = .null := rfl
theorem a_rf_cat (r : Nat) : (a_rf r).category = 1 := by unfold a_rf; split <;> rfl
theorem a_rf_isR (r : Nat) : a_isR (a_rf r) = true := by unfold a_rf; split <;> rfl
/-- no long: what stands just ahead of a place that is written -/
def a_nl (v : Option Value) : Prop := ∀ w, v = some w → w.category = 1
theorem a_nl_none : a_nl none := fun w h => by cases h
theorem a_nl_int (v : Int32) : a_nl (some (.int v)) := fun w h => by cases h; rfl
theorem a_nl_rf (r : Nat) : a_nl (some (a_rf r)) := fun w h => by cases h; exact a_rf_cat r
/-- the index i is within n -/
def a_ok (i : Int32) (n : Nat) : Prop := ¬ (i < 0 ∨ n ≤ i.toNatClampNeg)
theorem a_go_at {pc' : Nat} {ls' : AL} {st' : List Value} {h' : AH} {i : Instr} {len : Nat} (hd : decode x.2.2.2.2 pc = .ok (i, len)) (hs : a_step x.1 x.2.1 x.2.2.1 x.2.2.2.1 pc i len ls st h = a_go pc' ls' st' h') : a_at d x pc ls st h P ↔ a_at d x pc' ls' st' h' P := by
  rw [a_at_iff hd, hs]; rfl
theorem a_go_no {i : Instr} {len : Nat} (hd : decode x.2.2.2.2 pc = .ok (i, len)) (hs : a_step x.1 x.2.1 x.2.2.1 x.2.2.2.1 pc i len ls st h = none) : a_at d x pc ls st h P ↔ False := by
  rw [a_at_iff hd, hs]
theorem a_go_if {c : Prop} [Decidable c] {pc' : Nat} {ls' : AL} {st' : List Value} {h' : AH} {i : Instr} {len : Nat} (hd : decode x.2.2.2.2 pc = .ok (i, len)) (hs : a_step x.1 x.2.1 x.2.2.1 x.2.2.2.1 pc i len ls st h = if c then a_go pc' ls' st' h' else none) : a_at d x pc ls st h P ↔ c ∧ a_at d x pc' ls' st' h' P := by
  by_cases hc : c
  · rw [if_pos hc] at hs
    rw [a_go_at hd hs]
    exact ⟨fun q => ⟨hc, q⟩, fun q => q.2⟩
  · rw [if_neg hc] at hs
    rw [a_go_no hd hs]
    exact ⟨fun q => q.elim, fun q => hc q.1⟩
theorem g_load {k pc' : Nat} {w : Value → Bool} {v : Value} {i : Instr} {len : Nat} (hd : decode x.2.2.2.2 pc = .ok (i, len)) (hs : a_step x.1 x.2.1 x.2.2.1 x.2.2.2.1 pc i len ls st h = x_load k pc' ls st h w) (hl : ls[k]? = some (some v)) (hw : w v = true) : a_at d x pc ls st h P ↔ a_at d x pc' ls (v :: st) h P := by
  refine a_go_at hd (hs.trans ?_)
  unfold x_load
  rw [hl]
  show (if w v = true then _ else _) = _
  rw [if_pos hw]
theorem g_store {k pc' : Nat} {w : Value → Bool} {v : Value} {i : Instr} {len : Nat} (hd : decode x.2.2.2.2 pc = .ok (i, len)) (hs : a_step x.1 x.2.1 x.2.2.1 x.2.2.2.1 pc i len ls (v :: st) h = x_store k pc' ls (v :: st) h w) (hw : w v = true) (hk : k < ls.length) : a_at d x pc ls (v :: st) h P ↔ a_clear ls k = true ∧ a_at d x pc' (ls.set k (some v)) st h P := by
  refine a_go_if hd (hs.trans ?_)
  unfold x_store
  show (if w v = true ∧ k < ls.length ∧ a_clear ls k = true then _ else _) = _
  by_cases hc : a_clear ls k = true
  · rw [if_pos ⟨hw, hk, hc⟩, if_pos hc]
  · rw [if_neg (fun q => hc q.2.2), if_neg hc]
theorem a_clear_zero (l : AL) : a_clear l 0 = true ↔ True := ⟨fun _ => trivial, fun _ => rfl⟩
theorem a_clear_succ {l : AL} {j : Nat} {o : Option Value} (h : l[j]? = some o) : a_clear l (j + 1) = true ↔ a_nl o := by
  unfold a_clear a_nl
  simp only [h]
  cases o with
  | none => simp
  | some v => simp
theorem g_iinc {k pc' : Nat} {n : Int} {v : Int32} {i : Instr} {len : Nat} (hd : decode x.2.2.2.2 pc = .ok (i, len)) (hs : a_step x.1 x.2.1 x.2.2.1 x.2.2.2.1 pc i len ls st h = x_iinc k n pc' ls st h) (hl : ls[k]? = some (some (.int v))) : a_at d x pc ls st h P ↔ a_clear ls k = true ∧ a_at d x pc' (ls.set k (some (.int (v + Int32.ofInt n)))) st h P := by
  refine a_go_if hd (hs.trans ?_)
  unfold x_iinc
  rw [hl]
theorem a_jump_of {off : Int} {t : Nat} (ht : (pc : Int) + off = (t : Int)) : a_jump pc off = some t := by
  unfold a_jump
  rw [if_pos (by omega), ht]
  rfl
theorem g_br {c : Prop} {off : Int} {t : Nat} {b : Bool} {st' : List Value} {i : Instr} {len : Nat} (hd : decode x.2.2.2.2 pc = .ok (i, len)) (hs : a_step x.1 x.2.1 x.2.2.1 x.2.2.2.1 pc i len ls st h = a_br b pc off ls st' h) (ht : (pc : Int) + off = (t : Int)) (hc : b = true ↔ c) : a_at d x pc ls st h P ↔ (c → a_at d x t ls st' h P) ∧ (¬ c → a_at d x (pc + 3) ls st' h P) := by
  unfold a_br at hs
  rw [a_jump_of ht] at hs
  by_cases h9 : b = true
  · have hs2 : a_step x.1 x.2.1 x.2.2.1 x.2.2.2.1 pc i len ls st h = a_go t ls st' h := by rw [hs]; exact if_pos h9
    rw [a_go_at hd hs2]
    exact ⟨fun q => ⟨fun _ => q, fun r => absurd (hc.mp h9) r⟩, fun q => q.1 (hc.mp h9)⟩
  · have hs2 : a_step x.1 x.2.1 x.2.2.1 x.2.2.2.1 pc i len ls st h = a_go (pc + 3) ls st' h := by rw [hs]; exact if_neg h9
    rw [a_go_at hd hs2]
    exact ⟨fun q => ⟨fun r => absurd (hc.mpr r) h9, fun _ => q⟩, fun q => q.2 (fun r => h9 (hc.mpr r))⟩
theorem g_to {off : Int} {t : Nat} {i : Instr} {len : Nat} (hd : decode x.2.2.2.2 pc = .ok (i, len)) (hs : a_step x.1 x.2.1 x.2.2.1 x.2.2.2.1 pc i len ls st h = a_to pc off ls st h) (ht : (pc : Int) + off = (t : Int)) : a_at d x pc ls st h P ↔ a_at d x t ls st h P := by
  refine a_go_at hd (hs.trans ?_)
  unfold a_to
  rw [a_jump_of ht]
theorem c_eq (a b : Int32) : a_cond .eq a b = true ↔ a = b := by simp [a_cond]
theorem c_ne (a b : Int32) : a_cond .ne a b = true ↔ ¬ a = b := by simp [a_cond]
theorem c_lt (a b : Int32) : a_cond .lt a b = true ↔ a < b := by simp [a_cond]
theorem c_ge (a b : Int32) : a_cond .ge a b = true ↔ b ≤ a := by simp [a_cond]
theorem c_gt (a b : Int32) : a_cond .gt a b = true ↔ b < a := by simp [a_cond]
theorem c_le (a b : Int32) : a_cond .le a b = true ↔ a ≤ b := by simp [a_cond]
theorem g_null {b : Bool} {off : Int} {t r : Nat} {i : Instr} {len : Nat} (hd : decode x.2.2.2.2 pc = .ok (i, len)) (hs : a_step x.1 x.2.1 x.2.2.1 x.2.2.2.1 pc i len ls (a_rf r :: st) h = x_null b off pc ls (a_rf r :: st) h) (ht : (pc : Int) + off = (t : Int)) : a_at d x pc ls (a_rf r :: st) h P ↔ (r = 0 → a_at d x (if b = true then t else pc + 3) ls st h P) ∧ (¬ r = 0 → a_at d x (if b = true then pc + 3 else t) ls st h P) := by
  have hj := a_jump_of ht
  by_cases hr : r = 0
  · subst hr
    have hs2 : a_step x.1 x.2.1 x.2.2.1 x.2.2.2.1 pc i len ls (a_rf 0 :: st) h = a_go (if b = true then t else pc + 3) ls st h := by
      rw [hs]
      show (if b = true then a_to pc off ls st h else a_go (pc + 3) ls st h) = _
      unfold a_to
      rw [hj]
      cases b <;> rfl
    rw [a_go_at hd hs2]
    exact ⟨fun q => ⟨fun _ => q, fun r => absurd rfl r⟩, fun q => q.1 rfl⟩
  · have hs2 : a_step x.1 x.2.1 x.2.2.1 x.2.2.2.1 pc i len ls (a_rf r :: st) h = a_go (if b = true then pc + 3 else t) ls st h := by
      rw [hs, a_rf_pos hr]
      show (if b = true then a_go (pc + 3) ls st h else a_to pc off ls st h) = _
      unfold a_to
      rw [hj]
      cases b <;> rfl
    rw [a_go_at hd hs2]
    exact ⟨fun q => ⟨fun r => absurd r hr, fun _ => q⟩, fun q => q.2 hr⟩
theorem a_adr_of (r : Nat) : a_adr (a_rf r) = some (a_op r) := by
  unfold a_rf a_op
  split <;> rfl
theorem a_op_inj {r s : Nat} : a_op r = a_op s ↔ r = s := by
  unfold a_op
  constructor
  · intro h
    split at h <;> split at h <;> simp_all
  · rintro rfl; rfl
theorem g_acmp {b : Bool} {off : Int} {t r r' : Nat} {i : Instr} {len : Nat} (hd : decode x.2.2.2.2 pc = .ok (i, len)) (hs : a_step x.1 x.2.1 x.2.2.1 x.2.2.2.1 pc i len ls (a_rf r' :: a_rf r :: st) h = x_acmp b off pc ls (a_rf r' :: a_rf r :: st) h) (ht : (pc : Int) + off = (t : Int)) : a_at d x pc ls (a_rf r' :: a_rf r :: st) h P ↔ (decide (r = r') = b → a_at d x t ls st h P) ∧ (¬ decide (r = r') = b → a_at d x (pc + 3) ls st h P) := by
  refine g_br (st' := st) hd (hs.trans ?_) ht (b := decide (decide (r = r') = b)) (by simp)
  unfold x_acmp
  simp only [a_adr_of, a_op_inj]
theorem g_div {f : Int32 → Int32 → Int32} {pc' : Nat} {v w : Int32} {i : Instr} {len : Nat} (hd : decode x.2.2.2.2 pc = .ok (i, len)) (hs : a_step x.1 x.2.1 x.2.2.1 x.2.2.2.1 pc i len ls (.int w :: .int v :: st) h = x_div f pc' ls (.int w :: .int v :: st) h) : a_at d x pc ls (.int w :: .int v :: st) h P ↔ ¬ w = 0 ∧ a_at d x pc' ls (.int (f v w) :: st) h P := by
  refine a_go_if hd (hs.trans ?_)
  show (if w = 0 then none else _) = _
  by_cases hw : w = 0
  · rw [if_pos hw, if_neg (fun q => q hw)]
  · rw [if_neg hw, if_pos hw]
variable {n t : Nat} {K L : Nat → Nat} {I : Nat → Nat → Int32} {Rv : Nat → Nat → Nat}
theorem g_getf {idx pc' a c k o' i' : Nat} {i : Instr} {len : Nat} (hd : decode x.2.2.2.2 pc = .ok (i, len)) (hs : a_step x.1 x.2.1 x.2.2.1 x.2.2.2.1 pc i len ls (a_rf a :: st) h = x_getf x.2.1 idx pc' ls (a_rf a :: st) h) (hf : a_fld x.2.1 idx = some (o', i', c, k)) : a_at d x pc ls (a_rf a :: st) h P ↔ (¬ a = 0 ∧ a_kd h a = c + 1) ∧ a_at d x pc' ls (a_slot h a c k :: st) h P := by
  by_cases ha : a = 0
  · subst ha
    rw [a_go_no hd (hs.trans (by unfold x_getf; rw [a_rf_zero]))]
    exact ⟨fun q => q.elim, fun q => q.1.1 rfl⟩
  · have hs2 := hs.trans (show x_getf x.2.1 idx pc' ls (a_rf a :: st) h = if a_kd h a = c + 1 then a_go pc' ls (a_slot h a c k :: st) h else none by unfold x_getf; rw [a_rf_pos ha, hf])
    rw [a_go_if hd hs2]
    exact ⟨fun q => ⟨⟨ha, q.1⟩, q.2⟩, fun q => ⟨q.1.2, q.2⟩⟩
theorem a_slot_i {h : AH} {a c k : Nat} (hf : a_fty c k = 2 → False) : a_slot h a c k = .int (a_iv h a k) := by unfold a_slot; rw [if_neg hf]
theorem a_slot_r {h : AH} {a c k : Nat} (hf : a_fty c k = 2) : a_slot h a c k = a_rf (a_rv h a k) := by unfold a_slot; rw [if_pos hf]
theorem g_getI {idx pc' a c k o' i' : Nat} {i : Instr} {len : Nat} (hd : decode x.2.2.2.2 pc = .ok (i, len)) (hs : a_step x.1 x.2.1 x.2.2.1 x.2.2.2.1 pc i len ls (a_rf a :: st) (n, t, K, L, I, Rv) = x_getf x.2.1 idx pc' ls (a_rf a :: st) (n, t, K, L, I, Rv)) (hf : a_fld x.2.1 idx = some (o', i', c, k)) (hty : a_fty c k = 2 → False) : a_at d x pc ls (a_rf a :: st) (n, t, K, L, I, Rv) P ↔ (¬ a = 0 ∧ K a = c + 1) ∧ a_at d x pc' ls (.int (I a k) :: st) (n, t, K, L, I, Rv) P := by
  rw [g_getf hd hs hf, a_slot_i hty]; rfl
theorem g_getR {idx pc' a c k o' i' : Nat} {i : Instr} {len : Nat} (hd : decode x.2.2.2.2 pc = .ok (i, len)) (hs : a_step x.1 x.2.1 x.2.2.1 x.2.2.2.1 pc i len ls (a_rf a :: st) (n, t, K, L, I, Rv) = x_getf x.2.1 idx pc' ls (a_rf a :: st) (n, t, K, L, I, Rv)) (hf : a_fld x.2.1 idx = some (o', i', c, k)) (hty : a_fty c k = 2) : a_at d x pc ls (a_rf a :: st) (n, t, K, L, I, Rv) P ↔ (¬ a = 0 ∧ K a = c + 1) ∧ a_at d x pc' ls (a_rf (Rv a k) :: st) (n, t, K, L, I, Rv) P := by
  rw [g_getf hd hs hf, a_slot_r hty]; rfl
theorem g_putI {idx pc' a c k o' i' : Nat} {v : Int32} {i : Instr} {len : Nat} (hd : decode x.2.2.2.2 pc = .ok (i, len)) (hs : a_step x.1 x.2.1 x.2.2.1 x.2.2.2.1 pc i len ls (.int v :: a_rf a :: st) (n, t, K, L, I, Rv) = x_putf x.2.1 x.2.2.1 idx pc' ls (.int v :: a_rf a :: st) (n, t, K, L, I, Rv)) (hf : a_fld x.2.1 idx = some (o', i', c, k)) (hfin : a_fin c k = true → x.2.2.1 = true ∧ c = x.2.1) (hty : a_fty c k = 0) : a_at d x pc ls (.int v :: a_rf a :: st) (n, t, K, L, I, Rv) P ↔ (¬ a = 0 ∧ K a = c + 1) ∧ a_at d x pc' ls st (n, t, K, L, a_ui I a k v, Rv) P := by
  by_cases ha : a = 0
  · subst ha
    rw [a_go_no hd (hs.trans (by unfold x_putf; rw [a_rf_zero]))]
    exact ⟨fun q => q.elim, fun q => q.1.1 rfl⟩
  · have hs2 := hs.trans (show x_putf x.2.1 x.2.2.1 idx pc' ls (.int v :: a_rf a :: st) (n, t, K, L, I, Rv) = if K a = c + 1 then a_go pc' ls st (n, t, K, L, a_ui I a k v, Rv) else none by
      unfold x_putf
      rw [a_rf_pos ha, hf]
      have hfin' := eq_true hfin
      have e1 : a_kd (n, t, K, L, I, Rv) a = K a := rfl
      by_cases hK : K a = c + 1
      · simp [e1, hK, hfin', hty, a_setI, a_nx, a_tot, a_kd, a_ln, a_iv, a_rv]
      · simp [e1, hK])
    rw [a_go_if hd hs2]
    exact ⟨fun q => ⟨⟨ha, q.1⟩, q.2⟩, fun q => ⟨q.1.2, q.2⟩⟩
theorem g_putZ {idx pc' a c k o' i' : Nat} {v : Int32} {i : Instr} {len : Nat} (hd : decode x.2.2.2.2 pc = .ok (i, len)) (hs : a_step x.1 x.2.1 x.2.2.1 x.2.2.2.1 pc i len ls (.int v :: a_rf a :: st) (n, t, K, L, I, Rv) = x_putf x.2.1 x.2.2.1 idx pc' ls (.int v :: a_rf a :: st) (n, t, K, L, I, Rv)) (hf : a_fld x.2.1 idx = some (o', i', c, k)) (hfin : a_fin c k = true → x.2.2.1 = true ∧ c = x.2.1) (hty : a_fty c k = 1) : a_at d x pc ls (.int v :: a_rf a :: st) (n, t, K, L, I, Rv) P ↔ (¬ a = 0 ∧ K a = c + 1 ∧ (v = 0 ∨ v = 1)) ∧ a_at d x pc' ls st (n, t, K, L, a_ui I a k v, Rv) P := by
  by_cases ha : a = 0
  · subst ha
    rw [a_go_no hd (hs.trans (by unfold x_putf; rw [a_rf_zero]))]
    exact ⟨fun q => q.elim, fun q => q.1.1 rfl⟩
  · have hs2 := hs.trans (show x_putf x.2.1 x.2.2.1 idx pc' ls (.int v :: a_rf a :: st) (n, t, K, L, I, Rv) = if K a = c + 1 ∧ (v = 0 ∨ v = 1) then a_go pc' ls st (n, t, K, L, a_ui I a k v, Rv) else none by
      unfold x_putf
      rw [a_rf_pos ha, hf]
      have hfin' := eq_true hfin
      have e1 : a_kd (n, t, K, L, I, Rv) a = K a := rfl
      by_cases hK : K a = c + 1
      · simp [e1, hK, hfin', hty, a_setI, a_nx, a_tot, a_kd, a_ln, a_iv, a_rv]
      · simp [e1, hK])
    rw [a_go_if hd hs2]
    exact ⟨fun q => ⟨⟨ha, q.1⟩, q.2⟩, fun q => ⟨q.1.2, q.2⟩⟩
theorem g_putR {idx pc' a c k o' i' r : Nat} {i : Instr} {len : Nat} (hd : decode x.2.2.2.2 pc = .ok (i, len)) (hs : a_step x.1 x.2.1 x.2.2.1 x.2.2.2.1 pc i len ls (a_rf r :: a_rf a :: st) (n, t, K, L, I, Rv) = x_putf x.2.1 x.2.2.1 idx pc' ls (a_rf r :: a_rf a :: st) (n, t, K, L, I, Rv)) (hf : a_fld x.2.1 idx = some (o', i', c, k)) (hfin : a_fin c k = true → x.2.2.1 = true ∧ c = x.2.1) (hty : a_fty c k = 2) : a_at d x pc ls (a_rf r :: a_rf a :: st) (n, t, K, L, I, Rv) P ↔ (¬ a = 0 ∧ K a = c + 1) ∧ a_at d x pc' ls st (n, t, K, L, I, a_ur Rv a k r) P := by
  by_cases ha : a = 0
  · subst ha
    rw [a_go_no hd (hs.trans (by unfold x_putf; rw [a_rf_zero]))]
    exact ⟨fun q => q.elim, fun q => q.1.1 rfl⟩
  · have hs2 := hs.trans (show x_putf x.2.1 x.2.2.1 idx pc' ls (a_rf r :: a_rf a :: st) (n, t, K, L, I, Rv) = if K a = c + 1 then a_go pc' ls st (n, t, K, L, I, a_ur Rv a k r) else none by
      unfold x_putf
      rw [a_rf_pos ha, hf]
      have hfin' := eq_true hfin
      have e1 : a_kd (n, t, K, L, I, Rv) a = K a := rfl
      by_cases hK : K a = c + 1
      · by_cases hr : r = 0
        · subst hr
          rw [a_rf_zero]
          simp [e1, hK, hfin', hty, a_setR, a_nx, a_tot, a_kd, a_ln, a_iv, a_rv]
        · rw [a_rf_pos hr]
          simp [e1, hK, hfin', hty, hr, a_setR, a_nx, a_tot, a_kd, a_ln, a_iv, a_rv]
      · by_cases hr : r = 0
        · subst hr
          rw [a_rf_zero]
          simp [e1, hK]
        · rw [a_rf_pos hr]
          simp [e1, hK])
    rw [a_go_if hd hs2]
    exact ⟨fun q => ⟨⟨ha, q.1⟩, q.2⟩, fun q => ⟨q.1.2, q.2⟩⟩
theorem g_ald {kind pc' a : Nat} {j : Int32} {i : Instr} {len : Nat} (hd : decode x.2.2.2.2 pc = .ok (i, len)) (hs : a_step x.1 x.2.1 x.2.2.1 x.2.2.2.1 pc i len ls (.int j :: a_rf a :: st) (n, t, K, L, I, Rv) = x_iald none kind pc' ls (.int j :: a_rf a :: st) (n, t, K, L, I, Rv)) : a_at d x pc ls (.int j :: a_rf a :: st) (n, t, K, L, I, Rv) P ↔ (¬ a = 0 ∧ K a = kind ∧ a_ok j (L a)) ∧ a_at d x pc' ls (.int (I a j.toNatClampNeg) :: st) (n, t, K, L, I, Rv) P := by
  by_cases ha : a = 0
  · subst ha
    rw [a_go_no hd (hs.trans (by unfold x_iald; rw [a_rf_zero]))]
    exact ⟨fun q => q.elim, fun q => q.1.1 rfl⟩
  · have hs2 := hs.trans (show x_iald none kind pc' ls (.int j :: a_rf a :: st) (n, t, K, L, I, Rv) = if K a = kind ∧ ¬ (j < 0 ∨ L a ≤ j.toNatClampNeg) then a_go pc' ls (.int (I a j.toNatClampNeg) :: st) (n, t, K, L, I, Rv) else none by unfold x_iald; rw [a_rf_pos ha]; rfl)
    rw [a_go_if hd hs2]
    exact ⟨fun q => ⟨⟨ha, q.1⟩, q.2⟩, fun q => ⟨q.1.2, q.2⟩⟩
theorem g_iast {pc' a : Nat} {j v : Int32} {i : Instr} {len : Nat} (hd : decode x.2.2.2.2 pc = .ok (i, len)) (hs : a_step x.1 x.2.1 x.2.2.1 x.2.2.2.1 pc i len ls (.int v :: .int j :: a_rf a :: st) (n, t, K, L, I, Rv) = x_iast pc' ls (.int v :: .int j :: a_rf a :: st) (n, t, K, L, I, Rv)) : a_at d x pc ls (.int v :: .int j :: a_rf a :: st) (n, t, K, L, I, Rv) P ↔ (¬ a = 0 ∧ K a = 20 ∧ a_ok j (L a)) ∧ a_at d x pc' ls st (n, t, K, L, a_ui I a j.toNatClampNeg v, Rv) P := by
  by_cases ha : a = 0
  · subst ha
    rw [a_go_no hd (hs.trans (by unfold x_iast; rw [a_rf_zero]))]
    exact ⟨fun q => q.elim, fun q => q.1.1 rfl⟩
  · have hs2 := hs.trans (show x_iast pc' ls (.int v :: .int j :: a_rf a :: st) (n, t, K, L, I, Rv) = if K a = 20 ∧ ¬ (j < 0 ∨ L a ≤ j.toNatClampNeg) then a_go pc' ls st (n, t, K, L, a_ui I a j.toNatClampNeg v, Rv) else none by unfold x_iast; rw [a_rf_pos ha]; rfl)
    rw [a_go_if hd hs2]
    exact ⟨fun q => ⟨⟨ha, q.1⟩, q.2⟩, fun q => ⟨q.1.2, q.2⟩⟩
theorem g_zast {pc' a : Nat} {j v : Int32} {i : Instr} {len : Nat} (hd : decode x.2.2.2.2 pc = .ok (i, len)) (hs : a_step x.1 x.2.1 x.2.2.1 x.2.2.2.1 pc i len ls (.int v :: .int j :: a_rf a :: st) (n, t, K, L, I, Rv) = x_zast pc' ls (.int v :: .int j :: a_rf a :: st) (n, t, K, L, I, Rv)) : a_at d x pc ls (.int v :: .int j :: a_rf a :: st) (n, t, K, L, I, Rv) P ↔ (¬ a = 0 ∧ K a = 21 ∧ a_ok j (L a)) ∧ a_at d x pc' ls st (n, t, K, L, a_ui I a j.toNatClampNeg (v &&& 1), Rv) P := by
  by_cases ha : a = 0
  · subst ha
    rw [a_go_no hd (hs.trans (by unfold x_zast; rw [a_rf_zero]))]
    exact ⟨fun q => q.elim, fun q => q.1.1 rfl⟩
  · have hs2 := hs.trans (show x_zast pc' ls (.int v :: .int j :: a_rf a :: st) (n, t, K, L, I, Rv) = if K a = 21 ∧ ¬ (j < 0 ∨ L a ≤ j.toNatClampNeg) then a_go pc' ls st (n, t, K, L, a_ui I a j.toNatClampNeg (v &&& 1), Rv) else none by unfold x_zast; rw [a_rf_pos ha]; rfl)
    rw [a_go_if hd hs2]
    exact ⟨fun q => ⟨⟨ha, q.1⟩, q.2⟩, fun q => ⟨q.1.2, q.2⟩⟩
end AG

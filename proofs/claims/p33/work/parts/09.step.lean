section AS6
variable {p : Program} {l : Launch} {e : Env} {R : Room} {s : State} {m : MethodId} {args : Array Value} {below : List Frame} {meth : Method} {c : Code} {Q : State → Prop}
variable {B : Nat} {cA : Nat → ClassId} {D : va_G} {h0 h h1 h2 : AH} {nL pc pc2 pc' k o idx : Nat} {ls ls2 : AL} {st st2 : List Value} {cc : ByteArray} {H : Heap} {locs : List Loc}
theorem n_br {t : Bool} {off : Int} {r : (Nat × List Value × Nat × List Value) ⊕ (Option Value)} (hs : a_br t pc off ls st h = some (.inr r)) : False := by
  unfold a_br at hs
  split at hs <;> try contradiction
  split at hs <;> cases hs
theorem m_a_to {off : Int} (hs : a_to pc off ls st h = some (.inl (pc2, ls2, st2, h2))) : a_nx h ≤ a_nx h2 ∧ a_tot h ≤ a_tot h2 := by
  unfold a_to at hs
  (repeat' split at hs) <;> first
    | contradiction
    | (cases hs; exact ⟨Nat.le_refl _, Nat.le_refl _⟩)
    | (cases hs; exact ⟨Nat.le_succ _, Nat.le_add_right _ _⟩)
    | (obtain ⟨_, -, -, -, rfl, -⟩ := s_br hs; exact ⟨Nat.le_refl _, Nat.le_refl _⟩)
theorem n_a_to {off : Int} {r : (Nat × List Value × Nat × List Value) ⊕ (Option Value)} (hs : a_to pc off ls st h = some (.inr r)) : False := by
  unfold a_to at hs
  (repeat' split at hs) <;> first
    | contradiction
    | (cases hs; done)
theorem m_x_load {w : Value → Bool} (hs : x_load k pc' ls st h w = some (.inl (pc2, ls2, st2, h2))) : a_nx h ≤ a_nx h2 ∧ a_tot h ≤ a_tot h2 := by
  unfold x_load at hs
  (repeat' split at hs) <;> first
    | contradiction
    | (cases hs; exact ⟨Nat.le_refl _, Nat.le_refl _⟩)
    | (cases hs; exact ⟨Nat.le_succ _, Nat.le_add_right _ _⟩)
    | exact m_a_to hs
    | (obtain ⟨_, -, -, -, rfl, -⟩ := s_br hs; exact ⟨Nat.le_refl _, Nat.le_refl _⟩)
theorem n_x_load {w : Value → Bool} {r : (Nat × List Value × Nat × List Value) ⊕ (Option Value)} (hs : x_load k pc' ls st h w = some (.inr r)) : False := by
  unfold x_load at hs
  (repeat' split at hs) <;> first
    | contradiction
    | (cases hs; done)
    | exact n_a_to hs
    | exact n_br hs
theorem m_x_store {w : Value → Bool} (hs : x_store k pc' ls st h w = some (.inl (pc2, ls2, st2, h2))) : a_nx h ≤ a_nx h2 ∧ a_tot h ≤ a_tot h2 := by
  unfold x_store at hs
  (repeat' split at hs) <;> first
    | contradiction
    | (cases hs; exact ⟨Nat.le_refl _, Nat.le_refl _⟩)
    | (cases hs; exact ⟨Nat.le_succ _, Nat.le_add_right _ _⟩)
    | exact m_a_to hs
    | (obtain ⟨_, -, -, -, rfl, -⟩ := s_br hs; exact ⟨Nat.le_refl _, Nat.le_refl _⟩)
theorem n_x_store {w : Value → Bool} {r : (Nat × List Value × Nat × List Value) ⊕ (Option Value)} (hs : x_store k pc' ls st h w = some (.inr r)) : False := by
  unfold x_store at hs
  (repeat' split at hs) <;> first
    | contradiction
    | (cases hs; done)
    | exact n_a_to hs
    | exact n_br hs
theorem m_x_iinc {n : Int} (hs : x_iinc k n pc' ls st h = some (.inl (pc2, ls2, st2, h2))) : a_nx h ≤ a_nx h2 ∧ a_tot h ≤ a_tot h2 := by
  unfold x_iinc at hs
  (repeat' split at hs) <;> first
    | contradiction
    | (cases hs; exact ⟨Nat.le_refl _, Nat.le_refl _⟩)
    | (cases hs; exact ⟨Nat.le_succ _, Nat.le_add_right _ _⟩)
    | exact m_a_to hs
    | (obtain ⟨_, -, -, -, rfl, -⟩ := s_br hs; exact ⟨Nat.le_refl _, Nat.le_refl _⟩)
theorem n_x_iinc {n : Int} {r : (Nat × List Value × Nat × List Value) ⊕ (Option Value)} (hs : x_iinc k n pc' ls st h = some (.inr r)) : False := by
  unfold x_iinc at hs
  (repeat' split at hs) <;> first
    | contradiction
    | (cases hs; done)
    | exact n_a_to hs
    | exact n_br hs
theorem m_x_push {v : Value} (hs : x_push v pc' ls st h = some (.inl (pc2, ls2, st2, h2))) : a_nx h ≤ a_nx h2 ∧ a_tot h ≤ a_tot h2 := by
  unfold x_push at hs
  (repeat' split at hs) <;> first
    | contradiction
    | (cases hs; exact ⟨Nat.le_refl _, Nat.le_refl _⟩)
    | (cases hs; exact ⟨Nat.le_succ _, Nat.le_add_right _ _⟩)
    | exact m_a_to hs
    | (obtain ⟨_, -, -, -, rfl, -⟩ := s_br hs; exact ⟨Nat.le_refl _, Nat.le_refl _⟩)
theorem n_x_push {v : Value} {r : (Nat × List Value × Nat × List Value) ⊕ (Option Value)} (hs : x_push v pc' ls st h = some (.inr r)) : False := by
  unfold x_push at hs
  (repeat' split at hs) <;> first
    | contradiction
    | (cases hs; done)
    | exact n_a_to hs
    | exact n_br hs
theorem m_x_bin {f : Int32 → Int32 → Int32} (hs : x_bin f pc' ls st h = some (.inl (pc2, ls2, st2, h2))) : a_nx h ≤ a_nx h2 ∧ a_tot h ≤ a_tot h2 := by
  unfold x_bin at hs
  (repeat' split at hs) <;> first
    | contradiction
    | (cases hs; exact ⟨Nat.le_refl _, Nat.le_refl _⟩)
    | (cases hs; exact ⟨Nat.le_succ _, Nat.le_add_right _ _⟩)
    | exact m_a_to hs
    | (obtain ⟨_, -, -, -, rfl, -⟩ := s_br hs; exact ⟨Nat.le_refl _, Nat.le_refl _⟩)
theorem n_x_bin {f : Int32 → Int32 → Int32} {r : (Nat × List Value × Nat × List Value) ⊕ (Option Value)} (hs : x_bin f pc' ls st h = some (.inr r)) : False := by
  unfold x_bin at hs
  (repeat' split at hs) <;> first
    | contradiction
    | (cases hs; done)
    | exact n_a_to hs
    | exact n_br hs
theorem m_x_div {f : Int32 → Int32 → Int32} (hs : x_div f pc' ls st h = some (.inl (pc2, ls2, st2, h2))) : a_nx h ≤ a_nx h2 ∧ a_tot h ≤ a_tot h2 := by
  unfold x_div at hs
  (repeat' split at hs) <;> first
    | contradiction
    | (cases hs; exact ⟨Nat.le_refl _, Nat.le_refl _⟩)
    | (cases hs; exact ⟨Nat.le_succ _, Nat.le_add_right _ _⟩)
    | exact m_a_to hs
    | (obtain ⟨_, -, -, -, rfl, -⟩ := s_br hs; exact ⟨Nat.le_refl _, Nat.le_refl _⟩)
theorem n_x_div {f : Int32 → Int32 → Int32} {r : (Nat × List Value × Nat × List Value) ⊕ (Option Value)} (hs : x_div f pc' ls st h = some (.inr r)) : False := by
  unfold x_div at hs
  (repeat' split at hs) <;> first
    | contradiction
    | (cases hs; done)
    | exact n_a_to hs
    | exact n_br hs
theorem m_x_lbin {f : Int64 → Int64 → Int64} (hs : x_lbin f pc' ls st h = some (.inl (pc2, ls2, st2, h2))) : a_nx h ≤ a_nx h2 ∧ a_tot h ≤ a_tot h2 := by
  unfold x_lbin at hs
  (repeat' split at hs) <;> first
    | contradiction
    | (cases hs; exact ⟨Nat.le_refl _, Nat.le_refl _⟩)
    | (cases hs; exact ⟨Nat.le_succ _, Nat.le_add_right _ _⟩)
    | exact m_a_to hs
    | (obtain ⟨_, -, -, -, rfl, -⟩ := s_br hs; exact ⟨Nat.le_refl _, Nat.le_refl _⟩)
theorem n_x_lbin {f : Int64 → Int64 → Int64} {r : (Nat × List Value × Nat × List Value) ⊕ (Option Value)} (hs : x_lbin f pc' ls st h = some (.inr r)) : False := by
  unfold x_lbin at hs
  (repeat' split at hs) <;> first
    | contradiction
    | (cases hs; done)
    | exact n_a_to hs
    | exact n_br hs
theorem m_x_lsh {f : Int64 → Int32 → Int64} (hs : x_lsh f pc' ls st h = some (.inl (pc2, ls2, st2, h2))) : a_nx h ≤ a_nx h2 ∧ a_tot h ≤ a_tot h2 := by
  unfold x_lsh at hs
  (repeat' split at hs) <;> first
    | contradiction
    | (cases hs; exact ⟨Nat.le_refl _, Nat.le_refl _⟩)
    | (cases hs; exact ⟨Nat.le_succ _, Nat.le_add_right _ _⟩)
    | exact m_a_to hs
    | (obtain ⟨_, -, -, -, rfl, -⟩ := s_br hs; exact ⟨Nat.le_refl _, Nat.le_refl _⟩)
theorem n_x_lsh {f : Int64 → Int32 → Int64} {r : (Nat × List Value × Nat × List Value) ⊕ (Option Value)} (hs : x_lsh f pc' ls st h = some (.inr r)) : False := by
  unfold x_lsh at hs
  (repeat' split at hs) <;> first
    | contradiction
    | (cases hs; done)
    | exact n_a_to hs
    | exact n_br hs
theorem m_x_neg  (hs : x_neg pc' ls st h = some (.inl (pc2, ls2, st2, h2))) : a_nx h ≤ a_nx h2 ∧ a_tot h ≤ a_tot h2 := by
  unfold x_neg at hs
  (repeat' split at hs) <;> first
    | contradiction
    | (cases hs; exact ⟨Nat.le_refl _, Nat.le_refl _⟩)
    | (cases hs; exact ⟨Nat.le_succ _, Nat.le_add_right _ _⟩)
    | exact m_a_to hs
    | (obtain ⟨_, -, -, -, rfl, -⟩ := s_br hs; exact ⟨Nat.le_refl _, Nat.le_refl _⟩)
theorem n_x_neg  {r : (Nat × List Value × Nat × List Value) ⊕ (Option Value)} (hs : x_neg pc' ls st h = some (.inr r)) : False := by
  unfold x_neg at hs
  (repeat' split at hs) <;> first
    | contradiction
    | (cases hs; done)
    | exact n_a_to hs
    | exact n_br hs
theorem m_x_i2l  (hs : x_i2l pc' ls st h = some (.inl (pc2, ls2, st2, h2))) : a_nx h ≤ a_nx h2 ∧ a_tot h ≤ a_tot h2 := by
  unfold x_i2l at hs
  (repeat' split at hs) <;> first
    | contradiction
    | (cases hs; exact ⟨Nat.le_refl _, Nat.le_refl _⟩)
    | (cases hs; exact ⟨Nat.le_succ _, Nat.le_add_right _ _⟩)
    | exact m_a_to hs
    | (obtain ⟨_, -, -, -, rfl, -⟩ := s_br hs; exact ⟨Nat.le_refl _, Nat.le_refl _⟩)
theorem n_x_i2l  {r : (Nat × List Value × Nat × List Value) ⊕ (Option Value)} (hs : x_i2l pc' ls st h = some (.inr r)) : False := by
  unfold x_i2l at hs
  (repeat' split at hs) <;> first
    | contradiction
    | (cases hs; done)
    | exact n_a_to hs
    | exact n_br hs
theorem m_x_l2i  (hs : x_l2i pc' ls st h = some (.inl (pc2, ls2, st2, h2))) : a_nx h ≤ a_nx h2 ∧ a_tot h ≤ a_tot h2 := by
  unfold x_l2i at hs
  (repeat' split at hs) <;> first
    | contradiction
    | (cases hs; exact ⟨Nat.le_refl _, Nat.le_refl _⟩)
    | (cases hs; exact ⟨Nat.le_succ _, Nat.le_add_right _ _⟩)
    | exact m_a_to hs
    | (obtain ⟨_, -, -, -, rfl, -⟩ := s_br hs; exact ⟨Nat.le_refl _, Nat.le_refl _⟩)
theorem n_x_l2i  {r : (Nat × List Value × Nat × List Value) ⊕ (Option Value)} (hs : x_l2i pc' ls st h = some (.inr r)) : False := by
  unfold x_l2i at hs
  (repeat' split at hs) <;> first
    | contradiction
    | (cases hs; done)
    | exact n_a_to hs
    | exact n_br hs
theorem m_x_icmp {q : Jvm.ClassFile.Cond} {off : Int} (hs : x_icmp q off pc ls st h = some (.inl (pc2, ls2, st2, h2))) : a_nx h ≤ a_nx h2 ∧ a_tot h ≤ a_tot h2 := by
  unfold x_icmp at hs
  (repeat' split at hs) <;> first
    | contradiction
    | (cases hs; exact ⟨Nat.le_refl _, Nat.le_refl _⟩)
    | (cases hs; exact ⟨Nat.le_succ _, Nat.le_add_right _ _⟩)
    | exact m_a_to hs
    | (obtain ⟨_, -, -, -, rfl, -⟩ := s_br hs; exact ⟨Nat.le_refl _, Nat.le_refl _⟩)
theorem n_x_icmp {q : Jvm.ClassFile.Cond} {off : Int} {r : (Nat × List Value × Nat × List Value) ⊕ (Option Value)} (hs : x_icmp q off pc ls st h = some (.inr r)) : False := by
  unfold x_icmp at hs
  (repeat' split at hs) <;> first
    | contradiction
    | (cases hs; done)
    | exact n_a_to hs
    | exact n_br hs
theorem m_x_if {q : Jvm.ClassFile.Cond} {off : Int} (hs : x_if q off pc ls st h = some (.inl (pc2, ls2, st2, h2))) : a_nx h ≤ a_nx h2 ∧ a_tot h ≤ a_tot h2 := by
  unfold x_if at hs
  (repeat' split at hs) <;> first
    | contradiction
    | (cases hs; exact ⟨Nat.le_refl _, Nat.le_refl _⟩)
    | (cases hs; exact ⟨Nat.le_succ _, Nat.le_add_right _ _⟩)
    | exact m_a_to hs
    | (obtain ⟨_, -, -, -, rfl, -⟩ := s_br hs; exact ⟨Nat.le_refl _, Nat.le_refl _⟩)
theorem n_x_if {q : Jvm.ClassFile.Cond} {off : Int} {r : (Nat × List Value × Nat × List Value) ⊕ (Option Value)} (hs : x_if q off pc ls st h = some (.inr r)) : False := by
  unfold x_if at hs
  (repeat' split at hs) <;> first
    | contradiction
    | (cases hs; done)
    | exact n_a_to hs
    | exact n_br hs
theorem m_x_null {b : Bool} {off : Int} (hs : x_null b off pc ls st h = some (.inl (pc2, ls2, st2, h2))) : a_nx h ≤ a_nx h2 ∧ a_tot h ≤ a_tot h2 := by
  unfold x_null at hs
  (repeat' split at hs) <;> first
    | contradiction
    | (cases hs; exact ⟨Nat.le_refl _, Nat.le_refl _⟩)
    | (cases hs; exact ⟨Nat.le_succ _, Nat.le_add_right _ _⟩)
    | exact m_a_to hs
    | (obtain ⟨_, -, -, -, rfl, -⟩ := s_br hs; exact ⟨Nat.le_refl _, Nat.le_refl _⟩)
theorem n_x_null {b : Bool} {off : Int} {r : (Nat × List Value × Nat × List Value) ⊕ (Option Value)} (hs : x_null b off pc ls st h = some (.inr r)) : False := by
  unfold x_null at hs
  (repeat' split at hs) <;> first
    | contradiction
    | (cases hs; done)
    | exact n_a_to hs
    | exact n_br hs
theorem m_x_acmp {b : Bool} {off : Int} (hs : x_acmp b off pc ls st h = some (.inl (pc2, ls2, st2, h2))) : a_nx h ≤ a_nx h2 ∧ a_tot h ≤ a_tot h2 := by
  unfold x_acmp at hs
  (repeat' split at hs) <;> first
    | contradiction
    | (cases hs; exact ⟨Nat.le_refl _, Nat.le_refl _⟩)
    | (cases hs; exact ⟨Nat.le_succ _, Nat.le_add_right _ _⟩)
    | exact m_a_to hs
    | (obtain ⟨_, -, -, -, rfl, -⟩ := s_br hs; exact ⟨Nat.le_refl _, Nat.le_refl _⟩)
theorem n_x_acmp {b : Bool} {off : Int} {r : (Nat × List Value × Nat × List Value) ⊕ (Option Value)} (hs : x_acmp b off pc ls st h = some (.inr r)) : False := by
  unfold x_acmp at hs
  (repeat' split at hs) <;> first
    | contradiction
    | (cases hs; done)
    | exact n_a_to hs
    | exact n_br hs
theorem m_x_table {d lo hi : Int} {offs : Array Int} (hs : x_table d lo hi offs pc ls st h = some (.inl (pc2, ls2, st2, h2))) : a_nx h ≤ a_nx h2 ∧ a_tot h ≤ a_tot h2 := by
  unfold x_table at hs
  (repeat' split at hs) <;> first
    | contradiction
    | (cases hs; exact ⟨Nat.le_refl _, Nat.le_refl _⟩)
    | (cases hs; exact ⟨Nat.le_succ _, Nat.le_add_right _ _⟩)
    | exact m_a_to hs
    | (obtain ⟨_, -, -, -, rfl, -⟩ := s_br hs; exact ⟨Nat.le_refl _, Nat.le_refl _⟩)
theorem n_x_table {d lo hi : Int} {offs : Array Int} {r : (Nat × List Value × Nat × List Value) ⊕ (Option Value)} (hs : x_table d lo hi offs pc ls st h = some (.inr r)) : False := by
  unfold x_table at hs
  (repeat' split at hs) <;> first
    | contradiction
    | (cases hs; done)
    | exact n_a_to hs
    | exact n_br hs
theorem m_x_look {d : Int} {ps : Array (Int × Int)} (hs : x_look d ps pc ls st h = some (.inl (pc2, ls2, st2, h2))) : a_nx h ≤ a_nx h2 ∧ a_tot h ≤ a_tot h2 := by
  unfold x_look at hs
  (repeat' split at hs) <;> first
    | contradiction
    | (cases hs; exact ⟨Nat.le_refl _, Nat.le_refl _⟩)
    | (cases hs; exact ⟨Nat.le_succ _, Nat.le_add_right _ _⟩)
    | exact m_a_to hs
    | (obtain ⟨_, -, -, -, rfl, -⟩ := s_br hs; exact ⟨Nat.le_refl _, Nat.le_refl _⟩)
theorem n_x_look {d : Int} {ps : Array (Int × Int)} {r : (Nat × List Value × Nat × List Value) ⊕ (Option Value)} (hs : x_look d ps pc ls st h = some (.inr r)) : False := by
  unfold x_look at hs
  (repeat' split at hs) <;> first
    | contradiction
    | (cases hs; done)
    | exact n_a_to hs
    | exact n_br hs
theorem m_x_getf  (hs : x_getf o idx pc' ls st h = some (.inl (pc2, ls2, st2, h2))) : a_nx h ≤ a_nx h2 ∧ a_tot h ≤ a_tot h2 := by
  unfold x_getf at hs
  (repeat' split at hs) <;> first
    | contradiction
    | (cases hs; exact ⟨Nat.le_refl _, Nat.le_refl _⟩)
    | (cases hs; exact ⟨Nat.le_succ _, Nat.le_add_right _ _⟩)
    | exact m_a_to hs
    | (obtain ⟨_, -, -, -, rfl, -⟩ := s_br hs; exact ⟨Nat.le_refl _, Nat.le_refl _⟩)
theorem n_x_getf  {r : (Nat × List Value × Nat × List Value) ⊕ (Option Value)} (hs : x_getf o idx pc' ls st h = some (.inr r)) : False := by
  unfold x_getf at hs
  (repeat' split at hs) <;> first
    | contradiction
    | (cases hs; done)
    | exact n_a_to hs
    | exact n_br hs
theorem m_x_putf {ini : Bool} (hs : x_putf o ini idx pc' ls st h = some (.inl (pc2, ls2, st2, h2))) : a_nx h ≤ a_nx h2 ∧ a_tot h ≤ a_tot h2 := by
  unfold x_putf at hs
  (repeat' split at hs) <;> first
    | contradiction
    | (cases hs; exact ⟨Nat.le_refl _, Nat.le_refl _⟩)
    | (cases hs; exact ⟨Nat.le_succ _, Nat.le_add_right _ _⟩)
    | exact m_a_to hs
    | (obtain ⟨_, -, -, -, rfl, -⟩ := s_br hs; exact ⟨Nat.le_refl _, Nat.le_refl _⟩)
theorem n_x_putf {ini : Bool} {r : (Nat × List Value × Nat × List Value) ⊕ (Option Value)} (hs : x_putf o ini idx pc' ls st h = some (.inr r)) : False := by
  unfold x_putf at hs
  (repeat' split at hs) <;> first
    | contradiction
    | (cases hs; done)
    | exact n_a_to hs
    | exact n_br hs
theorem m_x_iald {sc : Option (Nat × Nat × (Nat → Int32))} {kd : Nat} (hs : x_iald sc kd pc' ls st h = some (.inl (pc2, ls2, st2, h2))) : a_nx h ≤ a_nx h2 ∧ a_tot h ≤ a_tot h2 := by
  unfold x_iald at hs
  (repeat' split at hs) <;> first
    | contradiction
    | (cases hs; exact ⟨Nat.le_refl _, Nat.le_refl _⟩)
    | (cases hs; exact ⟨Nat.le_succ _, Nat.le_add_right _ _⟩)
    | exact m_a_to hs
    | (obtain ⟨_, -, -, -, rfl, -⟩ := s_br hs; exact ⟨Nat.le_refl _, Nat.le_refl _⟩)
theorem n_x_iald {sc : Option (Nat × Nat × (Nat → Int32))} {kd : Nat} {r : (Nat × List Value × Nat × List Value) ⊕ (Option Value)} (hs : x_iald sc kd pc' ls st h = some (.inr r)) : False := by
  unfold x_iald at hs
  (repeat' split at hs) <;> first
    | contradiction
    | (cases hs; done)
    | exact n_a_to hs
    | exact n_br hs
theorem m_x_aald  (hs : x_aald pc' ls st h = some (.inl (pc2, ls2, st2, h2))) : a_nx h ≤ a_nx h2 ∧ a_tot h ≤ a_tot h2 := by
  unfold x_aald at hs
  (repeat' split at hs) <;> first
    | contradiction
    | (cases hs; exact ⟨Nat.le_refl _, Nat.le_refl _⟩)
    | (cases hs; exact ⟨Nat.le_succ _, Nat.le_add_right _ _⟩)
    | exact m_a_to hs
    | (obtain ⟨_, -, -, -, rfl, -⟩ := s_br hs; exact ⟨Nat.le_refl _, Nat.le_refl _⟩)
theorem n_x_aald  {r : (Nat × List Value × Nat × List Value) ⊕ (Option Value)} (hs : x_aald pc' ls st h = some (.inr r)) : False := by
  unfold x_aald at hs
  (repeat' split at hs) <;> first
    | contradiction
    | (cases hs; done)
    | exact n_a_to hs
    | exact n_br hs
theorem m_x_iast  (hs : x_iast pc' ls st h = some (.inl (pc2, ls2, st2, h2))) : a_nx h ≤ a_nx h2 ∧ a_tot h ≤ a_tot h2 := by
  unfold x_iast at hs
  (repeat' split at hs) <;> first
    | contradiction
    | (cases hs; exact ⟨Nat.le_refl _, Nat.le_refl _⟩)
    | (cases hs; exact ⟨Nat.le_succ _, Nat.le_add_right _ _⟩)
    | exact m_a_to hs
    | (obtain ⟨_, -, -, -, rfl, -⟩ := s_br hs; exact ⟨Nat.le_refl _, Nat.le_refl _⟩)
theorem n_x_iast  {r : (Nat × List Value × Nat × List Value) ⊕ (Option Value)} (hs : x_iast pc' ls st h = some (.inr r)) : False := by
  unfold x_iast at hs
  (repeat' split at hs) <;> first
    | contradiction
    | (cases hs; done)
    | exact n_a_to hs
    | exact n_br hs
theorem m_x_zast  (hs : x_zast pc' ls st h = some (.inl (pc2, ls2, st2, h2))) : a_nx h ≤ a_nx h2 ∧ a_tot h ≤ a_tot h2 := by
  unfold x_zast at hs
  (repeat' split at hs) <;> first
    | contradiction
    | (cases hs; exact ⟨Nat.le_refl _, Nat.le_refl _⟩)
    | (cases hs; exact ⟨Nat.le_succ _, Nat.le_add_right _ _⟩)
    | exact m_a_to hs
    | (obtain ⟨_, -, -, -, rfl, -⟩ := s_br hs; exact ⟨Nat.le_refl _, Nat.le_refl _⟩)
theorem n_x_zast  {r : (Nat × List Value × Nat × List Value) ⊕ (Option Value)} (hs : x_zast pc' ls st h = some (.inr r)) : False := by
  unfold x_zast at hs
  (repeat' split at hs) <;> first
    | contradiction
    | (cases hs; done)
    | exact n_a_to hs
    | exact n_br hs
theorem m_x_aast  (hs : x_aast pc' ls st h = some (.inl (pc2, ls2, st2, h2))) : a_nx h ≤ a_nx h2 ∧ a_tot h ≤ a_tot h2 := by
  unfold x_aast at hs
  (repeat' split at hs) <;> first
    | contradiction
    | (cases hs; exact ⟨Nat.le_refl _, Nat.le_refl _⟩)
    | (cases hs; exact ⟨Nat.le_succ _, Nat.le_add_right _ _⟩)
    | exact m_a_to hs
    | (obtain ⟨_, -, -, -, rfl, -⟩ := s_br hs; exact ⟨Nat.le_refl _, Nat.le_refl _⟩)
theorem n_x_aast  {r : (Nat × List Value × Nat × List Value) ⊕ (Option Value)} (hs : x_aast pc' ls st h = some (.inr r)) : False := by
  unfold x_aast at hs
  (repeat' split at hs) <;> first
    | contradiction
    | (cases hs; done)
    | exact n_a_to hs
    | exact n_br hs
theorem m_x_alen {sc : Option (Nat × Nat × (Nat → Int32))} (hs : x_alen sc pc' ls st h = some (.inl (pc2, ls2, st2, h2))) : a_nx h ≤ a_nx h2 ∧ a_tot h ≤ a_tot h2 := by
  unfold x_alen at hs
  (repeat' split at hs) <;> first
    | contradiction
    | (cases hs; exact ⟨Nat.le_refl _, Nat.le_refl _⟩)
    | (cases hs; exact ⟨Nat.le_succ _, Nat.le_add_right _ _⟩)
    | exact m_a_to hs
    | (obtain ⟨_, -, -, -, rfl, -⟩ := s_br hs; exact ⟨Nat.le_refl _, Nat.le_refl _⟩)
theorem n_x_alen {sc : Option (Nat × Nat × (Nat → Int32))} {r : (Nat × List Value × Nat × List Value) ⊕ (Option Value)} (hs : x_alen sc pc' ls st h = some (.inr r)) : False := by
  unfold x_alen at hs
  (repeat' split at hs) <;> first
    | contradiction
    | (cases hs; done)
    | exact n_a_to hs
    | exact n_br hs
theorem m_x_newarr {kd : Nat} (hs : x_newarr kd pc' ls st h = some (.inl (pc2, ls2, st2, h2))) : a_nx h ≤ a_nx h2 ∧ a_tot h ≤ a_tot h2 := by
  unfold x_newarr at hs
  (repeat' split at hs) <;> first
    | contradiction
    | (cases hs; exact ⟨Nat.le_refl _, Nat.le_refl _⟩)
    | (cases hs; exact ⟨Nat.le_succ _, Nat.le_add_right _ _⟩)
    | exact m_a_to hs
    | (obtain ⟨_, -, -, -, rfl, -⟩ := s_br hs; exact ⟨Nat.le_refl _, Nat.le_refl _⟩)
theorem n_x_newarr {kd : Nat} {r : (Nat × List Value × Nat × List Value) ⊕ (Option Value)} (hs : x_newarr kd pc' ls st h = some (.inr r)) : False := by
  unfold x_newarr at hs
  (repeat' split at hs) <;> first
    | contradiction
    | (cases hs; done)
    | exact n_a_to hs
    | exact n_br hs
theorem m_x_new  (hs : x_new o idx pc' ls st h = some (.inl (pc2, ls2, st2, h2))) : a_nx h ≤ a_nx h2 ∧ a_tot h ≤ a_tot h2 := by
  unfold x_new at hs
  (repeat' split at hs) <;> first
    | contradiction
    | (cases hs; exact ⟨Nat.le_refl _, Nat.le_refl _⟩)
    | (cases hs; exact ⟨Nat.le_succ _, Nat.le_add_right _ _⟩)
    | exact m_a_to hs
    | (obtain ⟨_, -, -, -, rfl, -⟩ := s_br hs; exact ⟨Nat.le_refl _, Nat.le_refl _⟩)
theorem n_x_new  {r : (Nat × List Value × Nat × List Value) ⊕ (Option Value)} (hs : x_new o idx pc' ls st h = some (.inr r)) : False := by
  unfold x_new at hs
  (repeat' split at hs) <;> first
    | contradiction
    | (cases hs; done)
    | exact n_a_to hs
    | exact n_br hs
theorem m_x_dup  (hs : x_dup pc' ls st h = some (.inl (pc2, ls2, st2, h2))) : a_nx h ≤ a_nx h2 ∧ a_tot h ≤ a_tot h2 := by
  unfold x_dup at hs
  (repeat' split at hs) <;> first
    | contradiction
    | (cases hs; exact ⟨Nat.le_refl _, Nat.le_refl _⟩)
    | (cases hs; exact ⟨Nat.le_succ _, Nat.le_add_right _ _⟩)
    | exact m_a_to hs
    | (obtain ⟨_, -, -, -, rfl, -⟩ := s_br hs; exact ⟨Nat.le_refl _, Nat.le_refl _⟩)
theorem n_x_dup  {r : (Nat × List Value × Nat × List Value) ⊕ (Option Value)} (hs : x_dup pc' ls st h = some (.inr r)) : False := by
  unfold x_dup at hs
  (repeat' split at hs) <;> first
    | contradiction
    | (cases hs; done)
    | exact n_a_to hs
    | exact n_br hs
theorem m_x_dup2  (hs : x_dup2 pc' ls st h = some (.inl (pc2, ls2, st2, h2))) : a_nx h ≤ a_nx h2 ∧ a_tot h ≤ a_tot h2 := by
  unfold x_dup2 at hs
  (repeat' split at hs) <;> first
    | contradiction
    | (cases hs; exact ⟨Nat.le_refl _, Nat.le_refl _⟩)
    | (cases hs; exact ⟨Nat.le_succ _, Nat.le_add_right _ _⟩)
    | exact m_a_to hs
    | (obtain ⟨_, -, -, -, rfl, -⟩ := s_br hs; exact ⟨Nat.le_refl _, Nat.le_refl _⟩)
theorem n_x_dup2  {r : (Nat × List Value × Nat × List Value) ⊕ (Option Value)} (hs : x_dup2 pc' ls st h = some (.inr r)) : False := by
  unfold x_dup2 at hs
  (repeat' split at hs) <;> first
    | contradiction
    | (cases hs; done)
    | exact n_a_to hs
    | exact n_br hs
theorem m_x_pop  (hs : x_pop pc' ls st h = some (.inl (pc2, ls2, st2, h2))) : a_nx h ≤ a_nx h2 ∧ a_tot h ≤ a_tot h2 := by
  unfold x_pop at hs
  (repeat' split at hs) <;> first
    | contradiction
    | (cases hs; exact ⟨Nat.le_refl _, Nat.le_refl _⟩)
    | (cases hs; exact ⟨Nat.le_succ _, Nat.le_add_right _ _⟩)
    | exact m_a_to hs
    | (obtain ⟨_, -, -, -, rfl, -⟩ := s_br hs; exact ⟨Nat.le_refl _, Nat.le_refl _⟩)
theorem n_x_pop  {r : (Nat × List Value × Nat × List Value) ⊕ (Option Value)} (hs : x_pop pc' ls st h = some (.inr r)) : False := by
  unfold x_pop at hs
  (repeat' split at hs) <;> first
    | contradiction
    | (cases hs; done)
    | exact n_a_to hs
    | exact n_br hs
theorem m_x_ldc  (hs : x_ldc o idx pc' ls st h = some (.inl (pc2, ls2, st2, h2))) : a_nx h ≤ a_nx h2 ∧ a_tot h ≤ a_tot h2 := by
  unfold x_ldc at hs
  (repeat' split at hs) <;> first
    | contradiction
    | (cases hs; exact ⟨Nat.le_refl _, Nat.le_refl _⟩)
    | (cases hs; exact ⟨Nat.le_succ _, Nat.le_add_right _ _⟩)
    | exact m_a_to hs
    | (obtain ⟨_, -, -, -, rfl, -⟩ := s_br hs; exact ⟨Nat.le_refl _, Nat.le_refl _⟩)
theorem n_x_ldc  {r : (Nat × List Value × Nat × List Value) ⊕ (Option Value)} (hs : x_ldc o idx pc' ls st h = some (.inr r)) : False := by
  unfold x_ldc at hs
  (repeat' split at hs) <;> first
    | contradiction
    | (cases hs; done)
    | exact n_a_to hs
    | exact n_br hs
theorem m_x_ldc2  (hs : x_ldc2 o idx pc' ls st h = some (.inl (pc2, ls2, st2, h2))) : a_nx h ≤ a_nx h2 ∧ a_tot h ≤ a_tot h2 := by
  unfold x_ldc2 at hs
  (repeat' split at hs) <;> first
    | contradiction
    | (cases hs; exact ⟨Nat.le_refl _, Nat.le_refl _⟩)
    | (cases hs; exact ⟨Nat.le_succ _, Nat.le_add_right _ _⟩)
    | exact m_a_to hs
    | (obtain ⟨_, -, -, -, rfl, -⟩ := s_br hs; exact ⟨Nat.le_refl _, Nat.le_refl _⟩)
theorem n_x_ldc2  {r : (Nat × List Value × Nat × List Value) ⊕ (Option Value)} (hs : x_ldc2 o idx pc' ls st h = some (.inr r)) : False := by
  unfold x_ldc2 at hs
  (repeat' split at hs) <;> first
    | contradiction
    | (cases hs; done)
    | exact n_a_to hs
    | exact n_br hs
theorem m_x_obj  (hs : x_obj o idx pc' ls st h = some (.inl (pc2, ls2, st2, h2))) : a_nx h ≤ a_nx h2 ∧ a_tot h ≤ a_tot h2 := by
  unfold x_obj at hs
  (repeat' split at hs) <;> first
    | contradiction
    | (cases hs; exact ⟨Nat.le_refl _, Nat.le_refl _⟩)
    | (cases hs; exact ⟨Nat.le_succ _, Nat.le_add_right _ _⟩)
    | exact m_a_to hs
    | (obtain ⟨_, -, -, -, rfl, -⟩ := s_br hs; exact ⟨Nat.le_refl _, Nat.le_refl _⟩)
theorem n_x_obj  {r : (Nat × List Value × Nat × List Value) ⊕ (Option Value)} (hs : x_obj o idx pc' ls st h = some (.inr r)) : False := by
  unfold x_obj at hs
  (repeat' split at hs) <;> first
    | contradiction
    | (cases hs; done)
    | exact n_a_to hs
    | exact n_br hs
theorem m_x_copy  (hs : x_copy o idx pc' ls st h = some (.inl (pc2, ls2, st2, h2))) : a_nx h ≤ a_nx h2 ∧ a_tot h ≤ a_tot h2 := by
  unfold x_copy at hs
  (repeat' split at hs) <;> first
    | contradiction
    | (cases hs; exact ⟨Nat.le_refl _, Nat.le_refl _⟩)
    | (cases hs; exact ⟨Nat.le_succ _, Nat.le_add_right _ _⟩)
    | exact m_a_to hs
    | (obtain ⟨_, -, -, -, rfl, -⟩ := s_br hs; exact ⟨Nat.le_refl _, Nat.le_refl _⟩)
theorem n_x_copy  {r : (Nat × List Value × Nat × List Value) ⊕ (Option Value)} (hs : x_copy o idx pc' ls st h = some (.inr r)) : False := by
  unfold x_copy at hs
  (repeat' split at hs) <;> first
    | contradiction
    | (cases hs; done)
    | exact n_a_to hs
    | exact n_br hs
theorem m_x_anew (hs : x_anew o idx pc' ls st h = some (.inl (pc2, ls2, st2, h2))) : a_nx h ≤ a_nx h2 ∧ a_tot h ≤ a_tot h2 := by
  unfold x_anew at hs
  split at hs <;> try contradiction
  exact m_x_newarr hs
theorem n_x_anew {r : (Nat × List Value × Nat × List Value) ⊕ (Option Value)} (hs : x_anew o idx pc' ls st h = some (.inr r)) : False := by
  unfold x_anew at hs
  split at hs <;> try contradiction
  exact n_x_newarr hs
theorem i_x_inv {t : Nat} {q : Nat × AL × List Value × AH} (hs : x_inv t o idx pc' ls st h = some (.inl q)) : False := by
  unfold x_inv at hs
  (repeat' split at hs) <;> first
    | contradiction
    | (cases hs; done)
theorem r_x_inv {t : Nat} {q : Option Value} (hs : x_inv t o idx pc' ls st h = some (.inr (.inr q))) : False := by
  unfold x_inv at hs
  (repeat' split at hs) <;> first
    | contradiction
    | (cases hs; done)
theorem i_x_spec {q : Nat × AL × List Value × AH} (hs : x_spec o idx pc' ls st h = some (.inl q)) : x_obj o idx pc' ls st h = some (.inl q) := by
  unfold x_spec at hs
  split at hs
  · rename_i r hr
    rw [hr, hs]
  · exact (i_x_inv hs).elim
theorem r_x_spec {q : Option Value} (hs : x_spec o idx pc' ls st h = some (.inr (.inr q))) : False := by
  unfold x_spec at hs
  split at hs
  · rename_i r hr
    rw [hs] at hr
    exact n_x_obj hr
  · exact r_x_inv hs
theorem i_x_stat {q : Nat × AL × List Value × AH} (hs : x_stat o idx pc' ls st h = some (.inl q)) : x_copy o idx pc' ls st h = some (.inl q) := by
  unfold x_stat at hs
  split at hs
  · rename_i r hr
    rw [hr, hs]
  · unfold x_nest at hs
    (repeat' split at hs) <;> first
      | contradiction
      | (cases hs; done)
theorem r_x_stat {q : Option Value} (hs : x_stat o idx pc' ls st h = some (.inr (.inr q))) : False := by
  unfold x_stat at hs
  split at hs
  · rename_i r hr
    rw [hs] at hr
    exact n_x_copy hr
  · unfold x_nest at hs
    (repeat' split at hs) <;> first
      | contradiction
      | (cases hs; done)
theorem i_x_iret {ret : Option FieldType} {q : (Nat × AL × List Value × AH)} (hs : x_iret ret st = some (.inl q)) : False := by
  unfold x_iret at hs
  (repeat' split at hs) <;> first
    | contradiction
    | (cases hs; done)
theorem c_x_iret {ret : Option FieldType} {q : (Nat × List Value × Nat × List Value)} (hs : x_iret ret st = some (.inr (.inl q))) : False := by
  unfold x_iret at hs
  (repeat' split at hs) <;> first
    | contradiction
    | (cases hs; done)
theorem i_x_aret {ret : Option FieldType} {q : (Nat × AL × List Value × AH)} (hs : x_aret ret st = some (.inl q)) : False := by
  unfold x_aret at hs
  (repeat' split at hs) <;> first
    | contradiction
    | (cases hs; done)
theorem c_x_aret {ret : Option FieldType} {q : (Nat × List Value × Nat × List Value)} (hs : x_aret ret st = some (.inr (.inl q))) : False := by
  unfold x_aret at hs
  (repeat' split at hs) <;> first
    | contradiction
    | (cases hs; done)
theorem i_x_vret {ret : Option FieldType} {q : (Nat × AL × List Value × AH)} (hs : x_vret ret st = some (.inl q)) : False := by
  unfold x_vret at hs
  (repeat' split at hs) <;> first
    | contradiction
    | (cases hs; done)
theorem c_x_vret {ret : Option FieldType} {q : (Nat × List Value × Nat × List Value)} (hs : x_vret ret st = some (.inr (.inl q))) : False := by
  unfold x_vret at hs
  (repeat' split at hs) <;> first
    | contradiction
    | (cases hs; done)
set_option maxHeartbeats 4000000 in
theorem a_step_mono {sc : Option (Nat × Nat × (Nat → Int32))} {ini : Bool} {ret : Option FieldType} {i : Instr} {len : Nat} (hs : a_step sc o ini ret pc i len ls st h = some (.inl (pc2, ls2, st2, h2))) : a_nx h ≤ a_nx h2 ∧ a_tot h ≤ a_tot h2 := by
  unfold a_step at hs
  split at hs
  · exact m_x_push hs
  · exact m_x_push hs
  · exact m_x_push hs
  · exact m_x_push hs
  · exact m_x_ldc hs
  · exact m_x_ldc hs
  · exact m_x_ldc2 hs
  · exact m_x_load hs
  · exact m_x_load hs
  · exact m_x_load hs
  · exact m_x_load hs
  · exact m_x_load hs
  · exact m_x_load hs
  · exact m_x_store hs
  · exact m_x_store hs
  · exact m_x_store hs
  · exact m_x_store hs
  · exact m_x_iinc hs
  · exact m_x_bin hs
  · exact m_x_bin hs
  · exact m_x_bin hs
  · exact m_x_bin hs
  · exact m_x_bin hs
  · exact m_x_bin hs
  · exact m_x_bin hs
  · exact m_x_bin hs
  · exact m_x_bin hs
  · exact m_x_div hs
  · exact m_x_div hs
  · exact m_x_neg hs
  · exact m_x_lbin hs
  · exact m_x_lbin hs
  · exact m_x_lsh hs
  · exact m_x_lsh hs
  · exact m_x_i2l hs
  · exact m_x_l2i hs
  · exact m_x_dup hs
  · exact m_x_dup2 hs
  · exact m_x_pop hs
  · exact m_x_if hs
  · exact m_x_icmp hs
  · exact m_x_null hs
  · exact m_x_null hs
  · exact m_x_acmp hs
  · exact m_x_acmp hs
  · exact m_a_to hs
  · exact m_x_table hs
  · exact m_x_look hs
  · exact m_x_getf hs
  · exact m_x_putf hs
  · exact m_x_iald hs
  · exact m_x_iald hs
  · exact m_x_aald hs
  · exact m_x_iast hs
  · exact m_x_zast hs
  · exact m_x_aast hs
  · exact m_x_alen hs
  · exact m_x_newarr hs
  · exact m_x_newarr hs
  · exact m_x_anew hs
  · exact m_x_new hs
  · exact (i_x_inv hs).elim
  · exact m_x_obj (i_x_spec hs)
  · exact m_x_copy (i_x_stat hs)
  · exact (i_x_iret hs).elim
  · exact (i_x_aret hs).elim
  · exact (i_x_vret hs).elim
  · contradiction
set_option maxHeartbeats 4000000 in
theorem a_step_ok {d : Nat} {sc : Option (Nat × Nat × (Nat → Int32))} {ini : Bool} {ret : Option FieldType} {i : Instr} {len : Nat} (hx : p.tables.exec = Jvm.exec) (hb : c.code = cc) (hml : c.maxLocals = nL) (hown : s.vm.findClass (a_own o) = some m.cls) (hts : ∀ w ∈ a_tb, w.before args s = true) (hK : a_K D cA s) (hsc : a_scOk sc B s) (hini : ini = true → meth.name = "<init>") (hR1 : d + 1 ≤ R.frames) (hR2 : 300 + 100 * d ≤ R.locals) (hroom : a_nx h2 - a_nx h0 ≤ R.cells ∧ a_tot h2 - a_tot h0 ≤ R.slots) (hdg : decode cc pc = .ok (i, len)) (hs : a_step sc o ini ret pc i len ls st h = some (.inl (pc2, ls2, st2, h2))) (K : a_Ok p l e R s m args below meth c Q B cA D h0 nL pc2 ls2 st2 h2) : a_Ok p l e R s m args below meth c Q B cA D h0 nL pc ls st h := by
  unfold a_step at hs
  split at hs
  · exact s_iconst hx hb hdg hs K
  · exact s_bipush hx hb hdg hs K
  · exact s_sipush hx hb hdg hs K
  · exact s_null hx hb hdg hs K
  · exact s_ldc hx hb hown hts hdg hs K
  · exact s_ldcw hx hb hown hts hdg hs K
  · exact s_ldc2 hx hb hown hts hdg hs K
  · exact s_iload_n hx hb hdg hs K
  · exact s_iload hx hb hdg hs K
  · exact s_lload_n hx hb hdg hs K
  · exact s_lload hx hb hdg hs K
  · exact s_aload_n hx hb hdg hs K
  · exact s_aload hx hb hdg hs K
  · exact s_istore_n hx hb hdg hs K
  · exact s_istore hx hb hdg hs K
  · exact s_astore_n hx hb hdg hs K
  · exact s_astore hx hb hdg hs K
  · exact s_iinc hx hb hdg hs K
  · exact s_iadd hx hb hdg hs K
  · exact s_isub hx hb hdg hs K
  · exact s_imul hx hb hdg hs K
  · exact s_iand hx hb hdg hs K
  · exact s_ior hx hb hdg hs K
  · exact s_ixor hx hb hdg hs K
  · exact s_ishl hx hb hdg hs K
  · exact s_ishr hx hb hdg hs K
  · exact s_iushr hx hb hdg hs K
  · exact s_idiv hx hb hdg hs K
  · exact s_irem hx hb hdg hs K
  · exact s_ineg hx hb hdg hs K
  · exact s_land hx hb hdg hs K
  · exact s_lor hx hb hdg hs K
  · exact s_lshl hx hb hdg hs K
  · exact s_lshr hx hb hdg hs K
  · exact s_i2l hx hb hdg hs K
  · exact s_l2i hx hb hdg hs K
  · exact s_dup hx hb hdg hs K
  · exact s_dup2 hx hb hdg hs K
  · exact s_pop hx hb hdg hs K
  · rename_i q off
    cases q
    · exact s_if_eq hx hb hdg hs K
    · exact s_if_ne hx hb hdg hs K
    · exact s_if_lt hx hb hdg hs K
    · exact s_if_ge hx hb hdg hs K
    · exact s_if_gt hx hb hdg hs K
    · exact s_if_le hx hb hdg hs K
  · rename_i q off
    cases q
    · exact s_icmp_eq hx hb hdg hs K
    · exact s_icmp_ne hx hb hdg hs K
    · exact s_icmp_lt hx hb hdg hs K
    · exact s_icmp_ge hx hb hdg hs K
    · exact s_icmp_gt hx hb hdg hs K
    · exact s_icmp_le hx hb hdg hs K
  · exact s_ifnull hx hb hdg hs K
  · exact s_ifnonnull hx hb hdg hs K
  · exact s_acmp_eq hx hb hdg hs K
  · exact s_acmp_ne hx hb hdg hs K
  · exact s_goto hx hb hdg hs K
  · exact s_table hx hb hdg hs K
  · exact s_look hx hb hdg hs K
  · exact s_getf hx hb hown hts hK hdg hs K
  · exact s_putf hx hb hini hown hts hK hdg hs K
  · exact s_iaload hsc hx hb hK hdg hs K
  · exact s_baload hx hb hK hdg hs K
  · exact s_aaload hx hb hK hdg hs K
  · exact s_iastore hx hb hK hdg hs K
  · exact s_bastore hx hb hK hdg hs K
  · exact s_aastore hx hb hK hdg hs K
  · exact s_alen hsc hx hb hK hdg hs K
  · exact s_newint hx hb hts hK hroom hdg hs K
  · exact s_newbool hx hb hts hK hroom hdg hs K
  · exact s_anew hx hb hown hts hK hroom hdg hs K
  · exact s_new hx hb hown hts hK hroom hdg hs K
  · exact (i_x_inv hs).elim
  · exact s_obj hx hb hml hown hts (by omega) (by omega) hdg (i_x_spec hs) K
  · exact s_copy hx hb hml hown hts hK (by omega) (by omega) hdg (i_x_stat hs) K
  · exact (i_x_iret hs).elim
  · exact (i_x_aret hs).elim
  · exact (i_x_vret hs).elim
  · contradiction
set_option maxHeartbeats 4000000 in
theorem a_call_ok {d : Nat} {sc : Option (Nat × Nat × (Nat → Int32))} {ini : Bool} {ret : Option FieldType} {i : Instr} {len : Nat} (hx : p.tables.exec = Jvm.exec) (hb : c.code = cc) (hml : c.maxLocals = nL) (hown : s.vm.findClass (a_own o) = some m.cls) (hts : ∀ w ∈ a_tb, w.before args s = true) (hK : a_K D cA s) {mid : Nat} {as : List Value} {r : Option Value} (hR1 : d + 1 ≤ R.frames) (hR2 : 300 + 100 * d ≤ R.locals) (hcall : ∀ M, a_ms[mid]? = some M → a_Met l B cA D d M as h h1 r) (hroom : a_nx h1 - a_nx h0 ≤ R.cells ∧ a_tot h1 - a_tot h0 ≤ R.slots) (hm1 : a_nx h ≤ a_nx h1) (hm2 : a_tot h ≤ a_tot h1) (hdg : decode cc pc = .ok (i, len)) (hs : a_step sc o ini ret pc i len ls st h = some (.inr (.inl (mid, as, pc2, st2)))) (K : a_Ok p l e R s m args below meth c Q B cA D h0 nL pc2 ls (r.toList ++ st2) h1) : a_Ok p l e R s m args below meth c Q B cA D h0 nL pc ls st h := by
  unfold a_step at hs
  split at hs
  · exact (n_x_push hs).elim
  · exact (n_x_push hs).elim
  · exact (n_x_push hs).elim
  · exact (n_x_push hs).elim
  · exact (n_x_ldc hs).elim
  · exact (n_x_ldc hs).elim
  · exact (n_x_ldc2 hs).elim
  · exact (n_x_load hs).elim
  · exact (n_x_load hs).elim
  · exact (n_x_load hs).elim
  · exact (n_x_load hs).elim
  · exact (n_x_load hs).elim
  · exact (n_x_load hs).elim
  · exact (n_x_store hs).elim
  · exact (n_x_store hs).elim
  · exact (n_x_store hs).elim
  · exact (n_x_store hs).elim
  · exact (n_x_iinc hs).elim
  · exact (n_x_bin hs).elim
  · exact (n_x_bin hs).elim
  · exact (n_x_bin hs).elim
  · exact (n_x_bin hs).elim
  · exact (n_x_bin hs).elim
  · exact (n_x_bin hs).elim
  · exact (n_x_bin hs).elim
  · exact (n_x_bin hs).elim
  · exact (n_x_bin hs).elim
  · exact (n_x_div hs).elim
  · exact (n_x_div hs).elim
  · exact (n_x_neg hs).elim
  · exact (n_x_lbin hs).elim
  · exact (n_x_lbin hs).elim
  · exact (n_x_lsh hs).elim
  · exact (n_x_lsh hs).elim
  · exact (n_x_i2l hs).elim
  · exact (n_x_l2i hs).elim
  · exact (n_x_dup hs).elim
  · exact (n_x_dup2 hs).elim
  · exact (n_x_pop hs).elim
  · exact (n_x_if hs).elim
  · exact (n_x_icmp hs).elim
  · exact (n_x_null hs).elim
  · exact (n_x_null hs).elim
  · exact (n_x_acmp hs).elim
  · exact (n_x_acmp hs).elim
  · exact (n_a_to hs).elim
  · exact (n_x_table hs).elim
  · exact (n_x_look hs).elim
  · exact (n_x_getf hs).elim
  · exact (n_x_putf hs).elim
  · exact (n_x_iald hs).elim
  · exact (n_x_iald hs).elim
  · exact (n_x_aald hs).elim
  · exact (n_x_iast hs).elim
  · exact (n_x_zast hs).elim
  · exact (n_x_aast hs).elim
  · exact (n_x_alen hs).elim
  · exact (n_x_newarr hs).elim
  · exact (n_x_newarr hs).elim
  · exact (n_x_anew hs).elim
  · exact (n_x_new hs).elim
  · exact s_inv hx hb hml hown hts hK hR1 hR2 hcall hroom hm1 hm2 hdg hs K
  · exact s_invI hx hb hml hown hts hK hR1 hR2 hcall hroom hm1 hm2 hdg hs K
  · exact s_invS hx hb hml hown hts hK hR1 hR2 hcall hroom hm1 hm2 hdg hs K
  · exact (c_x_iret hs).elim
  · exact (c_x_aret hs).elim
  · exact (c_x_vret hs).elim
  · contradiction
theorem a_post_of (I : a_I B cA D h0 h s H locs) {r : Option Value} {as : Array Value} {t : State} (ht : t.heap = H) : a_Post B cA D h0 h r as s (.returned r) t := by
  obtain ⟨i1, i2, i3, i4, i5, i6, i7, i8, i9⟩ := I
  exact ⟨rfl, i3, i4, by rw [ht]; exact i6, i7, by rw [ht]; exact i8, by rw [ht]; exact i9.1, fun q q1 q2 => by rw [ht]; exact i9.2.1 q q1 q2⟩
theorem v_x_iret {ret : Option FieldType} {r : Option Value} {lsA : Array Slot} (hx : p.tables.exec = Jvm.exec) (hb : c.code = cc) (hr : meth.sig.returnType = ret) (hlocks : meth.locks = false) (hdg : decode cc pc = .ok (.ireturn, 1)) (hs : x_iret ret st = some (.inr (.inr r))) (I : a_I B cA D h0 h s H locs) : W p l e R s m args below meth c H locs (a_nx h - a_nx h0) (a_tot h - a_tot h0) (MQ below (a_Post B cA D h0 h r) args s (a_nx h - a_nx h0) (a_tot h - a_tot h0) (fun q => B ≤ q)) (F0 m pc lsA st) := by
  unfold x_iret at hs
  split at hs
  · cases hs
    exact W.iret hx hb hr (fun t ht _ => a_post_of I ht) (fun q hq => (a_S I).2.2 q hq) hdg
  · split at hs <;> try contradiction
    rename_i hv
    cases hs
    refine W.zret (ty := .boolean) hx hb hr ?_ (fun t ht _ => a_post_of I ht) (fun q hq => (a_S I).2.2 q hq) hdg
    rcases hv with rfl | rfl <;> rfl
  · contradiction
theorem v_x_aret {ret : Option FieldType} {r : Option Value} {lsA : Array Slot} (hx : p.tables.exec = Jvm.exec) (hb : c.code = cc) (hr : meth.sig.returnType = ret) (hlocks : meth.locks = false) (hdg : decode cc pc = .ok (.areturn, 1)) (hs : x_aret ret st = some (.inr (.inr r))) (I : a_I B cA D h0 h s H locs) : W p l e R s m args below meth c H locs (a_nx h - a_nx h0) (a_tot h - a_tot h0) (MQ below (a_Post B cA D h0 h r) args s (a_nx h - a_nx h0) (a_tot h - a_tot h0) (fun q => B ≤ q)) (F0 m pc lsA st) := by
  unfold x_aret at hs
  have hv : ∀ v : Value, a_isR v = true → v = .null ∨ ∃ a, v = .ref a := by
    intro v h
    cases v <;> simp [a_isR] at h
    · exact Or.inl rfl
    · exact Or.inr ⟨_, rfl⟩
  split at hs
  · split at hs <;> try contradiction
    rename_i h9
    cases hs
    exact W.aret hx hb hr (Or.inl ⟨_, rfl⟩) (hv _ h9) (fun t ht _ => a_post_of I ht) (fun q hq => (a_S I).2.2 q hq) hdg
  · split at hs <;> try contradiction
    rename_i h9
    cases hs
    exact W.aret hx hb hr (Or.inr ⟨_, rfl⟩) (hv _ h9) (fun t ht _ => a_post_of I ht) (fun q hq => (a_S I).2.2 q hq) hdg
  · contradiction
theorem v_x_vret {ret : Option FieldType} {r : Option Value} {lsA : Array Slot} (hx : p.tables.exec = Jvm.exec) (hb : c.code = cc) (hr : meth.sig.returnType = ret) (hlocks : meth.locks = false) (hdg : decode cc pc = .ok (.return_, 1)) (hs : x_vret ret st = some (.inr (.inr r))) (I : a_I B cA D h0 h s H locs) : W p l e R s m args below meth c H locs (a_nx h - a_nx h0) (a_tot h - a_tot h0) (MQ below (a_Post B cA D h0 h r) args s (a_nx h - a_nx h0) (a_tot h - a_tot h0) (fun q => B ≤ q)) (F0 m pc lsA st) := by
  unfold x_vret at hs
  split at hs <;> try contradiction
  cases hs
  exact W.vret hx hb hr (fun t ht _ => a_post_of I ht) (fun q hq => (a_S I).2.2 q hq) hdg
set_option maxHeartbeats 4000000 in
theorem a_ret_ok {sc : Option (Nat × Nat × (Nat → Int32))} {ini : Bool} {i : Instr} {len : Nat} {ret : Option FieldType} {r : Option Value} {lsA : Array Slot} (hx : p.tables.exec = Jvm.exec) (hb : c.code = cc) (hr : meth.sig.returnType = ret) (hlocks : meth.locks = false) (hdg : decode cc pc = .ok (i, len)) (hs : a_step sc o ini ret pc i len ls st h = some (.inr (.inr r))) (I : a_I B cA D h0 h s H locs) : W p l e R s m args below meth c H locs (a_nx h - a_nx h0) (a_tot h - a_tot h0) (MQ below (a_Post B cA D h0 h r) args s (a_nx h - a_nx h0) (a_tot h - a_tot h0) (fun q => B ≤ q)) (F0 m pc lsA st) := by
  unfold a_step at hs
  split at hs
  · exact (n_x_push hs).elim
  · exact (n_x_push hs).elim
  · exact (n_x_push hs).elim
  · exact (n_x_push hs).elim
  · exact (n_x_ldc hs).elim
  · exact (n_x_ldc hs).elim
  · exact (n_x_ldc2 hs).elim
  · exact (n_x_load hs).elim
  · exact (n_x_load hs).elim
  · exact (n_x_load hs).elim
  · exact (n_x_load hs).elim
  · exact (n_x_load hs).elim
  · exact (n_x_load hs).elim
  · exact (n_x_store hs).elim
  · exact (n_x_store hs).elim
  · exact (n_x_store hs).elim
  · exact (n_x_store hs).elim
  · exact (n_x_iinc hs).elim
  · exact (n_x_bin hs).elim
  · exact (n_x_bin hs).elim
  · exact (n_x_bin hs).elim
  · exact (n_x_bin hs).elim
  · exact (n_x_bin hs).elim
  · exact (n_x_bin hs).elim
  · exact (n_x_bin hs).elim
  · exact (n_x_bin hs).elim
  · exact (n_x_bin hs).elim
  · exact (n_x_div hs).elim
  · exact (n_x_div hs).elim
  · exact (n_x_neg hs).elim
  · exact (n_x_lbin hs).elim
  · exact (n_x_lbin hs).elim
  · exact (n_x_lsh hs).elim
  · exact (n_x_lsh hs).elim
  · exact (n_x_i2l hs).elim
  · exact (n_x_l2i hs).elim
  · exact (n_x_dup hs).elim
  · exact (n_x_dup2 hs).elim
  · exact (n_x_pop hs).elim
  · exact (n_x_if hs).elim
  · exact (n_x_icmp hs).elim
  · exact (n_x_null hs).elim
  · exact (n_x_null hs).elim
  · exact (n_x_acmp hs).elim
  · exact (n_x_acmp hs).elim
  · exact (n_a_to hs).elim
  · exact (n_x_table hs).elim
  · exact (n_x_look hs).elim
  · exact (n_x_getf hs).elim
  · exact (n_x_putf hs).elim
  · exact (n_x_iald hs).elim
  · exact (n_x_iald hs).elim
  · exact (n_x_aald hs).elim
  · exact (n_x_iast hs).elim
  · exact (n_x_zast hs).elim
  · exact (n_x_aast hs).elim
  · exact (n_x_alen hs).elim
  · exact (n_x_newarr hs).elim
  · exact (n_x_newarr hs).elim
  · exact (n_x_anew hs).elim
  · exact (n_x_new hs).elim
  · exact (r_x_inv hs).elim
  · exact (r_x_spec hs).elim
  · exact (r_x_stat hs).elim
  · exact v_x_iret hx hb hr hlocks hdg hs I
  · exact v_x_aret hx hb hr hlocks hdg hs I
  · exact v_x_vret hx hb hr hlocks hdg hs I
  · contradiction
theorem a_run_mono {call : Nat → List Value → AH → Option (Option Value × AH)} {sc : Option (Nat × Nat × (Nat → Int32))} {ini : Bool} {ret : Option FieldType} {r : Option Value} (hcall : ∀ mid as h r h', call mid as h = some (r, h') → a_nx h ≤ a_nx h' ∧ a_tot h ≤ a_tot h') :
    ∀ (n pc : Nat) (ls : AL) (st : List Value) (h : AH), a_run call sc o ini ret cc n pc ls st h = some (r, h1) → a_nx h ≤ a_nx h1 ∧ a_tot h ≤ a_tot h1 := by
  intro n
  induction n with
  | zero => intro pc ls st h hr; cases hr
  | succ n ih =>
    intro pc ls st h hr
    unfold a_run at hr
    split at hr <;> try contradiction
    split at hr <;> try contradiction
    · rename_i hs
      have g1 := a_step_mono hs
      have g2 := ih _ _ _ _ hr
      exact ⟨Nat.le_trans g1.1 g2.1, Nat.le_trans g1.2 g2.2⟩
    · split at hr <;> try contradiction
      rename_i hc
      have g1 := hcall _ _ _ _ _ hc
      have g2 := ih _ _ _ _ hr
      exact ⟨Nat.le_trans g1.1 g2.1, Nat.le_trans g1.2 g2.2⟩
    · cases hr
      exact ⟨Nat.le_refl _, Nat.le_refl _⟩
theorem a_run_ok {d : Nat} {call : Nat → List Value → AH → Option (Option Value × AH)} {sc : Option (Nat × Nat × (Nat → Int32))} {ini : Bool} {ret : Option FieldType} {r : Option Value} (hx : p.tables.exec = Jvm.exec) (hb : c.code = cc) (hml : c.maxLocals = nL) (hown : s.vm.findClass (a_own o) = some m.cls) (hts : ∀ w ∈ a_tb, w.before args s = true) (hK : a_K D cA s) (hsc : a_scOk sc B s) (hini : ini = true → meth.name = "<init>") (hR1 : d + 1 ≤ R.frames) (hR2 : 300 + 100 * d ≤ R.locals)
    (hcall : ∀ mid as h r h', call mid as h = some (r, h') → (a_nx h ≤ a_nx h' ∧ a_tot h ≤ a_tot h') ∧ ∀ M, a_ms[mid]? = some M → a_Met l B cA D d M as h h' r)
    (hroom : a_nx h1 - a_nx h0 ≤ R.cells ∧ a_tot h1 - a_tot h0 ≤ R.slots)
    (hfin : ∀ (pc : Nat) (i : Instr) (len : Nat) (ls : AL) (st : List Value), decode cc pc = .ok (i, len) → a_step sc o ini ret pc i len ls st h1 = some (.inr (.inr r)) → a_Ok p l e R s m args below meth c Q B cA D h0 nL pc ls st h1) :
    ∀ (n pc : Nat) (ls : AL) (st : List Value) (h : AH), a_run call sc o ini ret cc n pc ls st h = some (r, h1) → a_Ok p l e R s m args below meth c Q B cA D h0 nL pc ls st h := by
  intro n
  induction n with
  | zero => intro pc ls st h hr; cases hr
  | succ n ih =>
    intro pc ls st h hr
    unfold a_run at hr
    split at hr <;> try contradiction
    rename_i i len hdg
    split at hr <;> try contradiction
    · rename_i pc' ls' st' h' hs
      have g2 := a_run_mono (fun mid as h r h' q => (hcall mid as h r h' q).1) _ _ _ _ _ hr
      exact a_step_ok hx hb hml hown hts hK hsc hini hR1 hR2 ⟨by omega, by omega⟩ hdg hs (ih _ _ _ _ hr)
    · rename_i mid as pc' st' hs
      split at hr <;> try contradiction
      rename_i r' h' hc
      have g2 := a_run_mono (fun mid as h r h' q => (hcall mid as h r h' q).1) _ _ _ _ _ hr
      obtain ⟨g1, hM⟩ := hcall _ _ _ _ _ hc
      exact a_call_ok (d := d) hx hb hml hown hts hK hR1 hR2 hM ⟨by omega, by omega⟩ g1.1 g1.2 hdg hs (ih _ _ _ _ hr)
    · rename_i r' hs
      cases hr
      exact hfin _ _ _ _ _ hdg hs
theorem a_lookup_mem {l : List (Nat × Value)} {i : Nat} {v : Value} (h : l.lookup i = some v) : (i, v) ∈ l := by
  induction l with
  | nil => cases h
  | cons q t ih =>
    obtain ⟨j, w⟩ := q
    by_cases hj : i = j
    · subst hj
      simp at h
      subst h
      exact List.mem_cons_self
    · have : (i == j) = false := by simpa using hj
      simp [List.lookup, this] at h
      exact List.mem_cons_of_mem _ (ih h)
theorem a_init_has {lsA : Array Slot} {as : List Value} (hl : lv_has lsA nL (lv_args 0 as)) : lv_has lsA nL (a_as (a_init as nL)) := by
  refine ⟨hl.1, hl.2.1, fun q hq => hl.2.2 q ?_⟩
  obtain ⟨i, v⟩ := q
  have h1 := a_as_mem.mp hq
  unfold a_init at h1
  rw [List.getElem?_map] at h1
  by_cases hi : i < nL
  · rw [List.getElem?_range hi] at h1
    simp at h1
    exact a_lookup_mem h1
  · rw [List.getElem?_eq_none (by simp; omega)] at h1
    cases h1
/-- THE METHODS: what the machine in plain words does, the machine does -/
theorem a_meth_ok (l : Launch) (B : Nat) (cA : Nat → ClassId) (D : va_G) (fuel : Nat) : ∀ (d mid : Nat) (as : List Value) (h0 : AH) (r : Option Value) (h1 : AH), a_meth fuel d mid as h0 = some (r, h1) → (a_nx h0 ≤ a_nx h1 ∧ a_tot h0 ≤ a_tot h1) ∧ ∀ M, a_ms[mid]? = some M → a_Met l B cA D d M as h0 h1 r := by
  intro d
  induction d with
  | zero => intro mid as h0 r h1 hr; cases hr
  | succ d ih =>
    intro mid as h0 r h1 hr
    unfold a_meth at hr
    split at hr <;> try contradiction
    rename_i M hM
    split at hr <;> try contradiction
    rename_i hlen
    have hmono := a_run_mono (fun mid as h r h' q => (ih mid as h r h' q).1) _ _ _ _ _ hr
    refine ⟨hmono, fun M' hM' => ?_⟩
    cases hM.symm.trans hM'
    have hok := a_ms_ok _ (List.mem_of_getElem? hM)
    obtain ⟨m1, m2, m3, m4, m5, m6, m7⟩ := id hok
    unfold a_Met
    refine a_ofW (cc := M.2.2.1) (maxL := M.2.2.2.1) (ret := M.2.2.2.2.1) m3 rfl ?_
    intro p e s m args below meth c s₁ Bd hml hv
    obtain ⟨rfl, p1, p2, p3, p4, p5, p6⟩ := hv
    have hx := Bd.exec
    have hb := Bd.bytes
    have hr2 := Bd.returns
    have hts := atoms_spec (ws := Jvm.Cond.code M.2.1 M.2.2.1 M.2.2.2.1 M.2.2.2.2.1 :: a_tb) Bd.pre
    have hown : s.vm.findClass M.2.1.cls = some m.cls := findClass_of_methodNamed Bd.named
    have hin : meth.name = M.2.1.name := (name_of_methodNamed Bd.named Bd.method).1
    have hl := lv_entry as (n := M.2.2.2.1) hlen
    rw [lg_entry_eq]
    generalize ((lg_sl as ++ List.replicate (M.2.2.2.1 - (lg_sl as).length) Slot.unset).toArray) = lsA at hl ⊢
    have I : a_I B cA D h0 h0 s s.heap [] := ⟨p1, p2, Nat.le_refl _, Nat.le_refl _, p3, p3, p4, p5, va_S.rf⟩
    have hrun := a_run_ok (p := p) (l := l) (e := e) (R := a_rm (d + 1) (a_nx h1 - a_nx h0) (a_tot h1 - a_tot h0)) (s := s) (m := m) (args := as.toArray) (below := below) (meth := meth) (c := c) (Q := MQ below (a_Post B cA D h0 h1 r) as.toArray s (a_nx h1 - a_nx h0) (a_tot h1 - a_tot h0) (fun q => B ≤ q)) (B := B) (cA := cA) (D := D) (h0 := h0) (nL := M.2.2.2.1) (d := d)
      hx hb hml (by rw [m2]; exact hown) (fun w hw => hts w (List.mem_cons_of_mem _ hw)) p6 (fun b L xs q => by cases q) (fun q => by rw [hin]; exact (m6 q).1) (Nat.le_refl _) (by show 300 + 100 * d ≤ 200 + 100 * (d + 1); omega) (fun mid as h r h' q => ih mid as h r h' q) ⟨Nat.le_refl _, Nat.le_refl _⟩
      (fun pc i len ls st hdg hs H locs lsA I _ _ => a_ret_ok hx hb hr2 Bd.notSynchronized hdg hs I) fuel 0 (a_init as M.2.2.2.1) [] h0 hr
    have hw := hrun s.heap [] lsA I (by unfold a_init; simp) (a_init_has hl)
    rw [Nat.sub_self, Nat.sub_self] at hw
    exact hw
end AS6

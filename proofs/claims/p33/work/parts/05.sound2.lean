section AS2
variable {p : Program} {l : Launch} {e : Env} {R : Room} {s : State} {m : MethodId} {args : Array Value} {below : List Frame} {meth : Method} {c : Code} {Q : State → Prop}
variable {B : Nat} {cA : Nat → ClassId} {D : va_G} {h0 h h2 : AH} {nL pc pc2 pc' k : Nat} {ls ls2 : AL} {st st2 : List Value} {cc : ByteArray}
theorem s_iconst (hx : p.tables.exec = Jvm.exec) (hb : c.code = cc) {n : Int} (hdg : decode cc pc = .ok (.iconst n, 1)) (hs : x_push (.int (Int32.ofInt n)) (pc + 1) ls st h = some (.inl (pc2, ls2, st2, h2))) (K : a_Ok p l e R s m args below meth c Q B cA D h0 nL pc2 ls2 st2 h2) : a_Ok p l e R s m args below meth c Q B cA D h0 nL pc ls st h := by
  intro H locs lsA I hL hl
  cases hs
  exact lv_iconst hx hb hdg rfl (K H locs lsA I hL hl)
theorem s_bipush (hx : p.tables.exec = Jvm.exec) (hb : c.code = cc) {n : Int} (hdg : decode cc pc = .ok (.bipush n, 2)) (hs : x_push (.int (Int8.ofInt n).toInt32) (pc + 2) ls st h = some (.inl (pc2, ls2, st2, h2))) (K : a_Ok p l e R s m args below meth c Q B cA D h0 nL pc2 ls2 st2 h2) : a_Ok p l e R s m args below meth c Q B cA D h0 nL pc ls st h := by
  intro H locs lsA I hL hl
  cases hs
  exact lv_bipush hx hb hdg rfl (K H locs lsA I hL hl)
theorem s_sipush (hx : p.tables.exec = Jvm.exec) (hb : c.code = cc) {n : Int} (hdg : decode cc pc = .ok (.sipush n, 3)) (hs : x_push (.int (Int16.ofInt n).toInt32) (pc + 3) ls st h = some (.inl (pc2, ls2, st2, h2))) (K : a_Ok p l e R s m args below meth c Q B cA D h0 nL pc2 ls2 st2 h2) : a_Ok p l e R s m args below meth c Q B cA D h0 nL pc ls st h := by
  intro H locs lsA I hL hl
  cases hs
  exact lv_sipush hx hb hdg rfl (K H locs lsA I hL hl)
theorem s_null (hx : p.tables.exec = Jvm.exec) (hb : c.code = cc) (hdg : decode cc pc = .ok (.aconst_null, 1)) (hs : x_push .null (pc + 1) ls st h = some (.inl (pc2, ls2, st2, h2))) (K : a_Ok p l e R s m args below meth c Q B cA D h0 nL pc2 ls2 st2 h2) : a_Ok p l e R s m args below meth c Q B cA D h0 nL pc ls st h := by
  intro H locs lsA I hL hl
  cases hs
  exact lv_null hx hb hdg (K H locs lsA I hL hl)
theorem s_iadd (hx : p.tables.exec = Jvm.exec) (hb : c.code = cc) (hdg : decode cc pc = .ok (.iadd, 1)) (hs : x_bin (· + ·) (pc + 1) ls st h = some (.inl (pc2, ls2, st2, h2))) (K : a_Ok p l e R s m args below meth c Q B cA D h0 nL pc2 ls2 st2 h2) : a_Ok p l e R s m args below meth c Q B cA D h0 nL pc ls st h := by
  intro H locs lsA I hL hl
  unfold x_bin at hs
  split at hs <;> try contradiction
  cases hs
  exact lv_iadd hx hb hdg (K H locs lsA I hL hl)
theorem s_isub (hx : p.tables.exec = Jvm.exec) (hb : c.code = cc) (hdg : decode cc pc = .ok (.isub, 1)) (hs : x_bin (· - ·) (pc + 1) ls st h = some (.inl (pc2, ls2, st2, h2))) (K : a_Ok p l e R s m args below meth c Q B cA D h0 nL pc2 ls2 st2 h2) : a_Ok p l e R s m args below meth c Q B cA D h0 nL pc ls st h := by
  intro H locs lsA I hL hl
  unfold x_bin at hs
  split at hs <;> try contradiction
  cases hs
  exact lv_isub hx hb hdg (K H locs lsA I hL hl)
theorem s_imul (hx : p.tables.exec = Jvm.exec) (hb : c.code = cc) (hdg : decode cc pc = .ok (.imul, 1)) (hs : x_bin (· * ·) (pc + 1) ls st h = some (.inl (pc2, ls2, st2, h2))) (K : a_Ok p l e R s m args below meth c Q B cA D h0 nL pc2 ls2 st2 h2) : a_Ok p l e R s m args below meth c Q B cA D h0 nL pc ls st h := by
  intro H locs lsA I hL hl
  unfold x_bin at hs
  split at hs <;> try contradiction
  cases hs
  exact lv_imul hx hb hdg (K H locs lsA I hL hl)
theorem s_iand (hx : p.tables.exec = Jvm.exec) (hb : c.code = cc) (hdg : decode cc pc = .ok (.iand, 1)) (hs : x_bin (· &&& ·) (pc + 1) ls st h = some (.inl (pc2, ls2, st2, h2))) (K : a_Ok p l e R s m args below meth c Q B cA D h0 nL pc2 ls2 st2 h2) : a_Ok p l e R s m args below meth c Q B cA D h0 nL pc ls st h := by
  intro H locs lsA I hL hl
  unfold x_bin at hs
  split at hs <;> try contradiction
  cases hs
  exact lv_iand hx hb hdg (K H locs lsA I hL hl)
theorem s_ior (hx : p.tables.exec = Jvm.exec) (hb : c.code = cc) (hdg : decode cc pc = .ok (.ior, 1)) (hs : x_bin (· ||| ·) (pc + 1) ls st h = some (.inl (pc2, ls2, st2, h2))) (K : a_Ok p l e R s m args below meth c Q B cA D h0 nL pc2 ls2 st2 h2) : a_Ok p l e R s m args below meth c Q B cA D h0 nL pc ls st h := by
  intro H locs lsA I hL hl
  unfold x_bin at hs
  split at hs <;> try contradiction
  cases hs
  exact lv_ior hx hb hdg (K H locs lsA I hL hl)
theorem s_ixor (hx : p.tables.exec = Jvm.exec) (hb : c.code = cc) (hdg : decode cc pc = .ok (.ixor, 1)) (hs : x_bin (· ^^^ ·) (pc + 1) ls st h = some (.inl (pc2, ls2, st2, h2))) (K : a_Ok p l e R s m args below meth c Q B cA D h0 nL pc2 ls2 st2 h2) : a_Ok p l e R s m args below meth c Q B cA D h0 nL pc ls st h := by
  intro H locs lsA I hL hl
  unfold x_bin at hs
  split at hs <;> try contradiction
  cases hs
  exact lv_ixor hx hb hdg (K H locs lsA I hL hl)
theorem s_ishl (hx : p.tables.exec = Jvm.exec) (hb : c.code = cc) (hdg : decode cc pc = .ok (.ishl, 1)) (hs : x_bin (fun x y => x <<< (y &&& 31)) (pc + 1) ls st h = some (.inl (pc2, ls2, st2, h2))) (K : a_Ok p l e R s m args below meth c Q B cA D h0 nL pc2 ls2 st2 h2) : a_Ok p l e R s m args below meth c Q B cA D h0 nL pc ls st h := by
  intro H locs lsA I hL hl
  unfold x_bin at hs
  split at hs <;> try contradiction
  cases hs
  exact lv_ishl hx hb hdg (K H locs lsA I hL hl)
theorem s_ishr (hx : p.tables.exec = Jvm.exec) (hb : c.code = cc) (hdg : decode cc pc = .ok (.ishr, 1)) (hs : x_bin (fun x y => x >>> (y &&& 31)) (pc + 1) ls st h = some (.inl (pc2, ls2, st2, h2))) (K : a_Ok p l e R s m args below meth c Q B cA D h0 nL pc2 ls2 st2 h2) : a_Ok p l e R s m args below meth c Q B cA D h0 nL pc ls st h := by
  intro H locs lsA I hL hl
  unfold x_bin at hs
  split at hs <;> try contradiction
  cases hs
  exact lv_ishr hx hb hdg (K H locs lsA I hL hl)
theorem s_iushr (hx : p.tables.exec = Jvm.exec) (hb : c.code = cc) (hdg : decode cc pc = .ok (.iushr, 1)) (hs : x_bin (fun x y => (x.toUInt32 >>> (y.toUInt32 &&& Int32.toUInt32 31)).toInt32) (pc + 1) ls st h = some (.inl (pc2, ls2, st2, h2))) (K : a_Ok p l e R s m args below meth c Q B cA D h0 nL pc2 ls2 st2 h2) : a_Ok p l e R s m args below meth c Q B cA D h0 nL pc ls st h := by
  intro H locs lsA I hL hl
  unfold x_bin at hs
  split at hs <;> try contradiction
  cases hs
  exact lv_iushr hx hb hdg rfl (K H locs lsA I hL hl)
theorem s_idiv (hx : p.tables.exec = Jvm.exec) (hb : c.code = cc) (hdg : decode cc pc = .ok (.idiv, 1)) (hs : x_div (· / ·) (pc + 1) ls st h = some (.inl (pc2, ls2, st2, h2))) (K : a_Ok p l e R s m args below meth c Q B cA D h0 nL pc2 ls2 st2 h2) : a_Ok p l e R s m args below meth c Q B cA D h0 nL pc ls st h := by
  intro H locs lsA I hL hl
  unfold x_div at hs
  split at hs <;> try contradiction
  split at hs <;> try contradiction
  rename_i hne
  cases hs
  exact lv_idiv hx hb hdg hne (K H locs lsA I hL hl)
theorem s_irem (hx : p.tables.exec = Jvm.exec) (hb : c.code = cc) (hdg : decode cc pc = .ok (.irem, 1)) (hs : x_div (fun x y => x - x / y * y) (pc + 1) ls st h = some (.inl (pc2, ls2, st2, h2))) (K : a_Ok p l e R s m args below meth c Q B cA D h0 nL pc2 ls2 st2 h2) : a_Ok p l e R s m args below meth c Q B cA D h0 nL pc ls st h := by
  intro H locs lsA I hL hl
  unfold x_div at hs
  split at hs <;> try contradiction
  split at hs <;> try contradiction
  rename_i hne
  cases hs
  exact lv_irem hx hb hdg hne (K H locs lsA I hL hl)
theorem s_ineg (hx : p.tables.exec = Jvm.exec) (hb : c.code = cc) (hdg : decode cc pc = .ok (.ineg, 1)) (hs : x_neg (pc + 1) ls st h = some (.inl (pc2, ls2, st2, h2))) (K : a_Ok p l e R s m args below meth c Q B cA D h0 nL pc2 ls2 st2 h2) : a_Ok p l e R s m args below meth c Q B cA D h0 nL pc ls st h := by
  intro H locs lsA I hL hl
  unfold x_neg at hs
  split at hs <;> try contradiction
  cases hs
  exact lv_ineg hx hb hdg (K H locs lsA I hL hl)
theorem s_land (hx : p.tables.exec = Jvm.exec) (hb : c.code = cc) (hdg : decode cc pc = .ok (.land, 1)) (hs : x_lbin (· &&& ·) (pc + 1) ls st h = some (.inl (pc2, ls2, st2, h2))) (K : a_Ok p l e R s m args below meth c Q B cA D h0 nL pc2 ls2 st2 h2) : a_Ok p l e R s m args below meth c Q B cA D h0 nL pc ls st h := by
  intro H locs lsA I hL hl
  unfold x_lbin at hs
  split at hs <;> try contradiction
  cases hs
  exact lv_land hx hb hdg (K H locs lsA I hL hl)
theorem s_lor (hx : p.tables.exec = Jvm.exec) (hb : c.code = cc) (hdg : decode cc pc = .ok (.lor, 1)) (hs : x_lbin (· ||| ·) (pc + 1) ls st h = some (.inl (pc2, ls2, st2, h2))) (K : a_Ok p l e R s m args below meth c Q B cA D h0 nL pc2 ls2 st2 h2) : a_Ok p l e R s m args below meth c Q B cA D h0 nL pc ls st h := by
  intro H locs lsA I hL hl
  unfold x_lbin at hs
  split at hs <;> try contradiction
  cases hs
  exact lv_lor hx hb hdg (K H locs lsA I hL hl)
theorem s_lshl (hx : p.tables.exec = Jvm.exec) (hb : c.code = cc) (hdg : decode cc pc = .ok (.lshl, 1)) (hs : x_lsh (fun x y => x <<< (y.toInt64 &&& 63)) (pc + 1) ls st h = some (.inl (pc2, ls2, st2, h2))) (K : a_Ok p l e R s m args below meth c Q B cA D h0 nL pc2 ls2 st2 h2) : a_Ok p l e R s m args below meth c Q B cA D h0 nL pc ls st h := by
  intro H locs lsA I hL hl
  unfold x_lsh at hs
  split at hs <;> try contradiction
  cases hs
  exact lv_lshl hx hb hdg rfl (K H locs lsA I hL hl)
theorem s_lshr (hx : p.tables.exec = Jvm.exec) (hb : c.code = cc) (hdg : decode cc pc = .ok (.lshr, 1)) (hs : x_lsh (fun x y => x >>> (y.toInt64 &&& 63)) (pc + 1) ls st h = some (.inl (pc2, ls2, st2, h2))) (K : a_Ok p l e R s m args below meth c Q B cA D h0 nL pc2 ls2 st2 h2) : a_Ok p l e R s m args below meth c Q B cA D h0 nL pc ls st h := by
  intro H locs lsA I hL hl
  unfold x_lsh at hs
  split at hs <;> try contradiction
  cases hs
  exact lv_lshr hx hb hdg rfl (K H locs lsA I hL hl)
theorem s_i2l (hx : p.tables.exec = Jvm.exec) (hb : c.code = cc) (hdg : decode cc pc = .ok (.i2l, 1)) (hs : x_i2l (pc + 1) ls st h = some (.inl (pc2, ls2, st2, h2))) (K : a_Ok p l e R s m args below meth c Q B cA D h0 nL pc2 ls2 st2 h2) : a_Ok p l e R s m args below meth c Q B cA D h0 nL pc ls st h := by
  intro H locs lsA I hL hl
  unfold x_i2l at hs
  split at hs <;> try contradiction
  cases hs
  exact lv_i2l hx hb hdg rfl (K H locs lsA I hL hl)
theorem s_l2i (hx : p.tables.exec = Jvm.exec) (hb : c.code = cc) (hdg : decode cc pc = .ok (.l2i, 1)) (hs : x_l2i (pc + 1) ls st h = some (.inl (pc2, ls2, st2, h2))) (K : a_Ok p l e R s m args below meth c Q B cA D h0 nL pc2 ls2 st2 h2) : a_Ok p l e R s m args below meth c Q B cA D h0 nL pc ls st h := by
  intro H locs lsA I hL hl
  unfold x_l2i at hs
  split at hs <;> try contradiction
  cases hs
  exact lv_l2i hx hb hdg rfl (K H locs lsA I hL hl)
theorem s_dup (hx : p.tables.exec = Jvm.exec) (hb : c.code = cc) (hdg : decode cc pc = .ok (.dup, 1)) (hs : x_dup (pc + 1) ls st h = some (.inl (pc2, ls2, st2, h2))) (K : a_Ok p l e R s m args below meth c Q B cA D h0 nL pc2 ls2 st2 h2) : a_Ok p l e R s m args below meth c Q B cA D h0 nL pc ls st h := by
  intro H locs lsA I hL hl
  unfold x_dup at hs
  split at hs <;> try contradiction
  split at hs <;> try contradiction
  rename_i hc
  cases hs
  exact lv_dup hx hb hdg hc (K H locs lsA I hL hl)
theorem s_dup2 (hx : p.tables.exec = Jvm.exec) (hb : c.code = cc) (hdg : decode cc pc = .ok (.dup2, 1)) (hs : x_dup2 (pc + 1) ls st h = some (.inl (pc2, ls2, st2, h2))) (K : a_Ok p l e R s m args below meth c Q B cA D h0 nL pc2 ls2 st2 h2) : a_Ok p l e R s m args below meth c Q B cA D h0 nL pc ls st h := by
  intro H locs lsA I hL hl
  unfold x_dup2 at hs
  split at hs <;> try contradiction
  split at hs <;> try contradiction
  rename_i hc
  cases hs
  exact lv_dup2_11 hx hb hdg hc.1 hc.2 (K H locs lsA I hL hl)
theorem s_pop (hx : p.tables.exec = Jvm.exec) (hb : c.code = cc) (hdg : decode cc pc = .ok (.pop, 1)) (hs : x_pop (pc + 1) ls st h = some (.inl (pc2, ls2, st2, h2))) (K : a_Ok p l e R s m args below meth c Q B cA D h0 nL pc2 ls2 st2 h2) : a_Ok p l e R s m args below meth c Q B cA D h0 nL pc ls st h := by
  intro H locs lsA I hL hl
  unfold x_pop at hs
  split at hs <;> try contradiction
  split at hs <;> try contradiction
  rename_i hc
  cases hs
  exact lv_pop hx hb hdg hc (K H locs lsA I hL hl)
theorem s_jump {off : Int} (hs : a_to pc off ls st h = some (.inl (pc2, ls2, st2, h2))) : (pc : Int) + off = (pc2 : Int) ∧ ls2 = ls ∧ st2 = st ∧ h2 = h := by
  unfold a_to at hs
  split at hs <;> try contradiction
  rename_i t ht
  unfold a_jump at ht
  split at ht <;> try contradiction
  cases ht
  cases hs
  exact ⟨by omega, rfl, rfl, rfl⟩
theorem s_onward (hs : a_go pc' ls st h = some (.inl (pc2, ls2, st2, h2))) : pc2 = pc' ∧ ls2 = ls ∧ st2 = st ∧ h2 = h := by
  cases hs; exact ⟨rfl, rfl, rfl, rfl⟩
theorem s_goto (hx : p.tables.exec = Jvm.exec) (hb : c.code = cc) {off : Int} (hdg : decode cc pc = .ok (.goto off, 3)) (hs : a_to pc off ls st h = some (.inl (pc2, ls2, st2, h2))) (K : a_Ok p l e R s m args below meth c Q B cA D h0 nL pc2 ls2 st2 h2) : a_Ok p l e R s m args below meth c Q B cA D h0 nL pc ls st h := by
  intro H locs lsA I hL hl
  obtain ⟨e1, rfl, rfl, rfl⟩ := s_jump hs
  exact lv_goto hx hb hdg e1 (K H locs lsA I hL hl)
theorem s_br {t : Bool} {off : Int} (hs : a_br t pc off ls st h = some (.inl (pc2, ls2, st2, h2))) : ∃ tgt : Nat, (pc : Int) + off = (tgt : Int) ∧ ls2 = ls ∧ st2 = st ∧ h2 = h ∧ ((t = true ∧ pc2 = tgt) ∨ (t = false ∧ pc2 = pc + 3)) := by
  unfold a_br at hs
  split at hs <;> try contradiction
  rename_i tgt ht
  unfold a_jump at ht
  split at ht <;> try contradiction
  cases ht
  refine ⟨((pc : Int) + off).toNat, by omega, ?_⟩
  cases t
  · simp at hs
    cases hs
    exact ⟨rfl, rfl, rfl, Or.inr ⟨rfl, rfl⟩⟩
  · simp at hs
    cases hs
    exact ⟨rfl, rfl, rfl, Or.inl ⟨rfl, rfl⟩⟩
theorem s_if_eq (hx : p.tables.exec = Jvm.exec) (hb : c.code = cc) {off : Int} (hdg : decode cc pc = .ok (.ifCond .eq off, 3)) (hs : x_if .eq off pc ls st h = some (.inl (pc2, ls2, st2, h2))) (K : a_Ok p l e R s m args below meth c Q B cA D h0 nL pc2 ls2 st2 h2) : a_Ok p l e R s m args below meth c Q B cA D h0 nL pc ls st h := by
  intro H locs lsA I hL hl
  unfold x_if at hs
  split at hs <;> try contradiction
  obtain ⟨tgt, e1, rfl, rfl, rfl, ⟨hc, rfl⟩ | ⟨hc, rfl⟩⟩ := s_br hs
  · simp only [a_cond, decide_eq_true_eq] at hc
    exact lv_if_eq hx hb hdg e1 (fun _ => K H locs lsA I hL hl) (fun q => absurd hc q)
  · simp only [a_cond, decide_eq_false_iff_not] at hc
    exact lv_if_eq hx hb hdg e1 (fun q => absurd q hc) (fun _ => K H locs lsA I hL hl)
theorem s_icmp_eq (hx : p.tables.exec = Jvm.exec) (hb : c.code = cc) {off : Int} (hdg : decode cc pc = .ok (.if_icmp .eq off, 3)) (hs : x_icmp .eq off pc ls st h = some (.inl (pc2, ls2, st2, h2))) (K : a_Ok p l e R s m args below meth c Q B cA D h0 nL pc2 ls2 st2 h2) : a_Ok p l e R s m args below meth c Q B cA D h0 nL pc ls st h := by
  intro H locs lsA I hL hl
  unfold x_icmp at hs
  split at hs <;> try contradiction
  obtain ⟨tgt, e1, rfl, rfl, rfl, ⟨hc, rfl⟩ | ⟨hc, rfl⟩⟩ := s_br hs
  · simp only [a_cond, decide_eq_true_eq] at hc
    exact lv_icmp_eq hx hb hdg e1 (fun _ => K H locs lsA I hL hl) (fun q => absurd hc q)
  · simp only [a_cond, decide_eq_false_iff_not] at hc
    exact lv_icmp_eq hx hb hdg e1 (fun q => absurd q hc) (fun _ => K H locs lsA I hL hl)
theorem s_if_ne (hx : p.tables.exec = Jvm.exec) (hb : c.code = cc) {off : Int} (hdg : decode cc pc = .ok (.ifCond .ne off, 3)) (hs : x_if .ne off pc ls st h = some (.inl (pc2, ls2, st2, h2))) (K : a_Ok p l e R s m args below meth c Q B cA D h0 nL pc2 ls2 st2 h2) : a_Ok p l e R s m args below meth c Q B cA D h0 nL pc ls st h := by
  intro H locs lsA I hL hl
  unfold x_if at hs
  split at hs <;> try contradiction
  obtain ⟨tgt, e1, rfl, rfl, rfl, ⟨hc, rfl⟩ | ⟨hc, rfl⟩⟩ := s_br hs
  · simp only [a_cond, decide_eq_true_eq] at hc
    exact lv_if_ne hx hb hdg e1 (fun _ => K H locs lsA I hL hl) (fun q => absurd q hc)
  · simp only [a_cond, decide_eq_false_iff_not] at hc
    exact lv_if_ne hx hb hdg e1 (fun q => absurd q hc) (fun _ => K H locs lsA I hL hl)
theorem s_icmp_ne (hx : p.tables.exec = Jvm.exec) (hb : c.code = cc) {off : Int} (hdg : decode cc pc = .ok (.if_icmp .ne off, 3)) (hs : x_icmp .ne off pc ls st h = some (.inl (pc2, ls2, st2, h2))) (K : a_Ok p l e R s m args below meth c Q B cA D h0 nL pc2 ls2 st2 h2) : a_Ok p l e R s m args below meth c Q B cA D h0 nL pc ls st h := by
  intro H locs lsA I hL hl
  unfold x_icmp at hs
  split at hs <;> try contradiction
  obtain ⟨tgt, e1, rfl, rfl, rfl, ⟨hc, rfl⟩ | ⟨hc, rfl⟩⟩ := s_br hs
  · simp only [a_cond, decide_eq_true_eq] at hc
    exact lv_icmp_ne hx hb hdg e1 (fun _ => K H locs lsA I hL hl) (fun q => absurd q hc)
  · simp only [a_cond, decide_eq_false_iff_not] at hc
    exact lv_icmp_ne hx hb hdg e1 (fun q => absurd q hc) (fun _ => K H locs lsA I hL hl)
theorem s_if_lt (hx : p.tables.exec = Jvm.exec) (hb : c.code = cc) {off : Int} (hdg : decode cc pc = .ok (.ifCond .lt off, 3)) (hs : x_if .lt off pc ls st h = some (.inl (pc2, ls2, st2, h2))) (K : a_Ok p l e R s m args below meth c Q B cA D h0 nL pc2 ls2 st2 h2) : a_Ok p l e R s m args below meth c Q B cA D h0 nL pc ls st h := by
  intro H locs lsA I hL hl
  unfold x_if at hs
  split at hs <;> try contradiction
  obtain ⟨tgt, e1, rfl, rfl, rfl, ⟨hc, rfl⟩ | ⟨hc, rfl⟩⟩ := s_br hs
  · simp only [a_cond, decide_eq_true_eq] at hc
    exact lv_if_lt hx hb hdg e1 (fun _ => K H locs lsA I hL hl) (fun q => absurd hc q)
  · simp only [a_cond, decide_eq_false_iff_not] at hc
    exact lv_if_lt hx hb hdg e1 (fun q => absurd q hc) (fun _ => K H locs lsA I hL hl)
theorem s_icmp_lt (hx : p.tables.exec = Jvm.exec) (hb : c.code = cc) {off : Int} (hdg : decode cc pc = .ok (.if_icmp .lt off, 3)) (hs : x_icmp .lt off pc ls st h = some (.inl (pc2, ls2, st2, h2))) (K : a_Ok p l e R s m args below meth c Q B cA D h0 nL pc2 ls2 st2 h2) : a_Ok p l e R s m args below meth c Q B cA D h0 nL pc ls st h := by
  intro H locs lsA I hL hl
  unfold x_icmp at hs
  split at hs <;> try contradiction
  obtain ⟨tgt, e1, rfl, rfl, rfl, ⟨hc, rfl⟩ | ⟨hc, rfl⟩⟩ := s_br hs
  · simp only [a_cond, decide_eq_true_eq] at hc
    exact lv_icmp_lt hx hb hdg e1 (fun _ => K H locs lsA I hL hl) (fun q => absurd hc q)
  · simp only [a_cond, decide_eq_false_iff_not] at hc
    exact lv_icmp_lt hx hb hdg e1 (fun q => absurd q hc) (fun _ => K H locs lsA I hL hl)
theorem s_if_ge (hx : p.tables.exec = Jvm.exec) (hb : c.code = cc) {off : Int} (hdg : decode cc pc = .ok (.ifCond .ge off, 3)) (hs : x_if .ge off pc ls st h = some (.inl (pc2, ls2, st2, h2))) (K : a_Ok p l e R s m args below meth c Q B cA D h0 nL pc2 ls2 st2 h2) : a_Ok p l e R s m args below meth c Q B cA D h0 nL pc ls st h := by
  intro H locs lsA I hL hl
  unfold x_if at hs
  split at hs <;> try contradiction
  obtain ⟨tgt, e1, rfl, rfl, rfl, ⟨hc, rfl⟩ | ⟨hc, rfl⟩⟩ := s_br hs
  · simp only [a_cond, decide_eq_true_eq] at hc
    exact lv_if_ge hx hb hdg e1 (fun _ => K H locs lsA I hL hl) (fun q => absurd hc q)
  · simp only [a_cond, decide_eq_false_iff_not] at hc
    exact lv_if_ge hx hb hdg e1 (fun q => absurd q hc) (fun _ => K H locs lsA I hL hl)
theorem s_icmp_ge (hx : p.tables.exec = Jvm.exec) (hb : c.code = cc) {off : Int} (hdg : decode cc pc = .ok (.if_icmp .ge off, 3)) (hs : x_icmp .ge off pc ls st h = some (.inl (pc2, ls2, st2, h2))) (K : a_Ok p l e R s m args below meth c Q B cA D h0 nL pc2 ls2 st2 h2) : a_Ok p l e R s m args below meth c Q B cA D h0 nL pc ls st h := by
  intro H locs lsA I hL hl
  unfold x_icmp at hs
  split at hs <;> try contradiction
  obtain ⟨tgt, e1, rfl, rfl, rfl, ⟨hc, rfl⟩ | ⟨hc, rfl⟩⟩ := s_br hs
  · simp only [a_cond, decide_eq_true_eq] at hc
    exact lv_icmp_ge hx hb hdg e1 (fun _ => K H locs lsA I hL hl) (fun q => absurd hc q)
  · simp only [a_cond, decide_eq_false_iff_not] at hc
    exact lv_icmp_ge hx hb hdg e1 (fun q => absurd q hc) (fun _ => K H locs lsA I hL hl)
theorem s_if_gt (hx : p.tables.exec = Jvm.exec) (hb : c.code = cc) {off : Int} (hdg : decode cc pc = .ok (.ifCond .gt off, 3)) (hs : x_if .gt off pc ls st h = some (.inl (pc2, ls2, st2, h2))) (K : a_Ok p l e R s m args below meth c Q B cA D h0 nL pc2 ls2 st2 h2) : a_Ok p l e R s m args below meth c Q B cA D h0 nL pc ls st h := by
  intro H locs lsA I hL hl
  unfold x_if at hs
  split at hs <;> try contradiction
  obtain ⟨tgt, e1, rfl, rfl, rfl, ⟨hc, rfl⟩ | ⟨hc, rfl⟩⟩ := s_br hs
  · simp only [a_cond, decide_eq_true_eq] at hc
    exact lv_if_gt hx hb hdg e1 (fun _ => K H locs lsA I hL hl) (fun q => absurd hc q)
  · simp only [a_cond, decide_eq_false_iff_not] at hc
    exact lv_if_gt hx hb hdg e1 (fun q => absurd q hc) (fun _ => K H locs lsA I hL hl)
theorem s_icmp_gt (hx : p.tables.exec = Jvm.exec) (hb : c.code = cc) {off : Int} (hdg : decode cc pc = .ok (.if_icmp .gt off, 3)) (hs : x_icmp .gt off pc ls st h = some (.inl (pc2, ls2, st2, h2))) (K : a_Ok p l e R s m args below meth c Q B cA D h0 nL pc2 ls2 st2 h2) : a_Ok p l e R s m args below meth c Q B cA D h0 nL pc ls st h := by
  intro H locs lsA I hL hl
  unfold x_icmp at hs
  split at hs <;> try contradiction
  obtain ⟨tgt, e1, rfl, rfl, rfl, ⟨hc, rfl⟩ | ⟨hc, rfl⟩⟩ := s_br hs
  · simp only [a_cond, decide_eq_true_eq] at hc
    exact lv_icmp_gt hx hb hdg e1 (fun _ => K H locs lsA I hL hl) (fun q => absurd hc q)
  · simp only [a_cond, decide_eq_false_iff_not] at hc
    exact lv_icmp_gt hx hb hdg e1 (fun q => absurd q hc) (fun _ => K H locs lsA I hL hl)
theorem s_if_le (hx : p.tables.exec = Jvm.exec) (hb : c.code = cc) {off : Int} (hdg : decode cc pc = .ok (.ifCond .le off, 3)) (hs : x_if .le off pc ls st h = some (.inl (pc2, ls2, st2, h2))) (K : a_Ok p l e R s m args below meth c Q B cA D h0 nL pc2 ls2 st2 h2) : a_Ok p l e R s m args below meth c Q B cA D h0 nL pc ls st h := by
  intro H locs lsA I hL hl
  unfold x_if at hs
  split at hs <;> try contradiction
  obtain ⟨tgt, e1, rfl, rfl, rfl, ⟨hc, rfl⟩ | ⟨hc, rfl⟩⟩ := s_br hs
  · simp only [a_cond, decide_eq_true_eq] at hc
    exact lv_if_le hx hb hdg e1 (fun _ => K H locs lsA I hL hl) (fun q => absurd hc q)
  · simp only [a_cond, decide_eq_false_iff_not] at hc
    exact lv_if_le hx hb hdg e1 (fun q => absurd q hc) (fun _ => K H locs lsA I hL hl)
theorem s_icmp_le (hx : p.tables.exec = Jvm.exec) (hb : c.code = cc) {off : Int} (hdg : decode cc pc = .ok (.if_icmp .le off, 3)) (hs : x_icmp .le off pc ls st h = some (.inl (pc2, ls2, st2, h2))) (K : a_Ok p l e R s m args below meth c Q B cA D h0 nL pc2 ls2 st2 h2) : a_Ok p l e R s m args below meth c Q B cA D h0 nL pc ls st h := by
  intro H locs lsA I hL hl
  unfold x_icmp at hs
  split at hs <;> try contradiction
  obtain ⟨tgt, e1, rfl, rfl, rfl, ⟨hc, rfl⟩ | ⟨hc, rfl⟩⟩ := s_br hs
  · simp only [a_cond, decide_eq_true_eq] at hc
    exact lv_icmp_le hx hb hdg e1 (fun _ => K H locs lsA I hL hl) (fun q => absurd hc q)
  · simp only [a_cond, decide_eq_false_iff_not] at hc
    exact lv_icmp_le hx hb hdg e1 (fun q => absurd q hc) (fun _ => K H locs lsA I hL hl)
theorem s_ifnull (hx : p.tables.exec = Jvm.exec) (hb : c.code = cc) {off : Int} (hdg : decode cc pc = .ok (.ifnull off, 3)) (hs : x_null true off pc ls st h = some (.inl (pc2, ls2, st2, h2))) (K : a_Ok p l e R s m args below meth c Q B cA D h0 nL pc2 ls2 st2 h2) : a_Ok p l e R s m args below meth c Q B cA D h0 nL pc ls st h := by
  intro H locs lsA I hL hl
  unfold x_null at hs
  split at hs <;> try contradiction
  · simp at hs
    obtain ⟨e1, rfl, rfl, rfl⟩ := s_jump hs
    exact lv_ifnullN hx hb hdg e1 (K H locs lsA I hL hl)
  · simp at hs
    obtain ⟨rfl, rfl, rfl, rfl⟩ := s_onward hs
    exact lv_ifnull hx hb hdg (K H locs lsA I hL hl)
theorem s_ifnonnull (hx : p.tables.exec = Jvm.exec) (hb : c.code = cc) {off : Int} (hdg : decode cc pc = .ok (.ifnonnull off, 3)) (hs : x_null false off pc ls st h = some (.inl (pc2, ls2, st2, h2))) (K : a_Ok p l e R s m args below meth c Q B cA D h0 nL pc2 ls2 st2 h2) : a_Ok p l e R s m args below meth c Q B cA D h0 nL pc ls st h := by
  intro H locs lsA I hL hl
  unfold x_null at hs
  split at hs <;> try contradiction
  · simp at hs
    obtain ⟨rfl, rfl, rfl, rfl⟩ := s_onward hs
    exact lv_ifnonnullN hx hb hdg (K H locs lsA I hL hl)
  · simp at hs
    obtain ⟨e1, rfl, rfl, rfl⟩ := s_jump hs
    exact lv_ifnonnull hx hb hdg e1 (K H locs lsA I hL hl)
theorem a_adr_rf {v : Value} {r : Option Nat} (h : a_adr v = some r) : v = va_rf r := by
  cases v <;> simp [a_adr] at h <;> subst h <;> rfl
theorem s_acmp_eq (hx : p.tables.exec = Jvm.exec) (hb : c.code = cc) {off : Int} (hdg : decode cc pc = .ok (.if_acmp .eq off, 3)) (hs : x_acmp true off pc ls st h = some (.inl (pc2, ls2, st2, h2))) (K : a_Ok p l e R s m args below meth c Q B cA D h0 nL pc2 ls2 st2 h2) : a_Ok p l e R s m args below meth c Q B cA D h0 nL pc ls st h := by
  intro H locs lsA I hL hl
  unfold x_acmp at hs
  split at hs <;> try contradiction
  split at hs <;> try contradiction
  rename_i ry rx hy hxx
  rw [a_adr_rf hy, a_adr_rf hxx]
  obtain ⟨tgt, e1, rfl, rfl, rfl, ⟨hc, rfl⟩ | ⟨hc, rfl⟩⟩ := s_br hs
  · simp at hc
    exact lv_acmp_eq hx hb hdg e1 (fun _ => K H locs lsA I hL hl) (fun q => absurd hc q)
  · simp at hc
    exact lv_acmp_eq hx hb hdg e1 (fun q => absurd q hc) (fun _ => K H locs lsA I hL hl)
theorem s_acmp_ne (hx : p.tables.exec = Jvm.exec) (hb : c.code = cc) {off : Int} (hdg : decode cc pc = .ok (.if_acmp .ne off, 3)) (hs : x_acmp false off pc ls st h = some (.inl (pc2, ls2, st2, h2))) (K : a_Ok p l e R s m args below meth c Q B cA D h0 nL pc2 ls2 st2 h2) : a_Ok p l e R s m args below meth c Q B cA D h0 nL pc ls st h := by
  intro H locs lsA I hL hl
  unfold x_acmp at hs
  split at hs <;> try contradiction
  split at hs <;> try contradiction
  rename_i ry rx hy hxx
  rw [a_adr_rf hy, a_adr_rf hxx]
  obtain ⟨tgt, e1, rfl, rfl, rfl, ⟨hc, rfl⟩ | ⟨hc, rfl⟩⟩ := s_br hs
  · simp at hc
    exact lv_acmp_ne hx hb hdg e1 (fun _ => K H locs lsA I hL hl) (fun q => absurd q hc)
  · simp at hc
    exact lv_acmp_ne hx hb hdg e1 (fun q => absurd hc q) (fun _ => K H locs lsA I hL hl)
theorem s_table (hx : p.tables.exec = Jvm.exec) (hb : c.code = cc) {d lo hi : Int} {offs : Array Int} {len : Nat} (hdg : decode cc pc = .ok (.tableswitch d lo hi offs, len)) (hs : x_table d lo hi offs pc ls st h = some (.inl (pc2, ls2, st2, h2))) (K : a_Ok p l e R s m args below meth c Q B cA D h0 nL pc2 ls2 st2 h2) : a_Ok p l e R s m args below meth c Q B cA D h0 nL pc ls st h := by
  intro H locs lsA I hL hl
  unfold x_table at hs
  split at hs <;> try contradiction
  split at hs
  · rename_i hc
    obtain ⟨e1, rfl, rfl, rfl⟩ := s_jump hs
    exact lv_tableOut hx hb hdg hc e1 (K H locs lsA I hL hl)
  · rename_i hc
    split at hs <;> try contradiction
    rename_i off ho
    obtain ⟨e1, rfl, rfl, rfl⟩ := s_jump hs
    exact lv_tableIn hx hb hdg (fun q => hc (Or.inl q)) (fun q => hc (Or.inr q)) ho e1 (K H locs lsA I hL hl)
theorem s_look (hx : p.tables.exec = Jvm.exec) (hb : c.code = cc) {d : Int} {ps : Array (Int × Int)} {len : Nat} (hdg : decode cc pc = .ok (.lookupswitch d ps, len)) (hs : x_look d ps pc ls st h = some (.inl (pc2, ls2, st2, h2))) (K : a_Ok p l e R s m args below meth c Q B cA D h0 nL pc2 ls2 st2 h2) : a_Ok p l e R s m args below meth c Q B cA D h0 nL pc ls st h := by
  intro H locs lsA I hL hl
  unfold x_look at hs
  split at hs <;> try contradiction
  split at hs <;> try contradiction
  rename_i hc
  obtain ⟨e1, rfl, rfl, rfl⟩ := s_jump hs
  exact lv_lookup hx hb hdg hc rfl e1 (K H locs lsA I hL hl)
theorem a_found {α : Type} {L : List α} {f : α → Bool} {x : α} (h : L.find? f = some x) : x ∈ L ∧ f x = true := ⟨List.mem_of_find?_eq_some h, List.find?_some h⟩
theorem s_ldc (hx : p.tables.exec = Jvm.exec) (hb : c.code = cc) {o idx : Nat} (hown : s.vm.findClass (a_own o) = some m.cls) (hts : ∀ w ∈ a_tb, w.before args s = true) (hdg : decode cc pc = .ok (.ldc idx, 2)) (hs : x_ldc o idx (pc + 2) ls st h = some (.inl (pc2, ls2, st2, h2))) (K : a_Ok p l e R s m args below meth c Q B cA D h0 nL pc2 ls2 st2 h2) : a_Ok p l e R s m args below meth c Q B cA D h0 nL pc ls st h := by
  intro H locs lsA I hL hl
  unfold x_ldc at hs
  split at hs <;> try contradiction
  rename_i o' i' v hf
  obtain ⟨h1, h2⟩ := a_found hf
  simp only [Bool.and_eq_true, beq_iff_eq] at h2
  obtain ⟨rfl, rfl⟩ := h2
  cases hs
  exact lv_ldc hx hb hown (hts _ (a_ks_ok _ h1)) hdg (K H locs lsA I hL hl)
theorem s_ldcw (hx : p.tables.exec = Jvm.exec) (hb : c.code = cc) {o idx : Nat} (hown : s.vm.findClass (a_own o) = some m.cls) (hts : ∀ w ∈ a_tb, w.before args s = true) (hdg : decode cc pc = .ok (.ldc_w idx, 3)) (hs : x_ldc o idx (pc + 3) ls st h = some (.inl (pc2, ls2, st2, h2))) (K : a_Ok p l e R s m args below meth c Q B cA D h0 nL pc2 ls2 st2 h2) : a_Ok p l e R s m args below meth c Q B cA D h0 nL pc ls st h := by
  intro H locs lsA I hL hl
  unfold x_ldc at hs
  split at hs <;> try contradiction
  rename_i o' i' v hf
  obtain ⟨h1, h2⟩ := a_found hf
  simp only [Bool.and_eq_true, beq_iff_eq] at h2
  obtain ⟨rfl, rfl⟩ := h2
  cases hs
  exact lv_ldcw hx hb hown (hts _ (a_ks_ok _ h1)) hdg (K H locs lsA I hL hl)
theorem s_ldc2 (hx : p.tables.exec = Jvm.exec) (hb : c.code = cc) {o idx : Nat} (hown : s.vm.findClass (a_own o) = some m.cls) (hts : ∀ w ∈ a_tb, w.before args s = true) (hdg : decode cc pc = .ok (.ldc2_w idx, 3)) (hs : x_ldc2 o idx (pc + 3) ls st h = some (.inl (pc2, ls2, st2, h2))) (K : a_Ok p l e R s m args below meth c Q B cA D h0 nL pc2 ls2 st2 h2) : a_Ok p l e R s m args below meth c Q B cA D h0 nL pc ls st h := by
  intro H locs lsA I hL hl
  unfold x_ldc2 at hs
  split at hs <;> try contradiction
  rename_i o' i' v hf
  obtain ⟨h1, h2⟩ := a_found hf
  simp only [Bool.and_eq_true, beq_iff_eq] at h2
  obtain ⟨rfl, rfl⟩ := h2
  cases hs
  exact lv_ldc2 hx hb hown (hts _ (a_kl_ok _ h1)) hdg (K H locs lsA I hL hl)
end AS2

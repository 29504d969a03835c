/-! THE MACHINE IN PLAIN WORDS IS HELD BY THE MACHINE: instruction by instruction -/
theorem a_ofW {l : Launch} {y : MethodName} {ws ws' : List Jvm.Cond} {rm : Room} {Pc : Array Value → State → Prop} {Qc : Array Value → State → Outcome → State → Prop} {mc ms : Nat} {free : Addr → Prop} {cc : ByteArray} {maxL : Nat} {ret : Option FieldType}
    (hy : plainFor y = true) (hw : ws = Jvm.Cond.code y cc maxL ret :: ws')
    (body : ∀ p e s m args below meth c s₁, BodyLoose p l y (headSpec ws rm) cc maxL ret e s m args below meth c s₁ → c.maxLocals = maxL → Pc args s →
      W p l e (headSpec ws rm).room s m args below meth c s.heap [] 0 0 (MQ below Qc args s mc ms free) (entryFrame m args maxL)) : Met l y ws rm Pc Qc mc ms free := by
  refine MetFree.of_bodySF (code := cc) (maxLocals := maxL) (ret := ret) hy ?_ ?_
  · intro args s m h hn
    obtain ⟨meth, c, h1, h2, h3, h4, h5, h6, -, -⟩ := Cond.code_spec hn (atoms_spec (ws := ws) h _ (by rw [hw]; exact List.mem_cons_self))
    exact ⟨meth, c, h1, h2, h3, h4, h5, h6⟩
  · intro p e s m args below meth c s₁ B hml hP _
    have hh0 : s₁.heap = s.heap := by rw [B.state]; rfl
    obtain ⟨t, a1, o, b1, b2, b3⟩ := body p e s m args below meth c s₁ B hml hP s₁ hh0 (Stand.of_body B)
    exact ⟨t, o, a1, b1, b2, ⟨b3.1, b3.2⟩⟩
def a_E (cA : Nat → ClassId) (h : AH) (a : Nat) : va_E :=
  if a_kd h a < 20 then .inr (a_kd h a - 1, (List.range (a_N (a_kd h a - 1))).map (a_slot h a (a_kd h a - 1)))
  else if a_kd h a < 22 then .inl (cA (a_kd h a), a_ln h a, .inl (a_iv h a))
  else .inl (cA (a_kd h a), a_ln h a, .inr (.inr (.inr (.inr (fun j => a_op (a_rv h a j))))))
def a_ws (B : Nat) (cA : Nat → ClassId) (h : AH) : va_W := va_pl (List.range' B (a_nx h - B)) (a_E cA h)
def a_tys (cA : Nat → ClassId) : List (ClassId × FieldType) := (cA 20, .int) :: (cA 21, .boolean) :: a_aks.map (fun k => (cA (22 + k), .object (a_own k)))
def a_nestWord (q : Nat × Nat × Nat × String) : Jvm.Cond := .methodLinkNest (a_own q.1) q.2.1 (((a_ms[q.2.2.1]?).map (fun r => r.2.1)).getD ⟨"", "", ""⟩) q.2.2.2
def a_K (D : va_G) (cA : Nat → ClassId) (U : State) : Prop := va_K D vwCl (a_tys cA) U ∧ (∀ k ∈ a_aks, va_AO (a_own k) U) ∧ ∀ q ∈ a_ns, va_Nw (a_nestWord q) U
theorem a_K.same {D : va_G} {cA : Nat → ClassId} {u U : State} (hvm : u.vm = U.vm) (h : a_K D cA u) : a_K D cA U := by
  have hal : u.vm.Alike U.vm := by rw [hvm]; exact Vm.Alike.refl _
  exact ⟨va_K.moved hal h.1, fun k hk => va_AO.moved hal (h.2.1 k hk), fun q hq => va_Nw.same rfl hvm (h.2.2 q hq)⟩
theorem a_K.warm {D : va_G} {cA : Nat → ClassId} {u U : State} (hW : u.WarmedH U.vm) (h : a_K D cA u) : a_K D cA U := ⟨va_K.moved hW.alike h.1, fun k hk => va_AO.moved hW.alike (h.2.1 k hk), fun q hq => va_Nw.warmM hW (h.2.2 q hq)⟩
def a_I (B : Nat) (cA : Nat → ClassId) (D : va_G) (h0 h : AH) (s : State) (H : Heap) (locs : List Loc) : Prop :=
  1 ≤ B ∧ B ≤ a_nx h0 ∧ a_nx h0 ≤ a_nx h ∧ a_tot h0 ≤ a_tot h ∧ s.heap.size = a_nx h0 ∧ H.size = a_nx h ∧ (∀ a, a_kd h a ≠ 0 → B ≤ a ∧ a < a_nx h) ∧ va_P D vwCl (a_ws B cA h) H ∧ va_S (fun q => B ≤ q) s.heap H locs
theorem a_ws_at (B : Nat) (cA : Nat → ClassId) (h : AH) (i : Nat) : (a_ws B cA h)[i]? = if i < a_nx h - B then some (B + i, a_E cA h (B + i)) else none := by
  unfold a_ws va_pl
  rw [List.getElem?_map]
  by_cases hi : i < a_nx h - B
  · rw [if_pos hi, List.getElem?_range' hi]; simp
  · rw [if_neg hi, List.getElem?_eq_none (by simp; omega)]; rfl
theorem a_get {B : Nat} {cA : Nat → ClassId} {h : AH} {a : Nat} (h1 : B ≤ a) (h2 : a < a_nx h) : (a_ws B cA h)[a - B]? = some (a, a_E cA h a) := by
  rw [a_ws_at, if_pos (by omega), show B + (a - B) = a by omega]
theorem a_D (B : Nat) (cA : Nat → ClassId) (h : AH) : va_D (fun q => B ≤ q) (a_ws B cA h) := by
  refine ⟨fun i j p q hp hq hpq => ?_, fun k q hq => ?_⟩
  · rw [a_ws_at] at hp hq
    split at hp <;> split at hq <;> try contradiction
    cases hp; cases hq
    simp at hpq; exact hpq
  · rw [a_ws_at] at hq
    split at hq <;> try contradiction
    cases hq
    exact Nat.le_add_right _ _
theorem a_setw {B : Nat} {cA : Nat → ClassId} {h h' : AH} {a : Nat} {e : va_E} (h1 : B ≤ a) (h2 : a < a_nx h) (hn : a_nx h' = a_nx h) (he : a_E cA h' a = e) (ho : ∀ x, x ≠ a → a_E cA h' x = a_E cA h x) : (a_ws B cA h).set (a - B) (a, e) = a_ws B cA h' := by
  apply List.ext_getElem?
  intro j
  have hl : a - B < (a_ws B cA h).length := (List.getElem?_eq_some_iff.mp (a_get (cA := cA) h1 h2)).1
  by_cases hj : j = a - B
  · subst hj
    rw [List.getElem?_set_self hl, a_ws_at, if_pos (by omega), show B + (a - B) = a by omega, he]
  · rw [List.getElem?_set_ne (Ne.symm hj), a_ws_at, a_ws_at, hn]
    by_cases hi : j < a_nx h - B
    · rw [if_pos hi, if_pos hi, ho _ (by omega)]
    · rw [if_neg hi, if_neg hi]
theorem a_pushw {B : Nat} {cA : Nat → ClassId} {h h' : AH} {e : va_E} (h1 : B ≤ a_nx h) (hn : a_nx h' = a_nx h + 1) (he : a_E cA h' (a_nx h) = e) (ho : ∀ x, x < a_nx h → a_E cA h' x = a_E cA h x) : a_ws B cA h ++ [(a_nx h, e)] = a_ws B cA h' := by
  have hlen : (a_ws B cA h).length = a_nx h - B := by unfold a_ws va_pl; simp
  apply List.ext_getElem?
  intro j
  rw [a_ws_at, hn]
  by_cases hj : j < a_nx h - B
  · rw [List.getElem?_append_left (by omega), a_ws_at, if_pos hj, if_pos (by omega), ho _ (by omega)]
  · rw [List.getElem?_append_right (by omega), hlen]
    by_cases hk : j = a_nx h - B
    · subst hk
      rw [if_pos (by omega), show B + (a_nx h - B) = a_nx h by omega, he]
      simp
    · rw [if_neg (by omega), List.getElem?_eq_none (by simp; omega)]
theorem a_I_of {B : Nat} {cA : Nat → ClassId} {D : va_G} {h0 h h' : AH} {s : State} {H H1 : Heap} {locs locs1 : List Loc} (I : a_I B cA D h0 h s H locs) (hn : a_nx h ≤ a_nx h') (ht : a_tot h ≤ a_tot h') (hk : ∀ a, a_kd h' a ≠ 0 → B ≤ a ∧ a < a_nx h') (hP : va_P D vwCl (a_ws B cA h') H1) (hS : va_S (fun q => B ≤ q) s.heap H1 locs1) (hu : H1.size ≤ s.heap.size + (a_nx h' - a_nx h0)) : a_I B cA D h0 h' s H1 locs1 := by
  obtain ⟨i1, i2, i3, i4, i5, i6, i7, i8, i9⟩ := I
  refine ⟨i1, i2, by omega, by omega, i5, ?_, hk, hP, hS⟩
  have hlow : a_nx h' ≤ H1.size := by
    by_cases hb : B < a_nx h'
    · have := (hP _ _ (a_get (cA := cA) (h := h') (a := a_nx h' - 1) (by omega) (by omega))).lt
      simp at this
      omega
    · have := hS.1
      omega
  omega
def a_as (ls : AL) : List (Nat × Value) := (List.range ls.length).filterMap (fun i => match ls[i]? with
  | some (some v) => some (i, v)
  | _ => none)
theorem a_as_mem {ls : AL} {i : Nat} {v : Value} : (i, v) ∈ a_as ls ↔ ls[i]? = some (some v) := by
  unfold a_as
  rw [List.mem_filterMap]
  constructor
  · rintro ⟨j, -, hj⟩
    split at hj <;> try contradiction
    rename_i w hw
    cases hj
    exact hw
  · intro h
    refine ⟨i, List.mem_range.mpr (List.getElem?_eq_some_iff.mp h).1, ?_⟩
    rw [h]
theorem a_as_get {lsA : Array Slot} {nL : Nat} {ls : AL} {k : Nat} {v : Value} (hl : lv_has lsA nL (a_as ls)) (h : ls[k]? = some (some v)) : lsA[k]? = some (.val v) := hl.2.2 (k, v) (a_as_mem.mpr h)
theorem a_as_set {lsA : Array Slot} {nL k : Nat} {ls : AL} {v : Value} (hc : a_clear ls k = true) (hk : k < ls.length) (hl : lv_has lsA nL ((k, v) :: (a_as ls).filter (fun q => !(q.1 == k) && !(q.1 + 1 == k && q.2.category == 2)))) : lv_has lsA nL (a_as (ls.set k (some v))) := by
  refine ⟨hl.1, hl.2.1, fun q hq => hl.2.2 q ?_⟩
  obtain ⟨i, w⟩ := q
  have h1 := a_as_mem.mp hq
  by_cases hi : i = k
  · subst hi
    rw [List.getElem?_set_self hk] at h1
    cases h1
    exact List.mem_cons_self
  · rw [List.getElem?_set_ne (Ne.symm hi)] at h1
    refine List.mem_cons_of_mem _ (List.mem_filter.mpr ⟨a_as_mem.mpr h1, ?_⟩)
    have e1 : (i == k) = false := by simpa using hi
    show (!(i == k) && !(i + 1 == k && w.category == 2)) = true
    rw [e1]
    by_cases h2 : i + 1 = k
    · subst h2
      have h3 : w.category = 1 := by
        have := hc
        unfold a_clear at this
        simp only [h1] at this
        simpa using this
      simp [h3]
    · have e2 : (i + 1 == k) = false := by simpa using h2
      simp [e2]
section AS1
variable {p : Program} {l : Launch} {e : Env} {R : Room} {s : State} {m : MethodId} {args : Array Value} {below : List Frame} {meth : Method} {c : Code} {Q : State → Prop}
/-- from this place the machine comes to Q, whatever the heap and the locals are that these words describe -/
def a_Ok (p : Program) (l : Launch) (e : Env) (R : Room) (s : State) (m : MethodId) (args : Array Value) (below : List Frame) (meth : Method) (c : Code) (Q : State → Prop) (B : Nat) (cA : Nat → ClassId) (D : va_G) (h0 : AH) (nL pc : Nat) (ls : AL) (st : List Value) (h : AH) : Prop :=
  ∀ (H : Heap) (locs : List Loc) (lsA : Array Slot), a_I B cA D h0 h s H locs → ls.length = nL → lv_has lsA nL (a_as ls) → W p l e R s m args below meth c H locs (a_nx h - a_nx h0) (a_tot h - a_tot h0) Q (F0 m pc lsA st)
theorem a_sz {H : Heap} {locs : List Loc} {cells slots : Nat} {g : JFrame} (k : H.size ≤ s.heap.size + cells → W p l e R s m args below meth c H locs cells slots Q g) : W p l e R s m args below meth c H locs cells slots Q g := by
  intro T hT X
  have h1 : (T.setVm s.vm).heap.size ≤ s.heap.size + cells := X.same.2.2.1
  have h2 : H.size ≤ s.heap.size + cells := by rw [← hT]; exact h1
  exact k h2 T hT X
variable {B : Nat} {cA : Nat → ClassId} {D : va_G} {h0 h h2 : AH} {nL pc pc2 pc' k : Nat} {ls ls2 : AL} {st st2 : List Value} {cc : ByteArray}
theorem s_push {v : Value} (hs : x_push v pc' ls st h = some (.inl (pc2, ls2, st2, h2))) : pc2 = pc' ∧ ls2 = ls ∧ st2 = v :: st ∧ h2 = h := by
  cases hs; exact ⟨rfl, rfl, rfl, rfl⟩
theorem s_iload_n (hx : p.tables.exec = Jvm.exec) (hb : c.code = cc) {k : Fin 4} (hdg : decode cc pc = .ok (.iload_n k, 1)) (hs : x_load k (pc + 1) ls st h a_isI = some (.inl (pc2, ls2, st2, h2))) (K : a_Ok p l e R s m args below meth c Q B cA D h0 nL pc2 ls2 st2 h2) : a_Ok p l e R s m args below meth c Q B cA D h0 nL pc ls st h := by
  intro H locs lsA I hL hl
  unfold x_load at hs
  split at hs <;> try contradiction
  rename_i v hv
  split at hs <;> try contradiction
  cases v <;> try (rename_i hw; cases hw; done)
  cases hs
  exact lv_iload_n hx hb hdg rfl (a_as_get hl hv) (K H locs lsA I hL hl)
theorem s_iload (hx : p.tables.exec = Jvm.exec) (hb : c.code = cc) (hdg : decode cc pc = .ok (.iload k, 2)) (hs : x_load k (pc + 2) ls st h a_isI = some (.inl (pc2, ls2, st2, h2))) (K : a_Ok p l e R s m args below meth c Q B cA D h0 nL pc2 ls2 st2 h2) : a_Ok p l e R s m args below meth c Q B cA D h0 nL pc ls st h := by
  intro H locs lsA I hL hl
  unfold x_load at hs
  split at hs <;> try contradiction
  rename_i v hv
  split at hs <;> try contradiction
  cases v <;> try (rename_i hw; cases hw; done)
  cases hs
  exact lv_iload hx hb hdg (a_as_get hl hv) (K H locs lsA I hL hl)
theorem s_lload_n (hx : p.tables.exec = Jvm.exec) (hb : c.code = cc) {k : Fin 4} (hdg : decode cc pc = .ok (.lload_n k, 1)) (hs : x_load k (pc + 1) ls st h a_isL = some (.inl (pc2, ls2, st2, h2))) (K : a_Ok p l e R s m args below meth c Q B cA D h0 nL pc2 ls2 st2 h2) : a_Ok p l e R s m args below meth c Q B cA D h0 nL pc ls st h := by
  intro H locs lsA I hL hl
  unfold x_load at hs
  split at hs <;> try contradiction
  rename_i v hv
  split at hs <;> try contradiction
  cases v <;> try (rename_i hw; cases hw; done)
  cases hs
  exact lv_lload_n hx hb hdg rfl (a_as_get hl hv) (K H locs lsA I hL hl)
theorem s_lload (hx : p.tables.exec = Jvm.exec) (hb : c.code = cc) (hdg : decode cc pc = .ok (.lload k, 2)) (hs : x_load k (pc + 2) ls st h a_isL = some (.inl (pc2, ls2, st2, h2))) (K : a_Ok p l e R s m args below meth c Q B cA D h0 nL pc2 ls2 st2 h2) : a_Ok p l e R s m args below meth c Q B cA D h0 nL pc ls st h := by
  intro H locs lsA I hL hl
  unfold x_load at hs
  split at hs <;> try contradiction
  rename_i v hv
  split at hs <;> try contradiction
  cases v <;> try (rename_i hw; cases hw; done)
  cases hs
  exact lv_lload hx hb hdg (a_as_get hl hv) (K H locs lsA I hL hl)
theorem s_aload_n (hx : p.tables.exec = Jvm.exec) (hb : c.code = cc) {k : Fin 4} (hdg : decode cc pc = .ok (.aload_n k, 1)) (hs : x_load k (pc + 1) ls st h a_isR = some (.inl (pc2, ls2, st2, h2))) (K : a_Ok p l e R s m args below meth c Q B cA D h0 nL pc2 ls2 st2 h2) : a_Ok p l e R s m args below meth c Q B cA D h0 nL pc ls st h := by
  intro H locs lsA I hL hl
  unfold x_load at hs
  split at hs <;> try contradiction
  rename_i v hv
  split at hs <;> try contradiction
  cases v <;> try (rename_i hw; cases hw; done)
  · cases hs
    exact lv_aload_nN hx hb hdg rfl (a_as_get hl hv) (K H locs lsA I hL hl)
  · cases hs
    exact lv_aload_n hx hb hdg rfl (a_as_get hl hv) (K H locs lsA I hL hl)
theorem s_aload (hx : p.tables.exec = Jvm.exec) (hb : c.code = cc) (hdg : decode cc pc = .ok (.aload k, 2)) (hs : x_load k (pc + 2) ls st h a_isR = some (.inl (pc2, ls2, st2, h2))) (K : a_Ok p l e R s m args below meth c Q B cA D h0 nL pc2 ls2 st2 h2) : a_Ok p l e R s m args below meth c Q B cA D h0 nL pc ls st h := by
  intro H locs lsA I hL hl
  unfold x_load at hs
  split at hs <;> try contradiction
  rename_i v hv
  split at hs <;> try contradiction
  cases v <;> try (rename_i hw; cases hw; done)
  · cases hs
    exact lv_aloadN hx hb hdg (a_as_get hl hv) (K H locs lsA I hL hl)
  · cases hs
    exact lv_aload hx hb hdg (a_as_get hl hv) (K H locs lsA I hL hl)
theorem s_istore_n (hx : p.tables.exec = Jvm.exec) (hb : c.code = cc) {k : Fin 4} (hdg : decode cc pc = .ok (.istore_n k, 1)) (hs : x_store k (pc + 1) ls st h a_isI = some (.inl (pc2, ls2, st2, h2))) (K : a_Ok p l e R s m args below meth c Q B cA D h0 nL pc2 ls2 st2 h2) : a_Ok p l e R s m args below meth c Q B cA D h0 nL pc ls st h := by
  intro H locs lsA I hL hl
  unfold x_store at hs
  split at hs <;> try contradiction
  rename_i v st'
  split at hs <;> try contradiction
  rename_i hw
  obtain ⟨hw, hk, hc⟩ := hw
  cases v <;> try (cases hw; done)
  cases hs
  exact lv_istore_n hx hb hdg rfl hl (by omega) rfl (fun ls' hl' => K H locs ls' I (by rw [List.length_set]; exact hL) (a_as_set hc hk hl'))
theorem s_istore (hx : p.tables.exec = Jvm.exec) (hb : c.code = cc) (hdg : decode cc pc = .ok (.istore k, 2)) (hs : x_store k (pc + 2) ls st h a_isI = some (.inl (pc2, ls2, st2, h2))) (K : a_Ok p l e R s m args below meth c Q B cA D h0 nL pc2 ls2 st2 h2) : a_Ok p l e R s m args below meth c Q B cA D h0 nL pc ls st h := by
  intro H locs lsA I hL hl
  unfold x_store at hs
  split at hs <;> try contradiction
  rename_i v st'
  split at hs <;> try contradiction
  rename_i hw
  obtain ⟨hw, hk, hc⟩ := hw
  cases v <;> try (cases hw; done)
  cases hs
  exact lv_istore hx hb hdg hl (by omega) rfl (fun ls' hl' => K H locs ls' I (by rw [List.length_set]; exact hL) (a_as_set hc hk hl'))
theorem s_astore_n (hx : p.tables.exec = Jvm.exec) (hb : c.code = cc) {k : Fin 4} (hdg : decode cc pc = .ok (.astore_n k, 1)) (hs : x_store k (pc + 1) ls st h a_isR = some (.inl (pc2, ls2, st2, h2))) (K : a_Ok p l e R s m args below meth c Q B cA D h0 nL pc2 ls2 st2 h2) : a_Ok p l e R s m args below meth c Q B cA D h0 nL pc ls st h := by
  intro H locs lsA I hL hl
  unfold x_store at hs
  split at hs <;> try contradiction
  rename_i v st'
  split at hs <;> try contradiction
  rename_i hw
  obtain ⟨hw, hk, hc⟩ := hw
  cases v <;> try (cases hw; done)
  · cases hs
    exact lv_astore_nN hx hb hdg rfl hl (by omega) rfl (fun ls' hl' => K H locs ls' I (by rw [List.length_set]; exact hL) (a_as_set hc hk hl'))
  · cases hs
    exact lv_astore_n hx hb hdg rfl hl (by omega) rfl (fun ls' hl' => K H locs ls' I (by rw [List.length_set]; exact hL) (a_as_set hc hk hl'))
theorem s_astore (hx : p.tables.exec = Jvm.exec) (hb : c.code = cc) (hdg : decode cc pc = .ok (.astore k, 2)) (hs : x_store k (pc + 2) ls st h a_isR = some (.inl (pc2, ls2, st2, h2))) (K : a_Ok p l e R s m args below meth c Q B cA D h0 nL pc2 ls2 st2 h2) : a_Ok p l e R s m args below meth c Q B cA D h0 nL pc ls st h := by
  intro H locs lsA I hL hl
  unfold x_store at hs
  split at hs <;> try contradiction
  rename_i v st'
  split at hs <;> try contradiction
  rename_i hw
  obtain ⟨hw, hk, hc⟩ := hw
  cases v <;> try (cases hw; done)
  · cases hs
    exact lv_astoreN hx hb hdg hl (by omega) rfl (fun ls' hl' => K H locs ls' I (by rw [List.length_set]; exact hL) (a_as_set hc hk hl'))
  · cases hs
    exact lv_astore hx hb hdg hl (by omega) rfl (fun ls' hl' => K H locs ls' I (by rw [List.length_set]; exact hL) (a_as_set hc hk hl'))
theorem s_iinc (hx : p.tables.exec = Jvm.exec) (hb : c.code = cc) {n : Int} (hdg : decode cc pc = .ok (.iinc k n, 3)) (hs : x_iinc k n (pc + 3) ls st h = some (.inl (pc2, ls2, st2, h2))) (K : a_Ok p l e R s m args below meth c Q B cA D h0 nL pc2 ls2 st2 h2) : a_Ok p l e R s m args below meth c Q B cA D h0 nL pc ls st h := by
  intro H locs lsA I hL hl
  unfold x_iinc at hs
  split at hs <;> try contradiction
  rename_i x hv
  split at hs <;> try contradiction
  rename_i hc
  cases hs
  obtain ⟨j, hj⟩ := List.getElem?_of_mem (a_as_mem.mpr hv)
  have hk := (List.getElem?_eq_some_iff.mp hv).1
  exact lv_iinc hx hb hdg hl hj rfl (by omega) rfl (fun ls' hl' => K H locs ls' I (by rw [List.length_set]; exact hL) (a_as_set hc hk hl'))
end AS1

/-! THE CLAIM OUT OF ONE WALK OF THE LAW'S BODY. Your part is whole_start (and what it stands on); all else here is the same for every law, but numbers. -/
def R_law : String := "BeamHallLaw"
def lw_P (b : Addr) (xs : List Int32) (args : Array Value) (s : State) : Prop := args = #[.ref b] ∧ s.IntsAt b xs ∧ xs.length ≤ 4096 ∧ (Jvm.Cond.and given_1 narrow_1).before args s = true
def lw_Q (_ : Array Value) (s : State) (o : Outcome) (t : State) : Prop := o = .returned (some (.int 1)) ∧ Framed s o t [] 600000 7302250
def lw_Z (below : List Frame) (a : Array Value) (s : State) : State → Prop := fun t => ∃ o, t.status = .running ∧ Ended t below o ∧ lw_Q a s o t
/-- the law's own end, with 1 on the stack, nothing written that was there before, its room as the claim has it -/
theorem lw_ret {p : Program} {l : Launch} {e : Env} {s : State} {m : MethodId} {below : List Frame} {meth : Method} {c : Code} {b : Nat} (hx : p.tables.exec = Jvm.exec) (hb : c.code = code) (hr : meth.sig.returnType = ret) (hlocks : meth.locks = false) {pc : Nat} {H : Heap} {ls : Array Slot} (hdg : decode code pc = .ok (.ireturn, 1)) : W p l e room_1 s m #[Value.ref b] below meth c H [] 600000 7302250 (lw_Z below #[Value.ref b] s) (F0 m pc ls [.int 1]) := by
  intro T hT X
  obtain ⟨fs, hret, hrun, hended, hW, hframe⟩ := X.leave (v := some (.int 1)) (hlocks := hlocks) (fun h => by rw [hr] at h; cases h)
  have hmeth' : T.vm.method? m = some meth := X.method'
  refine ⟨T.setFrames fs, ?_, .returned (some (.int 1)), hrun, hended, rfl, ⟨_, rfl⟩, hW, hframe⟩
  jvm_step X.here [X.here.top, hx, hb, hdg, hmeth', hr, ret, narrow_b1]
  (try refine ⟨rfl, ?_⟩); (try refine ⟨rfl, ?_⟩)
  first | (intro acts; rw [hret _ acts rfl rfl rfl]) | rw [hret _ _ rfl rfl rfl]
  exact Steps.refl _
/-- what holds at the law's entry: the machine, the code, the tables' words (any of lw_tbl by 'hts w (by decide +kernel)'), the script of L ints xs at the cell b, what the Statement gives of the start (any of its parts by flat_of_before) -/
def lw_At (p : Program) (s : State) (m : MethodId) (meth : Method) (c : Code) (b L : Nat) (xs : Nat → Int32) : Prop :=
  p.tables.exec = Jvm.exec ∧ c.code = code ∧ meth.sig.returnType = ret ∧ c.maxLocals = 4 ∧ s.vm.findClass R_law = some m.cls ∧ (∀ w ∈ lw_tbl, w.before #[Value.ref b] s = true) ∧ va_X b L xs s s.heap ∧ b < s.heap.size ∧ meth.locks = false ∧ (Jvm.Cond.and given_1 narrow_1).before #[Value.ref b] s = true
/-! THE LAW over the plain machine -/
def a_h0 (B : Nat) : AH := (B, 0, fun _ => 0, fun _ => 0, fun _ _ => 0, fun _ _ => 0)
theorem a_choice {α β : Type} {P : α → β → Prop} (h : ∀ a, ∃ b, P a b) : ∃ f : α → β, ∀ a, P a (f a) := ⟨fun a => Classical.choose (h a), fun a => Classical.choose_spec (h a)⟩
theorem a_arrT {s : State} {cA comp : ClassId} {k : Class} {ty : FieldType} (h1 : s.vm.classes[cA]? = some k) (h2 : k.kind = .array comp ty) : ArrOfT s cA ty := fun n z => ⟨fun q hq => (by cases hq), k, h1, comp, h2⟩
set_option maxHeartbeats 4000000 in
theorem a_worlds {s : State} {args : Array Value} (hts : ∀ w ∈ lw_tbl, w.before args s = true) : ∃ (D : va_G) (cA : Nat → ClassId), a_K D cA s := by
  have hgood : ∀ w ∈ a_tb, w.before args s = true := fun w hw => hts w (a_tb_sub hw)
  have h1 : ∀ k : Nat, ∃ q : ClassId × (Nat → Nat), ∀ r : vw_C, vwCl[k]? = some r → u_Kn s r.1 r.2.1 r.2.2 q.1 q.2 := by
    intro k
    cases hk : vwCl[k]? with
    | none => exact ⟨(0, fun _ => 0), fun r h => by cases h⟩
    | some r =>
      obtain ⟨v1, v2, v3, v4, v5, -⟩ := a_vw _ _ hk
      obtain ⟨c, iS, hc⟩ := u_known hgood v1 (hgood _ v4)
      exact ⟨(c, iS), fun r' h => by cases h; exact hc⟩
  obtain ⟨F, hF⟩ := a_choice h1
  have hi : ∃ c : ClassId, ArrOfT s c .int ∧ va_RA s c .int := by
    obtain ⟨c, k, comp, q1, q2, q3⟩ := Cond.arrayClass_spec (show (Jvm.Cond.arrayClass .int).before args s = true from hgood _ a_arr_i)
    exact ⟨c, a_arrT q2 q3, q1⟩
  have hz : ∃ c : ClassId, ArrOfT s c .boolean ∧ va_RA s c .boolean := by
    obtain ⟨c, k, comp, q1, q2, q3⟩ := Cond.arrayClass_spec (show (Jvm.Cond.arrayClass .boolean).before args s = true from hgood _ a_arr_z)
    exact ⟨c, a_arrT q2 q3, q1⟩
  have ho : ∀ k : Nat, ∃ c : ClassId, k ∈ a_aks → ArrOfT s c (.object (a_own k)) ∧ va_RA s c (.object (a_own k)) := by
    intro k
    by_cases hk : k ∈ a_aks
    · obtain ⟨comp, c, kk, q1, q2, q3, q4, q5⟩ := Cond.arrayOver_spec (show (Jvm.Cond.arrayOver (.object (a_own k))).before args s = true from hts _ (a_aks_ok k hk))
      exact ⟨c, fun _ => ⟨a_arrT q3 q4, kk, comp, q3, q4, q1, q5⟩⟩
    · exact ⟨0, fun h => absurd h hk⟩
  obtain ⟨ci, hi⟩ := hi
  obtain ⟨cz, hz⟩ := hz
  obtain ⟨co, hco⟩ := a_choice ho
  refine ⟨(fun k => (F k).1, fun k => (F k).2), (fun n => if n = 20 then ci else if n = 21 then cz else co (n - 22)), ⟨fun k r h => hF k r h, fun k q h => ?_⟩, fun k hk => va_AO.of (hts _ (a_aks_ok k hk)), fun q hq => ?_⟩
  rotate_left
  · obtain ⟨M, hM, -, -, hw⟩ := a_ns_ok _ hq
    unfold a_nestWord
    rw [hM]
    exact va_Nw.of rfl (hts _ hw)
  have hm := List.mem_of_getElem? h
  unfold a_tys at hm
  rcases List.mem_cons.mp hm with rfl | hm
  · exact hi
  · rcases List.mem_cons.mp hm with rfl | hm
    · exact hz
    · obtain ⟨j, hj, rfl⟩ := List.mem_map.mp hm
      have e1 : (if 22 + j = 20 then ci else if 22 + j = 21 then cz else co (22 + j - 22)) = co j := by
        rw [if_neg (by omega), if_neg (by omega), show 22 + j - 22 = j by omega]
      show ArrOfT s (if 22 + j = 20 then ci else if 22 + j = 21 then cz else co (22 + j - 22)) _ ∧ va_RA s (if 22 + j = 20 then ci else if 22 + j = 21 then cz else co (22 + j - 22)) _
      rw [e1]
      exact hco j hj
/-- the end of the law: 1 on the stack -/
theorem a_lawret {sc : Option (Nat × Nat × (Nat → Int32))} {pc : Nat} {i : Instr} {len : Nat} {ls : AL} {st : List Value} {h : AH} {cc : ByteArray} (hdg : decode cc pc = .ok (i, len)) (hs : a_step sc 13 false (some .boolean) pc i len ls st h = some (.inr (.inr (some (.int 1))))) : st = [.int 1] ∧ decode cc pc = .ok (.ireturn, 1) := by
  unfold a_step at hs
  split at hs
  · exact (n_x_push hs).elim
  · exact (n_x_push hs).elim
  · exact (n_x_push hs).elim
  · exact (n_x_push hs).elim
  · exact (n_x_ldc hs).elim
  · exact (n_x_ldc hs).elim
  · exact (n_x_ldc2 hs).elim
  · exact (n_x_load hs).elim
  · exact (n_x_load hs).elim
  · exact (n_x_load hs).elim
  · exact (n_x_load hs).elim
  · exact (n_x_load hs).elim
  · exact (n_x_load hs).elim
  · exact (n_x_store hs).elim
  · exact (n_x_store hs).elim
  · exact (n_x_store hs).elim
  · exact (n_x_store hs).elim
  · exact (n_x_iinc hs).elim
  · exact (n_x_bin hs).elim
  · exact (n_x_bin hs).elim
  · exact (n_x_bin hs).elim
  · exact (n_x_bin hs).elim
  · exact (n_x_bin hs).elim
  · exact (n_x_bin hs).elim
  · exact (n_x_bin hs).elim
  · exact (n_x_bin hs).elim
  · exact (n_x_bin hs).elim
  · exact (n_x_div hs).elim
  · exact (n_x_div hs).elim
  · exact (n_x_neg hs).elim
  · exact (n_x_lbin hs).elim
  · exact (n_x_lbin hs).elim
  · exact (n_x_lsh hs).elim
  · exact (n_x_lsh hs).elim
  · exact (n_x_i2l hs).elim
  · exact (n_x_l2i hs).elim
  · exact (n_x_dup hs).elim
  · exact (n_x_dup2 hs).elim
  · exact (n_x_pop hs).elim
  · exact (n_x_if hs).elim
  · exact (n_x_icmp hs).elim
  · exact (n_x_null hs).elim
  · exact (n_x_null hs).elim
  · exact (n_x_acmp hs).elim
  · exact (n_x_acmp hs).elim
  · exact (n_a_to hs).elim
  · exact (n_x_table hs).elim
  · exact (n_x_look hs).elim
  · exact (n_x_getf hs).elim
  · exact (n_x_putf hs).elim
  · exact (n_x_iald hs).elim
  · exact (n_x_iald hs).elim
  · exact (n_x_aald hs).elim
  · exact (n_x_iast hs).elim
  · exact (n_x_zast hs).elim
  · exact (n_x_aast hs).elim
  · exact (n_x_alen hs).elim
  · exact (n_x_newarr hs).elim
  · exact (n_x_newarr hs).elim
  · exact (n_x_anew hs).elim
  · exact (n_x_new hs).elim
  · exact (r_x_inv hs).elim
  · exact (r_x_spec hs).elim
  · exact (r_x_stat hs).elim
  · unfold x_iret at hs
    split at hs
    · rename_i q
      cases q
    · split at hs <;> try contradiction
      cases hs
      exact ⟨rfl, hdg⟩
    · contradiction
  · unfold x_aret at hs
    split at hs
    · rename_i q
      cases q
    · rename_i q
      cases q
    · contradiction
  · unfold x_vret at hs
    split at hs <;> contradiction
  · contradiction
/-- the law's claim, of the plain machine alone -/
def a_Pure : Prop := ∀ (B b L : Nat) (xs : Nat → Int32), b < B → L ≤ 4096 → ∃ (fuel : Nat) (h1 : AH), a_run (a_meth fuel 700) (some (b, L, xs)) 13 false (some .boolean) code fuel 0 (a_init [.ref b] 4) [] (a_h0 B) = some (some (.int 1), h1) ∧ a_nx h1 ≤ B + 600000 ∧ a_tot h1 ≤ 7302250
set_option maxHeartbeats 4000000 in
theorem a_start (hpure : a_Pure) {p : Program} {e : Env} {s : State} {m : MethodId} {below : List Frame} {meth : Method} {c : Code} (l : Launch) {b L : Nat} {xs : Nat → Int32} (hL : L ≤ 4096) (C0 : lw_At p s m meth c b L xs) : W p l e room_1 s m #[Value.ref b] below meth c s.heap [] 0 0 (lw_Z below #[Value.ref b] s) (entryFrame m ([Value.ref b] : List Value).toArray 4) := by
  obtain ⟨hx, hb, hr, hml, hown, hts, hX, hbl, hlocks, hgv⟩ := id C0
  obtain ⟨D, cA, hK⟩ := a_worlds hts
  obtain ⟨fuel, h1, hrun, hn, ht⟩ := hpure s.heap.size b L xs hbl hL
  have hl := lv_entry ([.ref b]) (n := 4) (Nat.le_of_ble_eq_true rfl)
  rw [lg_entry_eq]
  generalize (lg_sl ([.ref b]) ++ List.replicate (4 - (lg_sl ([.ref b])).length) Slot.unset).toArray = lsA at hl ⊢
  have I : a_I s.heap.size cA D (a_h0 s.heap.size) (a_h0 s.heap.size) s s.heap [] := by
    refine ⟨by omega, Nat.le_refl _, Nat.le_refl _, Nat.le_refl _, rfl, rfl, fun a ha => absurd rfl ha, ?_, va_S.rf⟩
    intro k q hq
    rw [a_ws_at] at hq
    have : ¬ k < a_nx (a_h0 s.heap.size) - s.heap.size := by show ¬ k < s.heap.size - s.heap.size; omega
    rw [if_neg this] at hq
    cases hq
  have hcallok : ∀ mid as h r h', a_meth fuel 700 mid as h = some (r, h') → (a_nx h ≤ a_nx h' ∧ a_tot h ≤ a_tot h') ∧ ∀ M, a_ms[mid]? = some M → a_Met l s.heap.size cA D 700 M as h h' r := fun mid as h r h' q => a_meth_ok l s.heap.size cA D fuel 700 mid as h r h' q
  have hrunok := a_run_ok (p := p) (l := l) (e := e) (R := room_1) (s := s) (m := m) (args := #[Value.ref b]) (below := below) (meth := meth) (c := c) (Q := lw_Z below #[Value.ref b] s) (B := s.heap.size) (cA := cA) (D := D) (h0 := a_h0 s.heap.size) (h1 := h1) (nL := 4) (d := 700) (o := 13)
    hx hb hml hown (fun w hw => hts w (a_tb_sub hw)) hK (fun b' L' xs' q => by cases q; exact ⟨hX, hbl, hbl⟩) (fun q => by cases q) (by decide) (by decide) hcallok ⟨by show a_nx h1 - s.heap.size ≤ 600000; omega, by show a_tot h1 - 0 ≤ 7302250; omega⟩
    (fun pc i len ls st hdg hs H locs lsA I hL2 hl2 => by
      obtain ⟨rfl, hd2⟩ := a_lawret hdg hs
      refine va_forget (fun q hq => I.2.2.2.2.2.2.2.2.2.2 q hq) ?_
      refine W.widen (k := 600000) (n := 7302250) (by show a_nx h1 - s.heap.size ≤ 600000; omega) (by show a_tot h1 - 0 ≤ 7302250; omega) ?_
      exact lw_ret hx hb hr hlocks hd2) fuel 0 (a_init [.ref b] 4) [] (a_h0 s.heap.size) hrun
  have hw := hrunok s.heap [] lsA I rfl (a_init_has hl)
  rw [Nat.sub_self, Nat.sub_self] at hw
  exact hw

section AS5
variable {p : Program} {l : Launch} {e : Env} {R : Room} {s : State} {m : MethodId} {args : Array Value} {below : List Frame} {meth : Method} {c : Code} {Q : State → Prop}
variable {B : Nat} {cA : Nat → ClassId} {D : va_G} {h0 h h1 h2 : AH} {nL pc pc2 pc' k o idx : Nat} {ls ls2 : AL} {st st2 : List Value} {cc : ByteArray} {H : Heap} {locs : List Loc}
def a_rm (d nc ns : Nat) : Room := { frames := d, cells := nc, slots := ns, locals := 200 + 100 * d }
def a_Pre (B : Nat) (cA : Nat → ClassId) (D : va_G) (h : AH) : State → Prop := fun U => 1 ≤ B ∧ B ≤ a_nx h ∧ U.heap.size = a_nx h ∧ (∀ a, a_kd h a ≠ 0 → B ≤ a ∧ a < a_nx h) ∧ va_P D vwCl (a_ws B cA h) U.heap ∧ a_K D cA U
def a_Post (B : Nat) (cA : Nat → ClassId) (D : va_G) (h0 h1 : AH) (r : Option Value) : Array Value → State → Outcome → State → Prop := fun _ st oc t => oc = .returned r ∧ a_nx h0 ≤ a_nx h1 ∧ a_tot h0 ≤ a_tot h1 ∧ t.heap.size = a_nx h1 ∧ (∀ a, a_kd h1 a ≠ 0 → B ≤ a ∧ a < a_nx h1) ∧ va_P D vwCl (a_ws B cA h1) t.heap ∧ va_F (fun q => B ≤ q) st t
/-- what a method does, as a contract of the machine -/
def a_Met (l : Launch) (B : Nat) (cA : Nat → ClassId) (D : va_G) (d : Nat) (M : a_M) (as : List Value) (h0 h1 : AH) (r : Option Value) : Prop :=
  Met l M.2.1 (Jvm.Cond.code M.2.1 M.2.2.1 M.2.2.2.1 M.2.2.2.2.1 :: a_tb) (a_rm d (a_nx h1 - a_nx h0) (a_tot h1 - a_tot h0)) (va_Pc as (a_Pre B cA D h0)) (a_Post B cA D h0 h1 r) (a_nx h1 - a_nx h0) (a_tot h1 - a_tot h0) (fun q => B ≤ q)
theorem a_goodIn (M : a_M) (hM : a_okM M) : GoodIn a_tb (Jvm.Cond.code M.2.1 M.2.2.1 M.2.2.2.1 M.2.2.2.2.1 :: a_tb) := by
  intro w hw
  have hm : w ∈ a_tb := by
    rcases List.mem_cons.mp hw with rfl | q
    · exact hM.1
    · exact q
  exact ⟨hm, good_of_word (a_tb_good hm)⟩
theorem a_blind (as : List Value) : FrameBlind (va_Pc as (a_Pre B cA D h0)) := by
  intro a U g mk q
  obtain ⟨q0, q1, q2, q3, q4, q5, q6⟩ := q
  exact ⟨q0, q1, q2, q3, q4, q5, a_K.same (u := U) (U := U.calling g mk a) rfl q6⟩
theorem a_pre_of (I : a_I B cA D h0 h s H locs) (hK : a_K D cA s) (as : List Value) : ∀ U : State, U.heap = H → s.WarmedH U.vm → va_Pc as (a_Pre B cA D h) as.toArray U := by
  intro U hU hW
  obtain ⟨i1, i2, i3, i4, i5, i6, i7, i8, i9⟩ := I
  exact ⟨rfl, i1, by omega, by rw [hU]; exact i6, i7, by rw [hU]; exact i8, a_K.warm hW hK⟩
theorem a_after {g : JFrame} {rest : List Value} {as : List Value} {lsA : Array Slot} {r : Option Value} (I : a_I B cA D h0 h s H locs) (hL : ls.length = nL) (hl : lv_has lsA nL (a_as ls)) (hg : ({ g with pc := g.pc + 3, stack := r.toList ++ rest } : JFrame) = F0 m pc2 lsA (r.toList ++ rest))
    (hr : va_Run p l e R s m args below meth c H locs (a_nx h - a_nx h0) (a_tot h - a_tot h0) (a_nx h1 - a_nx h) (a_tot h1 - a_tot h) g rest (a_Post B cA D h h1 r as.toArray) (fun q => B ≤ q)) (K : a_Ok p l e R s m args below meth c Q B cA D h0 nL pc2 ls (r.toList ++ rest) h1) : W p l e R s m args below meth c H locs (a_nx h - a_nx h0) (a_tot h - a_tot h0) Q g := by
  intro T hT X
  obtain ⟨v, st₀, t, T', L, hh0, X', hL', e1, e2, ⟨hv, p0, p0', p1, p2, p3, p4, p5⟩, st⟩ := hr T hT X
  cases hv
  obtain ⟨i1, i2, i3, i4, i5, i6, i7, i8, i9⟩ := I
  have I' : a_I B cA D h0 h1 s T'.heap (locs ++ L) := by
    refine ⟨i1, i2, by omega, by omega, i5, by rw [e1]; exact p1, p2, by rw [e1]; exact p3, ?_, ?_, ?_⟩
    · rw [e1]
      have := i9.1
      rw [hh0] at p4
      omega
    · intro q q1 q2
      rw [e1, p5 q (by rw [hh0]; have := i9.1; omega) q2, hh0]
      exact i9.2.1 q q1 q2
    · intro q hq
      rcases List.mem_append.mp hq with z | z
      · exact i9.2.2 q z
      · exact hL' q z
  have k1 := K T'.heap (locs ++ L) lsA I' hL hl
  rw [show a_nx h1 - a_nx h0 = a_nx h - a_nx h0 + (a_nx h1 - a_nx h) by omega, show a_tot h1 - a_tot h0 = a_tot h - a_tot h0 + (a_tot h1 - a_tot h) by omega] at k1
  obtain ⟨t2, a1, b1⟩ := k1 T' rfl X'
  rw [← hg] at a1
  exact ⟨t2, st t2 a1, b1⟩
theorem a_ms_get {mid : Nat} {M : a_M} (h : a_ms[mid]? = some M) : a_np mid = M.2.2.2.2.2.1 ∧ a_ow mid = M.1 := by
  unfold a_np a_ow
  rw [h]
  exact ⟨rfl, rfl⟩
theorem a_callB {M : a_M} {d : Nat} (hM : a_okM M) (hts : ∀ w ∈ a_tb, w.before args s = true) {hh hh1 : AH} {own : String} {index : Nat} (hini : Jvm.Cond.initialized M.2.1.cls ∈ a_tb) (hlink : Jvm.Cond.methodLink own index M.2.1 ∈ a_tb) (hR1 : d + 1 ≤ R.frames) (hR2 : 300 + 100 * d ≤ R.locals) :
    CallB R s args own index M.2.1 M.2.2.1 M.2.2.2.1 M.2.2.2.2.1 (Jvm.Cond.code M.2.1 M.2.2.1 M.2.2.2.1 M.2.2.2.2.1 :: a_tb) (a_rm d (a_nx hh1 - a_nx hh) (a_tot hh1 - a_tot hh)) (a_nx hh1 - a_nx hh) (a_tot hh1 - a_tot hh) M.2.2.2.2.2.1 := by
  obtain ⟨m1, m2, m3, m4, m5, m6, m7⟩ := id hM
  exact callB_of _ hts (a_goodIn M hM) rfl rfl rfl (hts _ hini) (hts _ hlink) ⟨m4.1, m4.2, m5⟩ ⟨hR1, by show 8 + (M.2.2.2.1 + 11) + (200 + 100 * d) ≤ _; omega⟩
theorem a_split {n : Nat} {st : List Value} {b : Nat} {rest : List Value} (h : st.drop n = .ref b :: rest) : st = ((st.take n).reverse).reverse ++ .ref b :: rest := by
  rw [List.reverse_reverse, ← h, List.take_append_drop]
theorem s_inv {d : Nat} (hx : p.tables.exec = Jvm.exec) (hb : c.code = cc) (hml : c.maxLocals = nL) (hown : s.vm.findClass (a_own o) = some m.cls) (hts : ∀ w ∈ a_tb, w.before args s = true) (hK : a_K D cA s) (hR1 : d + 1 ≤ R.frames) (hR2 : 300 + 100 * d ≤ R.locals) {mid : Nat} {as : List Value} {r : Option Value}
    (hcall : ∀ M, a_ms[mid]? = some M → a_Met l B cA D d M as h h1 r) (hroom : a_nx h1 - a_nx h0 ≤ R.cells ∧ a_tot h1 - a_tot h0 ≤ R.slots) (hm1 : a_nx h ≤ a_nx h1) (hm2 : a_tot h ≤ a_tot h1) (hdg : decode cc pc = .ok (.invokevirtual idx, 3)) (hs : x_inv 0 o idx (pc + 3) ls st h = some (.inr (.inl (mid, as, pc2, st2)))) (K : a_Ok p l e R s m args below meth c Q B cA D h0 nL pc2 ls (r.toList ++ st2) h1) : a_Ok p l e R s m args below meth c Q B cA D h0 nL pc ls st h := by
  intro H locs lsA I hL hl
  unfold x_inv at hs
  split at hs <;> try contradiction
  rename_i o' i' t mid' hf
  split at hs <;> try contradiction
  rename_i b rest hdrop
  split at hs <;> try contradiction
  rename_i hc
  obtain ⟨c1, c2, c3, c4⟩ := hc
  obtain ⟨f1, f2⟩ := a_found hf
  simp only [Bool.and_eq_true, beq_iff_eq] at f2
  obtain ⟨rfl, rfl⟩ := f2
  subst c1
  cases hs
  obtain ⟨M, hM, w1, w2, w3, -, -⟩ := a_cl_ok _ f1
  have hok := a_ms_ok _ (List.mem_of_getElem? hM)
  obtain ⟨w4, w5, q, hq, hqc⟩ := w3 rfl
  obtain ⟨n1, n2⟩ := a_ms_get hM
  have hkd := c3 rfl
  rw [n2] at hkd
  obtain ⟨g1, g2⟩ := a_here I hkd (by omega)
  have hw := a_get (cA := cA) g1 g2
  rw [a_E_obj hkd (a_vw_lt hq)] at hw
  have hrecv := va_recv (q := q) hK.1 (a_P I) hq hw
  obtain ⟨i1, i2, i3, i4, i5, i6, i7, i8, i9⟩ := id I
  refine a_after (g := F0 m pc lsA st) I hL hl rfl (va_runV (As := (st.take (a_np mid)).reverse) (rest := st2) (C := q.1) ⟨hx, hb, hml, hown, hts⟩ (hcall M hM) ⟨a_callB hok hts w2 w1 hR1 hR2, hts _ w4, hts _ (by rw [hqc]; exact w5)⟩ ⟨a_blind _, hrecv, a_pre_of I hK _⟩ rfl ?_ hl.1 (a_split hdrop) (lv_room c4) hdg ⟨by omega, by omega⟩) K
  rw [List.length_reverse, List.length_take]
  have n3 : a_np mid = M.2.2.2.2.2.1 := n1
  omega
theorem s_invS {d : Nat} (hx : p.tables.exec = Jvm.exec) (hb : c.code = cc) (hml : c.maxLocals = nL) (hown : s.vm.findClass (a_own o) = some m.cls) (hts : ∀ w ∈ a_tb, w.before args s = true) (hK : a_K D cA s) (hR1 : d + 1 ≤ R.frames) (hR2 : 300 + 100 * d ≤ R.locals) {mid : Nat} {as : List Value} {r : Option Value}
    (hcall : ∀ M, a_ms[mid]? = some M → a_Met l B cA D d M as h h1 r) (hroom : a_nx h1 - a_nx h0 ≤ R.cells ∧ a_tot h1 - a_tot h0 ≤ R.slots) (hm1 : a_nx h ≤ a_nx h1) (hm2 : a_tot h ≤ a_tot h1) (hdg : decode cc pc = .ok (.invokestatic idx, 3)) (hs : x_stat o idx (pc + 3) ls st h = some (.inr (.inl (mid, as, pc2, st2)))) (K : a_Ok p l e R s m args below meth c Q B cA D h0 nL pc2 ls (r.toList ++ st2) h1) : a_Ok p l e R s m args below meth c Q B cA D h0 nL pc ls st h := by
  intro H locs lsA I hL hl
  unfold x_stat at hs
  split at hs
  · rename_i q hq
    exfalso
    unfold x_copy at hq
    split at hq <;> try contradiction
    split at hq <;> try contradiction
    cases hq
    cases hs
  split at hs
  rotate_left
  · unfold x_nest at hs
    split at hs <;> try contradiction
    rename_i o' i' mid' host hf
    split at hs <;> try contradiction
    rename_i hc
    obtain ⟨c2, c4⟩ := hc
    obtain ⟨f1, f2⟩ := a_found hf
    simp only [Bool.and_eq_true, beq_iff_eq] at f2
    obtain ⟨rfl, rfl⟩ := f2
    cases hs
    obtain ⟨M, hM, w1, w2, -⟩ := a_ns_ok _ f1
    have hok := a_ms_ok _ (List.mem_of_getElem? hM)
    obtain ⟨n1, n2⟩ := a_ms_get hM
    obtain ⟨i1, i2, i3, i4, i5, i6, i7, i8, i9⟩ := id I
    have hnw := hK.2.2 _ f1
    unfold a_nestWord at hnw
    rw [show a_ms[(o', i', mid, host).2.2.1]? = some M from hM] at hnw
    obtain ⟨m1, m2, m3, m4, m5, m6, m7⟩ := id hok
    refine a_after (g := F0 m pc lsA st) I hL hl rfl (va_runSN (host := host) (As := (st.take (a_np mid)).reverse) (rest := st.drop (a_np mid)) ⟨hx, hb, hml, hown, hts⟩ (hcall M hM) ⟨va_cnB _ hts (a_goodIn M hok) rfl rfl rfl hnw (hts _ w2) ⟨m4.1, m4.2, m5⟩ ⟨hR1, by show 8 + (M.2.2.2.1 + 11) + (200 + 100 * d) ≤ _; omega⟩, hts _ w1, trivial⟩ ⟨a_blind _, a_pre_of I hK _⟩ rfl ?_ hl.1 (by rw [List.reverse_reverse]; exact (List.take_append_drop _ _).symm) (lv_room c4) hdg ⟨by omega, by omega⟩) K
    rw [List.length_reverse, List.length_take]
    have n3 : a_np mid = M.2.2.2.2.2.1 := n1
    omega
  rename_i o' i' t mid' hf
  split at hs <;> try contradiction
  rename_i hc
  obtain ⟨c1, c2, c4⟩ := hc
  obtain ⟨f1, f2⟩ := a_found hf
  simp only [Bool.and_eq_true, beq_iff_eq] at f2
  obtain ⟨rfl, rfl⟩ := f2
  subst c1
  cases hs
  obtain ⟨M, hM, w1, w2, -, w3, -⟩ := a_cl_ok _ f1
  have hok := a_ms_ok _ (List.mem_of_getElem? hM)
  obtain ⟨n1, n2⟩ := a_ms_get hM
  obtain ⟨i1, i2, i3, i4, i5, i6, i7, i8, i9⟩ := id I
  refine a_after (g := F0 m pc lsA st) I hL hl rfl (va_runS (As := (st.take (a_np mid)).reverse) (rest := st.drop (a_np mid)) ⟨hx, hb, hml, hown, hts⟩ (hcall M hM) ⟨a_callB hok hts w2 w1 hR1 hR2, hts _ (w3 rfl)⟩ ⟨a_blind _, a_pre_of I hK _⟩ rfl ?_ hl.1 (by rw [List.reverse_reverse]; exact (List.take_append_drop _ _).symm) (lv_room c4) hdg ⟨by omega, by omega⟩) K
  rw [List.length_reverse, List.length_take]
  have n3 : a_np mid = M.2.2.2.2.2.1 := n1
  omega
theorem s_invI {d : Nat} (hx : p.tables.exec = Jvm.exec) (hb : c.code = cc) (hml : c.maxLocals = nL) (hown : s.vm.findClass (a_own o) = some m.cls) (hts : ∀ w ∈ a_tb, w.before args s = true) (hK : a_K D cA s) (hR1 : d + 1 ≤ R.frames) (hR2 : 300 + 100 * d ≤ R.locals) {mid : Nat} {as : List Value} {r : Option Value}
    (hcall : ∀ M, a_ms[mid]? = some M → a_Met l B cA D d M as h h1 r) (hroom : a_nx h1 - a_nx h0 ≤ R.cells ∧ a_tot h1 - a_tot h0 ≤ R.slots) (hm1 : a_nx h ≤ a_nx h1) (hm2 : a_tot h ≤ a_tot h1) (hdg : decode cc pc = .ok (.invokespecial idx, 3)) (hs : x_spec o idx (pc + 3) ls st h = some (.inr (.inl (mid, as, pc2, st2)))) (K : a_Ok p l e R s m args below meth c Q B cA D h0 nL pc2 ls (r.toList ++ st2) h1) : a_Ok p l e R s m args below meth c Q B cA D h0 nL pc ls st h := by
  intro H locs lsA I hL hl
  unfold x_spec at hs
  split at hs
  · rename_i q hq
    exfalso
    unfold x_obj at hq
    split at hq <;> try contradiction
    split at hq <;> try contradiction
    cases hq
    cases hs
  unfold x_inv at hs
  split at hs <;> try contradiction
  rename_i o' i' t mid' hf
  split at hs <;> try contradiction
  rename_i b rest hdrop
  split at hs <;> try contradiction
  rename_i hc
  obtain ⟨c1, c2, c3, c4⟩ := hc
  obtain ⟨f1, f2⟩ := a_found hf
  simp only [Bool.and_eq_true, beq_iff_eq] at f2
  obtain ⟨rfl, rfl⟩ := f2
  subst c1
  cases hs
  obtain ⟨M, hM, w1, w2, -, -, w3⟩ := a_cl_ok _ f1
  have hok := a_ms_ok _ (List.mem_of_getElem? hM)
  obtain ⟨w4, w5⟩ := w3 rfl
  obtain ⟨n1, n2⟩ := a_ms_get hM
  obtain ⟨i1, i2, i3, i4, i5, i6, i7, i8, i9⟩ := id I
  obtain ⟨hnm, hret⟩ := hok.2.2.2.2.2.1 w5
  have hcm := hcall M hM
  have hcb := a_callB (R := R) (hh := h) (hh1 := h1) hok hts w2 w1 hR1 hR2
  unfold a_Met at hcm
  rw [hret] at hcm hcb
  refine a_after (g := F0 m pc lsA st) I hL hl rfl (va_runI (As := (st.take (a_np mid)).reverse) (rest := st2) ⟨hx, hb, hml, hown, hts⟩ hcm ⟨hcb, hnm, hts _ w4⟩ ⟨a_blind _, a_pre_of I hK _⟩ rfl ?_ hl.1 (a_split hdrop) (lv_room c4) hdg ⟨by omega, by omega⟩) K
  rw [List.length_reverse, List.length_take]
  have n3 : a_np mid = M.2.2.2.2.2.1 := n1
  omega
end AS5

section AS4
variable {p : Program} {l : Launch} {e : Env} {R : Room} {s : State} {m : MethodId} {args : Array Value} {below : List Frame} {meth : Method} {c : Code} {Q : State → Prop}
variable {B : Nat} {cA : Nat → ClassId} {D : va_G} {h0 h h2 : AH} {nL pc pc2 pc' k o idx : Nat} {ls ls2 : AL} {st st2 : List Value} {cc : ByteArray} {H : Heap} {locs : List Loc}
theorem a_tys0 (cA : Nat → ClassId) : (a_tys cA)[0]? = some (cA 20, .int) := rfl
theorem a_tys1 (cA : Nat → ClassId) : (a_tys cA)[1]? = some (cA 21, .boolean) := rfl
theorem a_tysR (cA : Nat → ClassId) {k : Nat} (hk : k ∈ a_aks) : ∃ t : Nat, (a_tys cA)[t]? = some (cA (22 + k), .object (a_own k)) := by
  apply List.getElem?_of_mem
  unfold a_tys
  exact List.mem_cons_of_mem _ (List.mem_cons_of_mem _ (List.mem_map.mpr ⟨k, hk, rfl⟩))
def a_scOk (sc : Option (Nat × Nat × (Nat → Int32))) (B : Nat) (s : State) : Prop := ∀ b L xs, sc = some (b, L, xs) → va_X b L xs s s.heap ∧ b < s.heap.size ∧ b < B
theorem s_iaload {sc : Option (Nat × Nat × (Nat → Int32))} (hsc : a_scOk sc B s) (hx : p.tables.exec = Jvm.exec) (hb : c.code = cc) (hK : a_K D cA s) (hdg : decode cc pc = .ok (.iaload, 1)) (hs : x_iald sc 20 (pc + 1) ls st h = some (.inl (pc2, ls2, st2, h2))) (K : a_Ok p l e R s m args below meth c Q B cA D h0 nL pc2 ls2 st2 h2) : a_Ok p l e R s m args below meth c Q B cA D h0 nL pc ls st h := by
  intro H locs lsA I hL hl
  unfold x_iald at hs
  split at hs <;> try contradiction
  split at hs
  · rename_i hc
    cases hs
    obtain ⟨g1, g2⟩ := a_here I hc.1 (by omega)
    have hw := a_get (cA := cA) g1 g2
    rw [a_E_int hc.1 (by omega) (by omega)] at hw
    exact va_iald hx hb hK.1 (a_P I) _ 0 hw (a_tys0 cA) hc.2 hdg (K H locs lsA I hL hl)
  · split at hs <;> try contradiction
    split at hs <;> try contradiction
    rename_i b L xs hc
    obtain ⟨-, rfl, hin⟩ := hc
    cases hs
    obtain ⟨q1, q2, q3⟩ := hsc _ _ _ rfl
    exact va_sld hx hb q1 q2 (Nat.not_le.mpr q3) (a_S I) hin hdg (K H locs lsA I hL hl)
theorem s_baload (hx : p.tables.exec = Jvm.exec) (hb : c.code = cc) (hK : a_K D cA s) (hdg : decode cc pc = .ok (.baload, 1)) (hs : x_iald none 21 (pc + 1) ls st h = some (.inl (pc2, ls2, st2, h2))) (K : a_Ok p l e R s m args below meth c Q B cA D h0 nL pc2 ls2 st2 h2) : a_Ok p l e R s m args below meth c Q B cA D h0 nL pc ls st h := by
  intro H locs lsA I hL hl
  unfold x_iald at hs
  split at hs <;> try contradiction
  split at hs
  · rename_i hc
    cases hs
    obtain ⟨g1, g2⟩ := a_here I hc.1 (by omega)
    have hw := a_get (cA := cA) g1 g2
    rw [a_E_int hc.1 (by omega) (by omega)] at hw
    exact va_zald hx hb hK.1 (a_P I) _ 1 hw (a_tys1 cA) hc.2 hdg (K H locs lsA I hL hl)
  · contradiction
theorem s_aaload (hx : p.tables.exec = Jvm.exec) (hb : c.code = cc) (hK : a_K D cA s) (hdg : decode cc pc = .ok (.aaload, 1)) (hs : x_aald (pc + 1) ls st h = some (.inl (pc2, ls2, st2, h2))) (K : a_Ok p l e R s m args below meth c Q B cA D h0 nL pc2 ls2 st2 h2) : a_Ok p l e R s m args below meth c Q B cA D h0 nL pc ls st h := by
  intro H locs lsA I hL hl
  unfold x_aald at hs
  split at hs <;> try contradiction
  split at hs <;> try contradiction
  rename_i a st' hc
  obtain ⟨c1, c2, c3⟩ := hc
  cases hs
  obtain ⟨g1, g2⟩ := a_here I (a := a) rfl (by omega)
  have hw := a_get (cA := cA) g1 g2
  rw [a_E_ref rfl c2] at hw
  obtain ⟨t0, ht⟩ := a_tysR cA (List.contains_iff_mem.mp c1)
  rw [show 22 + (a_kd h a - 22) = a_kd h a by omega] at ht
  refine va_aldq hx hb hK.1 (a_P I) _ t0 hw ht c3 hdg ?_
  rw [a_rf_op]
  exact K H locs lsA I hL hl
theorem s_iastore (hx : p.tables.exec = Jvm.exec) (hb : c.code = cc) (hK : a_K D cA s) (hdg : decode cc pc = .ok (.iastore, 1)) (hs : x_iast (pc + 1) ls st h = some (.inl (pc2, ls2, st2, h2))) (K : a_Ok p l e R s m args below meth c Q B cA D h0 nL pc2 ls2 st2 h2) : a_Ok p l e R s m args below meth c Q B cA D h0 nL pc ls st h := by
  intro H locs lsA I hL hl
  unfold x_iast at hs
  split at hs <;> try contradiction
  split at hs <;> try contradiction
  rename_i x i a st' hc
  cases hs
  obtain ⟨g1, g2⟩ := a_here I hc.1 (by omega)
  have hw := a_get (cA := cA) g1 g2
  rw [a_E_int hc.1 (by omega) (by omega)] at hw
  refine va_iast hx hb hK.1 (a_P I) (a_D B cA h) (a_S I) _ 0 hw (a_tys0 cA) hc.2 hdg fun H1 locs1 hP1 _ hS1 => ?_
  refine a_wrote (h' := a_setI h a i.toNatClampNeg x) I g1 g2 rfl rfl rfl ?_ (fun y hy => a_E_setI_ne hy) hP1 hS1 hL hl K
  rw [a_E_int (h := a_setI h a i.toNatClampNeg x) hc.1 (by omega) (by omega)]
  congr 3
  congr 1
  funext j
  simp [a_iv, a_setI, a_ui, upd]
theorem s_bastore (hx : p.tables.exec = Jvm.exec) (hb : c.code = cc) (hK : a_K D cA s) (hdg : decode cc pc = .ok (.bastore, 1)) (hs : x_zast (pc + 1) ls st h = some (.inl (pc2, ls2, st2, h2))) (K : a_Ok p l e R s m args below meth c Q B cA D h0 nL pc2 ls2 st2 h2) : a_Ok p l e R s m args below meth c Q B cA D h0 nL pc ls st h := by
  intro H locs lsA I hL hl
  unfold x_zast at hs
  split at hs <;> try contradiction
  split at hs <;> try contradiction
  rename_i x i a st' hc
  cases hs
  obtain ⟨g1, g2⟩ := a_here I hc.1 (by omega)
  have hw := a_get (cA := cA) g1 g2
  rw [a_E_int hc.1 (by omega) (by omega)] at hw
  refine va_zast hx hb hK.1 (a_P I) (a_D B cA h) (a_S I) _ 1 hw (a_tys1 cA) hc.2 hdg fun H1 locs1 hP1 _ hS1 => ?_
  refine a_wrote (h' := a_setI h a i.toNatClampNeg (x &&& 1)) I g1 g2 rfl rfl rfl ?_ (fun y hy => a_E_setI_ne hy) hP1 hS1 hL hl K
  rw [a_E_int (h := a_setI h a i.toNatClampNeg (x &&& 1)) hc.1 (by omega) (by omega)]
  congr 3
  congr 1
  funext j
  simp [a_iv, a_setI, a_ui, upd, vp_nar, narrow]
theorem a_E_setR_self {a i v : Nat} (hk : 22 ≤ a_kd h a) : a_E cA (a_setR h a i v) a = .inl (cA (a_kd h a), a_ln h a, .inr (.inr (.inr (.inr (va_up (fun j => a_op (a_rv h a j)) i (a_op v)))))) := by
  rw [a_E_ref (h := a_setR h a i v) rfl hk]
  congr 3
  congr 4
  funext j
  simp only [a_rv, a_setR, a_ur, va_up]
  by_cases hj : j = i
  · simp [hj]
  · simp [hj]
theorem s_aastore (hx : p.tables.exec = Jvm.exec) (hb : c.code = cc) (hK : a_K D cA s) (hdg : decode cc pc = .ok (.aastore, 1)) (hs : x_aast (pc + 1) ls st h = some (.inl (pc2, ls2, st2, h2))) (K : a_Ok p l e R s m args below meth c Q B cA D h0 nL pc2 ls2 st2 h2) : a_Ok p l e R s m args below meth c Q B cA D h0 nL pc ls st h := by
  intro H locs lsA I hL hl
  unfold x_aast at hs
  split at hs <;> try contradiction
  split at hs <;> try contradiction
  rename_i v i a st' hc
  obtain ⟨c1, c2, c3⟩ := hc
  obtain ⟨g1, g2⟩ := a_here I (a := a) rfl (by omega)
  have hw := a_get (cA := cA) g1 g2
  rw [a_E_ref rfl c2] at hw
  have hmem := List.contains_iff_mem.mp c1
  obtain ⟨t0, ht⟩ := a_tysR cA hmem
  rw [show 22 + (a_kd h a - 22) = a_kd h a by omega] at ht
  split at hs <;> try contradiction
  · cases hs
    refine va_astqN hx hb hK.1 (a_P I) (a_D B cA h) (a_S I) _ t0 hw ht c3 hdg fun H1 locs1 hP1 _ hS1 => ?_
    exact a_wrote (h' := a_setR h a i.toNatClampNeg 0) I g1 g2 rfl rfl rfl (a_E_setR_self c2) (fun y hy => a_E_setR_ne hy) hP1 hS1 hL hl K
  · rename_i r
    split at hs <;> try contradiction
    rename_i hr
    cases hs
    obtain ⟨q1, q2⟩ := a_here I hr.1 (by omega)
    have hr1 : ∃ r0, vwCl[a_kd h a - 22]? = some r0 := by
      have h9 : a_kd h a - 22 < vwCl.length := by
        have : ∀ z ∈ a_aks, z < vwCl.length := by decide
        exact this _ hmem
      exact ⟨_, List.getElem?_eq_getElem h9⟩
    obtain ⟨r0, hr0⟩ := hr1
    have hv := a_get (cA := cA) q1 q2
    rw [a_E_obj hr.1 (a_vw_lt hr0)] at hv
    have v5 := (a_vw _ _ hr0).2.2.2.2.1
    rw [v5] at ht
    refine va_astq (r := r0) hx hb hK.1 (a_P I) (a_D B cA h) (a_S I) _ t0 _ (a_kd h a - 22) hw ht hv hr0 c3 hdg fun H1 locs1 hP1 _ hS1 => ?_
    refine a_wrote (h' := a_setR h a i.toNatClampNeg r) I g1 g2 rfl rfl rfl ((a_E_setR_self c2).trans ?_) (fun y hy => a_E_setR_ne hy) hP1 hS1 hL hl K
    unfold a_op
    rw [if_neg hr.2]
theorem s_alen {sc : Option (Nat × Nat × (Nat → Int32))} (hsc : a_scOk sc B s) (hx : p.tables.exec = Jvm.exec) (hb : c.code = cc) (hK : a_K D cA s) (hdg : decode cc pc = .ok (.arraylength, 1)) (hs : x_alen sc (pc + 1) ls st h = some (.inl (pc2, ls2, st2, h2))) (K : a_Ok p l e R s m args below meth c Q B cA D h0 nL pc2 ls2 st2 h2) : a_Ok p l e R s m args below meth c Q B cA D h0 nL pc ls st h := by
  intro H locs lsA I hL hl
  unfold x_alen at hs
  split at hs <;> try contradiction
  rename_i a st'
  split at hs
  · rename_i hc
    cases hs
    obtain ⟨g1, g2⟩ := a_here I (a := a) rfl (by omega)
    have hw := a_get (cA := cA) g1 g2
    by_cases h22 : a_kd h a < 22
    · rw [a_E_int rfl hc.1 h22] at hw
      by_cases h20 : a_kd h a = 20
      · rw [h20] at hw
        exact va_alen hx hb hK.1 (a_P I) _ 0 hw (a_tys0 cA) rfl hdg (K H locs lsA I hL hl)
      · rw [show a_kd h a = 21 by omega] at hw
        exact va_alen hx hb hK.1 (a_P I) _ 1 hw (a_tys1 cA) rfl hdg (K H locs lsA I hL hl)
    · rw [a_E_ref rfl (by omega)] at hw
      have hmem := List.contains_iff_mem.mp (hc.2.resolve_left h22)
      obtain ⟨t0, ht⟩ := a_tysR cA hmem
      rw [show 22 + (a_kd h a - 22) = a_kd h a by omega] at ht
      exact va_alen hx hb hK.1 (a_P I) _ t0 hw ht rfl hdg (K H locs lsA I hL hl)
  · split at hs <;> try contradiction
    split at hs <;> try contradiction
    rename_i b L xs hc
    subst hc
    cases hs
    obtain ⟨q1, q2, q3⟩ := hsc _ _ _ rfl
    exact va_slen hx hb q1 q2 (Nat.not_le.mpr q3) (a_S I) hdg (K H locs lsA I hL hl)
theorem a_E_mk_lt {kind N x : Nat} (hx : x < a_nx h) : a_E cA (a_mk h kind N) x = a_E cA h x := by
  have hne : x ≠ a_nx h := by omega
  have h1 : a_kd (a_mk h kind N) x = a_kd h x := by simp [a_kd, a_mk, a_up, hne]
  have h3 : a_ln (a_mk h kind N) x = a_ln h x := by simp [a_ln, a_mk, a_up, hne]
  have h4 : a_iv (a_mk h kind N) x = a_iv h x := by funext j; simp [a_iv, a_mk, hne]
  have h5 : a_rv (a_mk h kind N) x = a_rv h x := by funext j; simp [a_rv, a_mk, hne]
  have h6 : a_slot (a_mk h kind N) x = a_slot h x := by funext c' j; unfold a_slot; rw [h4, h5]
  unfold a_E
  rw [h1, h3, h4, h5, h6]
/-- behind a making -/
theorem a_made {kind N q : Nat} {e1 : va_E} {H1 : Heap} {locs1 : List Loc} {lsA : Array Slot} (I : a_I B cA D h0 h s H locs) (hkind : kind ≠ 0) (he : a_E cA (a_mk h kind N) (a_nx h) = e1)
    (hP : va_P D vwCl (a_ws B cA h ++ [(q, e1)]) H1) (hD : va_D (fun q => B ≤ q) (a_ws B cA h ++ [(q, e1)])) (hS : va_S (fun q => B ≤ q) s.heap H1 locs1) (hL : ls2.length = nL) (hl : lv_has lsA nL (a_as ls2)) (K : a_Ok p l e R s m args below meth c Q B cA D h0 nL pc2 ls2 (.ref (a_nx h) :: st2) (a_mk h kind N)) : W p l e R s m args below meth c H1 locs1 (a_nx h - a_nx h0 + 1) (a_tot h - a_tot h0 + N) Q (F0 m pc2 lsA (.ref q :: st2)) := by
  refine a_sz fun hu => ?_
  obtain ⟨i1, i2, i3, i4, i5, i6, i7, i8, i9⟩ := id I
  have hlen : (a_ws B cA h).length = a_nx h - B := by unfold a_ws va_pl; simp
  have hlast : (a_ws B cA h ++ [(q, e1)])[a_nx h - B]? = some (q, e1) := by rw [List.getElem?_append_right (by omega), hlen]; simp
  have q1 := (hP _ _ hlast).lt
  have q2 := hD.2 _ _ hlast
  have hq : q = a_nx h := by
    simp only at q1 q2
    by_cases hlt : q < a_nx h
    · have h9 := a_get (cA := cA) q2 hlt
      have h10 : (a_ws B cA h ++ [(q, e1)])[q - B]? = some (q, a_E cA h q) := by rw [List.getElem?_append_left (by omega)]; exact h9
      have := hD.1 _ _ _ _ h10 hlast rfl
      omega
    · omega
  subst hq
  rw [a_pushw (h' := a_mk h kind N) (by omega) rfl he (fun x hx => a_E_mk_lt hx)] at hP
  have I' : a_I B cA D h0 (a_mk h kind N) s H1 locs1 := by
    refine a_I_of I (by show a_nx h ≤ a_nx h + 1; omega) (by show a_tot h ≤ a_tot h + N; omega) (fun x hx => ?_) hP hS (by show _ ≤ s.heap.size + (a_nx h + 1 - a_nx h0); omega)
    show B ≤ x ∧ x < a_nx h + 1
    by_cases hxn : x = a_nx h
    · omega
    · have h8 : a_kd h x ≠ 0 := by
        have h1 : a_kd (a_mk h kind N) x = a_kd h x := by simp [a_kd, a_mk, a_up, hxn]
        rw [← h1]; exact hx
      have := i7 x h8
      omega
  have := K H1 locs1 lsA I' hL hl
  rw [show a_nx (a_mk h kind N) - a_nx h0 = a_nx h - a_nx h0 + 1 by show a_nx h + 1 - a_nx h0 = _; omega, show a_tot (a_mk h kind N) - a_tot h0 = a_tot h - a_tot h0 + N by show a_tot h + N - a_tot h0 = _; omega] at this
  exact this
theorem a_E_mk_obj {c' N : Nat} (hc : c' < 19) : a_E cA (a_mk h (c' + 1) N) (a_nx h) = .inr (c', (List.range (a_N c')).map (fun k => if a_fty c' k = 2 then .null else .int 0)) := by
  rw [a_E_obj (c := c') (by simp [a_kd, a_mk, a_up]) hc]
  congr 2
  apply List.map_congr_left
  intro k _
  simp [a_slot, a_iv, a_rv, a_mk, a_rf]
theorem a_E_mk_int {kind N : Nat} (h1 : 20 ≤ kind) (h2 : kind < 22) : a_E cA (a_mk h kind N) (a_nx h) = .inl (cA kind, N, .inl (fun _ => 0)) := by
  rw [a_E_int (k := kind) (by simp [a_kd, a_mk, a_up]) h1 h2]
  have e1 : a_ln (a_mk h kind N) (a_nx h) = N := by simp [a_ln, a_mk, a_up]
  have e2 : a_iv (a_mk h kind N) (a_nx h) = fun _ => 0 := by funext j; simp [a_iv, a_mk]
  rw [e1, e2]
theorem a_E_mk_ref {kind N : Nat} (h1 : 22 ≤ kind) : a_E cA (a_mk h kind N) (a_nx h) = .inl (cA kind, N, .inr (.inr (.inr (.inr (fun _ => none))))) := by
  rw [a_E_ref (k := kind) (by simp [a_kd, a_mk, a_up]) h1]
  have e1 : a_ln (a_mk h kind N) (a_nx h) = N := by simp [a_ln, a_mk, a_up]
  have e2 : ∀ j, a_rv (a_mk h kind N) (a_nx h) j = 0 := by intro j; simp [a_rv, a_mk]
  rw [e1]
  simp only [e2]
  rfl
theorem a_lastK {cA' : ClassId} {ty : FieldType} (hK1 : va_K D vwCl (a_tys cA ++ [(cA', ty)]) s) : va_RA s cA' ty := by
  have : (a_tys cA ++ [(cA', ty)])[(a_tys cA).length]? = some (cA', ty) := by rw [List.getElem?_append_right (Nat.le_refl _)]; simp
  exact (hK1.2 _ _ this).2
theorem s_newint (hx : p.tables.exec = Jvm.exec) (hb : c.code = cc) (hts : ∀ w ∈ a_tb, w.before args s = true) (hK : a_K D cA s) (hroom : a_nx h2 - a_nx h0 ≤ R.cells ∧ a_tot h2 - a_tot h0 ≤ R.slots) (hdg : decode cc pc = .ok (.newarray .int, 2)) (hs : x_newarr 20 (pc + 2) ls st h = some (.inl (pc2, ls2, st2, h2))) (K : a_Ok p l e R s m args below meth c Q B cA D h0 nL pc2 ls2 st2 h2) : a_Ok p l e R s m args below meth c Q B cA D h0 nL pc ls st h := by
  intro H locs lsA I hL hl
  unfold x_newarr at hs
  split at hs <;> try contradiction
  split at hs <;> try contradiction
  rename_i n st' hc
  cases hs
  obtain ⟨r1, r2⟩ := hroom
  have r1 : a_nx h + 1 - a_nx h0 ≤ R.cells := r1
  have r2 : a_tot h + n.toNatClampNeg - a_tot h0 ≤ R.slots := r2
  have i3 := I.2.2.1
  have i4 := I.2.2.2.1
  have i5 := I.2.2.2.2.1
  have i2 := I.2.1
  refine va_newa (atype := .int) (ty := .int) (a0 := (n.toNatClampNeg, .inl (fun _ => 0))) hx hb (hts _ a_arr_i) rfl hK.1 (a_P I) (a_D B cA h) (a_S I) (fun q hq => by show B ≤ q; omega) (fun _ => rfl) hc.1 rfl (by show n.toNatClampNeg * 4 ≤ _; omega) (by omega) (by omega) hdg fun q cA' H1 hK1 hP1 hD1 hS1 => ?_
  have e1 : cA' = cA 20 := Option.some.inj ((a_lastK hK1).symm.trans (hK.1.2 0 _ (a_tys0 cA)).2)
  subst e1
  exact a_made I (by omega) (a_E_mk_int (by omega) (by omega)) hP1 hD1 hS1 hL hl K
theorem s_newbool (hx : p.tables.exec = Jvm.exec) (hb : c.code = cc) (hts : ∀ w ∈ a_tb, w.before args s = true) (hK : a_K D cA s) (hroom : a_nx h2 - a_nx h0 ≤ R.cells ∧ a_tot h2 - a_tot h0 ≤ R.slots) (hdg : decode cc pc = .ok (.newarray .boolean, 2)) (hs : x_newarr 21 (pc + 2) ls st h = some (.inl (pc2, ls2, st2, h2))) (K : a_Ok p l e R s m args below meth c Q B cA D h0 nL pc2 ls2 st2 h2) : a_Ok p l e R s m args below meth c Q B cA D h0 nL pc ls st h := by
  intro H locs lsA I hL hl
  unfold x_newarr at hs
  split at hs <;> try contradiction
  split at hs <;> try contradiction
  rename_i n st' hc
  cases hs
  obtain ⟨r1, r2⟩ := hroom
  have r1 : a_nx h + 1 - a_nx h0 ≤ R.cells := r1
  have r2 : a_tot h + n.toNatClampNeg - a_tot h0 ≤ R.slots := r2
  have i3 := I.2.2.1
  have i4 := I.2.2.2.1
  have i5 := I.2.2.2.2.1
  have i2 := I.2.1
  refine va_newa (atype := .boolean) (ty := .boolean) (a0 := (n.toNatClampNeg, .inl (fun _ => 0))) hx hb (hts _ a_arr_z) rfl hK.1 (a_P I) (a_D B cA h) (a_S I) (fun q hq => by show B ≤ q; omega) (fun _ => rfl) hc.1 rfl (by show n.toNatClampNeg * 1 ≤ _; omega) (by omega) (by omega) hdg fun q cA' H1 hK1 hP1 hD1 hS1 => ?_
  have e1 : cA' = cA 21 := Option.some.inj ((a_lastK hK1).symm.trans (hK.1.2 1 _ (a_tys1 cA)).2)
  subst e1
  exact a_made I (by omega) (a_E_mk_int (by omega) (by omega)) hP1 hD1 hS1 hL hl K
theorem s_anew (hx : p.tables.exec = Jvm.exec) (hb : c.code = cc) (hown : s.vm.findClass (a_own o) = some m.cls) (hts : ∀ w ∈ a_tb, w.before args s = true) (hK : a_K D cA s) (hroom : a_nx h2 - a_nx h0 ≤ R.cells ∧ a_tot h2 - a_tot h0 ≤ R.slots) (hdg : decode cc pc = .ok (.anewarray idx, 3)) (hs : x_anew o idx (pc + 3) ls st h = some (.inl (pc2, ls2, st2, h2))) (K : a_Ok p l e R s m args below meth c Q B cA D h0 nL pc2 ls2 st2 h2) : a_Ok p l e R s m args below meth c Q B cA D h0 nL pc ls st h := by
  intro H locs lsA I hL hl
  unfold x_anew at hs
  split at hs <;> try contradiction
  rename_i o' i' ci hf
  obtain ⟨f1, f2⟩ := a_found hf
  simp only [Bool.and_eq_true, beq_iff_eq] at f2
  obtain ⟨rfl, rfl⟩ := f2
  obtain ⟨r, hr, hlink, hmem, hnm⟩ := a_an_ok _ f1
  unfold x_newarr at hs
  split at hs <;> try contradiction
  split at hs <;> try contradiction
  rename_i n st' hc
  cases hs
  obtain ⟨r1, r2⟩ := hroom
  have r1 : a_nx h + 1 - a_nx h0 ≤ R.cells := r1
  have r2 : a_tot h + n.toNatClampNeg - a_tot h0 ≤ R.slots := r2
  have i3 := I.2.2.1
  have i4 := I.2.2.2.1
  have i5 := I.2.2.2.2.1
  have i2 := I.2.1
  have hao : va_AO r.1 s := by rw [← hnm]; exact hK.2.1 _ hmem
  refine va_newq (C := r.1) hx hb hown (hts _ hlink) hao hK.1 (a_P I) (a_D B cA h) (a_S I) (fun q hq => by show B ≤ q; omega) hc.1 rfl (by omega) (by omega) (by omega) hdg fun q cA' H1 hK1 hP1 hD1 hS1 => ?_
  have e1 : cA' = cA (22 + ci) := by
    obtain ⟨t0, ht⟩ := a_tysR cA hmem
    obtain ⟨k1, c1, -, -, -, e1⟩ := a_lastK hK1
    rw [hnm] at ht
    obtain ⟨k2, c2, -, -, -, e2⟩ := (hK.1.2 t0 _ ht).2
    exact Option.some.inj (e1.symm.trans e2)
  subst e1
  exact a_made I (by omega) (a_E_mk_ref (by omega)) hP1 hD1 hS1 hL hl K
theorem s_new (hx : p.tables.exec = Jvm.exec) (hb : c.code = cc) (hown : s.vm.findClass (a_own o) = some m.cls) (hts : ∀ w ∈ a_tb, w.before args s = true) (hK : a_K D cA s) (hroom : a_nx h2 - a_nx h0 ≤ R.cells ∧ a_tot h2 - a_tot h0 ≤ R.slots) (hdg : decode cc pc = .ok (.new idx, 3)) (hs : x_new o idx (pc + 3) ls st h = some (.inl (pc2, ls2, st2, h2))) (K : a_Ok p l e R s m args below meth c Q B cA D h0 nL pc2 ls2 st2 h2) : a_Ok p l e R s m args below meth c Q B cA D h0 nL pc ls st h := by
  intro H locs lsA I hL hl
  unfold x_new at hs
  split at hs <;> try contradiction
  rename_i o' i' ci hf
  obtain ⟨f1, f2⟩ := a_found hf
  simp only [Bool.and_eq_true, beq_iff_eq] at f2
  obtain ⟨rfl, rfl⟩ := f2
  obtain ⟨r, hr, hlink, hinst, hini⟩ := a_nw_ok _ f1
  obtain ⟨v1, v2, v3, v4, v5, ty, v6, v7⟩ := a_vw _ _ hr
  cases hs
  obtain ⟨r1, r2⟩ := hroom
  have r1 : a_nx h + 1 - a_nx h0 ≤ R.cells := r1
  have r2 : a_tot h + a_N ci - a_tot h0 ≤ R.slots := r2
  have i3 := I.2.2.1
  have i4 := I.2.2.2.1
  have i5 := I.2.2.2.2.1
  have i2 := I.2.1
  refine va_new (D := D) (C := r.1) (T := r.2.1) (N := r.2.2) (fs := (List.range (a_N ci)).map (fun k => if a_fty ci k = 2 then .null else .int 0)) hx hb hts v1 ty v6 hown (hts _ hlink) (hts _ hinst) (hts _ hini) hK.1 (a_P I) (a_D B cA h) (a_S I) (fun q hq => by show B ≤ q; omega) hr ?_ (by omega) (by have v2' : a_N ci = r.2.2 := v2; rw [← v2']; omega) hdg fun q H1 hP1 hD1 hS1 => ?_
  · intro j hj
    have hj2 : j < a_N ci := by rw [v2]; exact hj
    have e1 : vp_V ((List.range (a_N ci)).map (fun k => if a_fty ci k = 2 then Value.null else .int 0)) j = if a_fty ci j = 2 then .null else .int 0 := by
      unfold vp_V
      rw [List.getD_eq_getElem?_getD, List.getElem?_map, List.getElem?_range hj2]
      rfl
    rw [e1]
    obtain ⟨-, -, w3⟩ := v7 j hj
    rcases w3 with ⟨q, w⟩ | ⟨q, w⟩ | ⟨q, ⟨n, w⟩ | ⟨t, w⟩⟩ <;> rw [w, q] <;> rfl
  · rw [← v2]
    exact a_made I (by omega) (a_E_mk_obj (a_vw_lt hr)) hP1 hD1 hS1 hL hl K
theorem a_cpw : nativeFrameWords "java/lang/System" "arraycopy" 5 ≤ 100 := by decide +kernel
theorem s_obj (hx : p.tables.exec = Jvm.exec) (hb : c.code = cc) (hml : c.maxLocals = nL) (hown : s.vm.findClass (a_own o) = some m.cls) (hts : ∀ w ∈ a_tb, w.before args s = true) (hR1 : 1 ≤ R.frames) (hR2 : 200 ≤ R.locals) (hdg : decode cc pc = .ok (.invokespecial idx, 3)) (hs : x_obj o idx (pc + 3) ls st h = some (.inl (pc2, ls2, st2, h2))) (K : a_Ok p l e R s m args below meth c Q B cA D h0 nL pc2 ls2 st2 h2) : a_Ok p l e R s m args below meth c Q B cA D h0 nL pc ls st h := by
  intro H locs lsA I hL hl
  unfold x_obj at hs
  split at hs <;> try contradiction
  split at hs <;> try contradiction
  rename_i a st' hc
  obtain ⟨c1, c2⟩ := hc
  obtain ⟨q, hf⟩ := Option.isSome_iff_exists.mp c1
  obtain ⟨f1, f2⟩ := a_found hf
  simp only [Bool.and_eq_true, beq_iff_eq] at f2
  obtain ⟨rfl, rfl⟩ := f2
  cases hs
  refine W.objInit hx hb hown (hts _ (a_ob_ok _ f1)) (hts _ a_obj_i) (hts _ a_obj_c) rfl (by rw [hml]; exact hl.1) rfl hdg hR1 (by show 2 * 0 + a_sum st2 + 12 ≤ _; omega) ?_
  exact K H locs lsA I hL hl
theorem s_copy (hx : p.tables.exec = Jvm.exec) (hb : c.code = cc) (hml : c.maxLocals = nL) (hown : s.vm.findClass (a_own o) = some m.cls) (hts : ∀ w ∈ a_tb, w.before args s = true) (hK : a_K D cA s) (hR1 : 1 ≤ R.frames) (hR2 : 200 ≤ R.locals) (hdg : decode cc pc = .ok (.invokestatic idx, 3)) (hs : x_copy o idx (pc + 3) ls st h = some (.inl (pc2, ls2, st2, h2))) (K : a_Ok p l e R s m args below meth c Q B cA D h0 nL pc2 ls2 st2 h2) : a_Ok p l e R s m args below meth c Q B cA D h0 nL pc ls st h := by
  intro H locs lsA I hL hl
  unfold x_copy at hs
  split at hs <;> try contradiction
  split at hs <;> try contradiction
  rename_i n dp b sp a st' hc
  obtain ⟨c1, c2, c3, c4, c5, c6, c7, c8, c9⟩ := hc
  obtain ⟨q, hf⟩ := Option.isSome_iff_exists.mp c1
  obtain ⟨f1, f2⟩ := a_found hf
  simp only [Bool.and_eq_true, beq_iff_eq] at f2
  obtain ⟨rfl, rfl⟩ := f2
  cases hs
  obtain ⟨g1, g2⟩ := a_here I c2 (by omega)
  obtain ⟨g3, g4⟩ := a_here I c3 (by omega)
  have hwa := a_get (cA := cA) g1 g2
  rw [a_E_int c2 (by omega) (by omega)] at hwa
  have hwb := a_get (cA := cA) g3 g4
  rw [a_E_int c3 (by omega) (by omega)] at hwb
  have hcw := a_cpw
  refine va_copyi (ty := .int) hx hb (by rw [hml]; exact hl.1.symm) hown (hts _ (a_cp_ok _ f1)) (hts _ a_cp_n) (hts _ a_cp_s) (hts _ a_cp_i) hK.1 (a_P I) (a_D B cA h) (a_S I) _ _ 0 0 hwa hwb (a_tys0 cA) (a_tys0 cA) rfl c4 c5 c6 c7 c8 (fun _ _ => rfl) hR1 (by show a_sum st2 + _ ≤ _; omega) hdg fun H1 locs1 hP1 _ hS1 => ?_
  have hcE : ∀ x, x ≠ b → a_E cA (a_copy h a b sp.toNatClampNeg dp.toNatClampNeg n.toNatClampNeg) x = a_E cA h x := by
    intro x hxb
    have h1 : a_iv (a_copy h a b sp.toNatClampNeg dp.toNatClampNeg n.toNatClampNeg) x = a_iv h x := by funext j; simp [a_iv, a_copy, hxb]
    have h3 : a_slot (a_copy h a b sp.toNatClampNeg dp.toNatClampNeg n.toNatClampNeg) x = a_slot h x := by funext c' j; unfold a_slot; rw [h1]; rfl
    unfold a_E
    rw [h1, h3]
    rfl
  refine a_wrote (h' := a_copy h a b sp.toNatClampNeg dp.toNatClampNeg n.toNatClampNeg) I g3 g4 rfl rfl rfl ?_ hcE hP1 hS1 hL hl K
  rw [a_E_int (h := a_copy h a b sp.toNatClampNeg dp.toNatClampNeg n.toNatClampNeg) c3 (by omega) (by omega)]
  congr 3
  congr 1
  funext j
  simp [a_iv, a_copy]
end AS4

section AS3
variable {p : Program} {l : Launch} {e : Env} {R : Room} {s : State} {m : MethodId} {args : Array Value} {below : List Frame} {meth : Method} {c : Code} {Q : State → Prop}
variable {B : Nat} {cA : Nat → ClassId} {D : va_G} {h0 h h2 : AH} {nL pc pc2 pc' k o idx : Nat} {ls ls2 : AL} {st st2 : List Value} {cc : ByteArray} {H : Heap} {locs : List Loc}
theorem a_E_obj {cA : Nat → ClassId} {h : AH} {a c : Nat} (hk : a_kd h a = c + 1) (hc : c < 19) : a_E cA h a = .inr (c, (List.range (a_N c)).map (a_slot h a c)) := by
  unfold a_E
  rw [if_pos (by omega), hk]
  rfl
theorem a_E_int {cA : Nat → ClassId} {h : AH} {a k : Nat} (hk : a_kd h a = k) (h1 : 20 ≤ k) (h2 : k < 22) : a_E cA h a = .inl (cA k, a_ln h a, .inl (a_iv h a)) := by
  unfold a_E
  rw [if_neg (by omega), if_pos (by omega), hk]
theorem a_E_ref {cA : Nat → ClassId} {h : AH} {a k : Nat} (hk : a_kd h a = k) (h1 : 22 ≤ k) : a_E cA h a = .inl (cA k, a_ln h a, .inr (.inr (.inr (.inr (fun j => a_op (a_rv h a j)))))) := by
  unfold a_E
  rw [if_neg (by omega), if_neg (by omega), hk]
theorem a_here (I : a_I B cA D h0 h s H locs) {a k : Nat} (hk : a_kd h a = k) (h1 : k ≠ 0) : B ≤ a ∧ a < a_nx h := I.2.2.2.2.2.2.1 a (by rw [hk]; exact h1)
theorem a_P (I : a_I B cA D h0 h s H locs) : va_P D vwCl (a_ws B cA h) H := I.2.2.2.2.2.2.2.1
theorem a_S (I : a_I B cA D h0 h s H locs) : va_S (fun q => B ≤ q) s.heap H locs := I.2.2.2.2.2.2.2.2
theorem a_slot_at {h : AH} {a c k N : Nat} (hk : k < N) : ((List.range N).map (a_slot h a c))[k]? = some (a_slot h a c k) := by
  rw [List.getElem?_map, List.getElem?_range hk]; rfl
theorem a_vw_lt {c : Nat} {r : vw_C} (h : vwCl[c]? = some r) : c < 19 := Nat.lt_of_lt_of_le (List.getElem?_eq_some_iff.mp h).1 (by decide)
theorem s_getf (hx : p.tables.exec = Jvm.exec) (hb : c.code = cc) (hown : s.vm.findClass (a_own o) = some m.cls) (hts : ∀ w ∈ a_tb, w.before args s = true) (hK : a_K D cA s) (hdg : decode cc pc = .ok (.getfield idx, 3)) (hs : x_getf o idx (pc + 3) ls st h = some (.inl (pc2, ls2, st2, h2))) (K : a_Ok p l e R s m args below meth c Q B cA D h0 nL pc2 ls2 st2 h2) : a_Ok p l e R s m args below meth c Q B cA D h0 nL pc ls st h := by
  intro H locs lsA I hL hl
  unfold x_getf at hs
  split at hs <;> try contradiction
  rename_i a st' o' i' ci k hf
  split at hs <;> try contradiction
  rename_i hkd
  cases hs
  obtain ⟨h1, h2⟩ := a_found hf
  simp only [Bool.and_eq_true, beq_iff_eq] at h2
  obtain ⟨rfl, rfl⟩ := h2
  obtain ⟨r, hr, hkN, hlink⟩ := a_fl_ok _ h1
  obtain ⟨v1, v2, v3, v4, v5, ty, v6, v7⟩ := a_vw _ _ hr
  obtain ⟨g1, g2⟩ := a_here I hkd (by omega)
  have hw := a_get (cA := cA) g1 g2
  rw [a_E_obj hkd (a_vw_lt hr)] at hw
  exact va_get (D := D) (C := r.1) (T := r.2.1) (N := r.2.2) hx hb hts v1 hown hK.1 (a_P I) (a - B) hw hr k hkN (hts _ hlink) (fun _ q => q) (a_slot_at (by rw [v2]; exact hkN)) hdg (K H locs lsA I hL hl)
theorem a_rf_op (r : Nat) : va_rf (a_op r) = a_rf r := by
  unfold a_op a_rf
  by_cases h : r = 0
  · rw [if_pos h, if_pos h]; rfl
  · rw [if_neg h, if_neg h]; rfl
/-- behind a write into one cell -/
theorem a_wrote {h' : AH} {a : Nat} {e1 : va_E} {H1 : Heap} {locs1 : List Loc} {lsA : Array Slot} (I : a_I B cA D h0 h s H locs) (g1 : B ≤ a) (g2 : a < a_nx h) (hn : a_nx h' = a_nx h) (ht : a_tot h' = a_tot h) (hk : a_kd h' = a_kd h) (he : a_E cA h' a = e1) (ho : ∀ x, x ≠ a → a_E cA h' x = a_E cA h x)
    (hP : va_P D vwCl ((a_ws B cA h).set (a - B) (a, e1)) H1) (hS : va_S (fun q => B ≤ q) s.heap H1 locs1) (hL : ls2.length = nL) (hl : lv_has lsA nL (a_as ls2)) (K : a_Ok p l e R s m args below meth c Q B cA D h0 nL pc2 ls2 st2 h') : W p l e R s m args below meth c H1 locs1 (a_nx h - a_nx h0) (a_tot h - a_tot h0) Q (F0 m pc2 lsA st2) := by
  refine a_sz fun hu => ?_
  rw [a_setw g1 g2 hn he ho] at hP
  have I' : a_I B cA D h0 h' s H1 locs1 := a_I_of I (by omega) (by omega) (fun x hx => by rw [hk] at hx; rw [hn]; exact I.2.2.2.2.2.2.1 x hx) hP hS (by rw [hn]; exact hu)
  have := K H1 locs1 lsA I' hL hl
  rw [hn, ht] at this
  exact this
theorem a_set_map {N k : Nat} {f g : Nat → Value} {v : Value} (hk : k < N) (h1 : g k = v) (h2 : ∀ j, j ≠ k → g j = f j) : (((List.range N).map f).set k v) = (List.range N).map g := by
  apply List.ext_getElem?
  intro j
  by_cases hj : j = k
  · subst hj
    rw [List.getElem?_set_self (by simpa using hk), List.getElem?_map, List.getElem?_range hk]
    simp [h1]
  · rw [List.getElem?_set_ne (Ne.symm hj), List.getElem?_map, List.getElem?_map]
    by_cases hn : j < N
    · rw [List.getElem?_range hn]; simp [h2 j hj]
    · rw [List.getElem?_eq_none (by simp; omega)]; rfl
theorem a_E_setI_ne {a k x : Nat} {v : Int32} (hx : x ≠ a) : a_E cA (a_setI h a k v) x = a_E cA h x := by
  have h1 : ∀ j, a_iv (a_setI h a k v) x j = a_iv h x j := fun j => by simp [a_iv, a_setI, a_ui, hx]
  have h2 : a_iv (a_setI h a k v) x = a_iv h x := funext h1
  have h3 : a_slot (a_setI h a k v) x = a_slot h x := by funext c' j; unfold a_slot; rw [h1]; rfl
  unfold a_E
  rw [h2, h3]
  rfl
theorem a_E_setR_ne {a k x v : Nat} (hx : x ≠ a) : a_E cA (a_setR h a k v) x = a_E cA h x := by
  have h1 : ∀ j, a_rv (a_setR h a k v) x j = a_rv h x j := fun j => by simp [a_rv, a_setR, a_ur, hx]
  have h3 : a_slot (a_setR h a k v) x = a_slot h x := by funext c' j; unfold a_slot; rw [h1]; rfl
  unfold a_E
  rw [h3]
  simp only [h1]
  rfl
theorem a_slot_setI_self {a c' k : Nat} {v : Int32} (h1 : a_fty c' k ≠ 2) : a_slot (a_setI h a k v) a c' k = .int v := by
  unfold a_slot
  rw [if_neg h1]
  simp [a_iv, a_setI, a_ui]
theorem a_slot_setI_ne {a c' k j : Nat} {v : Int32} (hj : j ≠ k) : a_slot (a_setI h a k v) a c' j = a_slot h a c' j := by
  unfold a_slot
  have : a_iv (a_setI h a k v) a j = a_iv h a j := by simp [a_iv, a_setI, a_ui, hj]
  rw [this]; rfl
theorem a_slot_setR_self {a c' k v : Nat} (h1 : a_fty c' k = 2) : a_slot (a_setR h a k v) a c' k = a_rf v := by
  unfold a_slot
  rw [if_pos h1]
  simp [a_rv, a_setR, a_ur]
theorem a_slot_setR_ne {a c' k j v : Nat} (hj : j ≠ k) : a_slot (a_setR h a k v) a c' j = a_slot h a c' j := by
  unfold a_slot
  have : a_rv (a_setR h a k v) a j = a_rv h a j := by simp [a_rv, a_setR, a_ur, hj]
  rw [this]; rfl
/-- a field is written: by the two rows for fields that are final and fields that aren't -/
theorem s_putf1 (hx : p.tables.exec = Jvm.exec) (hb : c.code = cc) {ini : Bool} (hini : ini = true → meth.name = "<init>") (hown : s.vm.findClass (a_own o) = some m.cls) (hts : ∀ w ∈ a_tb, w.before args s = true) (hK : a_K D cA s) {a ci k : Nat} {v : Value} {h' : AH} {lsA : Array Slot}
    (hdg : decode cc pc = .ok (.putfield idx, 3)) (hf : a_fld o idx = some (o, idx, ci, k)) (hkd : a_kd h a = ci + 1) (hfi : a_fin ci k = true → ini = true ∧ ci = o)
    (hv : ∀ ty : FieldType, ((a_fty ci k = 0 ∧ ty = .int) ∨ (a_fty ci k = 1 ∧ ty = .boolean) ∨ (a_fty ci k = 2 ∧ ((∃ n, ty = .object n) ∨ ∃ t, ty = .array t))) → narrow ty v = v ∧ fits ty v = true)
    (hn : a_nx h' = a_nx h) (ht : a_tot h' = a_tot h) (hkk : a_kd h' = a_kd h) (hself : a_slot h' a ci k = v) (hoth : ∀ j, j ≠ k → a_slot h' a ci j = a_slot h a ci j) (ho : ∀ x, x ≠ a → a_E cA h' x = a_E cA h x)
    (I : a_I B cA D h0 h s H locs) (hL : ls.length = nL) (hl : lv_has lsA nL (a_as ls)) (K : a_Ok p l e R s m args below meth c Q B cA D h0 nL (pc + 3) ls st h') : W p l e R s m args below meth c H locs (a_nx h - a_nx h0) (a_tot h - a_tot h0) Q (F0 m pc lsA (v :: .ref a :: st)) := by
  obtain ⟨h1, -⟩ := a_found hf
  obtain ⟨r, hr, hkN, hlink⟩ := a_fl_ok _ h1
  obtain ⟨v1, v2, v3, v4, v5, ty, v6, v7⟩ := a_vw _ _ hr
  obtain ⟨w1, w2, w3⟩ := v7 k hkN
  obtain ⟨n1, n2⟩ := hv (ty k) w3
  obtain ⟨g1, g2⟩ := a_here I hkd (by omega)
  have hw := a_get (cA := cA) g1 g2
  rw [a_E_obj hkd (a_vw_lt hr)] at hw
  have he : a_E cA h' a = .inr (ci, ((List.range (a_N ci)).map (a_slot h a ci)).set k v) := by
    rw [a_E_obj (by rw [hkk]; exact hkd) (a_vw_lt hr), a_set_map (g := a_slot h' a ci) (by rw [v2]; exact hkN) hself hoth]
  by_cases hfb : a_fin ci k = true
  · obtain ⟨f1, f2⟩ := hfi hfb
    refine va_putF (D := D) (C := r.1) (T := r.2.1) (N := r.2.2) hx hb hts v1 ty v6 v3 hown hK.1 (a_P I) (a_D B cA h) (a_S I) (a - B) hw hr k hkN (hts _ hlink) (fun _ q => q) (by rw [w2]; exact hfb) (hini f1) (by rw [w1, ← v5, f2]) (v6 k hkN) n1 n2 (by simp [v2]; exact hkN) hdg fun H1 locs1 hP1 _ hS1 => ?_
    exact a_wrote I g1 g2 hn ht hkk he ho hP1 hS1 hL hl K
  · refine va_put (D := D) (C := r.1) (T := r.2.1) (N := r.2.2) hx hb hts v1 ty v6 v3 hown hK.1 (a_P I) (a_D B cA h) (a_S I) (a - B) hw hr k hkN (hts _ hlink) (fun _ q => q) (by rw [w2]; simpa using hfb) (v6 k hkN) n1 n2 (by simp [v2]; exact hkN) hdg fun H1 locs1 hP1 _ hS1 => ?_
    exact a_wrote I g1 g2 hn ht hkk he ho hP1 hS1 hL hl K
theorem s_putf (hx : p.tables.exec = Jvm.exec) (hb : c.code = cc) {ini : Bool} (hini : ini = true → meth.name = "<init>") (hown : s.vm.findClass (a_own o) = some m.cls) (hts : ∀ w ∈ a_tb, w.before args s = true) (hK : a_K D cA s) (hdg : decode cc pc = .ok (.putfield idx, 3)) (hs : x_putf o ini idx (pc + 3) ls st h = some (.inl (pc2, ls2, st2, h2))) (K : a_Ok p l e R s m args below meth c Q B cA D h0 nL pc2 ls2 st2 h2) : a_Ok p l e R s m args below meth c Q B cA D h0 nL pc ls st h := by
  intro H locs lsA I hL hl
  unfold x_putf at hs
  split at hs <;> try contradiction
  rename_i v a st' o' i' ci k hf
  split at hs <;> try contradiction
  rename_i hc
  obtain ⟨hkd, hfi⟩ := hc
  have hf2 := (a_found hf).2
  simp only [Bool.and_eq_true, beq_iff_eq] at hf2
  obtain ⟨rfl, rfl⟩ := hf2
  split at hs <;> try contradiction
  · rename_i x
    split at hs <;> try contradiction
    rename_i hty
    cases hs
    refine s_putf1 (h' := a_setI h a k x) hx hb hini hown hts hK hdg hf hkd hfi ?_ rfl rfl rfl (a_slot_setI_self (by omega)) (fun j hj => a_slot_setI_ne hj) (fun x hx => a_E_setI_ne hx) I hL hl K
    rintro ty (⟨q, rfl⟩ | ⟨q, rfl⟩ | ⟨q, -⟩)
    · exact ⟨rfl, rfl⟩
    · rcases hty with h1 | ⟨-, rfl | rfl⟩
      · omega
      · exact ⟨rfl, rfl⟩
      · exact ⟨rfl, rfl⟩
    · omega
  · rename_i r
    split at hs <;> try contradiction
    rename_i hty
    cases hs
    refine s_putf1 (h' := a_setR h a k r) hx hb hini hown hts hK hdg hf hkd hfi ?_ rfl rfl rfl ((a_slot_setR_self hty.1).trans (by unfold a_rf; rw [if_neg hty.2])) (fun j hj => a_slot_setR_ne hj) (fun x hx => a_E_setR_ne hx) I hL hl K
    rintro ty (⟨q, rfl⟩ | ⟨q, rfl⟩ | ⟨-, ⟨n, rfl⟩ | ⟨t, rfl⟩⟩)
    · omega
    · omega
    · exact ⟨rfl, rfl⟩
    · exact ⟨rfl, rfl⟩
  · split at hs <;> try contradiction
    rename_i hty
    cases hs
    refine s_putf1 (h' := a_setR h a k 0) hx hb hini hown hts hK hdg hf hkd hfi ?_ rfl rfl rfl ((a_slot_setR_self hty).trans rfl) (fun j hj => a_slot_setR_ne hj) (fun x hx => a_E_setR_ne hx) I hL hl K
    rintro ty (⟨q, rfl⟩ | ⟨q, rfl⟩ | ⟨-, ⟨n, rfl⟩ | ⟨t, rfl⟩⟩)
    · omega
    · omega
    · exact ⟨rfl, rfl⟩
    · exact ⟨rfl, rfl⟩
end AS3

section AG2
variable {d : Nat} {x : a_X} {pc : Nat} {ls : AL} {st : List Value} {h : AH} {P : Option Value → AH → Prop}
variable {n t : Nat} {K L : Nat → Nat} {I : Nat → Nat → Int32} {Rv : Nat → Nat → Nat}
def a_isRA (k : Nat) : Bool := a_aks.contains (k - 22) && decide (22 ≤ k)
def a_isA (k : Nat) : Bool := decide (20 ≤ k) && (decide (k < 22) || a_aks.contains (k - 22))
theorem g_aald {pc' a : Nat} {j : Int32} {i : Instr} {len : Nat} (hd : decode x.2.2.2.2 pc = .ok (i, len)) (hs : a_step x.1 x.2.1 x.2.2.1 x.2.2.2.1 pc i len ls (.int j :: a_rf a :: st) (n, t, K, L, I, Rv) = x_aald pc' ls (.int j :: a_rf a :: st) (n, t, K, L, I, Rv)) : a_at d x pc ls (.int j :: a_rf a :: st) (n, t, K, L, I, Rv) P ↔ (¬ a = 0 ∧ a_isRA (K a) = true ∧ a_ok j (L a)) ∧ a_at d x pc' ls (a_rf (Rv a j.toNatClampNeg) :: st) (n, t, K, L, I, Rv) P := by
  by_cases ha : a = 0
  · subst ha
    rw [a_go_no hd (hs.trans (by unfold x_aald; rw [a_rf_zero]))]
    exact ⟨fun q => q.elim, fun q => q.1.1 rfl⟩
  · have hs2 := hs.trans (show x_aald pc' ls (.int j :: a_rf a :: st) (n, t, K, L, I, Rv) = if a_aks.contains (K a - 22) = true ∧ 22 ≤ K a ∧ ¬ (j < 0 ∨ L a ≤ j.toNatClampNeg) then a_go pc' ls (a_rf (Rv a j.toNatClampNeg) :: st) (n, t, K, L, I, Rv) else none by unfold x_aald; rw [a_rf_pos ha]; rfl)
    rw [a_go_if hd hs2]
    unfold a_isRA
    simp only [Bool.and_eq_true, decide_eq_true_eq]
    exact ⟨fun q => ⟨⟨ha, ⟨q.1.1, q.1.2.1⟩, q.1.2.2⟩, q.2⟩, fun q => ⟨⟨q.1.2.1.1, q.1.2.1.2, q.1.2.2⟩, q.2⟩⟩
theorem g_aast {pc' a r : Nat} {j : Int32} {i : Instr} {len : Nat} (hd : decode x.2.2.2.2 pc = .ok (i, len)) (hs : a_step x.1 x.2.1 x.2.2.1 x.2.2.2.1 pc i len ls (a_rf r :: .int j :: a_rf a :: st) (n, t, K, L, I, Rv) = x_aast pc' ls (a_rf r :: .int j :: a_rf a :: st) (n, t, K, L, I, Rv)) : a_at d x pc ls (a_rf r :: .int j :: a_rf a :: st) (n, t, K, L, I, Rv) P ↔ (¬ a = 0 ∧ a_isRA (K a) = true ∧ a_ok j (L a) ∧ (r = 0 ∨ K r = K a - 22 + 1)) ∧ a_at d x pc' ls st (n, t, K, L, I, a_ur Rv a j.toNatClampNeg r) P := by
  by_cases ha : a = 0
  · subst ha
    rw [a_go_no hd (hs.trans (by unfold x_aast; rw [a_rf_zero]))]
    exact ⟨fun q => q.elim, fun q => q.1.1 rfl⟩
  · have e1 : a_kd (n, t, K, L, I, Rv) a = K a := rfl
    have e2 : a_kd (n, t, K, L, I, Rv) r = K r := rfl
    have e3 : a_ln (n, t, K, L, I, Rv) a = L a := rfl
    have hs2 := hs.trans (show x_aast pc' ls (a_rf r :: .int j :: a_rf a :: st) (n, t, K, L, I, Rv) = if (a_aks.contains (K a - 22) = true ∧ 22 ≤ K a ∧ ¬ (j < 0 ∨ L a ≤ j.toNatClampNeg)) ∧ (r = 0 ∨ K r = K a - 22 + 1) then a_go pc' ls st (n, t, K, L, I, a_ur Rv a j.toNatClampNeg r) else none by
      unfold x_aast
      rw [a_rf_pos ha]
      by_cases hr : r = 0
      · subst hr
        rw [a_rf_zero]
        simp only [e1, e3, true_or, and_true]
        rfl
      · rw [a_rf_pos hr]
        simp only [e1, e2, e3, hr, false_or]
        by_cases hc : a_aks.contains (K a - 22) = true ∧ 22 ≤ K a ∧ ¬ (j < 0 ∨ L a ≤ j.toNatClampNeg)
        · rw [if_pos hc]
          by_cases hk : K r = K a - 22 + 1
          · rw [if_pos ⟨hk, hr⟩, if_pos ⟨hc, hk⟩]; rfl
          · rw [if_neg (fun q => hk q.1), if_neg (fun q => hk q.2)]
        · rw [if_neg hc, if_neg (fun q => hc q.1)])
    rw [a_go_if hd hs2]
    unfold a_isRA
    simp only [Bool.and_eq_true, decide_eq_true_eq]
    exact ⟨fun q => ⟨⟨ha, ⟨q.1.1.1, q.1.1.2.1⟩, q.1.1.2.2, q.1.2⟩, q.2⟩, fun q => ⟨⟨⟨q.1.2.1.1, q.1.2.1.2, q.1.2.2.1⟩, q.1.2.2.2⟩, q.2⟩⟩
theorem g_alen {pc' a : Nat} {i : Instr} {len : Nat} (hd : decode x.2.2.2.2 pc = .ok (i, len)) (hs : a_step x.1 x.2.1 x.2.2.1 x.2.2.2.1 pc i len ls (a_rf a :: st) (n, t, K, L, I, Rv) = x_alen none pc' ls (a_rf a :: st) (n, t, K, L, I, Rv)) : a_at d x pc ls (a_rf a :: st) (n, t, K, L, I, Rv) P ↔ (¬ a = 0 ∧ a_isA (K a) = true) ∧ a_at d x pc' ls (.int (Int32.ofNat (L a)) :: st) (n, t, K, L, I, Rv) P := by
  by_cases ha : a = 0
  · subst ha
    rw [a_go_no hd (hs.trans (by unfold x_alen; rw [a_rf_zero]))]
    exact ⟨fun q => q.elim, fun q => q.1.1 rfl⟩
  · have hs2 := hs.trans (show x_alen none pc' ls (a_rf a :: st) (n, t, K, L, I, Rv) = if 20 ≤ K a ∧ (K a < 22 ∨ a_aks.contains (K a - 22) = true) then a_go pc' ls (.int (Int32.ofNat (L a)) :: st) (n, t, K, L, I, Rv) else none by unfold x_alen; rw [a_rf_pos ha]; rfl)
    rw [a_go_if hd hs2]
    unfold a_isA
    simp only [Bool.and_eq_true, Bool.or_eq_true, decide_eq_true_eq]
    exact ⟨fun q => ⟨⟨ha, q.1⟩, q.2⟩, fun q => ⟨q.1.2, q.2⟩⟩
def a_zi (f : Nat → Nat → Int32) (a : Nat) : Nat → Nat → Int32 := fun x j => if x = a then 0 else f x j
def a_zr (f : Nat → Nat → Nat) (a : Nat) : Nat → Nat → Nat := fun x j => if x = a then 0 else f x j
theorem g_newarr {kind pc' : Nat} {v : Int32} {i : Instr} {len : Nat} (hd : decode x.2.2.2.2 pc = .ok (i, len)) (hs : a_step x.1 x.2.1 x.2.2.1 x.2.2.2.1 pc i len ls (.int v :: st) (n + 1, t, K, L, I, Rv) = x_newarr kind pc' ls (.int v :: st) (n + 1, t, K, L, I, Rv)) : a_at d x pc ls (.int v :: st) (n + 1, t, K, L, I, Rv) P ↔ (¬ v < 0 ∧ v.toNatClampNeg ≤ 1000000) ∧ a_at d x pc' ls (a_rf (n + 1) :: st) (n + 1 + 1, t + v.toNatClampNeg, a_up K (n + 1) kind, a_up L (n + 1) v.toNatClampNeg, a_zi I (n + 1), a_zr Rv (n + 1)) P := by
  have hs2 := hs.trans (show x_newarr kind pc' ls (.int v :: st) (n + 1, t, K, L, I, Rv) = if ¬ v < 0 ∧ v.toNatClampNeg ≤ 1000000 then a_go pc' ls (a_rf (n + 1) :: st) (n + 1 + 1, t + v.toNatClampNeg, a_up K (n + 1) kind, a_up L (n + 1) v.toNatClampNeg, a_zi I (n + 1), a_zr Rv (n + 1)) else none by rw [a_rf_pos (Nat.succ_ne_zero n)]; rfl)
  exact a_go_if hd hs2
theorem g_new {idx pc' c o' i' : Nat} {i : Instr} {len : Nat} (hd : decode x.2.2.2.2 pc = .ok (i, len)) (hs : a_step x.1 x.2.1 x.2.2.1 x.2.2.2.1 pc i len ls st (n + 1, t, K, L, I, Rv) = x_new x.2.1 idx pc' ls st (n + 1, t, K, L, I, Rv)) (hf : a_nw.find? (fun e => e.1 == x.2.1 && e.2.1 == idx) = some (o', i', c)) : a_at d x pc ls st (n + 1, t, K, L, I, Rv) P ↔ a_at d x pc' ls (a_rf (n + 1) :: st) (n + 1 + 1, t + a_N c, a_up K (n + 1) (c + 1), a_up L (n + 1) (a_N c), a_zi I (n + 1), a_zr Rv (n + 1)) P := by
  refine a_go_at hd (hs.trans ?_)
  unfold x_new
  rw [hf, a_rf_pos (Nat.succ_ne_zero n)]
  rfl
theorem g_anew {idx pc' c o' i' : Nat} {v : Int32} {i : Instr} {len : Nat} (hd : decode x.2.2.2.2 pc = .ok (i, len)) (hs : a_step x.1 x.2.1 x.2.2.1 x.2.2.2.1 pc i len ls (.int v :: st) (n + 1, t, K, L, I, Rv) = x_anew x.2.1 idx pc' ls (.int v :: st) (n + 1, t, K, L, I, Rv)) (hf : a_an.find? (fun e => e.1 == x.2.1 && e.2.1 == idx) = some (o', i', c)) : a_at d x pc ls (.int v :: st) (n + 1, t, K, L, I, Rv) P ↔ (¬ v < 0 ∧ v.toNatClampNeg ≤ 1000000) ∧ a_at d x pc' ls (a_rf (n + 1) :: st) (n + 1 + 1, t + v.toNatClampNeg, a_up K (n + 1) (22 + c), a_up L (n + 1) v.toNatClampNeg, a_zi I (n + 1), a_zr Rv (n + 1)) P := by
  refine g_newarr hd (hs.trans ?_)
  unfold x_anew
  rw [hf]
theorem a_sum_ok0 : a_sum [] ≤ 8 := by decide
theorem x_inv_null {tag o idx pc' mid o' i' tg : Nat} {rest : List Value} (hf : a_call o idx = some (o', i', tg, mid)) (hdrop : st.drop (a_np mid) = a_rf 0 :: rest) : x_inv tag o idx pc' ls st h = none := by
  unfold x_inv
  rw [hf]
  show (match st.drop (a_np mid) with
    | .ref b :: rest => _
    | _ => none) = none
  rw [hdrop, a_rf_zero]
theorem x_inv_ref {tag o idx pc' mid b o' i' : Nat} {rest ws : List Value} (hb : b ≠ 0) (hf : a_call o idx = some (o', i', tag, mid)) (hdrop : st.drop (a_np mid) = a_rf b :: rest) (htake : st.take (a_np mid) = ws) (hlen : a_np mid < st.length) : x_inv tag o idx pc' ls st h = if (tag = 0 → a_kd h b = a_ow mid + 1) ∧ a_sum rest ≤ 8 then some (.inr (.inl (mid, a_rf b :: ws.reverse, pc', rest))) else none := by
  unfold x_inv
  rw [hf]
  show (match st.drop (a_np mid) with
    | .ref b :: rest => if tag = tag ∧ a_np mid < st.length ∧ (tag = 0 → a_kd h b = a_ow mid + 1) ∧ a_sum rest ≤ 8 then (some (.inr (.inl (mid, .ref b :: (st.take (a_np mid)).reverse, pc', rest))) : Option AR) else none
    | _ => none) = _
  rw [hdrop, a_rf_pos hb, htake]
  show (if tag = tag ∧ a_np mid < st.length ∧ (tag = 0 → a_kd h b = a_ow mid + 1) ∧ a_sum rest ≤ 8 then _ else none) = _
  by_cases hc : (tag = 0 → a_kd h b = a_ow mid + 1) ∧ a_sum rest ≤ 8
  · rw [if_pos hc, if_pos ⟨rfl, hlen, hc.1, hc.2⟩]
  · rw [if_neg hc, if_neg (fun q => hc ⟨q.2.2.1, q.2.2.2⟩)]
/-- a call of a method of an object -/
theorem g_inv {idx pc' mid b o' i' : Nat} {ws rest : List Value} {i : Instr} {len : Nat} (hd : decode x.2.2.2.2 pc = .ok (i, len)) (hst : st = ws ++ a_rf b :: rest) (hs : a_step x.1 x.2.1 x.2.2.1 x.2.2.2.1 pc i len ls st h = x_inv 0 x.2.1 idx pc' ls st h) (hf : a_call x.2.1 idx = some (o', i', 0, mid)) (hn : a_np mid = ws.length) : a_at d x pc ls st h P ↔ (¬ b = 0 ∧ a_kd h b = a_ow mid + 1 ∧ a_sum rest ≤ 8) ∧ a_does d mid (a_rf b :: ws.reverse) h (fun r h' => a_at d x pc' ls (r.toList ++ rest) h' P) := by
  have hdrop : st.drop (a_np mid) = a_rf b :: rest := by rw [hn, hst]; exact List.drop_left
  have htake : st.take (a_np mid) = ws := by rw [hn, hst]; exact List.take_left
  have hlen : a_np mid < st.length := by rw [hn, hst]; simp
  by_cases hb : b = 0
  · subst hb
    rw [a_go_no hd (hs.trans (x_inv_null hf hdrop))]
    exact ⟨fun q => q.elim, fun q => q.1.1 rfl⟩
  · rw [a_at_iff hd, hs, x_inv_ref hb hf hdrop htake hlen]
    by_cases hc : a_kd h b = a_ow mid + 1 ∧ a_sum rest ≤ 8
    · rw [if_pos ⟨fun _ => hc.1, hc.2⟩]
      exact ⟨fun q => ⟨⟨hb, hc⟩, q⟩, fun q => q.2⟩
    · rw [if_neg (fun q => hc ⟨q.1 rfl, q.2⟩)]
      exact ⟨fun q => q.elim, fun q => hc q.1.2⟩
theorem g_spec {idx pc' mid b o' i' : Nat} {ws rest : List Value} {i : Instr} {len : Nat} (hd : decode x.2.2.2.2 pc = .ok (i, len)) (hst : st = ws ++ a_rf b :: rest) (hs : a_step x.1 x.2.1 x.2.2.1 x.2.2.2.1 pc i len ls st h = x_spec x.2.1 idx pc' ls st h) (ho : a_ob.find? (fun e => e.1 == x.2.1 && e.2 == idx) = none) (hf : a_call x.2.1 idx = some (o', i', 2, mid)) (hn : a_np mid = ws.length) : a_at d x pc ls st h P ↔ (¬ b = 0 ∧ a_sum rest ≤ 8) ∧ a_does d mid (a_rf b :: ws.reverse) h (fun r h' => a_at d x pc' ls (r.toList ++ rest) h' P) := by
  have hob : x_obj x.2.1 idx pc' ls st h = none := by
    unfold x_obj
    split
    · rw [ho]; simp
    · rfl
  have hdrop : st.drop (a_np mid) = a_rf b :: rest := by rw [hn, hst]; exact List.drop_left
  have htake : st.take (a_np mid) = ws := by rw [hn, hst]; exact List.take_left
  have hlen : a_np mid < st.length := by rw [hn, hst]; simp
  have hs1 : x_spec x.2.1 idx pc' ls st h = x_inv 2 x.2.1 idx pc' ls st h := by
    unfold x_spec
    rw [hob]
  rw [hs1] at hs
  by_cases hb : b = 0
  · subst hb
    rw [a_go_no hd (hs.trans (x_inv_null hf hdrop))]
    exact ⟨fun q => q.elim, fun q => q.1.1 rfl⟩
  · rw [a_at_iff hd, hs, x_inv_ref hb hf hdrop htake hlen]
    by_cases hc : a_sum rest ≤ 8
    · rw [if_pos ⟨fun q => absurd q (by decide), hc⟩]
      exact ⟨fun q => ⟨⟨hb, hc⟩, q⟩, fun q => q.2⟩
    · rw [if_neg (fun q => hc q.2)]
      exact ⟨fun q => q.elim, fun q => hc q.1.2⟩
theorem g_obj {idx pc' b o' i' : Nat} {i : Instr} {len : Nat} (hd : decode x.2.2.2.2 pc = .ok (i, len)) (hs : a_step x.1 x.2.1 x.2.2.1 x.2.2.2.1 pc i len ls (a_rf b :: st) h = x_spec x.2.1 idx pc' ls (a_rf b :: st) h) (ho : a_ob.find? (fun e => e.1 == x.2.1 && e.2 == idx) = some (o', i')) (hb : b ≠ 0) (hsm : a_sum st ≤ 8) : a_at d x pc ls (a_rf b :: st) h P ↔ a_at d x pc' ls st h P := by
  refine a_go_at hd (hs.trans ?_)
  unfold x_spec x_obj
  rw [a_rf_pos hb, ho]
  show (match (if (some (o', i')).isSome = true ∧ a_sum st ≤ 8 then a_go pc' ls st h else none) with
    | some r => some r
    | none => _) = _
  rw [if_pos ⟨rfl, hsm⟩]
  rfl
theorem g_stat {idx pc' mid o' i' : Nat} {ws rest : List Value} {i : Instr} {len : Nat} (hd : decode x.2.2.2.2 pc = .ok (i, len)) (hst : st = ws ++ rest) (hs : a_step x.1 x.2.1 x.2.2.1 x.2.2.2.1 pc i len ls st h = x_stat x.2.1 idx pc' ls st h) (ho : a_cp.find? (fun e => e.1 == x.2.1 && e.2 == idx) = none) (hf : a_call x.2.1 idx = some (o', i', 1, mid)) (hn : a_np mid = ws.length) : a_at d x pc ls st h P ↔ a_sum rest ≤ 8 ∧ a_does d mid ws.reverse h (fun r h' => a_at d x pc' ls (r.toList ++ rest) h' P) := by
  have hcp : x_copy x.2.1 idx pc' ls st h = none := by
    unfold x_copy
    split
    · rw [ho]; simp
    · rfl
  have hdrop : st.drop (a_np mid) = rest := by rw [hn, hst]; exact List.drop_left
  have htake : st.take (a_np mid) = ws := by rw [hn, hst]; exact List.take_left
  have hlen : a_np mid ≤ st.length := by rw [hn, hst]; simp
  have hX : x_stat x.2.1 idx pc' ls st h = if a_sum rest ≤ 8 then some (.inr (.inl (mid, ws.reverse, pc', rest))) else none := by
    unfold x_stat
    rw [hcp, hf]
    show (if 1 = 1 ∧ a_np mid ≤ st.length ∧ a_sum (st.drop (a_np mid)) ≤ 8 then (some (.inr (.inl (mid, (st.take (a_np mid)).reverse, pc', st.drop (a_np mid)))) : Option AR) else none) = _
    rw [hdrop, htake]
    by_cases hc : a_sum rest ≤ 8
    · rw [if_pos hc, if_pos ⟨rfl, hlen, hc⟩]
    · rw [if_neg hc, if_neg (fun q => hc q.2.2)]
  rw [a_at_iff hd, hs, hX]
  by_cases hc : a_sum rest ≤ 8
  · rw [if_pos hc]
    exact ⟨fun q => ⟨hc, q⟩, fun q => q.2⟩
  · rw [if_neg hc]
    exact ⟨fun q => q.elim, fun q => hc q.1⟩
theorem g_nest {idx pc' mid o' i' : Nat} {host : String} {ws rest : List Value} {i : Instr} {len : Nat} (hd : decode x.2.2.2.2 pc = .ok (i, len)) (hst : st = ws ++ rest) (hs : a_step x.1 x.2.1 x.2.2.1 x.2.2.2.1 pc i len ls st h = x_stat x.2.1 idx pc' ls st h) (ho : a_cp.find? (fun e => e.1 == x.2.1 && e.2 == idx) = none) (hcl : a_call x.2.1 idx = none) (hf : a_nst x.2.1 idx = some (o', i', mid, host)) (hn : a_np mid = ws.length) : a_at d x pc ls st h P ↔ a_sum rest ≤ 8 ∧ a_does d mid ws.reverse h (fun r h' => a_at d x pc' ls (r.toList ++ rest) h' P) := by
  have hcp : x_copy x.2.1 idx pc' ls st h = none := by
    unfold x_copy
    split
    · rw [ho]; simp
    · rfl
  have hdrop : st.drop (a_np mid) = rest := by rw [hn, hst]; exact List.drop_left
  have htake : st.take (a_np mid) = ws := by rw [hn, hst]; exact List.take_left
  have hlen : a_np mid ≤ st.length := by rw [hn, hst]; simp
  have hX : x_stat x.2.1 idx pc' ls st h = if a_sum rest ≤ 8 then some (.inr (.inl (mid, ws.reverse, pc', rest))) else none := by
    unfold x_stat
    rw [hcp, hcl]
    show x_nest x.2.1 idx pc' ls st h = _
    unfold x_nest
    rw [hf]
    show (if a_np mid ≤ st.length ∧ a_sum (st.drop (a_np mid)) ≤ 8 then (some (.inr (.inl (mid, (st.take (a_np mid)).reverse, pc', st.drop (a_np mid)))) : Option AR) else none) = _
    rw [hdrop, htake]
    by_cases hc : a_sum rest ≤ 8
    · rw [if_pos hc, if_pos ⟨hlen, hc⟩]
    · rw [if_neg hc, if_neg (fun q => hc q.2)]
  rw [a_at_iff hd, hs, hX]
  by_cases hc : a_sum rest ≤ 8
  · rw [if_pos hc]
    exact ⟨fun q => ⟨hc, q⟩, fun q => q.2⟩
  · rw [if_neg hc]
    exact ⟨fun q => q.elim, fun q => hc q.1⟩
theorem g_out {i : Instr} {len : Nat} {r : Option Value} (hd : decode x.2.2.2.2 pc = .ok (i, len)) (hs : a_step x.1 x.2.1 x.2.2.1 x.2.2.2.1 pc i len ls st h = some (.inr (.inr r))) : a_at d x pc ls st h P ↔ P r h := by
  rw [a_at_iff hd, hs]
theorem g_zret {i : Instr} {len : Nat} {v : Int32} (hd : decode x.2.2.2.2 pc = .ok (i, len)) (hs : a_step x.1 x.2.1 x.2.2.1 x.2.2.2.1 pc i len ls [.int v] h = x_iret (some .boolean) [.int v]) : a_at d x pc ls [.int v] h P ↔ (v = 0 ∨ v = 1) ∧ P (some (.int v)) h := by
  rw [a_at_iff hd, hs]
  unfold x_iret
  by_cases hv : v = 0 ∨ v = 1
  · simp only [if_pos hv]
    exact ⟨fun q => ⟨hv, q⟩, fun q => q.2⟩
  · simp only [if_neg hv]
    exact ⟨fun q => q.elim, fun q => hv q.1⟩
/-- a switch: place by place -/
def a_sw (v : Int32) (F : Nat → Prop) (dflt : Nat) : List (Int × Nat) → Prop
  | [] => F dflt
  | (k, tg) :: r => (v.toInt = k → F tg) ∧ (¬ v.toInt = k → a_sw v F dflt r)
theorem a_sw_hit {v : Int32} {F : Nat → Prop} {dflt tg : Nat} : ∀ {l : List (Int × Nat)}, l.find? (fun q => decide (v.toInt = q.1)) = some (v.toInt, tg) → (a_sw v F dflt l ↔ F tg) := by
  intro l
  induction l with
  | nil => intro h; cases h
  | cons q r ih =>
    obtain ⟨k, t⟩ := q
    intro h
    by_cases hk : v.toInt = k
    · simp [hk] at h
      unfold a_sw
      subst h
      exact ⟨fun q => q.1 hk, fun q => ⟨fun _ => q, fun z => absurd hk z⟩⟩
    · simp [hk] at h
      unfold a_sw
      rw [ih (by simpa using h)]
      exact ⟨fun q => q.2 hk, fun q => ⟨fun z => absurd z hk, fun _ => q⟩⟩
theorem a_sw_miss {v : Int32} {F : Nat → Prop} {dflt : Nat} : ∀ {l : List (Int × Nat)}, (∀ q ∈ l, ¬ v.toInt = q.1) → (a_sw v F dflt l ↔ F dflt) := by
  intro l
  induction l with
  | nil => intro _; exact Iff.rfl
  | cons q r ih =>
    intro h
    unfold a_sw
    rw [ih (fun z hz => h z (List.mem_cons_of_mem _ hz))]
    exact ⟨fun z => z.2 (h q List.mem_cons_self), fun z => ⟨fun y => absurd y (h q List.mem_cons_self), fun _ => z⟩⟩
end AG2
section AG3
variable {d : Nat} {x : a_X} {pc : Nat} {ls : AL} {st : List Value} {h : AH} {P : Option Value → AH → Prop}
theorem a_sw_fun {v : Int32} {F : Nat → Prop} {dflt tg : Nat} : ∀ {l : List (Int × Nat)}, (∀ q ∈ l, q.1 = v.toInt → q.2 = tg) → (∃ q ∈ l, q.1 = v.toInt) → (a_sw v F dflt l ↔ F tg) := by
  intro l
  induction l with
  | nil => rintro _ ⟨q, hq, -⟩; cases hq
  | cons q r ih =>
    obtain ⟨k, t⟩ := q
    intro h1 h2
    unfold a_sw
    by_cases hk : v.toInt = k
    · have := h1 (k, t) List.mem_cons_self hk.symm
      subst this
      exact ⟨fun q => q.1 hk, fun q => ⟨fun _ => q, fun z => absurd hk z⟩⟩
    · rw [ih (fun q hq => h1 q (List.mem_cons_of_mem _ hq)) (by
        obtain ⟨q, hq, hqk⟩ := h2
        rcases List.mem_cons.mp hq with rfl | hq
        · exact absurd hqk.symm hk
        · exact ⟨q, hq, hqk⟩)]
      exact ⟨fun q => q.2 hk, fun q => ⟨fun z => absurd z hk, fun _ => q⟩⟩
theorem g_table {dft lo hi : Int} {offs : Array Int} {v : Int32} {i : Instr} {len tdef N : Nat} {l : List (Int × Nat)} (hd : decode x.2.2.2.2 pc = .ok (i, len)) (hs : a_step x.1 x.2.1 x.2.2.1 x.2.2.2.1 pc i len ls (.int v :: st) h = x_table dft lo hi offs pc ls (.int v :: st) h) (hdf : (pc : Int) + dft = (tdef : Int)) (H1 : ∀ q ∈ l, lo ≤ q.1 ∧ q.1 ≤ hi ∧ (offs[(q.1 - lo).toNat]?).map (fun off => (pc : Int) + off) = some (q.2 : Int)) (H2 : ∀ j : Fin N, (lo + ((j : Nat) : Int)) ∈ l.map Prod.fst) (hN : hi - lo < (N : Int)) : a_at d x pc ls (.int v :: st) h P ↔ a_sw v (fun t => a_at d x t ls st h P) tdef l := by
  by_cases hv : v.toInt < lo ∨ hi < v.toInt
  · rw [a_sw_miss (fun q hq => by have := H1 q hq; omega)]
    refine a_go_at hd (hs.trans ?_)
    unfold x_table
    show (if v.toInt < lo ∨ hi < v.toInt then _ else _) = _
    rw [if_pos hv]
    unfold a_to
    rw [a_jump_of hdf]
  · have hj : (v.toInt - lo).toNat < N := by omega
    have hm := H2 ⟨_, hj⟩
    obtain ⟨q, hq, hqk⟩ := List.mem_map.mp hm
    have hqv : q.1 = v.toInt := by rw [hqk]; show lo + (((v.toInt - lo).toNat : Nat) : Int) = _; omega
    have h1 := H1 q hq
    rw [a_sw_fun (tg := q.2) (fun q' hq' hk' => by
      have h2 := (H1 q' hq').2.2
      rw [hk', ← hqv, h1.2.2] at h2
      have := Option.some.inj h2
      omega) ⟨q, hq, hqv⟩]
    refine a_go_at hd (hs.trans ?_)
    unfold x_table
    show (if v.toInt < lo ∨ hi < v.toInt then _ else _) = _
    rw [if_neg hv, ← hqv]
    have h3 := h1.2.2
    cases ho : offs[(q.1 - lo).toNat]? with
    | none => rw [ho] at h3; cases h3
    | some off =>
      rw [ho] at h3
      have h4 : (pc : Int) + off = (q.2 : Int) := Option.some.inj h3
      show a_to pc off ls st h = _
      unfold a_to
      rw [a_jump_of h4]
theorem g_look {dft : Int} {ps : Array (Int × Int)} {v : Int32} {i : Instr} {len : Nat} (hd : decode x.2.2.2.2 pc = .ok (i, len)) (hs : a_step x.1 x.2.1 x.2.2.1 x.2.2.2.1 pc i len ls (.int v :: st) h = x_look dft ps pc ls (.int v :: st) h) (hp : (ps.toList.zip (ps.toList.drop 1)).all (fun (a, next) => a.1 < next.1) = true) {l : List (Int × Nat)} {tdef : Nat} (hl : ∀ F : Nat → Prop, (∃ t : Nat, (pc : Int) + Op.lookupswitch.offset ps.toList dft v.toInt = (t : Int) ∧ (a_sw v F tdef l ↔ F t))) : a_at d x pc ls (.int v :: st) h P ↔ a_sw v (fun t => a_at d x t ls st h P) tdef l := by
  obtain ⟨t, h1, h2⟩ := hl (fun t => a_at d x t ls st h P)
  rw [h2]
  refine a_go_at hd (hs.trans ?_)
  unfold x_look
  show (if _ then _ else _) = _
  rw [if_pos hp]
  unfold a_to
  rw [a_jump_of h1]
theorem g_push {v w : Int32} {pc' : Nat} {i : Instr} {len : Nat} (hd : decode x.2.2.2.2 pc = .ok (i, len)) (hs : a_step x.1 x.2.1 x.2.2.1 x.2.2.2.1 pc i len ls st h = x_push (.int w) pc' ls st h) (hv : w = v) : a_at d x pc ls st h P ↔ a_at d x pc' ls (.int v :: st) h P := by
  subst hv; exact a_go_at hd hs
theorem g_incr {k pc' : Nat} {n : Int} {v c : Int32} {i : Instr} {len : Nat} (hd : decode x.2.2.2.2 pc = .ok (i, len)) (hs : a_step x.1 x.2.1 x.2.2.1 x.2.2.2.1 pc i len ls st h = x_iinc k n pc' ls st h) (hl : ls[k]? = some (some (.int v))) (hc : Int32.ofInt n = c) : a_at d x pc ls st h P ↔ a_clear ls k = true ∧ a_at d x pc' (ls.set k (some (.int (v + c)))) st h P := by
  subst hc; exact g_iinc hd hs hl
theorem g_aret {i : Instr} {len r : Nat} {n : String} (hd : decode x.2.2.2.2 pc = .ok (i, len)) (hs : a_step x.1 x.2.1 x.2.2.1 x.2.2.2.1 pc i len ls [a_rf r] h = x_aret (some (.object n)) [a_rf r]) : a_at d x pc ls [a_rf r] h P ↔ P (some (a_rf r)) h := by
  refine g_out hd (hs.trans ?_)
  show (if a_isR (a_rf r) = true then _ else _) = _
  rw [if_pos (a_rf_isR r)]
theorem g_aretA {i : Instr} {len r : Nat} {n : FieldType} (hd : decode x.2.2.2.2 pc = .ok (i, len)) (hs : a_step x.1 x.2.1 x.2.2.1 x.2.2.2.1 pc i len ls [a_rf r] h = x_aret (some (.array n)) [a_rf r]) : a_at d x pc ls [a_rf r] h P ↔ P (some (a_rf r)) h := by
  refine g_out hd (hs.trans ?_)
  show (if a_isR (a_rf r) = true then _ else _) = _
  rw [if_pos (a_rf_isR r)]
theorem g_call {idx pc' mid b o' i' o2 : Nat} {ws rest : List Value} {i : Instr} {len : Nat} (hd : decode x.2.2.2.2 pc = .ok (i, len)) (hst : st = ws ++ a_rf b :: rest) (hs : a_step x.1 x.2.1 x.2.2.1 x.2.2.2.1 pc i len ls st h = x_inv 0 x.2.1 idx pc' ls st h) (hf : a_call x.2.1 idx = some (o', i', 0, mid)) (hn : a_np mid = ws.length) (ho : a_ow mid = o2) : a_at d x pc ls st h P ↔ (¬ b = 0 ∧ a_kd h b = o2 + 1 ∧ a_sum rest ≤ 8) ∧ a_does d mid (a_rf b :: ws.reverse) h (fun r h' => a_at d x pc' ls (r.toList ++ rest) h' P) := by
  subst ho; exact g_inv hd hst hs hf hn
theorem g_dup {pc' : Nat} {v : Value} {i : Instr} {len : Nat} (hd : decode x.2.2.2.2 pc = .ok (i, len)) (hs : a_step x.1 x.2.1 x.2.2.1 x.2.2.2.1 pc i len ls (v :: st) h = x_dup pc' ls (v :: st) h) (hc : v.category = 1) : a_at d x pc ls (v :: st) h P ↔ a_at d x pc' ls (v :: v :: st) h P := by
  refine a_go_at hd (hs.trans ?_)
  show (if v.category = 1 then _ else _) = _
  rw [if_pos hc]
theorem g_pop {pc' : Nat} {v : Value} {i : Instr} {len : Nat} (hd : decode x.2.2.2.2 pc = .ok (i, len)) (hs : a_step x.1 x.2.1 x.2.2.1 x.2.2.2.1 pc i len ls (v :: st) h = x_pop pc' ls (v :: st) h) (hc : v.category = 1) : a_at d x pc ls (v :: st) h P ↔ a_at d x pc' ls st h P := by
  refine a_go_at hd (hs.trans ?_)
  show (if v.category = 1 then _ else _) = _
  rw [if_pos hc]
theorem g_dup2 {pc' : Nat} {v w : Value} {i : Instr} {len : Nat} (hd : decode x.2.2.2.2 pc = .ok (i, len)) (hs : a_step x.1 x.2.1 x.2.2.1 x.2.2.2.1 pc i len ls (v :: w :: st) h = x_dup2 pc' ls (v :: w :: st) h) (hc : v.category = 1) (hw : w.category = 1) : a_at d x pc ls (v :: w :: st) h P ↔ a_at d x pc' ls (v :: w :: v :: w :: st) h P := by
  refine a_go_at hd (hs.trans ?_)
  show (if v.category = 1 ∧ w.category = 1 then _ else _) = _
  rw [if_pos ⟨hc, hw⟩]
theorem g_ldc {idx pc' o' i' : Nat} {v : Int32} {i : Instr} {len : Nat} (hd : decode x.2.2.2.2 pc = .ok (i, len)) (hs : a_step x.1 x.2.1 x.2.2.1 x.2.2.2.1 pc i len ls st h = x_ldc x.2.1 idx pc' ls st h) (hf : a_ks.find? (fun e => e.1 == x.2.1 && e.2.1 == idx) = some (o', i', v)) : a_at d x pc ls st h P ↔ a_at d x pc' ls (.int v :: st) h P := by
  refine a_go_at hd (hs.trans ?_)
  unfold x_ldc
  rw [hf]
theorem g_ldc2 {idx pc' o' i' : Nat} {v : Int64} {i : Instr} {len : Nat} (hd : decode x.2.2.2.2 pc = .ok (i, len)) (hs : a_step x.1 x.2.1 x.2.2.1 x.2.2.2.1 pc i len ls st h = x_ldc2 x.2.1 idx pc' ls st h) (hf : a_kl.find? (fun e => e.1 == x.2.1 && e.2.1 == idx) = some (o', i', v)) : a_at d x pc ls st h P ↔ a_at d x pc' ls (.long v :: st) h P := by
  refine a_go_at hd (hs.trans ?_)
  unfold x_ldc2
  rw [hf]
theorem g_copy {idx pc' a b o' i' : Nat} {n dp sp : Int32} {i : Instr} {len : Nat} (hd : decode x.2.2.2.2 pc = .ok (i, len)) (hs : a_step x.1 x.2.1 x.2.2.1 x.2.2.2.1 pc i len ls (.int n :: .int dp :: a_rf b :: .int sp :: a_rf a :: st) h = x_stat x.2.1 idx pc' ls (.int n :: .int dp :: a_rf b :: .int sp :: a_rf a :: st) h) (ho : a_cp.find? (fun e => e.1 == x.2.1 && e.2 == idx) = some (o', i')) (hcall : a_call x.2.1 idx = none) (hnst : a_nst x.2.1 idx = none) : a_at d x pc ls (.int n :: .int dp :: a_rf b :: .int sp :: a_rf a :: st) h P ↔ (¬ a = 0 ∧ ¬ b = 0 ∧ a_kd h a = 20 ∧ a_kd h b = 20 ∧ ¬ sp < 0 ∧ ¬ dp < 0 ∧ ¬ n < 0 ∧ sp.toNatClampNeg + n.toNatClampNeg ≤ a_ln h a ∧ dp.toNatClampNeg + n.toNatClampNeg ≤ a_ln h b ∧ a_sum st ≤ 8) ∧ a_at d x pc' ls st (a_copy h a b sp.toNatClampNeg dp.toNatClampNeg n.toNatClampNeg) P := by
  by_cases hab : ¬ a = 0 ∧ ¬ b = 0
  · obtain ⟨ha, hb⟩ := hab
    have hX : x_copy x.2.1 idx pc' ls (.int n :: .int dp :: a_rf b :: .int sp :: a_rf a :: st) h = if a_kd h a = 20 ∧ a_kd h b = 20 ∧ ¬ sp < 0 ∧ ¬ dp < 0 ∧ ¬ n < 0 ∧ sp.toNatClampNeg + n.toNatClampNeg ≤ a_ln h a ∧ dp.toNatClampNeg + n.toNatClampNeg ≤ a_ln h b ∧ a_sum st ≤ 8 then a_go pc' ls st (a_copy h a b sp.toNatClampNeg dp.toNatClampNeg n.toNatClampNeg) else none := by
      unfold x_copy
      rw [a_rf_pos ha, a_rf_pos hb, ho]
      show (if (some (o', i')).isSome = true ∧ _ then _ else none) = _
      simp only [Option.isSome_some, true_and]
    have hs2 : a_step x.1 x.2.1 x.2.2.1 x.2.2.2.1 pc i len ls (.int n :: .int dp :: a_rf b :: .int sp :: a_rf a :: st) h = if a_kd h a = 20 ∧ a_kd h b = 20 ∧ ¬ sp < 0 ∧ ¬ dp < 0 ∧ ¬ n < 0 ∧ sp.toNatClampNeg + n.toNatClampNeg ≤ a_ln h a ∧ dp.toNatClampNeg + n.toNatClampNeg ≤ a_ln h b ∧ a_sum st ≤ 8 then a_go pc' ls st (a_copy h a b sp.toNatClampNeg dp.toNatClampNeg n.toNatClampNeg) else none := by
      rw [hs]
      unfold x_stat
      rw [hX, hcall]
      unfold x_nest
      rw [hnst]
      split <;> rename_i q
      · exact q.symm ▸ rfl
      · exact q.symm
    rw [a_go_if hd hs2]
    exact ⟨fun q => ⟨⟨ha, hb, q.1⟩, q.2⟩, fun q => ⟨q.1.2.2, q.2⟩⟩
  · have hX : x_copy x.2.1 idx pc' ls (.int n :: .int dp :: a_rf b :: .int sp :: a_rf a :: st) h = none := by
      by_cases ha : a = 0
      · subst ha
        unfold x_copy
        rw [a_rf_zero]
        by_cases hb : b = 0
        · subst hb; rfl
        · rw [a_rf_pos hb]
      · have hb : b = 0 := by
          by_cases hb : b = 0
          · exact hb
          · exact absurd ⟨ha, hb⟩ hab
        subst hb
        unfold x_copy
        rw [a_rf_zero]
    rw [a_go_no hd (hs.trans (by unfold x_stat; rw [hX, hcall]; unfold x_nest; rw [hnst]))]
    exact ⟨fun q => q.elim, fun q => hab ⟨q.1.1, q.1.2.1⟩⟩
end AG3

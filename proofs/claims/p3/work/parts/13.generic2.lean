section AG2
variable {d : Nat} {x : a_X} {pc : Nat} {ls : AL} {st : List Value} {h : AH} {P : Option Value → AH → Prop}
variable {n t : Nat} {K L : Nat → Nat} {I : Nat → Nat → Int32} {Rv : Nat → Nat → Nat}
def a_isRA (k : Nat) : Bool := a_aks.contains (k - 22) && decide (22 ≤ k)
def a_isA (k : Nat) : Bool := decide (20 ≤ k) && (decide (k < 22) || a_aks.contains (k - 22))
theorem g_aald {pc' a : Nat} {j : Int32} {i : Instr} {len : Nat} (hd : decode x.2.2.2.2 pc = .ok (i, len)) (hs : a_step x.1 x.2.1 x.2.2.1 x.2.2.2.1 pc i len ls (.int j :: a_rf a :: st) (n, t, K, L, I, Rv) = x_aald pc' ls (.int j :: a_rf a :: st) (n, t, K, L, I, Rv)) : a_at d x pc ls (.int j :: a_rf a :: st) (n, t, K, L, I, Rv) P ↔ (¬ a = 0 ∧ a_isRA (K a) = true ∧ a_ok j (L a)) ∧ a_at d x pc' ls (a_rf (Rv a j.toNatClampNeg) :: st) (n, t, K, L, I, Rv) P := by
  by_cases ha : a = 0
  · subst ha
    rw [a_go_no hd (hs.trans (by unfold x_aald; rw [a_rf_zero]))]
    exact ⟨fun q => q.elim, fun q => q.1.1 rfl⟩
  · have hs2 := hs.trans (show x_aald pc' ls (.int j :: a_rf a :: st) (n, t, K, L, I, Rv) = if a_aks.contains (K a - 22) = true ∧ 22 ≤ K a ∧ ¬ (j < 0 ∨ L a ≤ j.toNatClampNeg) then a_go pc' ls (a_rf (Rv a j.toNatClampNeg) :: st) (n, t, K, L, I, Rv) else none by unfold x_aald; rw [a_rf_pos ha]; rfl)
    rw [a_go_if hd hs2]
    unfold a_isRA
    simp only [Bool.and_eq_true, decide_eq_true_eq]
    exact ⟨fun q => ⟨⟨ha, ⟨q.1.1, q.1.2.1⟩, q.1.2.2⟩, q.2⟩, fun q => ⟨⟨q.1.2.1.1, q.1.2.1.2, q.1.2.2⟩, q.2⟩⟩
theorem g_aast {pc' a r : Nat} {j : Int32} {i : Instr} {len : Nat} (hd : decode x.2.2.2.2 pc = .ok (i, len)) (hs : a_step x.1 x.2.1 x.2.2.1 x.2.2.2.1 pc i len ls (a_rf r :: .int j :: a_rf a :: st) (n, t, K, L, I, Rv) = x_aast pc' ls (a_rf r :: .int j :: a_rf a :: st) (n, t, K, L, I, Rv)) : a_at d x pc ls (a_rf r :: .int j :: a_rf a :: st) (n, t, K, L, I, Rv) P ↔ (¬ a = 0 ∧ a_isRA (K a) = true ∧ a_ok j (L a) ∧ (r = 0 ∨ K r = K a - 22 + 1)) ∧ a_at d x pc' ls st (n, t, K, L, I, a_ur Rv a j.toNatClampNeg r) P := by
  by_cases ha : a = 0
  · subst ha
    rw [a_go_no hd (hs.trans (by unfold x_aast; rw [a_rf_zero]))]
    exact ⟨fun q => q.elim, fun q => q.1.1 rfl⟩
  · have e1 : a_kd (n, t, K, L, I, Rv) a = K a := rfl
    have e2 : a_kd (n, t, K, L, I, Rv) r = K r := rfl
    have e3 : a_ln (n, t, K, L, I, Rv) a = L a := rfl
    have hs2 := hs.trans (show x_aast pc' ls (a_rf r :: .int j :: a_rf a :: st) (n, t, K, L, I, Rv) = if (a_aks.contains (K a - 22) = true ∧ 22 ≤ K a ∧ ¬ (j < 0 ∨ L a ≤ j.toNatClampNeg)) ∧ (r = 0 ∨ K r = K a - 22 + 1) then a_go pc' ls st (n, t, K, L, I, a_ur Rv a j.toNatClampNeg r) else none by
      unfold x_aast
      rw [a_rf_pos ha]
      by_cases hr : r = 0
      · subst hr
        rw [a_rf_zero]
        simp only [e1, e3, true_or, and_true]
        rfl
      · rw [a_rf_pos hr]
        simp only [e1, e2, e3, hr, false_or]
        by_cases hc : a_aks.contains (K a - 22) = true ∧ 22 ≤ K a ∧ ¬ (j < 0 ∨ L a ≤ j.toNatClampNeg)
        · rw [if_pos hc]
          by_cases hk : K r = K a - 22 + 1
          · rw [if_pos ⟨hk, hr⟩, if_pos ⟨hc, hk⟩]; rfl
          · rw [if_neg (fun q => hk q.1), if_neg (fun q => hk q.2)]
        · rw [if_neg hc, if_neg (fun q => hc q.1)])
    rw [a_go_if hd hs2]
    unfold a_isRA
    simp only [Bool.and_eq_true, decide_eq_true_eq]
    exact ⟨fun q => ⟨⟨ha, ⟨q.1.1.1, q.1.1.2.1⟩, q.1.1.2.2, q.1.2⟩, q.2⟩, fun q => ⟨⟨⟨q.1.2.1.1, q.1.2.1.2, q.1.2.2.1⟩, q.1.2.2.2⟩, q.2⟩⟩
theorem g_alen {pc' a : Nat} {i : Instr} {len : Nat} (hd : decode x.2.2.2.2 pc = .ok (i, len)) (hs : a_step x.1 x.2.1 x.2.2.1 x.2.2.2.1 pc i len ls (a_rf a :: st) (n, t, K, L, I, Rv) = x_alen none pc' ls (a_rf a :: st) (n, t, K, L, I, Rv)) : a_at d x pc ls (a_rf a :: st) (n, t, K, L, I, Rv) P ↔ (¬ a = 0 ∧ a_isA (K a) = true) ∧ a_at d x pc' ls (.int (Int32.ofNat (L a)) :: st) (n, t, K, L, I, Rv) P := by
  by_cases ha : a = 0
  · subst ha
    rw [a_go_no hd (hs.trans (by unfold x_alen; rw [a_rf_zero]))]
    exact ⟨fun q => q.elim, fun q => q.1.1 rfl⟩
  · have hs2 := hs.trans (show x_alen none pc' ls (a_rf a :: st) (n, t, K, L, I, Rv) = if 20 ≤ K a ∧ (K a < 22 ∨ a_aks.contains (K a - 22) = true) then a_go pc' ls (.int (Int32.ofNat (L a)) :: st) (n, t, K, L, I, Rv) else none by unfold x_alen; rw [a_rf_pos ha]; rfl)
    rw [a_go_if hd hs2]
    unfold a_isA
    simp only [Bool.and_eq_true, Bool.or_eq_true, decide_eq_true_eq]
    exact ⟨fun q => ⟨⟨ha, q.1⟩, q.2⟩, fun q => ⟨q.1.2, q.2⟩⟩
def a_zi (f : Nat → Nat → Int32) (a : Nat) : Nat → Nat → Int32 := fun x j => if x = a then 0 else f x j
def a_zr (f : Nat → Nat → Nat) (a : Nat) : Nat → Nat → Nat := fun x j => if x = a then 0 else f x j
theorem g_newarr {kind pc' : Nat} {v : Int32} {i : Instr} {len : Nat} (hd : decode x.2.2.2.2 pc = .ok (i, len)) (hs : a_step x.1 x.2.1 x.2.2.1 x.2.2.2.1 pc i len ls (.int v :: st) (n + 1, t, K, L, I, Rv) = x_newarr kind pc' ls (.int v :: st) (n + 1, t, K, L, I, Rv)) : a_at d x pc ls (.int v :: st) (n + 1, t, K, L, I, Rv) P ↔ (¬ v < 0 ∧ v.toNatClampNeg ≤ 1000000) ∧ a_at d x pc' ls (a_rf (n + 1) :: st) (n + 1 + 1, t + v.toNatClampNeg, a_up K (n + 1) kind, a_up L (n + 1) v.toNatClampNeg, a_zi I (n + 1), a_zr Rv (n + 1)) P := by
  have hs2 := hs.trans (show x_newarr kind pc' ls (.int v :: st) (n + 1, t, K, L, I, Rv) = if ¬ v < 0 ∧ v.toNatClampNeg ≤ 1000000 then a_go pc' ls (a_rf (n + 1) :: st) (n + 1 + 1, t + v.toNatClampNeg, a_up K (n + 1) kind, a_up L (n + 1) v.toNatClampNeg, a_zi I (n + 1), a_zr Rv (n + 1)) else none by rw [a_rf_pos (Nat.succ_ne_zero n)]; rfl)
  exact a_go_if hd hs2
theorem g_new {idx pc' c o' i' : Nat} {i : Instr} {len : Nat} (hd : decode x.2.2.2.2 pc = .ok (i, len)) (hs : a_step x.1 x.2.1 x.2.2.1 x.2.2.2.1 pc i len ls st (n + 1, t, K, L, I, Rv) = x_new x.2.1 idx pc' ls st (n + 1, t, K, L, I, Rv)) (hf : a_nw.find? (fun e => e.1 == x.2.1 && e.2.1 == idx) = some (o', i', c)) : a_at d x pc ls st (n + 1, t, K, L, I, Rv) P ↔ a_at d x pc' ls (a_rf (n + 1) :: st) (n + 1 + 1, t + a_N c, a_up K (n + 1) (c + 1), a_up L (n + 1) (a_N c), a_zi I (n + 1), a_zr Rv (n + 1)) P := by
  refine a_go_at hd (hs.trans ?_)
  unfold x_new
  rw [hf, a_rf_pos (Nat.succ_ne_zero n)]
  rfl
theorem g_anew {idx pc' c o' i' : Nat} {v : Int32} {i : Instr} {len : Nat} (hd : decode x.2.2.2.2 pc = .ok (i, len)) (hs : a_step x.1 x.2.1 x.2.2.1 x.2.2.2.1 pc i len ls (.int v :: st) (n + 1, t, K, L, I, Rv) = x_anew x.2.1 idx pc' ls (.int v :: st) (n + 1, t, K, L, I, Rv)) (hf : a_an.find? (fun e => e.1 == x.2.1 && e.2.1 == idx) = some (o', i', c)) : a_at d x pc ls (.int v :: st) (n + 1, t, K, L, I, Rv) P ↔ (¬ v < 0 ∧ v.toNatClampNeg ≤ 1000000) ∧ a_at d x pc' ls (a_rf (n + 1) :: st) (n + 1 + 1, t + v.toNatClampNeg, a_up K (n + 1) (22 + c), a_up L (n + 1) v.toNatClampNeg, a_zi I (n + 1), a_zr Rv (n + 1)) P := by
  refine g_newarr hd (hs.trans ?_)
  unfold x_anew
  rw [hf]
theorem a_sum_ok0 : a_sum [] ≤ 8 := by decide
theorem x_inv_null {tag o idx pc' mid o' i' tg : Nat} {rest : List Value} (hf : a_call o idx = some (o', i', tg, mid)) (hdrop : st.drop (a_np mid) = a_rf 0 :: rest) : x_inv tag o idx pc' ls st h = none := by
  unfold x_inv
  rw [hf]
  show (match st.drop (a_np mid) with
    | .ref b :: rest => _
    | _ => none) = none
  rw [hdrop, a_rf_zero]
theorem x_inv_ref {tag o idx pc' mid b o' i' : Nat} {rest ws : List Value} (hb : b ≠ 0) (hf : a_call o idx = some (o', i', tag, mid)) (hdrop : st.drop (a_np mid) = a_rf b :: rest) (htake : st.take (a_np mid) = ws) (hlen : a_np mid < st.length) : x_inv tag o idx pc' ls st h = if (tag = 0 → a_kd h b = a_ow mid + 1) ∧ a_sum rest ≤ 8 then some (.inr (.inl (mid, a_rf b :: ws.reverse, pc', rest))) else none := by
  unfold x_inv
  rw [hf]
  show (match st.drop (a_np mid) with
    | .ref b :: rest => if tag = tag ∧ a_np mid < st.length ∧ (tag = 0 → a_kd h b = a_ow mid + 1) ∧ a_sum rest ≤ 8 then (some (.inr (.inl (mid, .ref b :: (st.take (a_np mid)).reverse, pc', rest))) : Option AR) else none
    | _ => none) = _
  rw [hdrop, a_rf_pos hb, htake]
  show (if tag = tag ∧ a_np mid < st.length ∧ (tag = 0 → a_kd h b = a_ow mid + 1) ∧ a_sum rest ≤ 8 then _ else none) = _
  by_cases hc : (tag = 0 → a_kd h b = a_ow mid + 1) ∧ a_sum rest ≤ 8
  · rw [if_pos hc, if_pos ⟨rfl, hlen, hc.1, hc.2⟩]
  · rw [if_neg hc, if_neg (fun q => hc ⟨q.2.2.1, q.2.2.2⟩)]
/-- a call of a method of an object -/
theorem g_inv {idx pc' mid b o' i' : Nat} {ws rest : List Value} {i : Instr} {len : Nat} (hd : decode x.2.2.2.2 pc = .ok (i, len)) (hst : st = ws ++ a_rf b :: rest) (hs : a_step x.1 x.2.1 x.2.2.1 x.2.2.2.1 pc i len ls st h = x_inv 0 x.2.1 idx pc' ls st h) (hf : a_call x.2.1 idx = some (o', i', 0, mid)) (hn : a_np mid = ws.length) : a_at d x pc ls st h P ↔ (¬ b = 0 ∧ a_kd h b = a_ow mid + 1 ∧ a_sum rest ≤ 8) ∧ a_does d mid (a_rf b :: ws.reverse) h (fun r h' => a_at d x pc' ls (r.toList ++ rest) h' P) := by
  have hdrop : st.drop (a_np mid) = a_rf b :: rest := by rw [hn, hst]; exact List.drop_left
  have htake : st.take (a_np mid) = ws := by rw [hn, hst]; exact List.take_left
  have hlen : a_np mid < st.length := by rw [hn, hst]; simp
  by_cases hb : b = 0
  · subst hb
    rw [a_go_no hd (hs.trans (x_inv_null hf hdrop))]
    exact ⟨fun q => q.elim, fun q => q.1.1 rfl⟩
  · rw [a_at_iff hd, hs, x_inv_ref hb hf hdrop htake hlen]
    by_cases hc : a_kd h b = a_ow mid + 1 ∧ a_sum rest ≤ 8
    · rw [if_pos ⟨fun _ => hc.1, hc.2⟩]
      exact ⟨fun q => ⟨⟨hb, hc⟩, q⟩, fun q => q.2⟩
    · rw [if_neg (fun q => hc ⟨q.1 rfl, q.2⟩)]
      exact ⟨fun q => q.elim, fun q => hc q.1.2⟩
theorem g_spec {idx pc' mid b o' i' : Nat} {ws rest : List Value} {i : Instr} {len : Nat} (hd : decode x.2.2.2.2 pc = .ok (i, len)) (hst : st = ws ++ a_rf b :: rest) (hs : a_step x.1 x.2.1 x.2.2.1 x.2.2.2.1 pc i len ls st h = x_spec x.2.1 idx pc' ls st h) (ho : a_ob.find? (fun e => e.1 == x.2.1 && e.2 == idx) = none) (hf : a_call x.2.1 idx = some (o', i', 2, mid)) (hn : a_np mid = ws.length) : a_at d x pc ls st h P ↔ (¬ b = 0 ∧ a_sum rest ≤ 8) ∧ a_does d mid (a_rf b :: ws.reverse) h (fun r h' => a_at d x pc' ls (r.toList ++ rest) h' P) := by
  have hob : x_obj x.2.1 idx pc' ls st h = none := by
    unfold x_obj
    split
    · rw [ho]; simp
    · rfl
  have hdrop : st.drop (a_np mid) = a_rf b :: rest := by rw [hn, hst]; exact List.drop_left
  have htake : st.take (a_np mid) = ws := by rw [hn, hst]; exact List.take_left
  have hlen : a_np mid < st.length := by rw [hn, hst]; simp
  have hs1 : x_spec x.2.1 idx pc' ls st h = x_inv 2 x.2.1 idx pc' ls st h := by
    unfold x_spec
    rw [hob]
  rw [hs1] at hs
  by_cases hb : b = 0
  · subst hb
    rw [a_go_no hd (hs.trans (x_inv_null hf hdrop))]
    exact ⟨fun q => q.elim, fun q => q.1.1 rfl⟩
  · rw [a_at_iff hd, hs, x_inv_ref hb hf hdrop htake hlen]
    by_cases hc : a_sum rest ≤ 8
    · rw [if_pos ⟨fun q => absurd q (by decide), hc⟩]
      exact ⟨fun q => ⟨⟨hb, hc⟩, q⟩, fun q => q.2⟩
    · rw [if_neg (fun q => hc q.2)]
      exact ⟨fun q => q.elim, fun q => hc q.1.2⟩
theorem g_obj {idx pc' b o' i' : Nat} {i : Instr} {len : Nat} (hd : decode x.2.2.2.2 pc = .ok (i, len)) (hs : a_step x.1 x.2.1 x.2.2.1 x.2.2.2.1 pc i len ls (a_rf b :: st) h = x_spec x.2.1 idx pc' ls (a_rf b :: st) h) (ho : a_ob.find? (fun e => e.1 == x.2.1 && e.2 == idx) = some (o', i')) (hb : b ≠ 0) (hsm : a_sum st ≤ 8) : a_at d x pc ls (a_rf b :: st) h P ↔ a_at d x pc' ls st h P := by
  refine a_go_at hd (hs.trans ?_)
  unfold x_spec x_obj
  rw [a_rf_pos hb, ho]
  show (match (if (some (o', i')).isSome = true ∧ a_sum st ≤ 8 then a_go pc' ls st h else none) with
    | some r => some r
    | none => _) = _
  rw [if_pos ⟨rfl, hsm⟩]
  rfl
theorem g_stat {idx pc' mid o' i' : Nat} {ws rest : List Value} {i : Instr} {len : Nat} (hd : decode x.2.2.2.2 pc = .ok (i, len)) (hst : st = ws ++ rest) (hs : a_step x.1 x.2.1 x.2.2.1 x.2.2.2.1 pc i len ls st h = x_stat x.2.1 idx pc' ls st h) (ho : a_cp.find? (fun e => e.1 == x.2.1 && e.2 == idx) = none) (hf : a_call x.2.1 idx = some (o', i', 1, mid)) (hn : a_np mid = ws.length) : a_at d x pc ls st h P ↔ a_sum rest ≤ 8 ∧ a_does d mid ws.reverse h (fun r h' => a_at d x pc' ls (r.toList ++ rest) h' P) := by
  have hcp : x_copy x.2.1 idx pc' ls st h = none := by
    unfold x_copy
    split
    · rw [ho]; simp
    · rfl
  have hdrop : st.drop (a_np mid) = rest := by rw [hn, hst]; exact List.drop_left
  have htake : st.take (a_np mid) = ws := by rw [hn, hst]; exact List.take_left
  have hlen : a_np mid ≤ st.length := by rw [hn, hst]; simp
  have hX : x_stat x.2.1 idx pc' ls st h = if a_sum rest ≤ 8 then some (.inr (.inl (mid, ws.reverse, pc', rest))) else none := by
    unfold x_stat
    rw [hcp, hf]
    show (if 1 = 1 ∧ a_np mid ≤ st.length ∧ a_sum (st.drop (a_np mid)) ≤ 8 then (some (.inr (.inl (mid, (st.take (a_np mid)).reverse, pc', st.drop (a_np mid)))) : Option AR) else none) = _
    rw [hdrop, htake]
    by_cases hc : a_sum rest ≤ 8
    · rw [if_pos hc, if_pos ⟨rfl, hlen, hc⟩]
    · rw [if_neg hc, if_neg (fun q => hc q.2.2)]
  rw [a_at_iff hd, hs, hX]
  by_cases hc : a_sum rest ≤ 8
  · rw [if_pos hc]
    exact ⟨fun q => ⟨hc, q⟩, fun q => q.2⟩
  · rw [if_neg hc]
    exact ⟨fun q => q.elim, fun q => hc q.1⟩
theorem g_out {i : Instr} {len : Nat} {r : Option Value} (hd : decode x.2.2.2.2 pc = .ok (i, len)) (hs : a_step x.1 x.2.1 x.2.2.1 x.2.2.2.1 pc i len ls st h = some (.inr (.inr r))) : a_at d x pc ls st h P ↔ P r h := by
  rw [a_at_iff hd, hs]
theorem g_zret {i : Instr} {len : Nat} {v : Int32} (hd : decode x.2.2.2.2 pc = .ok (i, len)) (hs : a_step x.1 x.2.1 x.2.2.1 x.2.2.2.1 pc i len ls [.int v] h = x_iret (some .boolean) [.int v]) : a_at d x pc ls [.int v] h P ↔ (v = 0 ∨ v = 1) ∧ P (some (.int v)) h := by
  rw [a_at_iff hd, hs]
  unfold x_iret
  by_cases hv : v = 0 ∨ v = 1
  · simp only [if_pos hv]
    exact ⟨fun q => ⟨hv, q⟩, fun q => q.2⟩
  · simp only [if_neg hv]
    exact ⟨fun q => q.elim, fun q => hv q.1⟩
/-- a switch: place by place -/
def a_sw (v : Int32) (F : Nat → Prop) (dflt : Nat) : List (Int × Nat) → Prop
  | [] => F dflt
  | (k, tg) :: r => (v.toInt = k → F tg) ∧ (¬ v.toInt = k → a_sw v F dflt r)
theorem a_sw_hit {v : Int32} {F : Nat → Prop} {dflt tg : Nat} : ∀ {l : List (Int × Nat)}, l.find? (fun q => decide (v.toInt = q.1)) = some (v.toInt, tg) → (a_sw v F dflt l ↔ F tg) := by
  intro l
  induction l with
  | nil => intro h; cases h
  | cons q r ih =>
    obtain ⟨k, t⟩ := q
    intro h
    by_cases hk : v.toInt = k
    · simp [hk] at h
      unfold a_sw
      subst h
      exact ⟨fun q => q.1 hk, fun q => ⟨fun _ => q, fun z => absurd hk z⟩⟩
    · simp [hk] at h
      unfold a_sw
      rw [ih (by simpa using h)]
      exact ⟨fun q => q.2 hk, fun q => ⟨fun z => absurd z hk, fun _ => q⟩⟩
theorem a_sw_miss {v : Int32} {F : Nat → Prop} {dflt : Nat} : ∀ {l : List (Int × Nat)}, (∀ q ∈ l, ¬ v.toInt = q.1) → (a_sw v F dflt l ↔ F dflt) := by
  intro l
  induction l with
  | nil => intro _; exact Iff.rfl
  | cons q r ih =>
    intro h
    unfold a_sw
    rw [ih (fun z hz => h z (List.mem_cons_of_mem _ hz))]
    exact ⟨fun z => z.2 (h q List.mem_cons_self), fun z => ⟨fun y => absurd y (h q List.mem_cons_self), fun _ => z⟩⟩
end AG2

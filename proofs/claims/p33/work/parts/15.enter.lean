/-! the entry of a method that is given no longs -/
theorem a_args1 : ∀ (as : List Value) (k i : Nat), (∀ v ∈ as, v.category = 1) → (lv_args k as).lookup (k + i) = as[i]? := by
  intro as
  induction as with
  | nil => intro k i _; rfl
  | cons v t ih =>
    intro k i hc
    have hv := hc v List.mem_cons_self
    have e1 : lv_args k (v :: t) = (k, v) :: lv_args (k + 1) t := by
      show (k, v) :: lv_args (if v.category = 2 then k + 2 else k + 1) t = _
      rw [if_neg (by omega)]
    rw [e1]
    cases i with
    | zero => simp
    | succ i =>
      have : (k + (i + 1) == k) = false := by simp
      simp only [List.lookup, this, List.getElem?_cons_succ]
      rw [show k + (i + 1) = k + 1 + i by omega]
      exact ih (k + 1) i (fun w hw => hc w (List.mem_cons_of_mem _ hw))
theorem a_len1 : ∀ (as : List Value), (∀ v ∈ as, v.category = 1) → (lg_sl as).length = as.length := by
  intro as
  induction as with
  | nil => intro _; rfl
  | cons v t ih =>
    intro hc
    have hv := hc v List.mem_cons_self
    have := ih (fun w hw => hc w (List.mem_cons_of_mem _ hw))
    unfold lg_sl at this ⊢
    rw [List.flatMap_cons, if_neg (by omega), List.length_append, this]
    simp
    omega
theorem a_init1 {as : List Value} {n : Nat} (hc : ∀ v ∈ as, v.category = 1) (hl : as.length ≤ n) : a_init as n = as.map some ++ List.replicate (n - as.length) none := by
  unfold a_init
  apply List.ext_getElem?
  intro i
  rw [List.getElem?_map]
  by_cases hi : i < n
  · rw [List.getElem?_range hi]
    have h1 := a_args1 as 0 i hc
    rw [Nat.zero_add] at h1
    show some ((lv_args 0 as).lookup i) = _
    rw [h1]
    by_cases ha : i < as.length
    · rw [List.getElem?_append_left (by simpa using ha), List.getElem?_map, List.getElem?_eq_getElem ha]
      rfl
    · rw [List.getElem?_append_right (by simp; omega), List.getElem?_eq_none (by omega), List.getElem?_replicate]
      simp
      omega
  · rw [List.getElem?_eq_none (by simp; omega), List.getElem?_eq_none (by simp; omega)]
    rfl
theorem a_enter1 {d mid : Nat} {as : List Value} {h : AH} {P : Option Value → AH → Prop} {M : a_M} (hM : a_ms[mid]? = some M) (hc : ∀ v ∈ as, v.category = 1) (hl : as.length ≤ M.2.2.2.1) : a_does (d + 1) mid as h P ↔ a_at d (a_xm M) 0 (as.map some ++ List.replicate (M.2.2.2.1 - as.length) none) [] h P := by
  rw [a_enter hM (by rw [a_len1 as hc]; exact hl), a_init1 hc hl]
theorem a_cat_nil : ∀ v ∈ ([] : List Value), v.category = 1 := fun v h => by cases h
theorem a_cat_int {x : Int32} {as : List Value} (h : ∀ v ∈ as, v.category = 1) : ∀ v ∈ (.int x :: as : List Value), v.category = 1 := List.forall_mem_cons.mpr ⟨rfl, h⟩
theorem a_cat_rf {r : Nat} {as : List Value} (h : ∀ v ∈ as, v.category = 1) : ∀ v ∈ (a_rf r :: as : List Value), v.category = 1 := List.forall_mem_cons.mpr ⟨a_rf_cat r, h⟩
theorem a_sum_nil : (a_sum [] ≤ 8) = True := by simp [a_sum]
theorem a_sum_i (v : Int32) : (a_sum [.int v] ≤ 8) = True := by simp [a_sum, Value.category]
theorem a_sum_r (r : Nat) : (a_sum [a_rf r] ≤ 8) = True := by simp [a_sum, a_rf_cat]
theorem a_sum_ii (v w : Int32) : (a_sum [.int v, .int w] ≤ 8) = True := by simp [a_sum, Value.category]
theorem a_sum_ir (v : Int32) (r : Nat) : (a_sum [.int v, a_rf r] ≤ 8) = True := eq_true (by show (Value.int v).category + ((a_rf r).category + 0) ≤ 8; rw [a_rf_cat]; exact Nat.le_of_ble_eq_true rfl)
theorem a_sum_ri (v : Int32) (r : Nat) : (a_sum [a_rf r, .int v] ≤ 8) = True := eq_true (by show (a_rf r).category + ((Value.int v).category + 0) ≤ 8; rw [a_rf_cat]; exact Nat.le_of_ble_eq_true rfl)
theorem a_nl_n : a_nl none = True := eq_true a_nl_none
theorem a_nl_i (v : Int32) : a_nl (some (.int v)) = True := eq_true (a_nl_int v)
theorem a_nl_r (r : Nat) : a_nl (some (a_rf r)) = True := eq_true (a_nl_rf r)

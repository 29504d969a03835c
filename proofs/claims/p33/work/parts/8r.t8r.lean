/-! what the law carries -/
section ZRR
variable {d n t C c : Nat} {K L : Nat → Nat} {I I0 J J0 J1 J2 : Nat → Nat → Int32} {R : Nat → Nat → Nat} {P : Option Value → AH → Prop}
variable {Y Z W : Nat → Nat → Int32}
theorem cT_o2 (h : cT C K L I R) (hJ : ∀ x j, (x < C + 44 ∨ C + 44 + 52 < x) → J x j = I x j) : cT C K L J R := by
  exact cT_mk
    (s := h.s)
    (g_now := by rw [hJ _ _ (by omega)]; exact h.g_now)
    (g_trips := by rw [hJ _ _ (by omega)]; exact h.g_trips)
    (g_texts := by rw [hJ _ _ (by omega)]; exact h.g_texts)
    (g_size := by rw [hJ _ _ (by omega)]; exact h.g_size)
    (g_code := by rw [hJ _ _ (by omega)]; exact h.g_code)
    (g_at := by rw [hJ _ _ (by omega)]; exact h.g_at)
    (g_asks := by rw [hJ _ _ (by omega)]; exact h.g_asks)
    (g_benches := by rw [hJ _ _ (by omega)]; exact h.g_benches)
    (g_orderSize := by rw [hJ _ _ (by omega)]; exact h.g_orderSize)
    (g_passed := by rw [hJ _ _ (by omega)]; exact h.g_passed)
    (g_best := by rw [hJ _ _ (by omega)]; exact h.g_best)
    (g_circle := by rw [hJ _ _ (by omega)]; exact h.g_circle)
    (g_row := by rw [hJ _ _ (by omega)]; exact h.g_row)
    (g_rest := by rw [hJ _ _ (by omega)]; exact h.g_rest)
    (g_lost := fun j => by rw [hJ _ _ (by omega)]; exact h.g_lost j)
    (g_spots := fun j => by rw [hJ _ _ (by omega)]; exact h.g_spots j)
    (g_ask := fun a ha => by
      have q := h.g_ask a ha
      rw [hJ _ _ (by omega), hJ _ _ (by omega), hJ _ _ (by omega), hJ _ _ (by omega)]
      exact q)
    (g_bnc := fun b hb => by
      have q := h.g_bnc b hb
      rw [hJ _ _ (by omega)]
      exact q)
    (g_txt := h.g_txt) (g_asksR := h.g_asksR)
    (g_asksN := fun i h0 h1 => by rw [hJ _ _ (by omega)] at h1; exact h.g_asksN i h0 h1)
    (g_benchesR := h.g_benchesR) (g_textsR := h.g_textsR) (g_orderR := h.g_orderR) (g_bestR := h.g_bestR) (g_ringR := h.g_ringR) (g_draft := h.g_draft)
    (g_benN := fun j h1 => by rw [hJ _ _ (by omega)] at h1; exact h.g_benN j h1)
    (g_benY := fun j h1 => by rw [hJ _ _ (by omega)] at h1; exact h.g_benY j h1)
/-- the coupling after the reference's call, of its own words -/
theorem cu_next {J3 : Nat → Nat → Int32} (hT : cT C K L J R) (hu : cuP C K L J R Z) (hg : gs (C + 44) J J3 Z) : cuP C K L J3 R (yv (C + 44) J3) := cu_ps (cT_o2 hT hg.2.1) (cu_out hT hg.2.1 hu) hg.2.2
/-- withdrawn, repaid: none from asks on -/
def nwP (Y : Nat → Nat → Int32) : Prop := ∀ a : Nat, a < 30 → (Y 0 17).toNatClampNeg ≤ a → Y 18 a = 0 ∧ Y 19 a = 0
theorem nw_ps (h : nwP Y) (hz : psE Y Z) : nwP Z := by
  unfold nwP
  rw [pr_r hz (k := 18) (by omega), pr_r hz (k := 19) (by omega), hz.1 0 17 (by unfold ps1; omega)]
  exact h
theorem nw_ss (h : nwP Y) (hz : ssE Y Z) : nwP Z := by
  unfold nwP
  rw [ss_r hz (k := 18) (by omega), ss_r hz (k := 19) (by omega), hz 0 17 (by unfold ss ps1; omega)]
  exact h
theorem nw_up (h : nwP Y) {k j : Nat} {v : Int32} (hk : ¬ k = 18 ∧ ¬ k = 19 ∧ ¬ (k = 0 ∧ j = 17)) : nwP (upY Y k j v) := by
  intro a ha h17
  rw [up_no (by omega)] at h17
  rw [up_no (by omega), up_no (by omega)]
  exact h a ha h17
theorem nw_up18 (h : nwP Y) {k : Nat} {i : Int32} {v : Int32} (hk : k = 18 ∨ k = 19) (hi : 0 ≤ i ∧ i < Y 0 17) : nwP (upY Y k i.toNatClampNeg v) := by
  have hin := cl_lt hi.1 hi.2
  intro a ha h17
  rw [up_no (by omega)] at h17
  rw [up_no (by omega), up_no (by omega)]
  exact h a ha h17
/-- lost hours, bit by bit -/
theorem lb_z (h : lbP C I Y) (hz : ∀ k j, kL k j → Z k j = Y k j) (hJ : ∀ j, J (C + 3) j = I (C + 3) j) : lbP C J Z := fun s k hs hk => by
  rw [hJ, lk_e hz]
  exact h s k hs hk
theorem lb_next {J3 : Nat → Nat → Int32} (h : lbP C J Z) (hg : gs (C + 44) J J3 Z) : lbP C J3 (yv (C + 44) J3) := lb_z h (fun k j q => hg.2.2.1 k j (by unfold kL at q; unfold ps1; omega)) (fun j => hg.2.1 _ _ (by omega))
theorem nw_next {J3 : Nat → Nat → Int32} (h : nwP Z) (hg : gs (C + 44) J J3 Z) : nwP (yv (C + 44) J3) := nw_ps h hg.2.2
theorem nw_pu (h : nwP Y) {a b s : Int32} : nwP (puY Y a b s) := nw_ss h ss_pu
theorem nw_un (h : nwP Y) {a : Int32} : nwP (unY Y a) := nw_ss h ss_un
theorem nw_cl (h : nwP Y) {a : Int32} : nwP (clW Y a) := by
  intro x hx h17
  rw [cl_no (by decide)] at h17
  rw [cl_no (by decide), cl_no (by decide)]
  exact h x hx h17
theorem nw_sw (h : nwP Y) {m : Nat} {g : Nat → Int32} : ∀ k, nwP (swS g m Y k) := by
  intro k
  induction k with
  | zero => exact nw_ss h (rgU_s m)
  | succ k ih => exact nw_cl (nw_pu ih)
theorem nw_tk (h : nwP Y) {a : Int32} : nwP (tkY Y a).2 := by
  unfold tkY
  split
  · exact h
  · split
    · exact h
    · exact nw_un h
theorem nw_gv (h : nwP Y) {a b s : Int32} : nwP (gvY Y a b s).2 := by
  unfold gvY
  split
  · exact h
  · split
    · exact h
    · exact nw_pu h
theorem nw_plO (h : nwP Y) {a b : Int32} : nwP (plO Y a b).2 := by
  unfold plO
  split
  · exact h
  · exact nw_ss h ss_pl
theorem nw_ag (h : nwP Y) : nwP (agY Y).1 := nw_ss h ss_ag
theorem nw_so (h : nwP Y) {v : Int32} (ho : swO Y v Z) : nwP Z := by
  obtain ⟨m, g, -, h2⟩ := ho
  rcases h2 with ⟨-, -, e⟩ | ⟨-, -, e⟩
  · rw [e]; exact h
  · rw [e]; exact nw_sw h m
theorem nw_wd (h : nwP Y) {a : Int32} : nwP (wdY Y a).2 := by
  unfold wdY
  by_cases c1 : 0 ≤ a ∧ a < Y 0 17
  · rw [if_neg (fun q => q c1)]
    by_cases c2 : Y 18 a.toNatClampNeg = 0
    · rw [if_neg (fun q => q c2)]
      have hu := nw_up18 h (k := 18) (v := 1) (Or.inl rfl) c1
      show nwP (if 0 ≤ Y 20 a.toNatClampNeg then unY (upY Y 18 a.toNatClampNeg 1) a else upY Y 18 a.toNatClampNeg 1)
      by_cases c3 : 0 ≤ Y 20 a.toNatClampNeg
      · rw [if_pos c3]; exact nw_un hu
      · rw [if_neg c3]; exact hu
    · rw [if_pos c2]; exact h
  · rw [if_pos c1]; exact h
theorem nw_dg (h : nwP Y) {a v : Int32} : nwP (dgY Y a v).2 := by
  have hu := nw_up h (k := 15) (j := a.toNatClampNeg) (v := v) (by omega)
  unfold dgY
  split
  · exact h
  · split
    · exact h
    · split
      · exact h
      · split
        · exact nw_un hu
        · exact hu
theorem nw_ws (h : nwP Y) {a o w : Int32} : nwP (wsY Y a o w).2 := by
  unfold wsY
  split
  · exact h
  · exact nw_up h (by omega)
theorem nw_sk (h : nwP Y) {x s : Int32} : nwP (skY Y x s).2 := by
  unfold skY
  split
  · exact h
  · split
    · exact h
    · exact nw_up h (by omega)
theorem nw_pt (h : nwP Y) {v : Int32} : nwP (ptY Y v).2 := by
  unfold ptY
  split
  · exact h
  · exact nw_up (nw_up h (by omega)) (by omega)
end ZRR
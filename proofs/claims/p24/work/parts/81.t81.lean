/-! rings by the words -/
section ZR0
variable {d n t C c : Nat} {K L : Nat → Nat} {I I0 J J0 J1 J2 : Nat → Nat → Int32} {R : Nat → Nat → Nat} {P : Option Value → AH → Prop}
variable {Y Z W X : Nat → Nat → Int32}
/-- the next one in a ring -/
def nxN (m i : Nat) : Nat := if i + 1 < m then i + 1 else 0
theorem nxN_lt {m i : Nat} (h : i < m) : nxN m i < m := by unfold nxN; split <;> omega
/-- the first k taken out -/
def rgU (g : Nat → Int32) (Y : Nat → Nat → Int32) : Nat → Nat → Nat → Int32
  | 0 => Y
  | k + 1 => unY (rgU g Y k) (g k)
/-- the first k given where the next ones were -/
def rgP (g : Nat → Int32) (m : Nat) (Y W : Nat → Nat → Int32) : Nat → Nat → Nat → Int32
  | 0 => W
  | k + 1 => puY (rgP g m Y W k) (g k) (Y 20 (g (nxN m k)).toNatClampNeg) (Y 21 (g (nxN m k)).toNatClampNeg)
def rgF (Y : Nat → Nat → Int32) (m : Nat) (g : Nat → Int32) (k : Nat) : Prop := ftY (rgP g m Y (rgU g Y m) k) (g k) (Y 20 (g (nxN m k)).toNatClampNeg) (Y 21 (g (nxN m k)).toNatClampNeg) = 0
/-- a tuple that would be a ring if they FIT -/
def rgS (Y : Nat → Nat → Int32) (m : Nat) (g : Nat → Int32) : Prop := (∀ i, i < m → (0 ≤ g i ∧ g i < Y 0 17) ∧ 0 ≤ Y 20 (g i).toNatClampNeg ∧ ¬ Y 21 (g i).toNatClampNeg * 8 < Y 0 0) ∧ (∀ i, i + 1 < m → g 0 < g (i + 1) ∧ ¬ Y 47 (30 * g i + g (i + 1)).toNatClampNeg = 0 ∧ Y 10 (g (i + 1)).toNatClampNeg = Y 10 (g 0).toNatClampNeg) ∧ (∀ i j, i < j → j < m → ¬ Y 8 (g i).toNatClampNeg = Y 8 (g j).toNatClampNeg) ∧ ¬ Y 47 (30 * g (m - 1) + g 0).toNatClampNeg = 0
def rgA (Y : Nat → Nat → Int32) (m : Nat) (g : Nat → Int32) : Prop := rgS Y m g ∧ ∀ k, k < m → rgF Y m g k
theorem rgU_c {g h : Nat → Int32} {m : Nat} (e : ∀ j, j < m → g j = h j) : ∀ k, k ≤ m → rgU g Y k = rgU h Y k := by
  intro k
  induction k with
  | zero => intro _; rfl
  | succ k ih =>
    intro hk
    unfold rgU
    rw [ih (by omega), e k (by omega)]
theorem rgP_c {g h : Nat → Int32} {m : Nat} (e : ∀ j, j < m → g j = h j) : ∀ k, k ≤ m → rgP g m Y W k = rgP h m Y W k := by
  intro k
  induction k with
  | zero => intro _; rfl
  | succ k ih =>
    intro hk
    unfold rgP
    rw [ih (by omega), e k (by omega), e _ (nxN_lt (by omega))]
theorem rgF_c {g h : Nat → Int32} {m k : Nat} (e : ∀ j, j < m → g j = h j) (hk : k < m) : rgF Y m g k ↔ rgF Y m h k := by
  unfold rgF
  rw [rgU_c e m (Nat.le_refl _), rgP_c e k (by omega), e k hk, e _ (nxN_lt hk)]
theorem rgS_c {g h : Nat → Int32} {m : Nat} (hm : 0 < m) (e : ∀ j, j < m → g j = h j) (r : rgS Y m g) : rgS Y m h := by
  obtain ⟨r1, r2, r3, r4⟩ := r
  have e0 := e 0 hm
  refine ⟨fun i hi => ?_, fun i hi => ?_, fun i j hi hj => ?_, ?_⟩
  · have := r1 i hi
    rw [e i hi] at this
    exact this
  · have := r2 i hi
    rw [e0, e i (by omega), e _ hi] at this
    exact this
  · have := r3 i j hi hj
    rw [e i (by omega), e j hj] at this
    exact this
  · rw [e0, e _ (by omega)] at r4
    exact r4
theorem rgA_c {g h : Nat → Int32} {m : Nat} (hm : 0 < m) (e : ∀ j, j < m → g j = h j) (r : rgA Y m g) : rgA Y m h := ⟨rgS_c hm e r.1, fun k hk => (rgF_c e hk).mp (r.2 k hk)⟩
theorem rgU_b {g : Nat → Int32} : ∀ k, sbE Y (rgU g Y k) := by
  intro k
  induction k with
  | zero => exact fun _ _ _ => rfl
  | succ k ih => exact sb_tr ih unY_b
theorem rgU_s {g : Nat → Int32} : ∀ k, ssE Y (rgU g Y k) := by
  intro k
  induction k with
  | zero => exact ss_refl
  | succ k ih => exact ss_tr ih ss_un
theorem rgP_s {g : Nat → Int32} {m : Nat} : ∀ k, ssE W (rgP g m Y W k) := by
  intro k
  induction k with
  | zero => exact ss_refl
  | succ k ih => exact ss_tr ih ss_pu
/-- who isn't taken out stays -/
theorem rgU_o {g : Nat → Int32} {q j : Nat} : ∀ k, (∀ i, i < k → ¬ j = (g i).toNatClampNeg) → rgU g Y k q j = Y q j := by
  intro k
  induction k with
  | zero => intro _; rfl
  | succ k ih =>
    intro h
    unfold rgU
    rw [un_o (Or.inr (h k (by omega)))]
    exact ih (fun i hi => h i (by omega))
theorem rgU_at {g : Nat → Int32} {q : Nat} (hq : q = 20 ∨ q = 21) : ∀ k i, i < k → rgU g Y k q (g i).toNatClampNeg = -9 := by
  intro k
  induction k with
  | zero => intro i hi; omega
  | succ k ih =>
    intro i hi
    unfold rgU
    by_cases e : (g i).toNatClampNeg = (g k).toNatClampNeg
    · rw [e, un_a hq]
    · rw [un_o (Or.inr e)]
      refine ih i ?_
      by_cases c : i = k
      · exact absurd (by rw [c]) e
      · omega
theorem rgP_o {g : Nat → Int32} {m q j : Nat} (hq : ¬ q = 22) : ∀ k, (∀ i, i < k → ¬ j = (g i).toNatClampNeg) → rgP g m Y W k q j = W q j := by
  intro k
  induction k with
  | zero => intro _; rfl
  | succ k ih =>
    intro h
    unfold rgP
    rw [pu_pp]
    by_cases c : q = 10
    · unfold ppY
      rw [if_neg (by omega), if_neg (by omega), if_neg (fun e => h k (by omega) e.2), if_neg (by omega)]
      exact ih (fun i hi => h i (by omega))
    · rw [pp_o (Or.inr ⟨h k (by omega), hq⟩)]
      exact ih (fun i hi => h i (by omega))
theorem rg_10 {g : Nat → Int32} {m : Nat} (k : Nat) : rgP g m Y (rgU g Y m) k 10 = Y 10 := ss_r (ss_tr (rgU_s m) (rgP_s k)) (k := 10) (by omega)
theorem rgU_p {g : Nat → Int32} (h : psE Y Z) : ∀ k, (∀ i, i < k → 0 ≤ g i ∧ g i < 30) → psE (rgU g Y k) (rgU g Z k) := by
  intro k
  induction k with
  | zero => intro _; exact h
  | succ k ih =>
    intro hg
    exact unY_p (ih (fun i hi => hg i (by omega))) (hg k (by omega))
/-- before, word by word -/
def lxP (m : Nat) (t g : Nat → Int32) : Prop := ∃ k, k < m ∧ (∀ j, j < k → t j = g j) ∧ t k < g k
theorem lx_all (t g : Nat → Int32) : ∀ m, lxP m t g ∨ lxP m g t ∨ ∀ j, j < m → t j = g j := by
  intro m
  induction m with
  | zero => exact Or.inr (Or.inr (fun j hj => by omega))
  | succ m ih =>
    rcases ih with ⟨k, h1, h2, h3⟩ | ⟨k, h1, h2, h3⟩ | h
    · exact Or.inl ⟨k, by omega, h2, h3⟩
    · exact Or.inr (Or.inl ⟨k, by omega, h2, h3⟩)
    · by_cases c : t m = g m
      · refine Or.inr (Or.inr (fun j hj => ?_))
        by_cases e : j = m
        · rw [e]; exact c
        · exact h j (by omega)
      · by_cases c2 : t m < g m
        · exact Or.inl ⟨m, by omega, h, c2⟩
        · refine Or.inr (Or.inl ⟨m, by omega, fun j hj => (h j hj).symm, ?_⟩)
          clear h
          grind
/-- the RING: the shortest, the first of these; none: m = 0 -/
def rgR (Y : Nat → Nat → Int32) (m : Nat) (g : Nat → Int32) : Prop := (m = 0 ∧ ∀ z t, 2 ≤ z → z ≤ 5 → ¬ rgA Y z t) ∨ ((2 ≤ m ∧ m ≤ 5) ∧ rgA Y m g ∧ (∀ z t, 2 ≤ z → z < m → ¬ rgA Y z t) ∧ ∀ t, lxP m t g → ¬ rgA Y m t)
theorem rgR_u {m z : Nat} {g t : Nat → Int32} (h : rgR Y m g) (h2 : rgR Y z t) : z = m ∧ ∀ j, j < m → t j = g j := by
  rcases h with ⟨h, h1⟩ | ⟨h, h1, h3, h4⟩
  · rcases h2 with ⟨q, q1⟩ | ⟨q, q1, q3, q4⟩
    · exact ⟨by omega, fun j hj => by omega⟩
    · exact absurd q1 (h1 z t q.1 q.2)
  · rcases h2 with ⟨q, q1⟩ | ⟨q, q1, q3, q4⟩
    · exact absurd h1 (q1 m g h.1 h.2)
    · have e : z = m := by
        rcases Nat.lt_trichotomy z m with w | w | w
        · exact absurd q1 (h3 z t q.1 w)
        · exact w
        · exact absurd h1 (q3 m g h.1 w)
      subst e
      refine ⟨rfl, ?_⟩
      rcases lx_all t g z with w | w | w
      · exact absurd q1 (h4 t w)
      · exact absurd h1 (q4 g w)
      · exact w
/-- what a search from a prefix finds -/
def noR (Y : Nat → Nat → Int32) (m a : Nat) (p : Nat → Int32) : Prop := ∀ t, (∀ j, j < a → t j = p j) → ¬ rgA Y m t
def fsR (Y : Nat → Nat → Int32) (m a : Nat) (g : Nat → Int32) : Prop := rgA Y m g ∧ ∀ t, (∀ j, j < a → t j = g j) → lxP m t g → ¬ rgA Y m t
/-- none below v at place a -/
def blR (Y : Nat → Nat → Int32) (m a : Nat) (p : Nat → Int32) (v : Int32) : Prop := ∀ t, (∀ j, j < a → t j = p j) → t a < v → ¬ rgA Y m t
theorem bl_0 {m a : Nat} {p : Nat → Int32} (ha : a < m) : blR Y m a p 0 := fun t _ h r => by
  have := (r.1.1 a ha).1.1
  exact absurd h (Int32.not_lt.mpr this)
theorem bl_up {m a : Nat} {p : Nat → Int32} {v : Int32} (h30 : v < 30) (h : blR Y m a p v) (hv : ∀ t, (∀ j, j < a → t j = p j) → t a = v → ¬ rgA Y m t) : blR Y m a p (v + 1) := fun t ht h2 => by
  by_cases c : t a = v
  · exact hv t ht c
  · exact h t ht (by clear h hv ht; grind)
theorem bl_no {m a : Nat} {p : Nat → Int32} {v : Int32} (ha : a < m) (h : blR Y m a p v) (hv : Y 0 17 ≤ v) : noR Y m a p := fun t ht r => by
  have := (r.1.1 a ha).1.2
  exact h t ht (Int32.lt_of_lt_of_le this hv) r
theorem bl_fs {m a : Nat} {g : Nat → Int32} (ha : a < m) (h : blR Y m a g (g a)) (hf : fsR Y m (a + 1) g) : fsR Y m a g := by
  refine ⟨hf.1, fun t ht ⟨k, k1, k2, k3⟩ => ?_⟩
  by_cases c : k = a
  · subst c
    exact h t k2 k3
  · by_cases c2 : k < a
    · rw [ht k c2] at k3
      exact absurd k3 Int32.lt_irrefl
    · refine hf.2 t (fun j hj => k2 j (by omega)) ⟨k, k1, k2, k3⟩
end ZR0

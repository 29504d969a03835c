/-! THE PLAIN MACHINE'S OWN RULES: more fuel changes nothing; what a place and a method come to -/
theorem a_run_more {call call' : Nat → List Value → AH → Option (Option Value × AH)} {sc : Option (Nat × Nat × (Nat → Int32))} {o : Nat} {ini : Bool} {ret : Option FieldType} {cc : ByteArray} (hc : ∀ mid as h q, call mid as h = some q → call' mid as h = some q) :
    ∀ (n n' pc : Nat) (ls : AL) (st : List Value) (h : AH) (q : Option Value × AH), n ≤ n' → a_run call sc o ini ret cc n pc ls st h = some q → a_run call' sc o ini ret cc n' pc ls st h = some q := by
  intro n
  induction n with
  | zero => intro n' pc ls st h q _ hr; cases hr
  | succ n ih =>
    intro n' pc ls st h q hn hr
    obtain ⟨k, rfl⟩ : ∃ k, n' = k + 1 := ⟨n' - 1, by omega⟩
    rw [a_run] at hr ⊢
    revert hr
    cases hd : decode cc pc with
    | error e => intro hr; cases hr
    | ok p =>
      obtain ⟨i, len⟩ := p
      show (match a_step sc o ini ret pc i len ls st h with
        | some (.inl (pc', ls', st', h')) => a_run call sc o ini ret cc n pc' ls' st' h'
        | some (.inr (.inl (mid, as, pc', st'))) => match call mid as h with
          | some (r, h') => a_run call sc o ini ret cc n pc' ls (r.toList ++ st') h'
          | none => none
        | some (.inr (.inr r)) => some (r, h)
        | none => none) = some q → (match a_step sc o ini ret pc i len ls st h with
        | some (.inl (pc', ls', st', h')) => a_run call' sc o ini ret cc k pc' ls' st' h'
        | some (.inr (.inl (mid, as, pc', st'))) => match call' mid as h with
          | some (r, h') => a_run call' sc o ini ret cc k pc' ls (r.toList ++ st') h'
          | none => none
        | some (.inr (.inr r)) => some (r, h)
        | none => none) = some q
      cases hs : a_step sc o ini ret pc i len ls st h with
      | none => intro hr; cases hr
      | some z =>
        obtain ⟨pc', ls', st', h'⟩ | ⟨mid, as, pc', st'⟩ | r := z
        · exact fun hr => ih _ _ _ _ _ _ (by omega) hr
        · show (match call mid as h with
            | some (r, h') => a_run call sc o ini ret cc n pc' ls (r.toList ++ st') h'
            | none => none) = some q → (match call' mid as h with
            | some (r, h') => a_run call' sc o ini ret cc k pc' ls (r.toList ++ st') h'
            | none => none) = some q
          cases hcl : call mid as h with
          | none => intro hr; cases hr
          | some z =>
            rw [hc _ _ _ _ hcl]
            exact fun hr => ih _ _ _ _ _ _ (by omega) hr
        · exact fun hr => hr
theorem a_meth_more : ∀ (d mid : Nat) (as : List Value) (h : AH) (q : Option Value × AH) (f f' : Nat), f ≤ f' → a_meth f d mid as h = some q → a_meth f' d mid as h = some q := by
  intro d
  induction d with
  | zero => intro mid as h q f f' _ hr; cases hr
  | succ d ih =>
    intro mid as h q f f' hf hr
    unfold a_meth at hr ⊢
    split at hr <;> try contradiction
    rename_i M hM
    try simp only [hM]
    split at hr <;> try contradiction
    rename_i hl
    rw [if_pos hl]
    exact a_run_more (fun mid as h q => ih mid as h q f f' hf) _ _ _ _ _ _ _ hf hr
/-- a method, called d deep at most, comes to its end with P -/
def a_does (d mid : Nat) (as : List Value) (h : AH) (P : Option Value → AH → Prop) : Prop := ∃ (f : Nat) (r : Option Value) (h' : AH), a_meth f d mid as h = some (r, h') ∧ P r h'
/-- from this place a body comes to its end with P; x: the script, the owner, constructor or not, what it returns, the code -/
abbrev a_X : Type := Option (Nat × Nat × (Nat → Int32)) × Nat × Bool × Option FieldType × ByteArray
def a_at (d : Nat) (x : a_X) (pc : Nat) (ls : AL) (st : List Value) (h : AH) (P : Option Value → AH → Prop) : Prop := ∃ (f n : Nat) (r : Option Value) (h' : AH), a_run (a_meth f d) x.1 x.2.1 x.2.2.1 x.2.2.2.1 x.2.2.2.2 n pc ls st h = some (r, h') ∧ P r h'
theorem a_at_iff {d : Nat} {x : a_X} {pc : Nat} {ls : AL} {st : List Value} {h : AH} {P : Option Value → AH → Prop} {i : Instr} {len : Nat} (hd : decode x.2.2.2.2 pc = .ok (i, len)) : a_at d x pc ls st h P ↔ (match a_step x.1 x.2.1 x.2.2.1 x.2.2.2.1 pc i len ls st h with
    | some (.inl (pc', ls', st', h')) => a_at d x pc' ls' st' h' P
    | some (.inr (.inl (mid, as, pc', st'))) => a_does d mid as h (fun r h' => a_at d x pc' ls (r.toList ++ st') h' P)
    | some (.inr (.inr r)) => P r h
    | none => False) := by
  constructor
  · rintro ⟨f, n, r, h', hr, hP⟩
    cases n with
    | zero => cases hr
    | succ n =>
      unfold a_run at hr
      simp only [hd] at hr
      split at hr <;> try contradiction
      · rename_i hs
        try simp only [hs]
        exact ⟨f, n, r, h', hr, hP⟩
      · rename_i hs
        try simp only [hs]
        split at hr <;> try contradiction
        rename_i r1 h1 hc
        exact ⟨f, r1, h1, hc, f, n, r, h', hr, hP⟩
      · rename_i hs
        try simp only [hs]
        cases hr
        exact hP
  · intro hm
    split at hm
    · rename_i hs
      obtain ⟨f, n, r, h', hr, hP⟩ := hm
      refine ⟨f, n + 1, r, h', ?_, hP⟩
      unfold a_run
      simp only [hd, hs]
      exact hr
    · rename_i mid as pc' st' hs
      obtain ⟨f1, r1, h1, hc, f, n, r, h', hr, hP⟩ := hm
      refine ⟨max f1 f, n + 1, r, h', ?_, hP⟩
      unfold a_run
      simp only [hd, hs, a_meth_more _ _ _ _ _ f1 (max f1 f) (by omega) hc]
      exact a_run_more (fun mid as h q => a_meth_more _ mid as h q f (max f1 f) (by omega)) _ _ _ _ _ _ _ (Nat.le_refl _) hr
    · rename_i r hs
      refine ⟨0, 1, r, h, ?_, hm⟩
      unfold a_run
      simp only [hd, hs]
    · exact hm.elim
def a_xm (M : a_M) : a_X := (none, M.1, M.2.2.2.2.2.2, M.2.2.2.2.1, M.2.2.1)
theorem a_enter {d mid : Nat} {as : List Value} {h : AH} {P : Option Value → AH → Prop} {M : a_M} (hM : a_ms[mid]? = some M) (hl : (lg_sl as).length ≤ M.2.2.2.1) : a_does (d + 1) mid as h P ↔ a_at d (a_xm M) 0 (a_init as M.2.2.2.1) [] h P := by
  constructor
  · rintro ⟨f, r, h', hr, hP⟩
    unfold a_meth at hr
    simp only [hM] at hr
    rw [if_pos hl] at hr
    exact ⟨f, f, r, h', hr, hP⟩
  · rintro ⟨f, n, r, h', hr, hP⟩
    refine ⟨max f n, r, h', ?_, hP⟩
    unfold a_meth
    try simp only [hM]
    rw [if_pos hl]
    exact a_run_more (fun mid as h q => a_meth_more _ mid as h q f (max f n) (by omega)) n (max f n) _ _ _ _ _ (by omega) hr
theorem a_does.weaken {d mid : Nat} {as : List Value} {h : AH} {P P' : Option Value → AH → Prop} (hd : a_does d mid as h P) (hP : ∀ r h', P r h' → P' r h') : a_does d mid as h P' := by
  obtain ⟨f, r, h', hr, hp⟩ := hd
  exact ⟨f, r, h', hr, hP _ _ hp⟩
theorem a_at.weaken {d : Nat} {x : a_X} {pc : Nat} {ls : AL} {st : List Value} {h : AH} {P P' : Option Value → AH → Prop} (hd : a_at d x pc ls st h P) (hP : ∀ r h', P r h' → P' r h') : a_at d x pc ls st h P' := by
  obtain ⟨f, n, r, h', hr, hp⟩ := hd
  exact ⟨f, n, r, h', hr, hP _ _ hp⟩
/-- deeper calls are allowed more -/
theorem a_meth_deeper : ∀ (d d' mid : Nat) (as : List Value) (h : AH) (q : Option Value × AH) (f : Nat), d ≤ d' → a_meth f d mid as h = some q → a_meth f d' mid as h = some q := by
  intro d
  induction d with
  | zero => intro d' mid as h q f _ hr; cases hr
  | succ d ih =>
    intro d' mid as h q f hdd hr
    obtain ⟨k, rfl⟩ : ∃ k, d' = k + 1 := ⟨d' - 1, by omega⟩
    unfold a_meth at hr ⊢
    split at hr <;> try contradiction
    rename_i M hM
    try simp only [hM]
    split at hr <;> try contradiction
    rename_i hl
    rw [if_pos hl]
    exact a_run_more (fun mid as h q => ih k mid as h q f (by omega)) _ _ _ _ _ _ _ (Nat.le_refl _) hr
theorem a_does.deeper {d d' mid : Nat} {as : List Value} {h : AH} {P : Option Value → AH → Prop} (hd : a_does d mid as h P) (hdd : d ≤ d') : a_does d' mid as h P := by
  obtain ⟨f, r, h', hr, hp⟩ := hd
  exact ⟨f, r, h', a_meth_deeper _ _ _ _ _ _ _ hdd hr, hp⟩
theorem a_pure_of (hp : ∀ (B b L : Nat) (xs : Nat → Int32), b < B → L ≤ 4096 → a_at 700 (some (b, L, xs), 13, false, some .boolean, code) 0 (a_init [.ref b] 4) [] (a_h0 B) (fun r h1 => r = some (.int 1) ∧ a_nx h1 ≤ B + 600000 ∧ a_tot h1 ≤ 7302250)) : a_Pure := by
  intro B b L xs hb hL
  obtain ⟨f, n, r, h1, hr, rfl, hn, ht⟩ := hp B b L xs hb hL
  exact ⟨max f n, h1, a_run_more (fun mid as h q => a_meth_more _ mid as h q f (max f n) (by omega)) n (max f n) _ _ _ _ _ (by omega) hr, hn, ht⟩
-- trial of tactics
theorem tr_1 (s : Int32) (h1 : 0 ≤ s) (h2 : s < 200) : s + 1 ≤ 200 := by grind
theorem tr_2 (a b : Int32) (h1 : 0 ≤ a) (h2 : a ≤ 30) (h3 : 0 ≤ b) (h4 : b < 4) : 4 * a + b < 200 := by grind
theorem tr_4 (a b : Int32) (h1 : ¬ b < 0) (h2 : ¬ 1600 - a < b) (h3 : 0 ≤ a) (h4 : a ≤ 1600) : a + b ≤ 1600 := by grind

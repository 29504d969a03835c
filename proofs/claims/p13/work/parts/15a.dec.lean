/-! what is decoded, an opcode at a time -/
def gb (c : ByteArray) (p b : Nat) : Prop := ∃ h : p < c.size, (c[p]'h).toNat = b
def gz : List UInt8 → List Nat → Bool
  | _, [] => true
  | [], _ :: _ => false
  | b :: l, n :: w => Nat.beq b.toNat n && gz l w
def gy (c : ByteArray) : Nat → List Nat → Prop
  | _, [] => True
  | s, n :: w => gb c s n ∧ gy c (s + 1) w
theorem gz_gb {c : ByteArray} {s b : Nat} {y : UInt8} {l : List UInt8} (h : c.data.toList.drop s = y :: l) (hb : y.toNat = b) : gb c s b ∧ c.data.toList.drop (s + 1) = l := by
  have h1 : s < c.data.toList.length := by
    rcases Nat.lt_or_ge s c.data.toList.length with q | q
    · exact q
    · rw [List.drop_eq_nil_of_le q] at h; exact absurd h (by simp)
  have h2 := List.drop_eq_getElem_cons h1
  rw [h] at h2
  have h3 := List.cons.inj h2
  refine ⟨⟨by rw [Array.length_toList] at h1; exact h1, ?_⟩, h3.2.symm⟩
  rw [← hb, h3.1]
  rfl
theorem gz_all {c : ByteArray} {s : Nat} {w : List Nat} (h : gz (c.data.toList.drop s) w = true) : gy c s w := by
  induction w generalizing s with
  | nil => exact trivial
  | cons n w ih =>
    generalize hl : c.data.toList.drop s = l at h
    cases l with
    | nil => exact absurd h (by simp [gz])
    | cons y l =>
      have h := (Bool.and_eq_true _ _).mp h
      obtain ⟨h1, h2⟩ := gz_gb hl (Nat.eq_of_beq_eq_true h.1)
      exact ⟨h1, ih (by rw [h2]; exact h.2)⟩
theorem dc_bind {α β : Type} (r : Decoder α) (f : α → Decoder β) (c : ByteArray) (p : Nat) {a : α} {s : Nat} (e : r c p = .ok (a, s)) : (r >>= f) c p = f a c s := by
  show Except.bind (r c p) _ = _
  rw [e]
  rfl
theorem dc_map {α β : Type} (r : Decoder α) (f : α → β) (c : ByteArray) (p : Nat) {a : α} {s : Nat} (e : r c p = .ok (a, s)) : (f <$> r) c p = .ok (f a, s) := by
  show Except.bind (r c p) _ = _
  rw [e]
  rfl
theorem dc_u1 {c : ByteArray} {p b : Nat} (h : gb c p b) : (Reader.u1 : Decoder Nat) c p = .ok (b, p + 1) := by
  obtain ⟨hp, rfl⟩ := h
  show (dite (p < c.size) _ _ : Decoder Nat) c p = _
  rw [dif_pos hp]
  rfl
theorem dc_u2 {c : ByteArray} {p x y n : Nat} (h : gb c p x) (h1 : gb c (p + 1) y) (hn : x * 256 + y = n) : (Reader.u2 : Decoder Nat) c p = .ok (n, p + 1 + 1) := by
  unfold Reader.u2
  rw [dc_bind _ _ c p (dc_u1 h), dc_bind _ _ c (p + 1) (dc_u1 h1), hn]
  rfl
theorem dc_s1 {c : ByteArray} {p x : Nat} {z : Int} (h : gb c p x) (hz : Reader.signed 8 x = z) : (Reader.s1 : Decoder Int) c p = .ok (z, p + 1) := by
  subst hz
  exact dc_map (Reader.u1 : Decoder Nat) (Reader.signed 8) c p (dc_u1 h)
theorem dc_s2 {c : ByteArray} {p x y : Nat} {z : Int} (h : gb c p x) (h1 : gb c (p + 1) y) (hz : Reader.signed 16 (x * 256 + y) = z) : (Reader.s2 : Decoder Int) c p = .ok (z, p + 1 + 1) := by
  subst hz
  exact dc_map (Reader.u2 : Decoder Nat) (Reader.signed 16) c p (dc_u2 h h1 rfl)
theorem dc_ok {c : ByteArray} {p s n : Nat} {i : Instr} (h : Decoder.instr p c p = .ok (i, s)) (hn : s - p = n) : decode c p = .ok (i, n) := by
  subst hn
  show Except.bind (Decoder.instr p c p) _ = _
  rw [h]
  rfl
set_option maxRecDepth 100000 in
theorem d_1 {c : ByteArray} {p : Nat} (h : gb c p 1) : decode c p = .ok (.aconst_null, 1) := dc_ok (s := p + 1) (by
  unfold Decoder.instr
  rw [dc_bind _ _ c p (dc_u1 h)]
  rfl) (by omega)
set_option maxRecDepth 100000 in
theorem d_2 {c : ByteArray} {p : Nat} (h : gb c p 2) : decode c p = .ok (.iconst (-1), 1) := dc_ok (s := p + 1) (by
  unfold Decoder.instr
  rw [dc_bind _ _ c p (dc_u1 h)]
  rfl) (by omega)
set_option maxRecDepth 100000 in
theorem d_3 {c : ByteArray} {p : Nat} (h : gb c p 3) : decode c p = .ok (.iconst 0, 1) := dc_ok (s := p + 1) (by
  unfold Decoder.instr
  rw [dc_bind _ _ c p (dc_u1 h)]
  rfl) (by omega)
set_option maxRecDepth 100000 in
theorem d_4 {c : ByteArray} {p : Nat} (h : gb c p 4) : decode c p = .ok (.iconst 1, 1) := dc_ok (s := p + 1) (by
  unfold Decoder.instr
  rw [dc_bind _ _ c p (dc_u1 h)]
  rfl) (by omega)
set_option maxRecDepth 100000 in
theorem d_5 {c : ByteArray} {p : Nat} (h : gb c p 5) : decode c p = .ok (.iconst 2, 1) := dc_ok (s := p + 1) (by
  unfold Decoder.instr
  rw [dc_bind _ _ c p (dc_u1 h)]
  rfl) (by omega)
set_option maxRecDepth 100000 in
theorem d_6 {c : ByteArray} {p : Nat} (h : gb c p 6) : decode c p = .ok (.iconst 3, 1) := dc_ok (s := p + 1) (by
  unfold Decoder.instr
  rw [dc_bind _ _ c p (dc_u1 h)]
  rfl) (by omega)
set_option maxRecDepth 100000 in
theorem d_7 {c : ByteArray} {p : Nat} (h : gb c p 7) : decode c p = .ok (.iconst 4, 1) := dc_ok (s := p + 1) (by
  unfold Decoder.instr
  rw [dc_bind _ _ c p (dc_u1 h)]
  rfl) (by omega)
set_option maxRecDepth 100000 in
theorem d_8 {c : ByteArray} {p : Nat} (h : gb c p 8) : decode c p = .ok (.iconst 5, 1) := dc_ok (s := p + 1) (by
  unfold Decoder.instr
  rw [dc_bind _ _ c p (dc_u1 h)]
  rfl) (by omega)
set_option maxRecDepth 100000 in
theorem d_16 {c : ByteArray} {p x : Nat} {z : Int} (h : gb c p 16) (h1 : gb c (p + 1) x) (hz : Reader.signed 8 x = z) : decode c p = .ok (.bipush z, 2) := dc_ok (s := p + 1 + 1) (by
  unfold Decoder.instr
  rw [dc_bind _ _ c p (dc_u1 h)]
  show (Reader.s1 >>= fun a => pure (Instr.bipush a) : Decoder Instr) c (p + 1) = _
  rw [dc_bind _ _ c (p + 1) (dc_s1 h1 hz)]
  rfl) (by omega)
set_option maxRecDepth 100000 in
theorem d_17 {c : ByteArray} {p x y : Nat} {z : Int} (h : gb c p 17) (h1 : gb c (p + 1) x) (h2 : gb c (p + 2) y) (hz : Reader.signed 16 (x * 256 + y) = z) : decode c p = .ok (.sipush z, 3) := dc_ok (s := p + 1 + 1 + 1) (by
  unfold Decoder.instr
  rw [dc_bind _ _ c p (dc_u1 h)]
  show (Reader.s2 >>= fun a => pure (Instr.sipush a) : Decoder Instr) c (p + 1) = _
  rw [dc_bind _ _ c (p + 1) (dc_s2 h1 h2 hz)]
  rfl) (by omega)
set_option maxRecDepth 100000 in
theorem d_18 {c : ByteArray} {p x : Nat} (h : gb c p 18) (h1 : gb c (p + 1) x) : decode c p = .ok (.ldc x, 2) := dc_ok (s := p + 1 + 1) (by
  unfold Decoder.instr
  rw [dc_bind _ _ c p (dc_u1 h)]
  show (Reader.u1 >>= fun a => pure (Instr.ldc a) : Decoder Instr) c (p + 1) = _
  rw [dc_bind _ _ c (p + 1) (dc_u1 h1)]
  rfl) (by omega)
set_option maxRecDepth 100000 in
theorem d_19 {c : ByteArray} {p x y z : Nat} (h : gb c p 19) (h1 : gb c (p + 1) x) (h2 : gb c (p + 2) y) (hz : x * 256 + y = z) : decode c p = .ok (.ldc_w z, 3) := dc_ok (s := p + 1 + 1 + 1) (by
  unfold Decoder.instr
  rw [dc_bind _ _ c p (dc_u1 h)]
  show (Reader.u2 >>= fun a => pure (Instr.ldc_w a) : Decoder Instr) c (p + 1) = _
  rw [dc_bind _ _ c (p + 1) (dc_u2 h1 h2 hz)]
  rfl) (by omega)
set_option maxRecDepth 100000 in
theorem d_20 {c : ByteArray} {p x y z : Nat} (h : gb c p 20) (h1 : gb c (p + 1) x) (h2 : gb c (p + 2) y) (hz : x * 256 + y = z) : decode c p = .ok (.ldc2_w z, 3) := dc_ok (s := p + 1 + 1 + 1) (by
  unfold Decoder.instr
  rw [dc_bind _ _ c p (dc_u1 h)]
  show (Reader.u2 >>= fun a => pure (Instr.ldc2_w a) : Decoder Instr) c (p + 1) = _
  rw [dc_bind _ _ c (p + 1) (dc_u2 h1 h2 hz)]
  rfl) (by omega)
set_option maxRecDepth 100000 in
theorem d_21 {c : ByteArray} {p x : Nat} (h : gb c p 21) (h1 : gb c (p + 1) x) : decode c p = .ok (.iload x, 2) := dc_ok (s := p + 1 + 1) (by
  unfold Decoder.instr
  rw [dc_bind _ _ c p (dc_u1 h)]
  show (Reader.u1 >>= fun a => pure (Instr.iload a) : Decoder Instr) c (p + 1) = _
  rw [dc_bind _ _ c (p + 1) (dc_u1 h1)]
  rfl) (by omega)
set_option maxRecDepth 100000 in
theorem d_25 {c : ByteArray} {p x : Nat} (h : gb c p 25) (h1 : gb c (p + 1) x) : decode c p = .ok (.aload x, 2) := dc_ok (s := p + 1 + 1) (by
  unfold Decoder.instr
  rw [dc_bind _ _ c p (dc_u1 h)]
  show (Reader.u1 >>= fun a => pure (Instr.aload a) : Decoder Instr) c (p + 1) = _
  rw [dc_bind _ _ c (p + 1) (dc_u1 h1)]
  rfl) (by omega)
set_option maxRecDepth 100000 in
theorem d_26 {c : ByteArray} {p : Nat} (h : gb c p 26) : decode c p = .ok (.iload_n 0, 1) := dc_ok (s := p + 1) (by
  unfold Decoder.instr
  rw [dc_bind _ _ c p (dc_u1 h)]
  rfl) (by omega)
set_option maxRecDepth 100000 in
theorem d_27 {c : ByteArray} {p : Nat} (h : gb c p 27) : decode c p = .ok (.iload_n 1, 1) := dc_ok (s := p + 1) (by
  unfold Decoder.instr
  rw [dc_bind _ _ c p (dc_u1 h)]
  rfl) (by omega)
set_option maxRecDepth 100000 in
theorem d_28 {c : ByteArray} {p : Nat} (h : gb c p 28) : decode c p = .ok (.iload_n 2, 1) := dc_ok (s := p + 1) (by
  unfold Decoder.instr
  rw [dc_bind _ _ c p (dc_u1 h)]
  rfl) (by omega)
set_option maxRecDepth 100000 in
theorem d_29 {c : ByteArray} {p : Nat} (h : gb c p 29) : decode c p = .ok (.iload_n 3, 1) := dc_ok (s := p + 1) (by
  unfold Decoder.instr
  rw [dc_bind _ _ c p (dc_u1 h)]
  rfl) (by omega)
set_option maxRecDepth 100000 in
theorem d_32 {c : ByteArray} {p : Nat} (h : gb c p 32) : decode c p = .ok (.lload_n 2, 1) := dc_ok (s := p + 1) (by
  unfold Decoder.instr
  rw [dc_bind _ _ c p (dc_u1 h)]
  rfl) (by omega)
set_option maxRecDepth 100000 in
theorem d_42 {c : ByteArray} {p : Nat} (h : gb c p 42) : decode c p = .ok (.aload_n 0, 1) := dc_ok (s := p + 1) (by
  unfold Decoder.instr
  rw [dc_bind _ _ c p (dc_u1 h)]
  rfl) (by omega)
set_option maxRecDepth 100000 in
theorem d_43 {c : ByteArray} {p : Nat} (h : gb c p 43) : decode c p = .ok (.aload_n 1, 1) := dc_ok (s := p + 1) (by
  unfold Decoder.instr
  rw [dc_bind _ _ c p (dc_u1 h)]
  rfl) (by omega)
set_option maxRecDepth 100000 in
theorem d_44 {c : ByteArray} {p : Nat} (h : gb c p 44) : decode c p = .ok (.aload_n 2, 1) := dc_ok (s := p + 1) (by
  unfold Decoder.instr
  rw [dc_bind _ _ c p (dc_u1 h)]
  rfl) (by omega)
set_option maxRecDepth 100000 in
theorem d_45 {c : ByteArray} {p : Nat} (h : gb c p 45) : decode c p = .ok (.aload_n 3, 1) := dc_ok (s := p + 1) (by
  unfold Decoder.instr
  rw [dc_bind _ _ c p (dc_u1 h)]
  rfl) (by omega)
set_option maxRecDepth 100000 in
theorem d_46 {c : ByteArray} {p : Nat} (h : gb c p 46) : decode c p = .ok (.iaload, 1) := dc_ok (s := p + 1) (by
  unfold Decoder.instr
  rw [dc_bind _ _ c p (dc_u1 h)]
  rfl) (by omega)
set_option maxRecDepth 100000 in
theorem d_50 {c : ByteArray} {p : Nat} (h : gb c p 50) : decode c p = .ok (.aaload, 1) := dc_ok (s := p + 1) (by
  unfold Decoder.instr
  rw [dc_bind _ _ c p (dc_u1 h)]
  rfl) (by omega)
set_option maxRecDepth 100000 in
theorem d_51 {c : ByteArray} {p : Nat} (h : gb c p 51) : decode c p = .ok (.baload, 1) := dc_ok (s := p + 1) (by
  unfold Decoder.instr
  rw [dc_bind _ _ c p (dc_u1 h)]
  rfl) (by omega)
set_option maxRecDepth 100000 in
theorem d_54 {c : ByteArray} {p x : Nat} (h : gb c p 54) (h1 : gb c (p + 1) x) : decode c p = .ok (.istore x, 2) := dc_ok (s := p + 1 + 1) (by
  unfold Decoder.instr
  rw [dc_bind _ _ c p (dc_u1 h)]
  show (Reader.u1 >>= fun a => pure (Instr.istore a) : Decoder Instr) c (p + 1) = _
  rw [dc_bind _ _ c (p + 1) (dc_u1 h1)]
  rfl) (by omega)
set_option maxRecDepth 100000 in
theorem d_58 {c : ByteArray} {p x : Nat} (h : gb c p 58) (h1 : gb c (p + 1) x) : decode c p = .ok (.astore x, 2) := dc_ok (s := p + 1 + 1) (by
  unfold Decoder.instr
  rw [dc_bind _ _ c p (dc_u1 h)]
  show (Reader.u1 >>= fun a => pure (Instr.astore a) : Decoder Instr) c (p + 1) = _
  rw [dc_bind _ _ c (p + 1) (dc_u1 h1)]
  rfl) (by omega)
set_option maxRecDepth 100000 in
theorem d_59 {c : ByteArray} {p : Nat} (h : gb c p 59) : decode c p = .ok (.istore_n 0, 1) := dc_ok (s := p + 1) (by
  unfold Decoder.instr
  rw [dc_bind _ _ c p (dc_u1 h)]
  rfl) (by omega)
set_option maxRecDepth 100000 in
theorem d_60 {c : ByteArray} {p : Nat} (h : gb c p 60) : decode c p = .ok (.istore_n 1, 1) := dc_ok (s := p + 1) (by
  unfold Decoder.instr
  rw [dc_bind _ _ c p (dc_u1 h)]
  rfl) (by omega)
set_option maxRecDepth 100000 in
theorem d_61 {c : ByteArray} {p : Nat} (h : gb c p 61) : decode c p = .ok (.istore_n 2, 1) := dc_ok (s := p + 1) (by
  unfold Decoder.instr
  rw [dc_bind _ _ c p (dc_u1 h)]
  rfl) (by omega)
set_option maxRecDepth 100000 in
theorem d_62 {c : ByteArray} {p : Nat} (h : gb c p 62) : decode c p = .ok (.istore_n 3, 1) := dc_ok (s := p + 1) (by
  unfold Decoder.instr
  rw [dc_bind _ _ c p (dc_u1 h)]
  rfl) (by omega)
set_option maxRecDepth 100000 in
theorem d_76 {c : ByteArray} {p : Nat} (h : gb c p 76) : decode c p = .ok (.astore_n 1, 1) := dc_ok (s := p + 1) (by
  unfold Decoder.instr
  rw [dc_bind _ _ c p (dc_u1 h)]
  rfl) (by omega)
set_option maxRecDepth 100000 in
theorem d_77 {c : ByteArray} {p : Nat} (h : gb c p 77) : decode c p = .ok (.astore_n 2, 1) := dc_ok (s := p + 1) (by
  unfold Decoder.instr
  rw [dc_bind _ _ c p (dc_u1 h)]
  rfl) (by omega)
set_option maxRecDepth 100000 in
theorem d_78 {c : ByteArray} {p : Nat} (h : gb c p 78) : decode c p = .ok (.astore_n 3, 1) := dc_ok (s := p + 1) (by
  unfold Decoder.instr
  rw [dc_bind _ _ c p (dc_u1 h)]
  rfl) (by omega)
set_option maxRecDepth 100000 in
theorem d_79 {c : ByteArray} {p : Nat} (h : gb c p 79) : decode c p = .ok (.iastore, 1) := dc_ok (s := p + 1) (by
  unfold Decoder.instr
  rw [dc_bind _ _ c p (dc_u1 h)]
  rfl) (by omega)
set_option maxRecDepth 100000 in
theorem d_83 {c : ByteArray} {p : Nat} (h : gb c p 83) : decode c p = .ok (.aastore, 1) := dc_ok (s := p + 1) (by
  unfold Decoder.instr
  rw [dc_bind _ _ c p (dc_u1 h)]
  rfl) (by omega)
set_option maxRecDepth 100000 in
theorem d_84 {c : ByteArray} {p : Nat} (h : gb c p 84) : decode c p = .ok (.bastore, 1) := dc_ok (s := p + 1) (by
  unfold Decoder.instr
  rw [dc_bind _ _ c p (dc_u1 h)]
  rfl) (by omega)
set_option maxRecDepth 100000 in
theorem d_87 {c : ByteArray} {p : Nat} (h : gb c p 87) : decode c p = .ok (.pop, 1) := dc_ok (s := p + 1) (by
  unfold Decoder.instr
  rw [dc_bind _ _ c p (dc_u1 h)]
  rfl) (by omega)
set_option maxRecDepth 100000 in
theorem d_89 {c : ByteArray} {p : Nat} (h : gb c p 89) : decode c p = .ok (.dup, 1) := dc_ok (s := p + 1) (by
  unfold Decoder.instr
  rw [dc_bind _ _ c p (dc_u1 h)]
  rfl) (by omega)
set_option maxRecDepth 100000 in
theorem d_92 {c : ByteArray} {p : Nat} (h : gb c p 92) : decode c p = .ok (.dup2, 1) := dc_ok (s := p + 1) (by
  unfold Decoder.instr
  rw [dc_bind _ _ c p (dc_u1 h)]
  rfl) (by omega)
set_option maxRecDepth 100000 in
theorem d_96 {c : ByteArray} {p : Nat} (h : gb c p 96) : decode c p = .ok (.iadd, 1) := dc_ok (s := p + 1) (by
  unfold Decoder.instr
  rw [dc_bind _ _ c p (dc_u1 h)]
  rfl) (by omega)
set_option maxRecDepth 100000 in
theorem d_100 {c : ByteArray} {p : Nat} (h : gb c p 100) : decode c p = .ok (.isub, 1) := dc_ok (s := p + 1) (by
  unfold Decoder.instr
  rw [dc_bind _ _ c p (dc_u1 h)]
  rfl) (by omega)
set_option maxRecDepth 100000 in
theorem d_104 {c : ByteArray} {p : Nat} (h : gb c p 104) : decode c p = .ok (.imul, 1) := dc_ok (s := p + 1) (by
  unfold Decoder.instr
  rw [dc_bind _ _ c p (dc_u1 h)]
  rfl) (by omega)
set_option maxRecDepth 100000 in
theorem d_108 {c : ByteArray} {p : Nat} (h : gb c p 108) : decode c p = .ok (.idiv, 1) := dc_ok (s := p + 1) (by
  unfold Decoder.instr
  rw [dc_bind _ _ c p (dc_u1 h)]
  rfl) (by omega)
set_option maxRecDepth 100000 in
theorem d_112 {c : ByteArray} {p : Nat} (h : gb c p 112) : decode c p = .ok (.irem, 1) := dc_ok (s := p + 1) (by
  unfold Decoder.instr
  rw [dc_bind _ _ c p (dc_u1 h)]
  rfl) (by omega)
set_option maxRecDepth 100000 in
theorem d_116 {c : ByteArray} {p : Nat} (h : gb c p 116) : decode c p = .ok (.ineg, 1) := dc_ok (s := p + 1) (by
  unfold Decoder.instr
  rw [dc_bind _ _ c p (dc_u1 h)]
  rfl) (by omega)
set_option maxRecDepth 100000 in
theorem d_120 {c : ByteArray} {p : Nat} (h : gb c p 120) : decode c p = .ok (.ishl, 1) := dc_ok (s := p + 1) (by
  unfold Decoder.instr
  rw [dc_bind _ _ c p (dc_u1 h)]
  rfl) (by omega)
set_option maxRecDepth 100000 in
theorem d_121 {c : ByteArray} {p : Nat} (h : gb c p 121) : decode c p = .ok (.lshl, 1) := dc_ok (s := p + 1) (by
  unfold Decoder.instr
  rw [dc_bind _ _ c p (dc_u1 h)]
  rfl) (by omega)
set_option maxRecDepth 100000 in
theorem d_122 {c : ByteArray} {p : Nat} (h : gb c p 122) : decode c p = .ok (.ishr, 1) := dc_ok (s := p + 1) (by
  unfold Decoder.instr
  rw [dc_bind _ _ c p (dc_u1 h)]
  rfl) (by omega)
set_option maxRecDepth 100000 in
theorem d_123 {c : ByteArray} {p : Nat} (h : gb c p 123) : decode c p = .ok (.lshr, 1) := dc_ok (s := p + 1) (by
  unfold Decoder.instr
  rw [dc_bind _ _ c p (dc_u1 h)]
  rfl) (by omega)
set_option maxRecDepth 100000 in
theorem d_124 {c : ByteArray} {p : Nat} (h : gb c p 124) : decode c p = .ok (.iushr, 1) := dc_ok (s := p + 1) (by
  unfold Decoder.instr
  rw [dc_bind _ _ c p (dc_u1 h)]
  rfl) (by omega)
set_option maxRecDepth 100000 in
theorem d_126 {c : ByteArray} {p : Nat} (h : gb c p 126) : decode c p = .ok (.iand, 1) := dc_ok (s := p + 1) (by
  unfold Decoder.instr
  rw [dc_bind _ _ c p (dc_u1 h)]
  rfl) (by omega)
set_option maxRecDepth 100000 in
theorem d_127 {c : ByteArray} {p : Nat} (h : gb c p 127) : decode c p = .ok (.land, 1) := dc_ok (s := p + 1) (by
  unfold Decoder.instr
  rw [dc_bind _ _ c p (dc_u1 h)]
  rfl) (by omega)
set_option maxRecDepth 100000 in
theorem d_128 {c : ByteArray} {p : Nat} (h : gb c p 128) : decode c p = .ok (.ior, 1) := dc_ok (s := p + 1) (by
  unfold Decoder.instr
  rw [dc_bind _ _ c p (dc_u1 h)]
  rfl) (by omega)
set_option maxRecDepth 100000 in
theorem d_129 {c : ByteArray} {p : Nat} (h : gb c p 129) : decode c p = .ok (.lor, 1) := dc_ok (s := p + 1) (by
  unfold Decoder.instr
  rw [dc_bind _ _ c p (dc_u1 h)]
  rfl) (by omega)
set_option maxRecDepth 100000 in
theorem d_130 {c : ByteArray} {p : Nat} (h : gb c p 130) : decode c p = .ok (.ixor, 1) := dc_ok (s := p + 1) (by
  unfold Decoder.instr
  rw [dc_bind _ _ c p (dc_u1 h)]
  rfl) (by omega)
set_option maxRecDepth 100000 in
theorem d_132 {c : ByteArray} {p x y : Nat} {z : Int} (h : gb c p 132) (h1 : gb c (p + 1) x) (h2 : gb c (p + 2) y) (hz : Reader.signed 8 y = z) : decode c p = .ok (.iinc x z, 3) := dc_ok (s := p + 1 + 1 + 1) (by
  unfold Decoder.instr
  rw [dc_bind _ _ c p (dc_u1 h)]
  show (Reader.u1 >>= fun a => Reader.s1 >>= fun b => pure (Instr.iinc a b) : Decoder Instr) c (p + 1) = _
  rw [dc_bind _ _ c (p + 1) (dc_u1 h1), dc_bind _ _ c (p + 1 + 1) (dc_s1 h2 hz)]
  rfl) (by omega)
set_option maxRecDepth 100000 in
theorem d_133 {c : ByteArray} {p : Nat} (h : gb c p 133) : decode c p = .ok (.i2l, 1) := dc_ok (s := p + 1) (by
  unfold Decoder.instr
  rw [dc_bind _ _ c p (dc_u1 h)]
  rfl) (by omega)
set_option maxRecDepth 100000 in
theorem d_136 {c : ByteArray} {p : Nat} (h : gb c p 136) : decode c p = .ok (.l2i, 1) := dc_ok (s := p + 1) (by
  unfold Decoder.instr
  rw [dc_bind _ _ c p (dc_u1 h)]
  rfl) (by omega)
set_option maxRecDepth 100000 in
theorem d_153 {c : ByteArray} {p x y : Nat} {z : Int} (h : gb c p 153) (h1 : gb c (p + 1) x) (h2 : gb c (p + 2) y) (hz : Reader.signed 16 (x * 256 + y) = z) : decode c p = .ok (.ifCond .eq z, 3) := dc_ok (s := p + 1 + 1 + 1) (by
  unfold Decoder.instr
  rw [dc_bind _ _ c p (dc_u1 h)]
  show (Reader.s2 >>= fun a => pure (Instr.ifCond .eq a) : Decoder Instr) c (p + 1) = _
  rw [dc_bind _ _ c (p + 1) (dc_s2 h1 h2 hz)]
  rfl) (by omega)
set_option maxRecDepth 100000 in
theorem d_154 {c : ByteArray} {p x y : Nat} {z : Int} (h : gb c p 154) (h1 : gb c (p + 1) x) (h2 : gb c (p + 2) y) (hz : Reader.signed 16 (x * 256 + y) = z) : decode c p = .ok (.ifCond .ne z, 3) := dc_ok (s := p + 1 + 1 + 1) (by
  unfold Decoder.instr
  rw [dc_bind _ _ c p (dc_u1 h)]
  show (Reader.s2 >>= fun a => pure (Instr.ifCond .ne a) : Decoder Instr) c (p + 1) = _
  rw [dc_bind _ _ c (p + 1) (dc_s2 h1 h2 hz)]
  rfl) (by omega)
set_option maxRecDepth 100000 in
theorem d_155 {c : ByteArray} {p x y : Nat} {z : Int} (h : gb c p 155) (h1 : gb c (p + 1) x) (h2 : gb c (p + 2) y) (hz : Reader.signed 16 (x * 256 + y) = z) : decode c p = .ok (.ifCond .lt z, 3) := dc_ok (s := p + 1 + 1 + 1) (by
  unfold Decoder.instr
  rw [dc_bind _ _ c p (dc_u1 h)]
  show (Reader.s2 >>= fun a => pure (Instr.ifCond .lt a) : Decoder Instr) c (p + 1) = _
  rw [dc_bind _ _ c (p + 1) (dc_s2 h1 h2 hz)]
  rfl) (by omega)
set_option maxRecDepth 100000 in
theorem d_156 {c : ByteArray} {p x y : Nat} {z : Int} (h : gb c p 156) (h1 : gb c (p + 1) x) (h2 : gb c (p + 2) y) (hz : Reader.signed 16 (x * 256 + y) = z) : decode c p = .ok (.ifCond .ge z, 3) := dc_ok (s := p + 1 + 1 + 1) (by
  unfold Decoder.instr
  rw [dc_bind _ _ c p (dc_u1 h)]
  show (Reader.s2 >>= fun a => pure (Instr.ifCond .ge a) : Decoder Instr) c (p + 1) = _
  rw [dc_bind _ _ c (p + 1) (dc_s2 h1 h2 hz)]
  rfl) (by omega)
set_option maxRecDepth 100000 in
theorem d_158 {c : ByteArray} {p x y : Nat} {z : Int} (h : gb c p 158) (h1 : gb c (p + 1) x) (h2 : gb c (p + 2) y) (hz : Reader.signed 16 (x * 256 + y) = z) : decode c p = .ok (.ifCond .le z, 3) := dc_ok (s := p + 1 + 1 + 1) (by
  unfold Decoder.instr
  rw [dc_bind _ _ c p (dc_u1 h)]
  show (Reader.s2 >>= fun a => pure (Instr.ifCond .le a) : Decoder Instr) c (p + 1) = _
  rw [dc_bind _ _ c (p + 1) (dc_s2 h1 h2 hz)]
  rfl) (by omega)
set_option maxRecDepth 100000 in
theorem d_159 {c : ByteArray} {p x y : Nat} {z : Int} (h : gb c p 159) (h1 : gb c (p + 1) x) (h2 : gb c (p + 2) y) (hz : Reader.signed 16 (x * 256 + y) = z) : decode c p = .ok (.if_icmp .eq z, 3) := dc_ok (s := p + 1 + 1 + 1) (by
  unfold Decoder.instr
  rw [dc_bind _ _ c p (dc_u1 h)]
  show (Reader.s2 >>= fun a => pure (Instr.if_icmp .eq a) : Decoder Instr) c (p + 1) = _
  rw [dc_bind _ _ c (p + 1) (dc_s2 h1 h2 hz)]
  rfl) (by omega)
set_option maxRecDepth 100000 in
theorem d_160 {c : ByteArray} {p x y : Nat} {z : Int} (h : gb c p 160) (h1 : gb c (p + 1) x) (h2 : gb c (p + 2) y) (hz : Reader.signed 16 (x * 256 + y) = z) : decode c p = .ok (.if_icmp .ne z, 3) := dc_ok (s := p + 1 + 1 + 1) (by
  unfold Decoder.instr
  rw [dc_bind _ _ c p (dc_u1 h)]
  show (Reader.s2 >>= fun a => pure (Instr.if_icmp .ne a) : Decoder Instr) c (p + 1) = _
  rw [dc_bind _ _ c (p + 1) (dc_s2 h1 h2 hz)]
  rfl) (by omega)
set_option maxRecDepth 100000 in
theorem d_161 {c : ByteArray} {p x y : Nat} {z : Int} (h : gb c p 161) (h1 : gb c (p + 1) x) (h2 : gb c (p + 2) y) (hz : Reader.signed 16 (x * 256 + y) = z) : decode c p = .ok (.if_icmp .lt z, 3) := dc_ok (s := p + 1 + 1 + 1) (by
  unfold Decoder.instr
  rw [dc_bind _ _ c p (dc_u1 h)]
  show (Reader.s2 >>= fun a => pure (Instr.if_icmp .lt a) : Decoder Instr) c (p + 1) = _
  rw [dc_bind _ _ c (p + 1) (dc_s2 h1 h2 hz)]
  rfl) (by omega)
set_option maxRecDepth 100000 in
theorem d_162 {c : ByteArray} {p x y : Nat} {z : Int} (h : gb c p 162) (h1 : gb c (p + 1) x) (h2 : gb c (p + 2) y) (hz : Reader.signed 16 (x * 256 + y) = z) : decode c p = .ok (.if_icmp .ge z, 3) := dc_ok (s := p + 1 + 1 + 1) (by
  unfold Decoder.instr
  rw [dc_bind _ _ c p (dc_u1 h)]
  show (Reader.s2 >>= fun a => pure (Instr.if_icmp .ge a) : Decoder Instr) c (p + 1) = _
  rw [dc_bind _ _ c (p + 1) (dc_s2 h1 h2 hz)]
  rfl) (by omega)
set_option maxRecDepth 100000 in
theorem d_163 {c : ByteArray} {p x y : Nat} {z : Int} (h : gb c p 163) (h1 : gb c (p + 1) x) (h2 : gb c (p + 2) y) (hz : Reader.signed 16 (x * 256 + y) = z) : decode c p = .ok (.if_icmp .gt z, 3) := dc_ok (s := p + 1 + 1 + 1) (by
  unfold Decoder.instr
  rw [dc_bind _ _ c p (dc_u1 h)]
  show (Reader.s2 >>= fun a => pure (Instr.if_icmp .gt a) : Decoder Instr) c (p + 1) = _
  rw [dc_bind _ _ c (p + 1) (dc_s2 h1 h2 hz)]
  rfl) (by omega)
set_option maxRecDepth 100000 in
theorem d_164 {c : ByteArray} {p x y : Nat} {z : Int} (h : gb c p 164) (h1 : gb c (p + 1) x) (h2 : gb c (p + 2) y) (hz : Reader.signed 16 (x * 256 + y) = z) : decode c p = .ok (.if_icmp .le z, 3) := dc_ok (s := p + 1 + 1 + 1) (by
  unfold Decoder.instr
  rw [dc_bind _ _ c p (dc_u1 h)]
  show (Reader.s2 >>= fun a => pure (Instr.if_icmp .le a) : Decoder Instr) c (p + 1) = _
  rw [dc_bind _ _ c (p + 1) (dc_s2 h1 h2 hz)]
  rfl) (by omega)
set_option maxRecDepth 100000 in
theorem d_165 {c : ByteArray} {p x y : Nat} {z : Int} (h : gb c p 165) (h1 : gb c (p + 1) x) (h2 : gb c (p + 2) y) (hz : Reader.signed 16 (x * 256 + y) = z) : decode c p = .ok (.if_acmp .eq z, 3) := dc_ok (s := p + 1 + 1 + 1) (by
  unfold Decoder.instr
  rw [dc_bind _ _ c p (dc_u1 h)]
  show (Reader.s2 >>= fun a => pure (Instr.if_acmp .eq a) : Decoder Instr) c (p + 1) = _
  rw [dc_bind _ _ c (p + 1) (dc_s2 h1 h2 hz)]
  rfl) (by omega)
set_option maxRecDepth 100000 in
theorem d_167 {c : ByteArray} {p x y : Nat} {z : Int} (h : gb c p 167) (h1 : gb c (p + 1) x) (h2 : gb c (p + 2) y) (hz : Reader.signed 16 (x * 256 + y) = z) : decode c p = .ok (.goto z, 3) := dc_ok (s := p + 1 + 1 + 1) (by
  unfold Decoder.instr
  rw [dc_bind _ _ c p (dc_u1 h)]
  show (Reader.s2 >>= fun a => pure (Instr.goto a) : Decoder Instr) c (p + 1) = _
  rw [dc_bind _ _ c (p + 1) (dc_s2 h1 h2 hz)]
  rfl) (by omega)
set_option maxRecDepth 100000 in
theorem d_172 {c : ByteArray} {p : Nat} (h : gb c p 172) : decode c p = .ok (.ireturn, 1) := dc_ok (s := p + 1) (by
  unfold Decoder.instr
  rw [dc_bind _ _ c p (dc_u1 h)]
  rfl) (by omega)
set_option maxRecDepth 100000 in
theorem d_176 {c : ByteArray} {p : Nat} (h : gb c p 176) : decode c p = .ok (.areturn, 1) := dc_ok (s := p + 1) (by
  unfold Decoder.instr
  rw [dc_bind _ _ c p (dc_u1 h)]
  rfl) (by omega)
set_option maxRecDepth 100000 in
theorem d_177 {c : ByteArray} {p : Nat} (h : gb c p 177) : decode c p = .ok (.return_, 1) := dc_ok (s := p + 1) (by
  unfold Decoder.instr
  rw [dc_bind _ _ c p (dc_u1 h)]
  rfl) (by omega)
set_option maxRecDepth 100000 in
theorem d_180 {c : ByteArray} {p x y z : Nat} (h : gb c p 180) (h1 : gb c (p + 1) x) (h2 : gb c (p + 2) y) (hz : x * 256 + y = z) : decode c p = .ok (.getfield z, 3) := dc_ok (s := p + 1 + 1 + 1) (by
  unfold Decoder.instr
  rw [dc_bind _ _ c p (dc_u1 h)]
  show (Reader.u2 >>= fun a => pure (Instr.getfield a) : Decoder Instr) c (p + 1) = _
  rw [dc_bind _ _ c (p + 1) (dc_u2 h1 h2 hz)]
  rfl) (by omega)
set_option maxRecDepth 100000 in
theorem d_181 {c : ByteArray} {p x y z : Nat} (h : gb c p 181) (h1 : gb c (p + 1) x) (h2 : gb c (p + 2) y) (hz : x * 256 + y = z) : decode c p = .ok (.putfield z, 3) := dc_ok (s := p + 1 + 1 + 1) (by
  unfold Decoder.instr
  rw [dc_bind _ _ c p (dc_u1 h)]
  show (Reader.u2 >>= fun a => pure (Instr.putfield a) : Decoder Instr) c (p + 1) = _
  rw [dc_bind _ _ c (p + 1) (dc_u2 h1 h2 hz)]
  rfl) (by omega)
set_option maxRecDepth 100000 in
theorem d_182 {c : ByteArray} {p x y z : Nat} (h : gb c p 182) (h1 : gb c (p + 1) x) (h2 : gb c (p + 2) y) (hz : x * 256 + y = z) : decode c p = .ok (.invokevirtual z, 3) := dc_ok (s := p + 1 + 1 + 1) (by
  unfold Decoder.instr
  rw [dc_bind _ _ c p (dc_u1 h)]
  show (Reader.u2 >>= fun a => pure (Instr.invokevirtual a) : Decoder Instr) c (p + 1) = _
  rw [dc_bind _ _ c (p + 1) (dc_u2 h1 h2 hz)]
  rfl) (by omega)
set_option maxRecDepth 100000 in
theorem d_183 {c : ByteArray} {p x y z : Nat} (h : gb c p 183) (h1 : gb c (p + 1) x) (h2 : gb c (p + 2) y) (hz : x * 256 + y = z) : decode c p = .ok (.invokespecial z, 3) := dc_ok (s := p + 1 + 1 + 1) (by
  unfold Decoder.instr
  rw [dc_bind _ _ c p (dc_u1 h)]
  show (Reader.u2 >>= fun a => pure (Instr.invokespecial a) : Decoder Instr) c (p + 1) = _
  rw [dc_bind _ _ c (p + 1) (dc_u2 h1 h2 hz)]
  rfl) (by omega)
set_option maxRecDepth 100000 in
theorem d_184 {c : ByteArray} {p x y z : Nat} (h : gb c p 184) (h1 : gb c (p + 1) x) (h2 : gb c (p + 2) y) (hz : x * 256 + y = z) : decode c p = .ok (.invokestatic z, 3) := dc_ok (s := p + 1 + 1 + 1) (by
  unfold Decoder.instr
  rw [dc_bind _ _ c p (dc_u1 h)]
  show (Reader.u2 >>= fun a => pure (Instr.invokestatic a) : Decoder Instr) c (p + 1) = _
  rw [dc_bind _ _ c (p + 1) (dc_u2 h1 h2 hz)]
  rfl) (by omega)
set_option maxRecDepth 100000 in
theorem d_187 {c : ByteArray} {p x y z : Nat} (h : gb c p 187) (h1 : gb c (p + 1) x) (h2 : gb c (p + 2) y) (hz : x * 256 + y = z) : decode c p = .ok (.new z, 3) := dc_ok (s := p + 1 + 1 + 1) (by
  unfold Decoder.instr
  rw [dc_bind _ _ c p (dc_u1 h)]
  show (Reader.u2 >>= fun a => pure (Instr.new a) : Decoder Instr) c (p + 1) = _
  rw [dc_bind _ _ c (p + 1) (dc_u2 h1 h2 hz)]
  rfl) (by omega)
set_option maxRecDepth 100000 in
theorem d_189 {c : ByteArray} {p x y z : Nat} (h : gb c p 189) (h1 : gb c (p + 1) x) (h2 : gb c (p + 2) y) (hz : x * 256 + y = z) : decode c p = .ok (.anewarray z, 3) := dc_ok (s := p + 1 + 1 + 1) (by
  unfold Decoder.instr
  rw [dc_bind _ _ c p (dc_u1 h)]
  show (Reader.u2 >>= fun a => pure (Instr.anewarray a) : Decoder Instr) c (p + 1) = _
  rw [dc_bind _ _ c (p + 1) (dc_u2 h1 h2 hz)]
  rfl) (by omega)
set_option maxRecDepth 100000 in
theorem d_190 {c : ByteArray} {p : Nat} (h : gb c p 190) : decode c p = .ok (.arraylength, 1) := dc_ok (s := p + 1) (by
  unfold Decoder.instr
  rw [dc_bind _ _ c p (dc_u1 h)]
  rfl) (by omega)
set_option maxRecDepth 100000 in
theorem d_198 {c : ByteArray} {p x y : Nat} {z : Int} (h : gb c p 198) (h1 : gb c (p + 1) x) (h2 : gb c (p + 2) y) (hz : Reader.signed 16 (x * 256 + y) = z) : decode c p = .ok (.ifnull z, 3) := dc_ok (s := p + 1 + 1 + 1) (by
  unfold Decoder.instr
  rw [dc_bind _ _ c p (dc_u1 h)]
  show (Reader.s2 >>= fun a => pure (Instr.ifnull a) : Decoder Instr) c (p + 1) = _
  rw [dc_bind _ _ c (p + 1) (dc_s2 h1 h2 hz)]
  rfl) (by omega)
set_option maxRecDepth 100000 in
theorem d_199 {c : ByteArray} {p x y : Nat} {z : Int} (h : gb c p 199) (h1 : gb c (p + 1) x) (h2 : gb c (p + 2) y) (hz : Reader.signed 16 (x * 256 + y) = z) : decode c p = .ok (.ifnonnull z, 3) := dc_ok (s := p + 1 + 1 + 1) (by
  unfold Decoder.instr
  rw [dc_bind _ _ c p (dc_u1 h)]
  show (Reader.s2 >>= fun a => pure (Instr.ifnonnull a) : Decoder Instr) c (p + 1) = _
  rw [dc_bind _ _ c (p + 1) (dc_s2 h1 h2 hz)]
  rfl) (by omega)

section
/-! A MACHINE IN PLAIN WORDS: the instructions of this claim over a heap of functions; below it is held by the machine itself, once for all methods -/
/-- the next address, the slots made so far, the kind of a cell (0 none; c + 1 an object of the owner c; 20 ints, 21 booleans, 22 + c references to objects of c), an array's length, ints, references (0 none) -/
abbrev AH : Type := Nat × Nat × (Nat → Nat) × (Nat → Nat) × (Nat → Nat → Int32) × (Nat → Nat → Nat)
abbrev AL : Type := List (Option Value)
def a_nx (h : AH) : Nat := h.1
def a_tot (h : AH) : Nat := h.2.1
def a_kd (h : AH) : Nat → Nat := h.2.2.1
def a_ln (h : AH) : Nat → Nat := h.2.2.2.1
def a_iv (h : AH) : Nat → Nat → Int32 := h.2.2.2.2.1
def a_rv (h : AH) : Nat → Nat → Nat := h.2.2.2.2.2
def a_rf (r : Nat) : Value := if r = 0 then .null else .ref r
def a_op (r : Nat) : Option Nat := if r = 0 then none else some r
def a_up (f : Nat → Nat) (a v : Nat) : Nat → Nat := fun x => if x = a then v else f x
def a_ui (f : Nat → Nat → Int32) (a k : Nat) (v : Int32) : Nat → Nat → Int32 := fun x j => if x = a ∧ j = k then v else f x j
def a_ur (f : Nat → Nat → Nat) (a k : Nat) (v : Nat) : Nat → Nat → Nat := fun x j => if x = a ∧ j = k then v else f x j
def a_setI (h : AH) (a k : Nat) (v : Int32) : AH := (a_nx h, a_tot h, a_kd h, a_ln h, a_ui (a_iv h) a k v, a_rv h)
def a_setR (h : AH) (a k v : Nat) : AH := (a_nx h, a_tot h, a_kd h, a_ln h, a_iv h, a_ur (a_rv h) a k v)
/-- a new cell of a kind, of N slots -/
def a_mk (h : AH) (kind N : Nat) : AH := (a_nx h + 1, a_tot h + N, a_up (a_kd h) (a_nx h) kind, a_up (a_ln h) (a_nx h) N, (fun x j => if x = a_nx h then 0 else a_iv h x j), (fun x j => if x = a_nx h then 0 else a_rv h x j))
def a_copy (h : AH) (a b sp dp n : Nat) : AH := (a_nx h, a_tot h, a_kd h, a_ln h, (fun x j => if x = b then va_cpy (a_iv h a) (a_iv h b) sp dp n j else a_iv h x j), a_rv h)
/-- where the instruction leads: on, into a method (its number, what it is given, the pc behind, the stack left), or out -/
abbrev AR : Type := (Nat × AL × List Value × AH) ⊕ ((Nat × List Value × Nat × List Value) ⊕ (Option Value))
def a_go (pc : Nat) (ls : AL) (st : List Value) (h : AH) : Option AR := some (.inl (pc, ls, st, h))
def a_in (i : Int32) (n : Nat) : Prop := ¬ (i < 0 ∨ n ≤ i.toNatClampNeg)
def x_load (k pc' : Nat) (ls : AL) (st : List Value) (h : AH) (want : Value → Bool) : Option AR :=
  match ls[k]? with
  | some (some v) => if want v = true then a_go pc' ls (v :: st) h else none
  | _ => none
def a_isI : Value → Bool
  | .int _ => true
  | _ => false
def a_isL : Value → Bool
  | .long _ => true
  | _ => false
def a_isR : Value → Bool
  | .ref _ => true
  | .null => true
  | _ => false
/-- no long begins just ahead of place k -/
def a_clear (ls : AL) (k : Nat) : Bool := match k with
  | 0 => true
  | j + 1 => match ls[j]? with
    | some (some v) => v.category == 1
    | _ => true
def x_store (k pc' : Nat) (ls : AL) (st : List Value) (h : AH) (want : Value → Bool) : Option AR :=
  match st with
  | v :: st => if want v = true ∧ k < ls.length ∧ a_clear ls k = true then a_go pc' (ls.set k (some v)) st h else none
  | _ => none
def x_iinc (k : Nat) (n : Int) (pc' : Nat) (ls : AL) (st : List Value) (h : AH) : Option AR :=
  match ls[k]? with
  | some (some (.int x)) => if a_clear ls k = true then a_go pc' (ls.set k (some (.int (x + Int32.ofInt n)))) st h else none
  | _ => none
def x_push (v : Value) (pc' : Nat) (ls : AL) (st : List Value) (h : AH) : Option AR := a_go pc' ls (v :: st) h
def x_bin (f : Int32 → Int32 → Int32) (pc' : Nat) (ls : AL) (st : List Value) (h : AH) : Option AR :=
  match st with
  | .int y :: .int x :: st => a_go pc' ls (.int (f x y) :: st) h
  | _ => none
def x_div (f : Int32 → Int32 → Int32) (pc' : Nat) (ls : AL) (st : List Value) (h : AH) : Option AR :=
  match st with
  | .int y :: .int x :: st => if y = 0 then none else a_go pc' ls (.int (f x y) :: st) h
  | _ => none
def x_lbin (f : Int64 → Int64 → Int64) (pc' : Nat) (ls : AL) (st : List Value) (h : AH) : Option AR :=
  match st with
  | .long y :: .long x :: st => a_go pc' ls (.long (f x y) :: st) h
  | _ => none
def x_lsh (f : Int64 → Int32 → Int64) (pc' : Nat) (ls : AL) (st : List Value) (h : AH) : Option AR :=
  match st with
  | .int y :: .long x :: st => a_go pc' ls (.long (f x y) :: st) h
  | _ => none
def x_neg (pc' : Nat) (ls : AL) (st : List Value) (h : AH) : Option AR :=
  match st with
  | .int x :: st => a_go pc' ls (.int (-x) :: st) h
  | _ => none
def x_i2l (pc' : Nat) (ls : AL) (st : List Value) (h : AH) : Option AR :=
  match st with
  | .int x :: st => a_go pc' ls (.long x.toInt64 :: st) h
  | _ => none
def x_l2i (pc' : Nat) (ls : AL) (st : List Value) (h : AH) : Option AR :=
  match st with
  | .long x :: st => a_go pc' ls (.int x.toInt32 :: st) h
  | _ => none
def a_jump (pc : Nat) (off : Int) : Option Nat := if 0 ≤ (pc : Int) + off then some ((pc : Int) + off).toNat else none
def a_to (pc : Nat) (off : Int) (ls : AL) (st : List Value) (h : AH) : Option AR := match a_jump pc off with
  | some t => a_go t ls st h
  | none => none
def a_cond (c : Jvm.ClassFile.Cond) (x y : Int32) : Bool := match c with
  | .eq => decide (x = y)
  | .ne => decide (¬ x = y)
  | .lt => decide (x < y)
  | .ge => decide (y ≤ x)
  | .gt => decide (y < x)
  | .le => decide (x ≤ y)
def a_br (t : Bool) (pc : Nat) (off : Int) (ls : AL) (st : List Value) (h : AH) : Option AR := match a_jump pc off with
  | some tgt => if t = true then a_go tgt ls st h else a_go (pc + 3) ls st h
  | none => none
def x_icmp (c : Jvm.ClassFile.Cond) (off : Int) (pc : Nat) (ls : AL) (st : List Value) (h : AH) : Option AR :=
  match st with
  | .int y :: .int x :: st => a_br (a_cond c x y) pc off ls st h
  | _ => none
def x_if (c : Jvm.ClassFile.Cond) (off : Int) (pc : Nat) (ls : AL) (st : List Value) (h : AH) : Option AR :=
  match st with
  | .int x :: st => a_br (a_cond c x 0) pc off ls st h
  | _ => none
/-- jump at a reference (b: jump at none) -/
def x_null (b : Bool) (off : Int) (pc : Nat) (ls : AL) (st : List Value) (h : AH) : Option AR :=
  match st with
  | .null :: st => if b = true then a_to pc off ls st h else a_go (pc + 3) ls st h
  | .ref _ :: st => if b = true then a_go (pc + 3) ls st h else a_to pc off ls st h
  | _ => none
def a_adr : Value → Option (Option Nat)
  | .null => some none
  | .ref a => some (some a)
  | _ => none
def x_acmp (b : Bool) (off : Int) (pc : Nat) (ls : AL) (st : List Value) (h : AH) : Option AR :=
  match st with
  | y :: x :: st => match a_adr y, a_adr x with
    | some ry, some rx => a_br (decide (decide (rx = ry) = b)) pc off ls st h
    | _, _ => none
  | _ => none
def x_table (d lo hi : Int) (offs : Array Int) (pc : Nat) (ls : AL) (st : List Value) (h : AH) : Option AR :=
  match st with
  | .int x :: st => if x.toInt < lo ∨ hi < x.toInt then a_to pc d ls st h else match offs[(x.toInt - lo).toNat]? with
    | some off => a_to pc off ls st h
    | none => none
  | _ => none
def x_look (d : Int) (ps : Array (Int × Int)) (pc : Nat) (ls : AL) (st : List Value) (h : AH) : Option AR :=
  match st with
  | .int x :: st => if (ps.toList.zip (ps.toList.drop 1)).all (fun (a, next) => a.1 < next.1) = true then a_to pc (Op.lookupswitch.offset ps.toList d x.toInt) ls st h else none
  | _ => none
def a_slot (h : AH) (a c k : Nat) : Value := if a_fty c k = 2 then a_rf (a_rv h a k) else .int (a_iv h a k)
def a_fld (o idx : Nat) : Option (Nat × Nat × Nat × Nat) := a_fl.find? (fun e => e.1 == o && e.2.1 == idx)
def x_getf (o idx pc' : Nat) (ls : AL) (st : List Value) (h : AH) : Option AR :=
  match st, a_fld o idx with
  | .ref a :: st, some (_, _, c, k) => if a_kd h a = c + 1 then a_go pc' ls (a_slot h a c k :: st) h else none
  | _, _ => none
def x_putf (o : Nat) (ini : Bool) (idx pc' : Nat) (ls : AL) (st : List Value) (h : AH) : Option AR :=
  match st, a_fld o idx with
  | v :: .ref a :: st, some (_, _, c, k) =>
    if a_kd h a = c + 1 ∧ (a_fin c k = true → ini = true ∧ c = o) then
      match v with
      | .int x => if a_fty c k = 0 ∨ (a_fty c k = 1 ∧ (x = 0 ∨ x = 1)) then a_go pc' ls st (a_setI h a k x) else none
      | .ref r => if a_fty c k = 2 ∧ r ≠ 0 then a_go pc' ls st (a_setR h a k r) else none
      | .null => if a_fty c k = 2 then a_go pc' ls st (a_setR h a k 0) else none
      | _ => none
    else none
  | _, _ => none
def x_iald (sc : Option (Nat × Nat × (Nat → Int32))) (kind pc' : Nat) (ls : AL) (st : List Value) (h : AH) : Option AR :=
  match st with
  | .int i :: .ref a :: st =>
    if a_kd h a = kind ∧ ¬ (i < 0 ∨ a_ln h a ≤ i.toNatClampNeg) then a_go pc' ls (.int (a_iv h a i.toNatClampNeg) :: st) h
    else match sc with
    | some (b, L, xs) => if kind = 20 ∧ a = b ∧ ¬ (i < 0 ∨ L ≤ i.toNatClampNeg) then a_go pc' ls (.int (xs i.toNatClampNeg) :: st) h else none
    | none => none
  | _ => none
def x_aald (pc' : Nat) (ls : AL) (st : List Value) (h : AH) : Option AR :=
  match st with
  | .int i :: .ref a :: st => if a_aks.contains (a_kd h a - 22) = true ∧ 22 ≤ a_kd h a ∧ ¬ (i < 0 ∨ a_ln h a ≤ i.toNatClampNeg) then a_go pc' ls (a_rf (a_rv h a i.toNatClampNeg) :: st) h else none
  | _ => none
def x_iast (pc' : Nat) (ls : AL) (st : List Value) (h : AH) : Option AR :=
  match st with
  | .int x :: .int i :: .ref a :: st => if a_kd h a = 20 ∧ ¬ (i < 0 ∨ a_ln h a ≤ i.toNatClampNeg) then a_go pc' ls st (a_setI h a i.toNatClampNeg x) else none
  | _ => none
def x_zast (pc' : Nat) (ls : AL) (st : List Value) (h : AH) : Option AR :=
  match st with
  | .int x :: .int i :: .ref a :: st => if a_kd h a = 21 ∧ ¬ (i < 0 ∨ a_ln h a ≤ i.toNatClampNeg) then a_go pc' ls st (a_setI h a i.toNatClampNeg (x &&& 1)) else none
  | _ => none
def x_aast (pc' : Nat) (ls : AL) (st : List Value) (h : AH) : Option AR :=
  match st with
  | v :: .int i :: .ref a :: st =>
    if a_aks.contains (a_kd h a - 22) = true ∧ 22 ≤ a_kd h a ∧ ¬ (i < 0 ∨ a_ln h a ≤ i.toNatClampNeg) then
      match v with
      | .null => a_go pc' ls st (a_setR h a i.toNatClampNeg 0)
      | .ref r => if a_kd h r = a_kd h a - 22 + 1 ∧ r ≠ 0 then a_go pc' ls st (a_setR h a i.toNatClampNeg r) else none
      | _ => none
    else none
  | _ => none
def x_alen (sc : Option (Nat × Nat × (Nat → Int32))) (pc' : Nat) (ls : AL) (st : List Value) (h : AH) : Option AR :=
  match st with
  | .ref a :: st =>
    if 20 ≤ a_kd h a ∧ (a_kd h a < 22 ∨ a_aks.contains (a_kd h a - 22) = true) then a_go pc' ls (.int (Int32.ofNat (a_ln h a)) :: st) h
    else match sc with
    | some (b, L, _) => if a = b then a_go pc' ls (.int (Int32.ofNat L) :: st) h else none
    | none => none
  | _ => none
def x_newarr (kind pc' : Nat) (ls : AL) (st : List Value) (h : AH) : Option AR :=
  match st with
  | .int n :: st => if ¬ n < 0 ∧ n.toNatClampNeg ≤ 1000000 then a_go pc' ls (.ref (a_nx h) :: st) (a_mk h kind n.toNatClampNeg) else none
  | _ => none
def x_new (o idx pc' : Nat) (ls : AL) (st : List Value) (h : AH) : Option AR :=
  match a_nw.find? (fun e => e.1 == o && e.2.1 == idx) with
  | some (_, _, c) => a_go pc' ls (.ref (a_nx h) :: st) (a_mk h (c + 1) (a_N c))
  | none => none
def x_anew (o idx pc' : Nat) (ls : AL) (st : List Value) (h : AH) : Option AR :=
  match a_an.find? (fun e => e.1 == o && e.2.1 == idx) with
  | some (_, _, c) => x_newarr (22 + c) pc' ls st h
  | none => none
def x_dup (pc' : Nat) (ls : AL) (st : List Value) (h : AH) : Option AR :=
  match st with
  | v :: st => if v.category = 1 then a_go pc' ls (v :: v :: st) h else none
  | _ => none
def x_dup2 (pc' : Nat) (ls : AL) (st : List Value) (h : AH) : Option AR :=
  match st with
  | v :: w :: st => if v.category = 1 ∧ w.category = 1 then a_go pc' ls (v :: w :: v :: w :: st) h else none
  | _ => none
def x_pop (pc' : Nat) (ls : AL) (st : List Value) (h : AH) : Option AR :=
  match st with
  | v :: st => if v.category = 1 then a_go pc' ls st h else none
  | _ => none
def x_ldc (o idx pc' : Nat) (ls : AL) (st : List Value) (h : AH) : Option AR :=
  match a_ks.find? (fun e => e.1 == o && e.2.1 == idx) with
  | some (_, _, v) => a_go pc' ls (.int v :: st) h
  | none => none
def x_ldc2 (o idx pc' : Nat) (ls : AL) (st : List Value) (h : AH) : Option AR :=
  match a_kl.find? (fun e => e.1 == o && e.2.1 == idx) with
  | some (_, _, v) => a_go pc' ls (.long v :: st) h
  | none => none
def a_np (mid : Nat) : Nat := ((a_ms[mid]?).map (fun r => r.2.2.2.2.2.1)).getD 0
def a_ow (mid : Nat) : Nat := ((a_ms[mid]?).map (fun r => r.1)).getD 0
def a_sum (st : List Value) : Nat := (st.map fun v => v.category).sum
def a_call (o idx : Nat) : Option (Nat × Nat × Nat × Nat) := a_cl.find? (fun e => e.1 == o && e.2.1 == idx)
/-- a call of a method of an object (tag 0), of a constructor (tag 2) -/
def x_inv (tag o idx pc' : Nat) (ls : AL) (st : List Value) (h : AH) : Option AR :=
  match a_call o idx with
  | some (_, _, t, mid) =>
    match st.drop (a_np mid) with
    | .ref b :: rest => if t = tag ∧ a_np mid < st.length ∧ (tag = 0 → a_kd h b = a_ow mid + 1) ∧ a_sum rest ≤ 8 then some (.inr (.inl (mid, .ref b :: (st.take (a_np mid)).reverse, pc', rest))) else none
    | _ => none
  | none => none
def x_obj (o idx pc' : Nat) (ls : AL) (st : List Value) (h : AH) : Option AR :=
  match st with
  | .ref _ :: st => if (a_ob.find? (fun e => e.1 == o && e.2 == idx)).isSome = true ∧ a_sum st ≤ 8 then a_go pc' ls st h else none
  | _ => none
def x_spec (o idx pc' : Nat) (ls : AL) (st : List Value) (h : AH) : Option AR :=
  match x_obj o idx pc' ls st h with
  | some r => some r
  | none => x_inv 2 o idx pc' ls st h
def x_copy (o idx pc' : Nat) (ls : AL) (st : List Value) (h : AH) : Option AR :=
  match st with
  | .int n :: .int dp :: .ref b :: .int sp :: .ref a :: st =>
    if (a_cp.find? (fun e => e.1 == o && e.2 == idx)).isSome = true ∧ a_kd h a = 20 ∧ a_kd h b = 20 ∧ ¬ sp < 0 ∧ ¬ dp < 0 ∧ ¬ n < 0 ∧ sp.toNatClampNeg + n.toNatClampNeg ≤ a_ln h a ∧ dp.toNatClampNeg + n.toNatClampNeg ≤ a_ln h b ∧ a_sum st ≤ 8
    then a_go pc' ls st (a_copy h a b sp.toNatClampNeg dp.toNatClampNeg n.toNatClampNeg) else none
  | _ => none
def a_nst (o idx : Nat) : Option (Nat × Nat × Nat × String) := a_ns.find? (fun e => e.1 == o && e.2.1 == idx)
/-- a static call across the nest -/
def x_nest (o idx pc' : Nat) (ls : AL) (st : List Value) (h : AH) : Option AR :=
  match a_nst o idx with
  | some (_, _, mid, _) => if a_np mid ≤ st.length ∧ a_sum (st.drop (a_np mid)) ≤ 8 then some (.inr (.inl (mid, (st.take (a_np mid)).reverse, pc', st.drop (a_np mid)))) else none
  | none => none
def x_stat (o idx pc' : Nat) (ls : AL) (st : List Value) (h : AH) : Option AR :=
  match x_copy o idx pc' ls st h with
  | some r => some r
  | none => match a_call o idx with
    | some (_, _, t, mid) => if t = 1 ∧ a_np mid ≤ st.length ∧ a_sum (st.drop (a_np mid)) ≤ 8 then some (.inr (.inl (mid, (st.take (a_np mid)).reverse, pc', st.drop (a_np mid)))) else none
    | none => x_nest o idx pc' ls st h
def x_iret (ret : Option FieldType) (st : List Value) : Option AR :=
  match st, ret with
  | [.int v], some .int => some (.inr (.inr (some (.int v))))
  | [.int v], some .boolean => if v = 0 ∨ v = 1 then some (.inr (.inr (some (.int v)))) else none
  | _, _ => none
def x_aret (ret : Option FieldType) (st : List Value) : Option AR :=
  match st, ret with
  | [v], some (.object _) => if a_isR v = true then some (.inr (.inr (some v))) else none
  | [v], some (.array _) => if a_isR v = true then some (.inr (.inr (some v))) else none
  | _, _ => none
def x_vret (ret : Option FieldType) (st : List Value) : Option AR :=
  match st, ret with
  | [], none => some (.inr (.inr none))
  | _, _ => none
/-- one instruction; o: the owner's number; ini: in a constructor; sc: the law's script -/
def a_step (sc : Option (Nat × Nat × (Nat → Int32))) (o : Nat) (ini : Bool) (ret : Option FieldType) (pc : Nat) (i : Instr) (len : Nat) (ls : AL) (st : List Value) (h : AH) : Option AR :=
  match i, len with
  | .iconst n, 1 => x_push (.int (Int32.ofInt n)) (pc + 1) ls st h
  | .bipush n, 2 => x_push (.int (Int8.ofInt n).toInt32) (pc + 2) ls st h
  | .sipush n, 3 => x_push (.int (Int16.ofInt n).toInt32) (pc + 3) ls st h
  | .aconst_null, 1 => x_push .null (pc + 1) ls st h
  | .ldc i, 2 => x_ldc o i (pc + 2) ls st h
  | .ldc_w i, 3 => x_ldc o i (pc + 3) ls st h
  | .ldc2_w i, 3 => x_ldc2 o i (pc + 3) ls st h
  | .iload_n k, 1 => x_load k (pc + 1) ls st h a_isI
  | .iload k, 2 => x_load k (pc + 2) ls st h a_isI
  | .lload_n k, 1 => x_load k (pc + 1) ls st h a_isL
  | .lload k, 2 => x_load k (pc + 2) ls st h a_isL
  | .aload_n k, 1 => x_load k (pc + 1) ls st h a_isR
  | .aload k, 2 => x_load k (pc + 2) ls st h a_isR
  | .istore_n k, 1 => x_store k (pc + 1) ls st h a_isI
  | .istore k, 2 => x_store k (pc + 2) ls st h a_isI
  | .astore_n k, 1 => x_store k (pc + 1) ls st h a_isR
  | .astore k, 2 => x_store k (pc + 2) ls st h a_isR
  | .iinc k n, 3 => x_iinc k n (pc + 3) ls st h
  | .iadd, 1 => x_bin (· + ·) (pc + 1) ls st h
  | .isub, 1 => x_bin (· - ·) (pc + 1) ls st h
  | .imul, 1 => x_bin (· * ·) (pc + 1) ls st h
  | .iand, 1 => x_bin (· &&& ·) (pc + 1) ls st h
  | .ior, 1 => x_bin (· ||| ·) (pc + 1) ls st h
  | .ixor, 1 => x_bin (· ^^^ ·) (pc + 1) ls st h
  | .ishl, 1 => x_bin (fun x y => x <<< (y &&& 31)) (pc + 1) ls st h
  | .ishr, 1 => x_bin (fun x y => x >>> (y &&& 31)) (pc + 1) ls st h
  | .iushr, 1 => x_bin (fun x y => (x.toUInt32 >>> (y.toUInt32 &&& Int32.toUInt32 31)).toInt32) (pc + 1) ls st h
  | .idiv, 1 => x_div (· / ·) (pc + 1) ls st h
  | .irem, 1 => x_div (fun x y => x - x / y * y) (pc + 1) ls st h
  | .ineg, 1 => x_neg (pc + 1) ls st h
  | .land, 1 => x_lbin (· &&& ·) (pc + 1) ls st h
  | .lor, 1 => x_lbin (· ||| ·) (pc + 1) ls st h
  | .lshl, 1 => x_lsh (fun x y => x <<< (y.toInt64 &&& 63)) (pc + 1) ls st h
  | .lshr, 1 => x_lsh (fun x y => x >>> (y.toInt64 &&& 63)) (pc + 1) ls st h
  | .i2l, 1 => x_i2l (pc + 1) ls st h
  | .l2i, 1 => x_l2i (pc + 1) ls st h
  | .dup, 1 => x_dup (pc + 1) ls st h
  | .dup2, 1 => x_dup2 (pc + 1) ls st h
  | .pop, 1 => x_pop (pc + 1) ls st h
  | .ifCond c off, 3 => x_if c off pc ls st h
  | .if_icmp c off, 3 => x_icmp c off pc ls st h
  | .ifnull off, 3 => x_null true off pc ls st h
  | .ifnonnull off, 3 => x_null false off pc ls st h
  | .if_acmp .eq off, 3 => x_acmp true off pc ls st h
  | .if_acmp .ne off, 3 => x_acmp false off pc ls st h
  | .goto off, 3 => a_to pc off ls st h
  | .tableswitch d lo hi offs, _ => x_table d lo hi offs pc ls st h
  | .lookupswitch d ps, _ => x_look d ps pc ls st h
  | .getfield i, 3 => x_getf o i (pc + 3) ls st h
  | .putfield i, 3 => x_putf o ini i (pc + 3) ls st h
  | .iaload, 1 => x_iald sc 20 (pc + 1) ls st h
  | .baload, 1 => x_iald none 21 (pc + 1) ls st h
  | .aaload, 1 => x_aald (pc + 1) ls st h
  | .iastore, 1 => x_iast (pc + 1) ls st h
  | .bastore, 1 => x_zast (pc + 1) ls st h
  | .aastore, 1 => x_aast (pc + 1) ls st h
  | .arraylength, 1 => x_alen sc (pc + 1) ls st h
  | .newarray .int, 2 => x_newarr 20 (pc + 2) ls st h
  | .newarray .boolean, 2 => x_newarr 21 (pc + 2) ls st h
  | .anewarray i, 3 => x_anew o i (pc + 3) ls st h
  | .new i, 3 => x_new o i (pc + 3) ls st h
  | .invokevirtual i, 3 => x_inv 0 o i (pc + 3) ls st h
  | .invokespecial i, 3 => x_spec o i (pc + 3) ls st h
  | .invokestatic i, 3 => x_stat o i (pc + 3) ls st h
  | .ireturn, 1 => x_iret ret st
  | .areturn, 1 => x_aret ret st
  | .return_, 1 => x_vret ret st
  | _, _ => none
/-- a method's body, n instructions at most; call: what the methods that it calls do -/
def a_run (call : Nat → List Value → AH → Option (Option Value × AH)) (sc : Option (Nat × Nat × (Nat → Int32))) (o : Nat) (ini : Bool) (ret : Option FieldType) (cc : ByteArray) : Nat → Nat → AL → List Value → AH → Option (Option Value × AH)
  | 0, _, _, _, _ => none
  | n + 1, pc, ls, st, h => match decode cc pc with
    | .ok (i, len) => match a_step sc o ini ret pc i len ls st h with
      | some (.inl (pc', ls', st', h')) => a_run call sc o ini ret cc n pc' ls' st' h'
      | some (.inr (.inl (mid, as, pc', st'))) => match call mid as h with
        | some (r, h') => a_run call sc o ini ret cc n pc' ls (r.toList ++ st') h'
        | none => none
      | some (.inr (.inr r)) => some (r, h)
      | none => none
    | _ => none
def a_init (as : List Value) (nL : Nat) : AL := (List.range nL).map (fun i => (lv_args 0 as).lookup i)
/-- a method (its number), called d deep at most -/
def a_meth (fuel : Nat) : Nat → Nat → List Value → AH → Option (Option Value × AH)
  | 0, _, _, _ => none
  | d + 1, mid, as, h => match a_ms[mid]? with
    | some r => if (lg_sl as).length ≤ r.2.2.2.1 then a_run (a_meth fuel d) none r.1 r.2.2.2.2.2.2 r.2.2.2.2.1 r.2.2.1 fuel 0 (a_init as r.2.2.2.1) [] h else none
    | none => none
end
section
/-! THE MACHINE IN PLAIN WORDS IS HELD BY THE MACHINE: instruction by instruction -/
theorem a_ofW {l : Launch} {y : MethodName} {ws ws' : List Jvm.Cond} {rm : Room} {Pc : Array Value → State → Prop} {Qc : Array Value → State → Outcome → State → Prop} {mc ms : Nat} {free : Addr → Prop} {cc : ByteArray} {maxL : Nat} {ret : Option FieldType}
    (hy : plainFor y = true) (hw : ws = Jvm.Cond.code y cc maxL ret :: ws')
    (body : ∀ p e s m args below meth c s₁, BodyLoose p l y (headSpec ws rm) cc maxL ret e s m args below meth c s₁ → c.maxLocals = maxL → Pc args s →
      W p l e (headSpec ws rm).room s m args below meth c s.heap [] 0 0 (MQ below Qc args s mc ms free) (entryFrame m args maxL)) : Met l y ws rm Pc Qc mc ms free := by
  refine MetFree.of_bodySF (code := cc) (maxLocals := maxL) (ret := ret) hy ?_ ?_
  · intro args s m h hn
    obtain ⟨meth, c, h1, h2, h3, h4, h5, h6, -, -⟩ := Cond.code_spec hn (atoms_spec (ws := ws) h _ (by rw [hw]; exact List.mem_cons_self))
    exact ⟨meth, c, h1, h2, h3, h4, h5, h6⟩
  · intro p e s m args below meth c s₁ B hml hP _
    have hh0 : s₁.heap = s.heap := by rw [B.state]; rfl
    obtain ⟨t, a1, o, b1, b2, b3⟩ := body p e s m args below meth c s₁ B hml hP s₁ hh0 (Stand.of_body B)
    exact ⟨t, o, a1, b1, b2, ⟨b3.1, b3.2⟩⟩
def a_E (cA : Nat → ClassId) (h : AH) (a : Nat) : va_E :=
  if a_kd h a < 20 then .inr (a_kd h a - 1, (List.range (a_N (a_kd h a - 1))).map (a_slot h a (a_kd h a - 1)))
  else if a_kd h a < 22 then .inl (cA (a_kd h a), a_ln h a, .inl (a_iv h a))
  else .inl (cA (a_kd h a), a_ln h a, .inr (.inr (.inr (.inr (fun j => a_op (a_rv h a j))))))
def a_ws (B : Nat) (cA : Nat → ClassId) (h : AH) : va_W := va_pl (List.range' B (a_nx h - B)) (a_E cA h)
def a_tys (cA : Nat → ClassId) : List (ClassId × FieldType) := (cA 20, .int) :: (cA 21, .boolean) :: a_aks.map (fun k => (cA (22 + k), .object (a_own k)))
def a_nestWord (q : Nat × Nat × Nat × String) : Jvm.Cond := .methodLinkNest (a_own q.1) q.2.1 (((a_ms[q.2.2.1]?).map (fun r => r.2.1)).getD ⟨"", "", ""⟩) q.2.2.2
def a_K (D : va_G) (cA : Nat → ClassId) (U : State) : Prop := va_K D vwCl (a_tys cA) U ∧ (∀ k ∈ a_aks, va_AO (a_own k) U) ∧ ∀ q ∈ a_ns, va_Nw (a_nestWord q) U
theorem a_K.same {D : va_G} {cA : Nat → ClassId} {u U : State} (hvm : u.vm = U.vm) (h : a_K D cA u) : a_K D cA U := by
  have hal : u.vm.Alike U.vm := by rw [hvm]; exact Vm.Alike.refl _
  exact ⟨va_K.moved hal h.1, fun k hk => va_AO.moved hal (h.2.1 k hk), fun q hq => va_Nw.same rfl hvm (h.2.2 q hq)⟩
theorem a_K.warm {D : va_G} {cA : Nat → ClassId} {u U : State} (hW : u.WarmedH U.vm) (h : a_K D cA u) : a_K D cA U := ⟨va_K.moved hW.alike h.1, fun k hk => va_AO.moved hW.alike (h.2.1 k hk), fun q hq => va_Nw.warmM hW (h.2.2 q hq)⟩
def a_I (B : Nat) (cA : Nat → ClassId) (D : va_G) (h0 h : AH) (s : State) (H : Heap) (locs : List Loc) : Prop :=
  1 ≤ B ∧ B ≤ a_nx h0 ∧ a_nx h0 ≤ a_nx h ∧ a_tot h0 ≤ a_tot h ∧ s.heap.size = a_nx h0 ∧ H.size = a_nx h ∧ (∀ a, a_kd h a ≠ 0 → B ≤ a ∧ a < a_nx h) ∧ va_P D vwCl (a_ws B cA h) H ∧ va_S (fun q => B ≤ q) s.heap H locs
theorem a_ws_at (B : Nat) (cA : Nat → ClassId) (h : AH) (i : Nat) : (a_ws B cA h)[i]? = if i < a_nx h - B then some (B + i, a_E cA h (B + i)) else none := by
  unfold a_ws va_pl
  rw [List.getElem?_map]
  by_cases hi : i < a_nx h - B
  · rw [if_pos hi, List.getElem?_range' hi]; simp
  · rw [if_neg hi, List.getElem?_eq_none (by simp; omega)]; rfl
theorem a_get {B : Nat} {cA : Nat → ClassId} {h : AH} {a : Nat} (h1 : B ≤ a) (h2 : a < a_nx h) : (a_ws B cA h)[a - B]? = some (a, a_E cA h a) := by
  rw [a_ws_at, if_pos (by omega), show B + (a - B) = a by omega]
theorem a_D (B : Nat) (cA : Nat → ClassId) (h : AH) : va_D (fun q => B ≤ q) (a_ws B cA h) := by
  refine ⟨fun i j p q hp hq hpq => ?_, fun k q hq => ?_⟩
  · rw [a_ws_at] at hp hq
    split at hp <;> split at hq <;> try contradiction
    cases hp; cases hq
    simp at hpq; exact hpq
  · rw [a_ws_at] at hq
    split at hq <;> try contradiction
    cases hq
    exact Nat.le_add_right _ _
theorem a_setw {B : Nat} {cA : Nat → ClassId} {h h' : AH} {a : Nat} {e : va_E} (h1 : B ≤ a) (h2 : a < a_nx h) (hn : a_nx h' = a_nx h) (he : a_E cA h' a = e) (ho : ∀ x, x ≠ a → a_E cA h' x = a_E cA h x) : (a_ws B cA h).set (a - B) (a, e) = a_ws B cA h' := by
  apply List.ext_getElem?
  intro j
  have hl : a - B < (a_ws B cA h).length := (List.getElem?_eq_some_iff.mp (a_get (cA := cA) h1 h2)).1
  by_cases hj : j = a - B
  · subst hj
    rw [List.getElem?_set_self hl, a_ws_at, if_pos (by omega), show B + (a - B) = a by omega, he]
  · rw [List.getElem?_set_ne (Ne.symm hj), a_ws_at, a_ws_at, hn]
    by_cases hi : j < a_nx h - B
    · rw [if_pos hi, if_pos hi, ho _ (by omega)]
    · rw [if_neg hi, if_neg hi]
theorem a_pushw {B : Nat} {cA : Nat → ClassId} {h h' : AH} {e : va_E} (h1 : B ≤ a_nx h) (hn : a_nx h' = a_nx h + 1) (he : a_E cA h' (a_nx h) = e) (ho : ∀ x, x < a_nx h → a_E cA h' x = a_E cA h x) : a_ws B cA h ++ [(a_nx h, e)] = a_ws B cA h' := by
  have hlen : (a_ws B cA h).length = a_nx h - B := by unfold a_ws va_pl; simp
  apply List.ext_getElem?
  intro j
  rw [a_ws_at, hn]
  by_cases hj : j < a_nx h - B
  · rw [List.getElem?_append_left (by omega), a_ws_at, if_pos hj, if_pos (by omega), ho _ (by omega)]
  · rw [List.getElem?_append_right (by omega), hlen]
    by_cases hk : j = a_nx h - B
    · subst hk
      rw [if_pos (by omega), show B + (a_nx h - B) = a_nx h by omega, he]
      simp
    · rw [if_neg (by omega), List.getElem?_eq_none (by simp; omega)]
theorem a_I_of {B : Nat} {cA : Nat → ClassId} {D : va_G} {h0 h h' : AH} {s : State} {H H1 : Heap} {locs locs1 : List Loc} (I : a_I B cA D h0 h s H locs) (hn : a_nx h ≤ a_nx h') (ht : a_tot h ≤ a_tot h') (hk : ∀ a, a_kd h' a ≠ 0 → B ≤ a ∧ a < a_nx h') (hP : va_P D vwCl (a_ws B cA h') H1) (hS : va_S (fun q => B ≤ q) s.heap H1 locs1) (hu : H1.size ≤ s.heap.size + (a_nx h' - a_nx h0)) : a_I B cA D h0 h' s H1 locs1 := by
  obtain ⟨i1, i2, i3, i4, i5, i6, i7, i8, i9⟩ := I
  refine ⟨i1, i2, by omega, by omega, i5, ?_, hk, hP, hS⟩
  have hlow : a_nx h' ≤ H1.size := by
    by_cases hb : B < a_nx h'
    · have := (hP _ _ (a_get (cA := cA) (h := h') (a := a_nx h' - 1) (by omega) (by omega))).lt
      simp at this
      omega
    · have := hS.1
      omega
  omega
def a_as (ls : AL) : List (Nat × Value) := (List.range ls.length).filterMap (fun i => match ls[i]? with
  | some (some v) => some (i, v)
  | _ => none)
theorem a_as_mem {ls : AL} {i : Nat} {v : Value} : (i, v) ∈ a_as ls ↔ ls[i]? = some (some v) := by
  unfold a_as
  rw [List.mem_filterMap]
  constructor
  · rintro ⟨j, -, hj⟩
    split at hj <;> try contradiction
    rename_i w hw
    cases hj
    exact hw
  · intro h
    refine ⟨i, List.mem_range.mpr (List.getElem?_eq_some_iff.mp h).1, ?_⟩
    rw [h]
theorem a_as_get {lsA : Array Slot} {nL : Nat} {ls : AL} {k : Nat} {v : Value} (hl : lv_has lsA nL (a_as ls)) (h : ls[k]? = some (some v)) : lsA[k]? = some (.val v) := hl.2.2 (k, v) (a_as_mem.mpr h)
theorem a_as_set {lsA : Array Slot} {nL k : Nat} {ls : AL} {v : Value} (hc : a_clear ls k = true) (hk : k < ls.length) (hl : lv_has lsA nL ((k, v) :: (a_as ls).filter (fun q => !(q.1 == k) && !(q.1 + 1 == k && q.2.category == 2)))) : lv_has lsA nL (a_as (ls.set k (some v))) := by
  refine ⟨hl.1, hl.2.1, fun q hq => hl.2.2 q ?_⟩
  obtain ⟨i, w⟩ := q
  have h1 := a_as_mem.mp hq
  by_cases hi : i = k
  · subst hi
    rw [List.getElem?_set_self hk] at h1
    cases h1
    exact List.mem_cons_self
  · rw [List.getElem?_set_ne (Ne.symm hi)] at h1
    refine List.mem_cons_of_mem _ (List.mem_filter.mpr ⟨a_as_mem.mpr h1, ?_⟩)
    have e1 : (i == k) = false := by simpa using hi
    show (!(i == k) && !(i + 1 == k && w.category == 2)) = true
    rw [e1]
    by_cases h2 : i + 1 = k
    · subst h2
      have h3 : w.category = 1 := by
        have := hc
        unfold a_clear at this
        simp only [h1] at this
        simpa using this
      simp [h3]
    · have e2 : (i + 1 == k) = false := by simpa using h2
      simp [e2]
section AS1
variable {p : Program} {l : Launch} {e : Env} {R : Room} {s : State} {m : MethodId} {args : Array Value} {below : List Frame} {meth : Method} {c : Code} {Q : State → Prop}
/-- from this place the machine comes to Q, whatever the heap and the locals are that these words describe -/
def a_Ok (p : Program) (l : Launch) (e : Env) (R : Room) (s : State) (m : MethodId) (args : Array Value) (below : List Frame) (meth : Method) (c : Code) (Q : State → Prop) (B : Nat) (cA : Nat → ClassId) (D : va_G) (h0 : AH) (nL pc : Nat) (ls : AL) (st : List Value) (h : AH) : Prop :=
  ∀ (H : Heap) (locs : List Loc) (lsA : Array Slot), a_I B cA D h0 h s H locs → ls.length = nL → lv_has lsA nL (a_as ls) → W p l e R s m args below meth c H locs (a_nx h - a_nx h0) (a_tot h - a_tot h0) Q (F0 m pc lsA st)
theorem a_sz {H : Heap} {locs : List Loc} {cells slots : Nat} {g : JFrame} (k : H.size ≤ s.heap.size + cells → W p l e R s m args below meth c H locs cells slots Q g) : W p l e R s m args below meth c H locs cells slots Q g := by
  intro T hT X
  have h1 : (T.setVm s.vm).heap.size ≤ s.heap.size + cells := X.same.2.2.1
  have h2 : H.size ≤ s.heap.size + cells := by rw [← hT]; exact h1
  exact k h2 T hT X
variable {B : Nat} {cA : Nat → ClassId} {D : va_G} {h0 h h2 : AH} {nL pc pc2 pc' k : Nat} {ls ls2 : AL} {st st2 : List Value} {cc : ByteArray}
theorem s_push {v : Value} (hs : x_push v pc' ls st h = some (.inl (pc2, ls2, st2, h2))) : pc2 = pc' ∧ ls2 = ls ∧ st2 = v :: st ∧ h2 = h := by
  cases hs; exact ⟨rfl, rfl, rfl, rfl⟩
theorem s_iload_n (hx : p.tables.exec = Jvm.exec) (hb : c.code = cc) {k : Fin 4} (hdg : decode cc pc = .ok (.iload_n k, 1)) (hs : x_load k (pc + 1) ls st h a_isI = some (.inl (pc2, ls2, st2, h2))) (K : a_Ok p l e R s m args below meth c Q B cA D h0 nL pc2 ls2 st2 h2) : a_Ok p l e R s m args below meth c Q B cA D h0 nL pc ls st h := by
  intro H locs lsA I hL hl
  unfold x_load at hs
  split at hs <;> try contradiction
  rename_i v hv
  split at hs <;> try contradiction
  cases v <;> try (rename_i hw; cases hw; done)
  cases hs
  exact lv_iload_n hx hb hdg rfl (a_as_get hl hv) (K H locs lsA I hL hl)
theorem s_iload (hx : p.tables.exec = Jvm.exec) (hb : c.code = cc) (hdg : decode cc pc = .ok (.iload k, 2)) (hs : x_load k (pc + 2) ls st h a_isI = some (.inl (pc2, ls2, st2, h2))) (K : a_Ok p l e R s m args below meth c Q B cA D h0 nL pc2 ls2 st2 h2) : a_Ok p l e R s m args below meth c Q B cA D h0 nL pc ls st h := by
  intro H locs lsA I hL hl
  unfold x_load at hs
  split at hs <;> try contradiction
  rename_i v hv
  split at hs <;> try contradiction
  cases v <;> try (rename_i hw; cases hw; done)
  cases hs
  exact lv_iload hx hb hdg (a_as_get hl hv) (K H locs lsA I hL hl)
theorem s_lload_n (hx : p.tables.exec = Jvm.exec) (hb : c.code = cc) {k : Fin 4} (hdg : decode cc pc = .ok (.lload_n k, 1)) (hs : x_load k (pc + 1) ls st h a_isL = some (.inl (pc2, ls2, st2, h2))) (K : a_Ok p l e R s m args below meth c Q B cA D h0 nL pc2 ls2 st2 h2) : a_Ok p l e R s m args below meth c Q B cA D h0 nL pc ls st h := by
  intro H locs lsA I hL hl
  unfold x_load at hs
  split at hs <;> try contradiction
  rename_i v hv
  split at hs <;> try contradiction
  cases v <;> try (rename_i hw; cases hw; done)
  cases hs
  exact lv_lload_n hx hb hdg rfl (a_as_get hl hv) (K H locs lsA I hL hl)
theorem s_lload (hx : p.tables.exec = Jvm.exec) (hb : c.code = cc) (hdg : decode cc pc = .ok (.lload k, 2)) (hs : x_load k (pc + 2) ls st h a_isL = some (.inl (pc2, ls2, st2, h2))) (K : a_Ok p l e R s m args below meth c Q B cA D h0 nL pc2 ls2 st2 h2) : a_Ok p l e R s m args below meth c Q B cA D h0 nL pc ls st h := by
  intro H locs lsA I hL hl
  unfold x_load at hs
  split at hs <;> try contradiction
  rename_i v hv
  split at hs <;> try contradiction
  cases v <;> try (rename_i hw; cases hw; done)
  cases hs
  exact lv_lload hx hb hdg (a_as_get hl hv) (K H locs lsA I hL hl)
theorem s_aload_n (hx : p.tables.exec = Jvm.exec) (hb : c.code = cc) {k : Fin 4} (hdg : decode cc pc = .ok (.aload_n k, 1)) (hs : x_load k (pc + 1) ls st h a_isR = some (.inl (pc2, ls2, st2, h2))) (K : a_Ok p l e R s m args below meth c Q B cA D h0 nL pc2 ls2 st2 h2) : a_Ok p l e R s m args below meth c Q B cA D h0 nL pc ls st h := by
  intro H locs lsA I hL hl
  unfold x_load at hs
  split at hs <;> try contradiction
  rename_i v hv
  split at hs <;> try contradiction
  cases v <;> try (rename_i hw; cases hw; done)
  · cases hs
    exact lv_aload_nN hx hb hdg rfl (a_as_get hl hv) (K H locs lsA I hL hl)
  · cases hs
    exact lv_aload_n hx hb hdg rfl (a_as_get hl hv) (K H locs lsA I hL hl)
theorem s_aload (hx : p.tables.exec = Jvm.exec) (hb : c.code = cc) (hdg : decode cc pc = .ok (.aload k, 2)) (hs : x_load k (pc + 2) ls st h a_isR = some (.inl (pc2, ls2, st2, h2))) (K : a_Ok p l e R s m args below meth c Q B cA D h0 nL pc2 ls2 st2 h2) : a_Ok p l e R s m args below meth c Q B cA D h0 nL pc ls st h := by
  intro H locs lsA I hL hl
  unfold x_load at hs
  split at hs <;> try contradiction
  rename_i v hv
  split at hs <;> try contradiction
  cases v <;> try (rename_i hw; cases hw; done)
  · cases hs
    exact lv_aloadN hx hb hdg (a_as_get hl hv) (K H locs lsA I hL hl)
  · cases hs
    exact lv_aload hx hb hdg (a_as_get hl hv) (K H locs lsA I hL hl)
theorem s_istore_n (hx : p.tables.exec = Jvm.exec) (hb : c.code = cc) {k : Fin 4} (hdg : decode cc pc = .ok (.istore_n k, 1)) (hs : x_store k (pc + 1) ls st h a_isI = some (.inl (pc2, ls2, st2, h2))) (K : a_Ok p l e R s m args below meth c Q B cA D h0 nL pc2 ls2 st2 h2) : a_Ok p l e R s m args below meth c Q B cA D h0 nL pc ls st h := by
  intro H locs lsA I hL hl
  unfold x_store at hs
  split at hs <;> try contradiction
  rename_i v st'
  split at hs <;> try contradiction
  rename_i hw
  obtain ⟨hw, hk, hc⟩ := hw
  cases v <;> try (cases hw; done)
  cases hs
  exact lv_istore_n hx hb hdg rfl hl (by omega) rfl (fun ls' hl' => K H locs ls' I (by rw [List.length_set]; exact hL) (a_as_set hc hk hl'))
theorem s_istore (hx : p.tables.exec = Jvm.exec) (hb : c.code = cc) (hdg : decode cc pc = .ok (.istore k, 2)) (hs : x_store k (pc + 2) ls st h a_isI = some (.inl (pc2, ls2, st2, h2))) (K : a_Ok p l e R s m args below meth c Q B cA D h0 nL pc2 ls2 st2 h2) : a_Ok p l e R s m args below meth c Q B cA D h0 nL pc ls st h := by
  intro H locs lsA I hL hl
  unfold x_store at hs
  split at hs <;> try contradiction
  rename_i v st'
  split at hs <;> try contradiction
  rename_i hw
  obtain ⟨hw, hk, hc⟩ := hw
  cases v <;> try (cases hw; done)
  cases hs
  exact lv_istore hx hb hdg hl (by omega) rfl (fun ls' hl' => K H locs ls' I (by rw [List.length_set]; exact hL) (a_as_set hc hk hl'))
theorem s_astore_n (hx : p.tables.exec = Jvm.exec) (hb : c.code = cc) {k : Fin 4} (hdg : decode cc pc = .ok (.astore_n k, 1)) (hs : x_store k (pc + 1) ls st h a_isR = some (.inl (pc2, ls2, st2, h2))) (K : a_Ok p l e R s m args below meth c Q B cA D h0 nL pc2 ls2 st2 h2) : a_Ok p l e R s m args below meth c Q B cA D h0 nL pc ls st h := by
  intro H locs lsA I hL hl
  unfold x_store at hs
  split at hs <;> try contradiction
  rename_i v st'
  split at hs <;> try contradiction
  rename_i hw
  obtain ⟨hw, hk, hc⟩ := hw
  cases v <;> try (cases hw; done)
  · cases hs
    exact lv_astore_nN hx hb hdg rfl hl (by omega) rfl (fun ls' hl' => K H locs ls' I (by rw [List.length_set]; exact hL) (a_as_set hc hk hl'))
  · cases hs
    exact lv_astore_n hx hb hdg rfl hl (by omega) rfl (fun ls' hl' => K H locs ls' I (by rw [List.length_set]; exact hL) (a_as_set hc hk hl'))
theorem s_astore (hx : p.tables.exec = Jvm.exec) (hb : c.code = cc) (hdg : decode cc pc = .ok (.astore k, 2)) (hs : x_store k (pc + 2) ls st h a_isR = some (.inl (pc2, ls2, st2, h2))) (K : a_Ok p l e R s m args below meth c Q B cA D h0 nL pc2 ls2 st2 h2) : a_Ok p l e R s m args below meth c Q B cA D h0 nL pc ls st h := by
  intro H locs lsA I hL hl
  unfold x_store at hs
  split at hs <;> try contradiction
  rename_i v st'
  split at hs <;> try contradiction
  rename_i hw
  obtain ⟨hw, hk, hc⟩ := hw
  cases v <;> try (cases hw; done)
  · cases hs
    exact lv_astoreN hx hb hdg hl (by omega) rfl (fun ls' hl' => K H locs ls' I (by rw [List.length_set]; exact hL) (a_as_set hc hk hl'))
  · cases hs
    exact lv_astore hx hb hdg hl (by omega) rfl (fun ls' hl' => K H locs ls' I (by rw [List.length_set]; exact hL) (a_as_set hc hk hl'))
theorem s_iinc (hx : p.tables.exec = Jvm.exec) (hb : c.code = cc) {n : Int} (hdg : decode cc pc = .ok (.iinc k n, 3)) (hs : x_iinc k n (pc + 3) ls st h = some (.inl (pc2, ls2, st2, h2))) (K : a_Ok p l e R s m args below meth c Q B cA D h0 nL pc2 ls2 st2 h2) : a_Ok p l e R s m args below meth c Q B cA D h0 nL pc ls st h := by
  intro H locs lsA I hL hl
  unfold x_iinc at hs
  split at hs <;> try contradiction
  rename_i x hv
  split at hs <;> try contradiction
  rename_i hc
  cases hs
  obtain ⟨j, hj⟩ := List.getElem?_of_mem (a_as_mem.mpr hv)
  have hk := (List.getElem?_eq_some_iff.mp hv).1
  exact lv_iinc hx hb hdg hl hj rfl (by omega) rfl (fun ls' hl' => K H locs ls' I (by rw [List.length_set]; exact hL) (a_as_set hc hk hl'))
end AS1
end
section
section AS2
variable {p : Program} {l : Launch} {e : Env} {R : Room} {s : State} {m : MethodId} {args : Array Value} {below : List Frame} {meth : Method} {c : Code} {Q : State → Prop}
variable {B : Nat} {cA : Nat → ClassId} {D : va_G} {h0 h h2 : AH} {nL pc pc2 pc' k : Nat} {ls ls2 : AL} {st st2 : List Value} {cc : ByteArray}
theorem s_iconst (hx : p.tables.exec = Jvm.exec) (hb : c.code = cc) {n : Int} (hdg : decode cc pc = .ok (.iconst n, 1)) (hs : x_push (.int (Int32.ofInt n)) (pc + 1) ls st h = some (.inl (pc2, ls2, st2, h2))) (K : a_Ok p l e R s m args below meth c Q B cA D h0 nL pc2 ls2 st2 h2) : a_Ok p l e R s m args below meth c Q B cA D h0 nL pc ls st h := by
  intro H locs lsA I hL hl
  cases hs
  exact lv_iconst hx hb hdg rfl (K H locs lsA I hL hl)
theorem s_bipush (hx : p.tables.exec = Jvm.exec) (hb : c.code = cc) {n : Int} (hdg : decode cc pc = .ok (.bipush n, 2)) (hs : x_push (.int (Int8.ofInt n).toInt32) (pc + 2) ls st h = some (.inl (pc2, ls2, st2, h2))) (K : a_Ok p l e R s m args below meth c Q B cA D h0 nL pc2 ls2 st2 h2) : a_Ok p l e R s m args below meth c Q B cA D h0 nL pc ls st h := by
  intro H locs lsA I hL hl
  cases hs
  exact lv_bipush hx hb hdg rfl (K H locs lsA I hL hl)
theorem s_sipush (hx : p.tables.exec = Jvm.exec) (hb : c.code = cc) {n : Int} (hdg : decode cc pc = .ok (.sipush n, 3)) (hs : x_push (.int (Int16.ofInt n).toInt32) (pc + 3) ls st h = some (.inl (pc2, ls2, st2, h2))) (K : a_Ok p l e R s m args below meth c Q B cA D h0 nL pc2 ls2 st2 h2) : a_Ok p l e R s m args below meth c Q B cA D h0 nL pc ls st h := by
  intro H locs lsA I hL hl
  cases hs
  exact lv_sipush hx hb hdg rfl (K H locs lsA I hL hl)
theorem s_null (hx : p.tables.exec = Jvm.exec) (hb : c.code = cc) (hdg : decode cc pc = .ok (.aconst_null, 1)) (hs : x_push .null (pc + 1) ls st h = some (.inl (pc2, ls2, st2, h2))) (K : a_Ok p l e R s m args below meth c Q B cA D h0 nL pc2 ls2 st2 h2) : a_Ok p l e R s m args below meth c Q B cA D h0 nL pc ls st h := by
  intro H locs lsA I hL hl
  cases hs
  exact lv_null hx hb hdg (K H locs lsA I hL hl)
theorem s_iadd (hx : p.tables.exec = Jvm.exec) (hb : c.code = cc) (hdg : decode cc pc = .ok (.iadd, 1)) (hs : x_bin (· + ·) (pc + 1) ls st h = some (.inl (pc2, ls2, st2, h2))) (K : a_Ok p l e R s m args below meth c Q B cA D h0 nL pc2 ls2 st2 h2) : a_Ok p l e R s m args below meth c Q B cA D h0 nL pc ls st h := by
  intro H locs lsA I hL hl
  unfold x_bin at hs
  split at hs <;> try contradiction
  cases hs
  exact lv_iadd hx hb hdg (K H locs lsA I hL hl)
theorem s_isub (hx : p.tables.exec = Jvm.exec) (hb : c.code = cc) (hdg : decode cc pc = .ok (.isub, 1)) (hs : x_bin (· - ·) (pc + 1) ls st h = some (.inl (pc2, ls2, st2, h2))) (K : a_Ok p l e R s m args below meth c Q B cA D h0 nL pc2 ls2 st2 h2) : a_Ok p l e R s m args below meth c Q B cA D h0 nL pc ls st h := by
  intro H locs lsA I hL hl
  unfold x_bin at hs
  split at hs <;> try contradiction
  cases hs
  exact lv_isub hx hb hdg (K H locs lsA I hL hl)
theorem s_imul (hx : p.tables.exec = Jvm.exec) (hb : c.code = cc) (hdg : decode cc pc = .ok (.imul, 1)) (hs : x_bin (· * ·) (pc + 1) ls st h = some (.inl (pc2, ls2, st2, h2))) (K : a_Ok p l e R s m args below meth c Q B cA D h0 nL pc2 ls2 st2 h2) : a_Ok p l e R s m args below meth c Q B cA D h0 nL pc ls st h := by
  intro H locs lsA I hL hl
  unfold x_bin at hs
  split at hs <;> try contradiction
  cases hs
  exact lv_imul hx hb hdg (K H locs lsA I hL hl)
theorem s_iand (hx : p.tables.exec = Jvm.exec) (hb : c.code = cc) (hdg : decode cc pc = .ok (.iand, 1)) (hs : x_bin (· &&& ·) (pc + 1) ls st h = some (.inl (pc2, ls2, st2, h2))) (K : a_Ok p l e R s m args below meth c Q B cA D h0 nL pc2 ls2 st2 h2) : a_Ok p l e R s m args below meth c Q B cA D h0 nL pc ls st h := by
  intro H locs lsA I hL hl
  unfold x_bin at hs
  split at hs <;> try contradiction
  cases hs
  exact lv_iand hx hb hdg (K H locs lsA I hL hl)
theorem s_ior (hx : p.tables.exec = Jvm.exec) (hb : c.code = cc) (hdg : decode cc pc = .ok (.ior, 1)) (hs : x_bin (· ||| ·) (pc + 1) ls st h = some (.inl (pc2, ls2, st2, h2))) (K : a_Ok p l e R s m args below meth c Q B cA D h0 nL pc2 ls2 st2 h2) : a_Ok p l e R s m args below meth c Q B cA D h0 nL pc ls st h := by
  intro H locs lsA I hL hl
  unfold x_bin at hs
  split at hs <;> try contradiction
  cases hs
  exact lv_ior hx hb hdg (K H locs lsA I hL hl)
theorem s_ixor (hx : p.tables.exec = Jvm.exec) (hb : c.code = cc) (hdg : decode cc pc = .ok (.ixor, 1)) (hs : x_bin (· ^^^ ·) (pc + 1) ls st h = some (.inl (pc2, ls2, st2, h2))) (K : a_Ok p l e R s m args below meth c Q B cA D h0 nL pc2 ls2 st2 h2) : a_Ok p l e R s m args below meth c Q B cA D h0 nL pc ls st h := by
  intro H locs lsA I hL hl
  unfold x_bin at hs
  split at hs <;> try contradiction
  cases hs
  exact lv_ixor hx hb hdg (K H locs lsA I hL hl)
theorem s_ishl (hx : p.tables.exec = Jvm.exec) (hb : c.code = cc) (hdg : decode cc pc = .ok (.ishl, 1)) (hs : x_bin (fun x y => x <<< (y &&& 31)) (pc + 1) ls st h = some (.inl (pc2, ls2, st2, h2))) (K : a_Ok p l e R s m args below meth c Q B cA D h0 nL pc2 ls2 st2 h2) : a_Ok p l e R s m args below meth c Q B cA D h0 nL pc ls st h := by
  intro H locs lsA I hL hl
  unfold x_bin at hs
  split at hs <;> try contradiction
  cases hs
  exact lv_ishl hx hb hdg (K H locs lsA I hL hl)
theorem s_ishr (hx : p.tables.exec = Jvm.exec) (hb : c.code = cc) (hdg : decode cc pc = .ok (.ishr, 1)) (hs : x_bin (fun x y => x >>> (y &&& 31)) (pc + 1) ls st h = some (.inl (pc2, ls2, st2, h2))) (K : a_Ok p l e R s m args below meth c Q B cA D h0 nL pc2 ls2 st2 h2) : a_Ok p l e R s m args below meth c Q B cA D h0 nL pc ls st h := by
  intro H locs lsA I hL hl
  unfold x_bin at hs
  split at hs <;> try contradiction
  cases hs
  exact lv_ishr hx hb hdg (K H locs lsA I hL hl)
theorem s_iushr (hx : p.tables.exec = Jvm.exec) (hb : c.code = cc) (hdg : decode cc pc = .ok (.iushr, 1)) (hs : x_bin (fun x y => (x.toUInt32 >>> (y.toUInt32 &&& Int32.toUInt32 31)).toInt32) (pc + 1) ls st h = some (.inl (pc2, ls2, st2, h2))) (K : a_Ok p l e R s m args below meth c Q B cA D h0 nL pc2 ls2 st2 h2) : a_Ok p l e R s m args below meth c Q B cA D h0 nL pc ls st h := by
  intro H locs lsA I hL hl
  unfold x_bin at hs
  split at hs <;> try contradiction
  cases hs
  exact lv_iushr hx hb hdg rfl (K H locs lsA I hL hl)
theorem s_idiv (hx : p.tables.exec = Jvm.exec) (hb : c.code = cc) (hdg : decode cc pc = .ok (.idiv, 1)) (hs : x_div (· / ·) (pc + 1) ls st h = some (.inl (pc2, ls2, st2, h2))) (K : a_Ok p l e R s m args below meth c Q B cA D h0 nL pc2 ls2 st2 h2) : a_Ok p l e R s m args below meth c Q B cA D h0 nL pc ls st h := by
  intro H locs lsA I hL hl
  unfold x_div at hs
  split at hs <;> try contradiction
  split at hs <;> try contradiction
  rename_i hne
  cases hs
  exact lv_idiv hx hb hdg hne (K H locs lsA I hL hl)
theorem s_irem (hx : p.tables.exec = Jvm.exec) (hb : c.code = cc) (hdg : decode cc pc = .ok (.irem, 1)) (hs : x_div (fun x y => x - x / y * y) (pc + 1) ls st h = some (.inl (pc2, ls2, st2, h2))) (K : a_Ok p l e R s m args below meth c Q B cA D h0 nL pc2 ls2 st2 h2) : a_Ok p l e R s m args below meth c Q B cA D h0 nL pc ls st h := by
  intro H locs lsA I hL hl
  unfold x_div at hs
  split at hs <;> try contradiction
  split at hs <;> try contradiction
  rename_i hne
  cases hs
  exact lv_irem hx hb hdg hne (K H locs lsA I hL hl)
theorem s_ineg (hx : p.tables.exec = Jvm.exec) (hb : c.code = cc) (hdg : decode cc pc = .ok (.ineg, 1)) (hs : x_neg (pc + 1) ls st h = some (.inl (pc2, ls2, st2, h2))) (K : a_Ok p l e R s m args below meth c Q B cA D h0 nL pc2 ls2 st2 h2) : a_Ok p l e R s m args below meth c Q B cA D h0 nL pc ls st h := by
  intro H locs lsA I hL hl
  unfold x_neg at hs
  split at hs <;> try contradiction
  cases hs
  exact lv_ineg hx hb hdg (K H locs lsA I hL hl)
theorem s_land (hx : p.tables.exec = Jvm.exec) (hb : c.code = cc) (hdg : decode cc pc = .ok (.land, 1)) (hs : x_lbin (· &&& ·) (pc + 1) ls st h = some (.inl (pc2, ls2, st2, h2))) (K : a_Ok p l e R s m args below meth c Q B cA D h0 nL pc2 ls2 st2 h2) : a_Ok p l e R s m args below meth c Q B cA D h0 nL pc ls st h := by
  intro H locs lsA I hL hl
  unfold x_lbin at hs
  split at hs <;> try contradiction
  cases hs
  exact lv_land hx hb hdg (K H locs lsA I hL hl)
theorem s_lor (hx : p.tables.exec = Jvm.exec) (hb : c.code = cc) (hdg : decode cc pc = .ok (.lor, 1)) (hs : x_lbin (· ||| ·) (pc + 1) ls st h = some (.inl (pc2, ls2, st2, h2))) (K : a_Ok p l e R s m args below meth c Q B cA D h0 nL pc2 ls2 st2 h2) : a_Ok p l e R s m args below meth c Q B cA D h0 nL pc ls st h := by
  intro H locs lsA I hL hl
  unfold x_lbin at hs
  split at hs <;> try contradiction
  cases hs
  exact lv_lor hx hb hdg (K H locs lsA I hL hl)
theorem s_lshl (hx : p.tables.exec = Jvm.exec) (hb : c.code = cc) (hdg : decode cc pc = .ok (.lshl, 1)) (hs : x_lsh (fun x y => x <<< (y.toInt64 &&& 63)) (pc + 1) ls st h = some (.inl (pc2, ls2, st2, h2))) (K : a_Ok p l e R s m args below meth c Q B cA D h0 nL pc2 ls2 st2 h2) : a_Ok p l e R s m args below meth c Q B cA D h0 nL pc ls st h := by
  intro H locs lsA I hL hl
  unfold x_lsh at hs
  split at hs <;> try contradiction
  cases hs
  exact lv_lshl hx hb hdg rfl (K H locs lsA I hL hl)
theorem s_lshr (hx : p.tables.exec = Jvm.exec) (hb : c.code = cc) (hdg : decode cc pc = .ok (.lshr, 1)) (hs : x_lsh (fun x y => x >>> (y.toInt64 &&& 63)) (pc + 1) ls st h = some (.inl (pc2, ls2, st2, h2))) (K : a_Ok p l e R s m args below meth c Q B cA D h0 nL pc2 ls2 st2 h2) : a_Ok p l e R s m args below meth c Q B cA D h0 nL pc ls st h := by
  intro H locs lsA I hL hl
  unfold x_lsh at hs
  split at hs <;> try contradiction
  cases hs
  exact lv_lshr hx hb hdg rfl (K H locs lsA I hL hl)
theorem s_i2l (hx : p.tables.exec = Jvm.exec) (hb : c.code = cc) (hdg : decode cc pc = .ok (.i2l, 1)) (hs : x_i2l (pc + 1) ls st h = some (.inl (pc2, ls2, st2, h2))) (K : a_Ok p l e R s m args below meth c Q B cA D h0 nL pc2 ls2 st2 h2) : a_Ok p l e R s m args below meth c Q B cA D h0 nL pc ls st h := by
  intro H locs lsA I hL hl
  unfold x_i2l at hs
  split at hs <;> try contradiction
  cases hs
  exact lv_i2l hx hb hdg rfl (K H locs lsA I hL hl)
theorem s_l2i (hx : p.tables.exec = Jvm.exec) (hb : c.code = cc) (hdg : decode cc pc = .ok (.l2i, 1)) (hs : x_l2i (pc + 1) ls st h = some (.inl (pc2, ls2, st2, h2))) (K : a_Ok p l e R s m args below meth c Q B cA D h0 nL pc2 ls2 st2 h2) : a_Ok p l e R s m args below meth c Q B cA D h0 nL pc ls st h := by
  intro H locs lsA I hL hl
  unfold x_l2i at hs
  split at hs <;> try contradiction
  cases hs
  exact lv_l2i hx hb hdg rfl (K H locs lsA I hL hl)
theorem s_dup (hx : p.tables.exec = Jvm.exec) (hb : c.code = cc) (hdg : decode cc pc = .ok (.dup, 1)) (hs : x_dup (pc + 1) ls st h = some (.inl (pc2, ls2, st2, h2))) (K : a_Ok p l e R s m args below meth c Q B cA D h0 nL pc2 ls2 st2 h2) : a_Ok p l e R s m args below meth c Q B cA D h0 nL pc ls st h := by
  intro H locs lsA I hL hl
  unfold x_dup at hs
  split at hs <;> try contradiction
  split at hs <;> try contradiction
  rename_i hc
  cases hs
  exact lv_dup hx hb hdg hc (K H locs lsA I hL hl)
theorem s_dup2 (hx : p.tables.exec = Jvm.exec) (hb : c.code = cc) (hdg : decode cc pc = .ok (.dup2, 1)) (hs : x_dup2 (pc + 1) ls st h = some (.inl (pc2, ls2, st2, h2))) (K : a_Ok p l e R s m args below meth c Q B cA D h0 nL pc2 ls2 st2 h2) : a_Ok p l e R s m args below meth c Q B cA D h0 nL pc ls st h := by
  intro H locs lsA I hL hl
  unfold x_dup2 at hs
  split at hs <;> try contradiction
  split at hs <;> try contradiction
  rename_i hc
  cases hs
  exact lv_dup2_11 hx hb hdg hc.1 hc.2 (K H locs lsA I hL hl)
theorem s_pop (hx : p.tables.exec = Jvm.exec) (hb : c.code = cc) (hdg : decode cc pc = .ok (.pop, 1)) (hs : x_pop (pc + 1) ls st h = some (.inl (pc2, ls2, st2, h2))) (K : a_Ok p l e R s m args below meth c Q B cA D h0 nL pc2 ls2 st2 h2) : a_Ok p l e R s m args below meth c Q B cA D h0 nL pc ls st h := by
  intro H locs lsA I hL hl
  unfold x_pop at hs
  split at hs <;> try contradiction
  split at hs <;> try contradiction
  rename_i hc
  cases hs
  exact lv_pop hx hb hdg hc (K H locs lsA I hL hl)
theorem s_jump {off : Int} (hs : a_to pc off ls st h = some (.inl (pc2, ls2, st2, h2))) : (pc : Int) + off = (pc2 : Int) ∧ ls2 = ls ∧ st2 = st ∧ h2 = h := by
  unfold a_to at hs
  split at hs <;> try contradiction
  rename_i t ht
  unfold a_jump at ht
  split at ht <;> try contradiction
  cases ht
  cases hs
  exact ⟨by omega, rfl, rfl, rfl⟩
theorem s_onward (hs : a_go pc' ls st h = some (.inl (pc2, ls2, st2, h2))) : pc2 = pc' ∧ ls2 = ls ∧ st2 = st ∧ h2 = h := by
  cases hs; exact ⟨rfl, rfl, rfl, rfl⟩
theorem s_goto (hx : p.tables.exec = Jvm.exec) (hb : c.code = cc) {off : Int} (hdg : decode cc pc = .ok (.goto off, 3)) (hs : a_to pc off ls st h = some (.inl (pc2, ls2, st2, h2))) (K : a_Ok p l e R s m args below meth c Q B cA D h0 nL pc2 ls2 st2 h2) : a_Ok p l e R s m args below meth c Q B cA D h0 nL pc ls st h := by
  intro H locs lsA I hL hl
  obtain ⟨e1, rfl, rfl, rfl⟩ := s_jump hs
  exact lv_goto hx hb hdg e1 (K H locs lsA I hL hl)
theorem s_br {t : Bool} {off : Int} (hs : a_br t pc off ls st h = some (.inl (pc2, ls2, st2, h2))) : ∃ tgt : Nat, (pc : Int) + off = (tgt : Int) ∧ ls2 = ls ∧ st2 = st ∧ h2 = h ∧ ((t = true ∧ pc2 = tgt) ∨ (t = false ∧ pc2 = pc + 3)) := by
  unfold a_br at hs
  split at hs <;> try contradiction
  rename_i tgt ht
  unfold a_jump at ht
  split at ht <;> try contradiction
  cases ht
  refine ⟨((pc : Int) + off).toNat, by omega, ?_⟩
  cases t
  · simp at hs
    cases hs
    exact ⟨rfl, rfl, rfl, Or.inr ⟨rfl, rfl⟩⟩
  · simp at hs
    cases hs
    exact ⟨rfl, rfl, rfl, Or.inl ⟨rfl, rfl⟩⟩
theorem s_if_eq (hx : p.tables.exec = Jvm.exec) (hb : c.code = cc) {off : Int} (hdg : decode cc pc = .ok (.ifCond .eq off, 3)) (hs : x_if .eq off pc ls st h = some (.inl (pc2, ls2, st2, h2))) (K : a_Ok p l e R s m args below meth c Q B cA D h0 nL pc2 ls2 st2 h2) : a_Ok p l e R s m args below meth c Q B cA D h0 nL pc ls st h := by
  intro H locs lsA I hL hl
  unfold x_if at hs
  split at hs <;> try contradiction
  obtain ⟨tgt, e1, rfl, rfl, rfl, ⟨hc, rfl⟩ | ⟨hc, rfl⟩⟩ := s_br hs
  · simp only [a_cond, decide_eq_true_eq] at hc
    exact lv_if_eq hx hb hdg e1 (fun _ => K H locs lsA I hL hl) (fun q => absurd hc q)
  · simp only [a_cond, decide_eq_false_iff_not] at hc
    exact lv_if_eq hx hb hdg e1 (fun q => absurd q hc) (fun _ => K H locs lsA I hL hl)
theorem s_icmp_eq (hx : p.tables.exec = Jvm.exec) (hb : c.code = cc) {off : Int} (hdg : decode cc pc = .ok (.if_icmp .eq off, 3)) (hs : x_icmp .eq off pc ls st h = some (.inl (pc2, ls2, st2, h2))) (K : a_Ok p l e R s m args below meth c Q B cA D h0 nL pc2 ls2 st2 h2) : a_Ok p l e R s m args below meth c Q B cA D h0 nL pc ls st h := by
  intro H locs lsA I hL hl
  unfold x_icmp at hs
  split at hs <;> try contradiction
  obtain ⟨tgt, e1, rfl, rfl, rfl, ⟨hc, rfl⟩ | ⟨hc, rfl⟩⟩ := s_br hs
  · simp only [a_cond, decide_eq_true_eq] at hc
    exact lv_icmp_eq hx hb hdg e1 (fun _ => K H locs lsA I hL hl) (fun q => absurd hc q)
  · simp only [a_cond, decide_eq_false_iff_not] at hc
    exact lv_icmp_eq hx hb hdg e1 (fun q => absurd q hc) (fun _ => K H locs lsA I hL hl)
theorem s_if_ne (hx : p.tables.exec = Jvm.exec) (hb : c.code = cc) {off : Int} (hdg : decode cc pc = .ok (.ifCond .ne off, 3)) (hs : x_if .ne off pc ls st h = some (.inl (pc2, ls2, st2, h2))) (K : a_Ok p l e R s m args below meth c Q B cA D h0 nL pc2 ls2 st2 h2) : a_Ok p l e R s m args below meth c Q B cA D h0 nL pc ls st h := by
  intro H locs lsA I hL hl
  unfold x_if at hs
  split at hs <;> try contradiction
  obtain ⟨tgt, e1, rfl, rfl, rfl, ⟨hc, rfl⟩ | ⟨hc, rfl⟩⟩ := s_br hs
  · simp only [a_cond, decide_eq_true_eq] at hc
    exact lv_if_ne hx hb hdg e1 (fun _ => K H locs lsA I hL hl) (fun q => absurd q hc)
  · simp only [a_cond, decide_eq_false_iff_not] at hc
    exact lv_if_ne hx hb hdg e1 (fun q => absurd q hc) (fun _ => K H locs lsA I hL hl)
theorem s_icmp_ne (hx : p.tables.exec = Jvm.exec) (hb : c.code = cc) {off : Int} (hdg : decode cc pc = .ok (.if_icmp .ne off, 3)) (hs : x_icmp .ne off pc ls st h = some (.inl (pc2, ls2, st2, h2))) (K : a_Ok p l e R s m args below meth c Q B cA D h0 nL pc2 ls2 st2 h2) : a_Ok p l e R s m args below meth c Q B cA D h0 nL pc ls st h := by
  intro H locs lsA I hL hl
  unfold x_icmp at hs
  split at hs <;> try contradiction
  obtain ⟨tgt, e1, rfl, rfl, rfl, ⟨hc, rfl⟩ | ⟨hc, rfl⟩⟩ := s_br hs
  · simp only [a_cond, decide_eq_true_eq] at hc
    exact lv_icmp_ne hx hb hdg e1 (fun _ => K H locs lsA I hL hl) (fun q => absurd q hc)
  · simp only [a_cond, decide_eq_false_iff_not] at hc
    exact lv_icmp_ne hx hb hdg e1 (fun q => absurd q hc) (fun _ => K H locs lsA I hL hl)
theorem s_if_lt (hx : p.tables.exec = Jvm.exec) (hb : c.code = cc) {off : Int} (hdg : decode cc pc = .ok (.ifCond .lt off, 3)) (hs : x_if .lt off pc ls st h = some (.inl (pc2, ls2, st2, h2))) (K : a_Ok p l e R s m args below meth c Q B cA D h0 nL pc2 ls2 st2 h2) : a_Ok p l e R s m args below meth c Q B cA D h0 nL pc ls st h := by
  intro H locs lsA I hL hl
  unfold x_if at hs
  split at hs <;> try contradiction
  obtain ⟨tgt, e1, rfl, rfl, rfl, ⟨hc, rfl⟩ | ⟨hc, rfl⟩⟩ := s_br hs
  · simp only [a_cond, decide_eq_true_eq] at hc
    exact lv_if_lt hx hb hdg e1 (fun _ => K H locs lsA I hL hl) (fun q => absurd hc q)
  · simp only [a_cond, decide_eq_false_iff_not] at hc
    exact lv_if_lt hx hb hdg e1 (fun q => absurd q hc) (fun _ => K H locs lsA I hL hl)
theorem s_icmp_lt (hx : p.tables.exec = Jvm.exec) (hb : c.code = cc) {off : Int} (hdg : decode cc pc = .ok (.if_icmp .lt off, 3)) (hs : x_icmp .lt off pc ls st h = some (.inl (pc2, ls2, st2, h2))) (K : a_Ok p l e R s m args below meth c Q B cA D h0 nL pc2 ls2 st2 h2) : a_Ok p l e R s m args below meth c Q B cA D h0 nL pc ls st h := by
  intro H locs lsA I hL hl
  unfold x_icmp at hs
  split at hs <;> try contradiction
  obtain ⟨tgt, e1, rfl, rfl, rfl, ⟨hc, rfl⟩ | ⟨hc, rfl⟩⟩ := s_br hs
  · simp only [a_cond, decide_eq_true_eq] at hc
    exact lv_icmp_lt hx hb hdg e1 (fun _ => K H locs lsA I hL hl) (fun q => absurd hc q)
  · simp only [a_cond, decide_eq_false_iff_not] at hc
    exact lv_icmp_lt hx hb hdg e1 (fun q => absurd q hc) (fun _ => K H locs lsA I hL hl)
theorem s_if_ge (hx : p.tables.exec = Jvm.exec) (hb : c.code = cc) {off : Int} (hdg : decode cc pc = .ok (.ifCond .ge off, 3)) (hs : x_if .ge off pc ls st h = some (.inl (pc2, ls2, st2, h2))) (K : a_Ok p l e R s m args below meth c Q B cA D h0 nL pc2 ls2 st2 h2) : a_Ok p l e R s m args below meth c Q B cA D h0 nL pc ls st h := by
  intro H locs lsA I hL hl
  unfold x_if at hs
  split at hs <;> try contradiction
  obtain ⟨tgt, e1, rfl, rfl, rfl, ⟨hc, rfl⟩ | ⟨hc, rfl⟩⟩ := s_br hs
  · simp only [a_cond, decide_eq_true_eq] at hc
    exact lv_if_ge hx hb hdg e1 (fun _ => K H locs lsA I hL hl) (fun q => absurd hc q)
  · simp only [a_cond, decide_eq_false_iff_not] at hc
    exact lv_if_ge hx hb hdg e1 (fun q => absurd q hc) (fun _ => K H locs lsA I hL hl)
theorem s_icmp_ge (hx : p.tables.exec = Jvm.exec) (hb : c.code = cc) {off : Int} (hdg : decode cc pc = .ok (.if_icmp .ge off, 3)) (hs : x_icmp .ge off pc ls st h = some (.inl (pc2, ls2, st2, h2))) (K : a_Ok p l e R s m args below meth c Q B cA D h0 nL pc2 ls2 st2 h2) : a_Ok p l e R s m args below meth c Q B cA D h0 nL pc ls st h := by
  intro H locs lsA I hL hl
  unfold x_icmp at hs
  split at hs <;> try contradiction
  obtain ⟨tgt, e1, rfl, rfl, rfl, ⟨hc, rfl⟩ | ⟨hc, rfl⟩⟩ := s_br hs
  · simp only [a_cond, decide_eq_true_eq] at hc
    exact lv_icmp_ge hx hb hdg e1 (fun _ => K H locs lsA I hL hl) (fun q => absurd hc q)
  · simp only [a_cond, decide_eq_false_iff_not] at hc
    exact lv_icmp_ge hx hb hdg e1 (fun q => absurd q hc) (fun _ => K H locs lsA I hL hl)
theorem s_if_gt (hx : p.tables.exec = Jvm.exec) (hb : c.code = cc) {off : Int} (hdg : decode cc pc = .ok (.ifCond .gt off, 3)) (hs : x_if .gt off pc ls st h = some (.inl (pc2, ls2, st2, h2))) (K : a_Ok p l e R s m args below meth c Q B cA D h0 nL pc2 ls2 st2 h2) : a_Ok p l e R s m args below meth c Q B cA D h0 nL pc ls st h := by
  intro H locs lsA I hL hl
  unfold x_if at hs
  split at hs <;> try contradiction
  obtain ⟨tgt, e1, rfl, rfl, rfl, ⟨hc, rfl⟩ | ⟨hc, rfl⟩⟩ := s_br hs
  · simp only [a_cond, decide_eq_true_eq] at hc
    exact lv_if_gt hx hb hdg e1 (fun _ => K H locs lsA I hL hl) (fun q => absurd hc q)
  · simp only [a_cond, decide_eq_false_iff_not] at hc
    exact lv_if_gt hx hb hdg e1 (fun q => absurd q hc) (fun _ => K H locs lsA I hL hl)
theorem s_icmp_gt (hx : p.tables.exec = Jvm.exec) (hb : c.code = cc) {off : Int} (hdg : decode cc pc = .ok (.if_icmp .gt off, 3)) (hs : x_icmp .gt off pc ls st h = some (.inl (pc2, ls2, st2, h2))) (K : a_Ok p l e R s m args below meth c Q B cA D h0 nL pc2 ls2 st2 h2) : a_Ok p l e R s m args below meth c Q B cA D h0 nL pc ls st h := by
  intro H locs lsA I hL hl
  unfold x_icmp at hs
  split at hs <;> try contradiction
  obtain ⟨tgt, e1, rfl, rfl, rfl, ⟨hc, rfl⟩ | ⟨hc, rfl⟩⟩ := s_br hs
  · simp only [a_cond, decide_eq_true_eq] at hc
    exact lv_icmp_gt hx hb hdg e1 (fun _ => K H locs lsA I hL hl) (fun q => absurd hc q)
  · simp only [a_cond, decide_eq_false_iff_not] at hc
    exact lv_icmp_gt hx hb hdg e1 (fun q => absurd q hc) (fun _ => K H locs lsA I hL hl)
theorem s_if_le (hx : p.tables.exec = Jvm.exec) (hb : c.code = cc) {off : Int} (hdg : decode cc pc = .ok (.ifCond .le off, 3)) (hs : x_if .le off pc ls st h = some (.inl (pc2, ls2, st2, h2))) (K : a_Ok p l e R s m args below meth c Q B cA D h0 nL pc2 ls2 st2 h2) : a_Ok p l e R s m args below meth c Q B cA D h0 nL pc ls st h := by
  intro H locs lsA I hL hl
  unfold x_if at hs
  split at hs <;> try contradiction
  obtain ⟨tgt, e1, rfl, rfl, rfl, ⟨hc, rfl⟩ | ⟨hc, rfl⟩⟩ := s_br hs
  · simp only [a_cond, decide_eq_true_eq] at hc
    exact lv_if_le hx hb hdg e1 (fun _ => K H locs lsA I hL hl) (fun q => absurd hc q)
  · simp only [a_cond, decide_eq_false_iff_not] at hc
    exact lv_if_le hx hb hdg e1 (fun q => absurd q hc) (fun _ => K H locs lsA I hL hl)
theorem s_icmp_le (hx : p.tables.exec = Jvm.exec) (hb : c.code = cc) {off : Int} (hdg : decode cc pc = .ok (.if_icmp .le off, 3)) (hs : x_icmp .le off pc ls st h = some (.inl (pc2, ls2, st2, h2))) (K : a_Ok p l e R s m args below meth c Q B cA D h0 nL pc2 ls2 st2 h2) : a_Ok p l e R s m args below meth c Q B cA D h0 nL pc ls st h := by
  intro H locs lsA I hL hl
  unfold x_icmp at hs
  split at hs <;> try contradiction
  obtain ⟨tgt, e1, rfl, rfl, rfl, ⟨hc, rfl⟩ | ⟨hc, rfl⟩⟩ := s_br hs
  · simp only [a_cond, decide_eq_true_eq] at hc
    exact lv_icmp_le hx hb hdg e1 (fun _ => K H locs lsA I hL hl) (fun q => absurd hc q)
  · simp only [a_cond, decide_eq_false_iff_not] at hc
    exact lv_icmp_le hx hb hdg e1 (fun q => absurd q hc) (fun _ => K H locs lsA I hL hl)
theorem s_ifnull (hx : p.tables.exec = Jvm.exec) (hb : c.code = cc) {off : Int} (hdg : decode cc pc = .ok (.ifnull off, 3)) (hs : x_null true off pc ls st h = some (.inl (pc2, ls2, st2, h2))) (K : a_Ok p l e R s m args below meth c Q B cA D h0 nL pc2 ls2 st2 h2) : a_Ok p l e R s m args below meth c Q B cA D h0 nL pc ls st h := by
  intro H locs lsA I hL hl
  unfold x_null at hs
  split at hs <;> try contradiction
  · simp at hs
    obtain ⟨e1, rfl, rfl, rfl⟩ := s_jump hs
    exact lv_ifnullN hx hb hdg e1 (K H locs lsA I hL hl)
  · simp at hs
    obtain ⟨rfl, rfl, rfl, rfl⟩ := s_onward hs
    exact lv_ifnull hx hb hdg (K H locs lsA I hL hl)
theorem s_ifnonnull (hx : p.tables.exec = Jvm.exec) (hb : c.code = cc) {off : Int} (hdg : decode cc pc = .ok (.ifnonnull off, 3)) (hs : x_null false off pc ls st h = some (.inl (pc2, ls2, st2, h2))) (K : a_Ok p l e R s m args below meth c Q B cA D h0 nL pc2 ls2 st2 h2) : a_Ok p l e R s m args below meth c Q B cA D h0 nL pc ls st h := by
  intro H locs lsA I hL hl
  unfold x_null at hs
  split at hs <;> try contradiction
  · simp at hs
    obtain ⟨rfl, rfl, rfl, rfl⟩ := s_onward hs
    exact lv_ifnonnullN hx hb hdg (K H locs lsA I hL hl)
  · simp at hs
    obtain ⟨e1, rfl, rfl, rfl⟩ := s_jump hs
    exact lv_ifnonnull hx hb hdg e1 (K H locs lsA I hL hl)
theorem a_adr_rf {v : Value} {r : Option Nat} (h : a_adr v = some r) : v = va_rf r := by
  cases v <;> simp [a_adr] at h <;> subst h <;> rfl
theorem s_acmp_eq (hx : p.tables.exec = Jvm.exec) (hb : c.code = cc) {off : Int} (hdg : decode cc pc = .ok (.if_acmp .eq off, 3)) (hs : x_acmp true off pc ls st h = some (.inl (pc2, ls2, st2, h2))) (K : a_Ok p l e R s m args below meth c Q B cA D h0 nL pc2 ls2 st2 h2) : a_Ok p l e R s m args below meth c Q B cA D h0 nL pc ls st h := by
  intro H locs lsA I hL hl
  unfold x_acmp at hs
  split at hs <;> try contradiction
  split at hs <;> try contradiction
  rename_i ry rx hy hxx
  rw [a_adr_rf hy, a_adr_rf hxx]
  obtain ⟨tgt, e1, rfl, rfl, rfl, ⟨hc, rfl⟩ | ⟨hc, rfl⟩⟩ := s_br hs
  · simp at hc
    exact lv_acmp_eq hx hb hdg e1 (fun _ => K H locs lsA I hL hl) (fun q => absurd hc q)
  · simp at hc
    exact lv_acmp_eq hx hb hdg e1 (fun q => absurd q hc) (fun _ => K H locs lsA I hL hl)
theorem s_acmp_ne (hx : p.tables.exec = Jvm.exec) (hb : c.code = cc) {off : Int} (hdg : decode cc pc = .ok (.if_acmp .ne off, 3)) (hs : x_acmp false off pc ls st h = some (.inl (pc2, ls2, st2, h2))) (K : a_Ok p l e R s m args below meth c Q B cA D h0 nL pc2 ls2 st2 h2) : a_Ok p l e R s m args below meth c Q B cA D h0 nL pc ls st h := by
  intro H locs lsA I hL hl
  unfold x_acmp at hs
  split at hs <;> try contradiction
  split at hs <;> try contradiction
  rename_i ry rx hy hxx
  rw [a_adr_rf hy, a_adr_rf hxx]
  obtain ⟨tgt, e1, rfl, rfl, rfl, ⟨hc, rfl⟩ | ⟨hc, rfl⟩⟩ := s_br hs
  · simp at hc
    exact lv_acmp_ne hx hb hdg e1 (fun _ => K H locs lsA I hL hl) (fun q => absurd q hc)
  · simp at hc
    exact lv_acmp_ne hx hb hdg e1 (fun q => absurd hc q) (fun _ => K H locs lsA I hL hl)
theorem s_table (hx : p.tables.exec = Jvm.exec) (hb : c.code = cc) {d lo hi : Int} {offs : Array Int} {len : Nat} (hdg : decode cc pc = .ok (.tableswitch d lo hi offs, len)) (hs : x_table d lo hi offs pc ls st h = some (.inl (pc2, ls2, st2, h2))) (K : a_Ok p l e R s m args below meth c Q B cA D h0 nL pc2 ls2 st2 h2) : a_Ok p l e R s m args below meth c Q B cA D h0 nL pc ls st h := by
  intro H locs lsA I hL hl
  unfold x_table at hs
  split at hs <;> try contradiction
  split at hs
  · rename_i hc
    obtain ⟨e1, rfl, rfl, rfl⟩ := s_jump hs
    exact lv_tableOut hx hb hdg hc e1 (K H locs lsA I hL hl)
  · rename_i hc
    split at hs <;> try contradiction
    rename_i off ho
    obtain ⟨e1, rfl, rfl, rfl⟩ := s_jump hs
    exact lv_tableIn hx hb hdg (fun q => hc (Or.inl q)) (fun q => hc (Or.inr q)) ho e1 (K H locs lsA I hL hl)
theorem s_look (hx : p.tables.exec = Jvm.exec) (hb : c.code = cc) {d : Int} {ps : Array (Int × Int)} {len : Nat} (hdg : decode cc pc = .ok (.lookupswitch d ps, len)) (hs : x_look d ps pc ls st h = some (.inl (pc2, ls2, st2, h2))) (K : a_Ok p l e R s m args below meth c Q B cA D h0 nL pc2 ls2 st2 h2) : a_Ok p l e R s m args below meth c Q B cA D h0 nL pc ls st h := by
  intro H locs lsA I hL hl
  unfold x_look at hs
  split at hs <;> try contradiction
  split at hs <;> try contradiction
  rename_i hc
  obtain ⟨e1, rfl, rfl, rfl⟩ := s_jump hs
  exact lv_lookup hx hb hdg hc rfl e1 (K H locs lsA I hL hl)
theorem a_found {α : Type} {L : List α} {f : α → Bool} {x : α} (h : L.find? f = some x) : x ∈ L ∧ f x = true := ⟨List.mem_of_find?_eq_some h, List.find?_some h⟩
theorem s_ldc (hx : p.tables.exec = Jvm.exec) (hb : c.code = cc) {o idx : Nat} (hown : s.vm.findClass (a_own o) = some m.cls) (hts : ∀ w ∈ a_tb, w.before args s = true) (hdg : decode cc pc = .ok (.ldc idx, 2)) (hs : x_ldc o idx (pc + 2) ls st h = some (.inl (pc2, ls2, st2, h2))) (K : a_Ok p l e R s m args below meth c Q B cA D h0 nL pc2 ls2 st2 h2) : a_Ok p l e R s m args below meth c Q B cA D h0 nL pc ls st h := by
  intro H locs lsA I hL hl
  unfold x_ldc at hs
  split at hs <;> try contradiction
  rename_i o' i' v hf
  obtain ⟨h1, h2⟩ := a_found hf
  simp only [Bool.and_eq_true, beq_iff_eq] at h2
  obtain ⟨rfl, rfl⟩ := h2
  cases hs
  exact lv_ldc hx hb hown (hts _ (a_ks_ok _ h1)) hdg (K H locs lsA I hL hl)
theorem s_ldcw (hx : p.tables.exec = Jvm.exec) (hb : c.code = cc) {o idx : Nat} (hown : s.vm.findClass (a_own o) = some m.cls) (hts : ∀ w ∈ a_tb, w.before args s = true) (hdg : decode cc pc = .ok (.ldc_w idx, 3)) (hs : x_ldc o idx (pc + 3) ls st h = some (.inl (pc2, ls2, st2, h2))) (K : a_Ok p l e R s m args below meth c Q B cA D h0 nL pc2 ls2 st2 h2) : a_Ok p l e R s m args below meth c Q B cA D h0 nL pc ls st h := by
  intro H locs lsA I hL hl
  unfold x_ldc at hs
  split at hs <;> try contradiction
  rename_i o' i' v hf
  obtain ⟨h1, h2⟩ := a_found hf
  simp only [Bool.and_eq_true, beq_iff_eq] at h2
  obtain ⟨rfl, rfl⟩ := h2
  cases hs
  exact lv_ldcw hx hb hown (hts _ (a_ks_ok _ h1)) hdg (K H locs lsA I hL hl)
theorem s_ldc2 (hx : p.tables.exec = Jvm.exec) (hb : c.code = cc) {o idx : Nat} (hown : s.vm.findClass (a_own o) = some m.cls) (hts : ∀ w ∈ a_tb, w.before args s = true) (hdg : decode cc pc = .ok (.ldc2_w idx, 3)) (hs : x_ldc2 o idx (pc + 3) ls st h = some (.inl (pc2, ls2, st2, h2))) (K : a_Ok p l e R s m args below meth c Q B cA D h0 nL pc2 ls2 st2 h2) : a_Ok p l e R s m args below meth c Q B cA D h0 nL pc ls st h := by
  intro H locs lsA I hL hl
  unfold x_ldc2 at hs
  split at hs <;> try contradiction
  rename_i o' i' v hf
  obtain ⟨h1, h2⟩ := a_found hf
  simp only [Bool.and_eq_true, beq_iff_eq] at h2
  obtain ⟨rfl, rfl⟩ := h2
  cases hs
  exact lv_ldc2 hx hb hown (hts _ (a_kl_ok _ h1)) hdg (K H locs lsA I hL hl)
end AS2
end
section
section AS3
variable {p : Program} {l : Launch} {e : Env} {R : Room} {s : State} {m : MethodId} {args : Array Value} {below : List Frame} {meth : Method} {c : Code} {Q : State → Prop}
variable {B : Nat} {cA : Nat → ClassId} {D : va_G} {h0 h h2 : AH} {nL pc pc2 pc' k o idx : Nat} {ls ls2 : AL} {st st2 : List Value} {cc : ByteArray} {H : Heap} {locs : List Loc}
theorem a_E_obj {cA : Nat → ClassId} {h : AH} {a c : Nat} (hk : a_kd h a = c + 1) (hc : c < 19) : a_E cA h a = .inr (c, (List.range (a_N c)).map (a_slot h a c)) := by
  unfold a_E
  rw [if_pos (by omega), hk]
  rfl
theorem a_E_int {cA : Nat → ClassId} {h : AH} {a k : Nat} (hk : a_kd h a = k) (h1 : 20 ≤ k) (h2 : k < 22) : a_E cA h a = .inl (cA k, a_ln h a, .inl (a_iv h a)) := by
  unfold a_E
  rw [if_neg (by omega), if_pos (by omega), hk]
theorem a_E_ref {cA : Nat → ClassId} {h : AH} {a k : Nat} (hk : a_kd h a = k) (h1 : 22 ≤ k) : a_E cA h a = .inl (cA k, a_ln h a, .inr (.inr (.inr (.inr (fun j => a_op (a_rv h a j)))))) := by
  unfold a_E
  rw [if_neg (by omega), if_neg (by omega), hk]
theorem a_here (I : a_I B cA D h0 h s H locs) {a k : Nat} (hk : a_kd h a = k) (h1 : k ≠ 0) : B ≤ a ∧ a < a_nx h := I.2.2.2.2.2.2.1 a (by rw [hk]; exact h1)
theorem a_P (I : a_I B cA D h0 h s H locs) : va_P D vwCl (a_ws B cA h) H := I.2.2.2.2.2.2.2.1
theorem a_S (I : a_I B cA D h0 h s H locs) : va_S (fun q => B ≤ q) s.heap H locs := I.2.2.2.2.2.2.2.2
theorem a_slot_at {h : AH} {a c k N : Nat} (hk : k < N) : ((List.range N).map (a_slot h a c))[k]? = some (a_slot h a c k) := by
  rw [List.getElem?_map, List.getElem?_range hk]; rfl
theorem a_vw_lt {c : Nat} {r : vw_C} (h : vwCl[c]? = some r) : c < 19 := Nat.lt_of_lt_of_le (List.getElem?_eq_some_iff.mp h).1 (by decide)
theorem s_getf (hx : p.tables.exec = Jvm.exec) (hb : c.code = cc) (hown : s.vm.findClass (a_own o) = some m.cls) (hts : ∀ w ∈ a_tb, w.before args s = true) (hK : a_K D cA s) (hdg : decode cc pc = .ok (.getfield idx, 3)) (hs : x_getf o idx (pc + 3) ls st h = some (.inl (pc2, ls2, st2, h2))) (K : a_Ok p l e R s m args below meth c Q B cA D h0 nL pc2 ls2 st2 h2) : a_Ok p l e R s m args below meth c Q B cA D h0 nL pc ls st h := by
  intro H locs lsA I hL hl
  unfold x_getf at hs
  split at hs <;> try contradiction
  rename_i a st' o' i' ci k hf
  split at hs <;> try contradiction
  rename_i hkd
  cases hs
  obtain ⟨h1, h2⟩ := a_found hf
  simp only [Bool.and_eq_true, beq_iff_eq] at h2
  obtain ⟨rfl, rfl⟩ := h2
  obtain ⟨r, hr, hkN, hlink⟩ := a_fl_ok _ h1
  obtain ⟨v1, v2, v3, v4, v5, ty, v6, v7⟩ := a_vw _ _ hr
  obtain ⟨g1, g2⟩ := a_here I hkd (by omega)
  have hw := a_get (cA := cA) g1 g2
  rw [a_E_obj hkd (a_vw_lt hr)] at hw
  exact va_get (D := D) (C := r.1) (T := r.2.1) (N := r.2.2) hx hb hts v1 hown hK.1 (a_P I) (a - B) hw hr k hkN (hts _ hlink) (fun _ q => q) (a_slot_at (by rw [v2]; exact hkN)) hdg (K H locs lsA I hL hl)
theorem a_rf_op (r : Nat) : va_rf (a_op r) = a_rf r := by
  unfold a_op a_rf
  by_cases h : r = 0
  · rw [if_pos h, if_pos h]; rfl
  · rw [if_neg h, if_neg h]; rfl
/-- behind a write into one cell -/
theorem a_wrote {h' : AH} {a : Nat} {e1 : va_E} {H1 : Heap} {locs1 : List Loc} {lsA : Array Slot} (I : a_I B cA D h0 h s H locs) (g1 : B ≤ a) (g2 : a < a_nx h) (hn : a_nx h' = a_nx h) (ht : a_tot h' = a_tot h) (hk : a_kd h' = a_kd h) (he : a_E cA h' a = e1) (ho : ∀ x, x ≠ a → a_E cA h' x = a_E cA h x)
    (hP : va_P D vwCl ((a_ws B cA h).set (a - B) (a, e1)) H1) (hS : va_S (fun q => B ≤ q) s.heap H1 locs1) (hL : ls2.length = nL) (hl : lv_has lsA nL (a_as ls2)) (K : a_Ok p l e R s m args below meth c Q B cA D h0 nL pc2 ls2 st2 h') : W p l e R s m args below meth c H1 locs1 (a_nx h - a_nx h0) (a_tot h - a_tot h0) Q (F0 m pc2 lsA st2) := by
  refine a_sz fun hu => ?_
  rw [a_setw g1 g2 hn he ho] at hP
  have I' : a_I B cA D h0 h' s H1 locs1 := a_I_of I (by omega) (by omega) (fun x hx => by rw [hk] at hx; rw [hn]; exact I.2.2.2.2.2.2.1 x hx) hP hS (by rw [hn]; exact hu)
  have := K H1 locs1 lsA I' hL hl
  rw [hn, ht] at this
  exact this
theorem a_set_map {N k : Nat} {f g : Nat → Value} {v : Value} (hk : k < N) (h1 : g k = v) (h2 : ∀ j, j ≠ k → g j = f j) : (((List.range N).map f).set k v) = (List.range N).map g := by
  apply List.ext_getElem?
  intro j
  by_cases hj : j = k
  · subst hj
    rw [List.getElem?_set_self (by simpa using hk), List.getElem?_map, List.getElem?_range hk]
    simp [h1]
  · rw [List.getElem?_set_ne (Ne.symm hj), List.getElem?_map, List.getElem?_map]
    by_cases hn : j < N
    · rw [List.getElem?_range hn]; simp [h2 j hj]
    · rw [List.getElem?_eq_none (by simp; omega)]; rfl
theorem a_E_setI_ne {a k x : Nat} {v : Int32} (hx : x ≠ a) : a_E cA (a_setI h a k v) x = a_E cA h x := by
  have h1 : ∀ j, a_iv (a_setI h a k v) x j = a_iv h x j := fun j => by simp [a_iv, a_setI, a_ui, hx]
  have h2 : a_iv (a_setI h a k v) x = a_iv h x := funext h1
  have h3 : a_slot (a_setI h a k v) x = a_slot h x := by funext c' j; unfold a_slot; rw [h1]; rfl
  unfold a_E
  rw [h2, h3]
  rfl
theorem a_E_setR_ne {a k x v : Nat} (hx : x ≠ a) : a_E cA (a_setR h a k v) x = a_E cA h x := by
  have h1 : ∀ j, a_rv (a_setR h a k v) x j = a_rv h x j := fun j => by simp [a_rv, a_setR, a_ur, hx]
  have h3 : a_slot (a_setR h a k v) x = a_slot h x := by funext c' j; unfold a_slot; rw [h1]; rfl
  unfold a_E
  rw [h3]
  simp only [h1]
  rfl
theorem a_slot_setI_self {a c' k : Nat} {v : Int32} (h1 : a_fty c' k ≠ 2) : a_slot (a_setI h a k v) a c' k = .int v := by
  unfold a_slot
  rw [if_neg h1]
  simp [a_iv, a_setI, a_ui]
theorem a_slot_setI_ne {a c' k j : Nat} {v : Int32} (hj : j ≠ k) : a_slot (a_setI h a k v) a c' j = a_slot h a c' j := by
  unfold a_slot
  have : a_iv (a_setI h a k v) a j = a_iv h a j := by simp [a_iv, a_setI, a_ui, hj]
  rw [this]; rfl
theorem a_slot_setR_self {a c' k v : Nat} (h1 : a_fty c' k = 2) : a_slot (a_setR h a k v) a c' k = a_rf v := by
  unfold a_slot
  rw [if_pos h1]
  simp [a_rv, a_setR, a_ur]
theorem a_slot_setR_ne {a c' k j v : Nat} (hj : j ≠ k) : a_slot (a_setR h a k v) a c' j = a_slot h a c' j := by
  unfold a_slot
  have : a_rv (a_setR h a k v) a j = a_rv h a j := by simp [a_rv, a_setR, a_ur, hj]
  rw [this]; rfl
/-- a field is written: by the two rows for fields that are final and fields that aren't -/
theorem s_putf1 (hx : p.tables.exec = Jvm.exec) (hb : c.code = cc) {ini : Bool} (hini : ini = true → meth.name = "<init>") (hown : s.vm.findClass (a_own o) = some m.cls) (hts : ∀ w ∈ a_tb, w.before args s = true) (hK : a_K D cA s) {a ci k : Nat} {v : Value} {h' : AH} {lsA : Array Slot}
    (hdg : decode cc pc = .ok (.putfield idx, 3)) (hf : a_fld o idx = some (o, idx, ci, k)) (hkd : a_kd h a = ci + 1) (hfi : a_fin ci k = true → ini = true ∧ ci = o)
    (hv : ∀ ty : FieldType, ((a_fty ci k = 0 ∧ ty = .int) ∨ (a_fty ci k = 1 ∧ ty = .boolean) ∨ (a_fty ci k = 2 ∧ ((∃ n, ty = .object n) ∨ ∃ t, ty = .array t))) → narrow ty v = v ∧ fits ty v = true)
    (hn : a_nx h' = a_nx h) (ht : a_tot h' = a_tot h) (hkk : a_kd h' = a_kd h) (hself : a_slot h' a ci k = v) (hoth : ∀ j, j ≠ k → a_slot h' a ci j = a_slot h a ci j) (ho : ∀ x, x ≠ a → a_E cA h' x = a_E cA h x)
    (I : a_I B cA D h0 h s H locs) (hL : ls.length = nL) (hl : lv_has lsA nL (a_as ls)) (K : a_Ok p l e R s m args below meth c Q B cA D h0 nL (pc + 3) ls st h') : W p l e R s m args below meth c H locs (a_nx h - a_nx h0) (a_tot h - a_tot h0) Q (F0 m pc lsA (v :: .ref a :: st)) := by
  obtain ⟨h1, -⟩ := a_found hf
  obtain ⟨r, hr, hkN, hlink⟩ := a_fl_ok _ h1
  obtain ⟨v1, v2, v3, v4, v5, ty, v6, v7⟩ := a_vw _ _ hr
  obtain ⟨w1, w2, w3⟩ := v7 k hkN
  obtain ⟨n1, n2⟩ := hv (ty k) w3
  obtain ⟨g1, g2⟩ := a_here I hkd (by omega)
  have hw := a_get (cA := cA) g1 g2
  rw [a_E_obj hkd (a_vw_lt hr)] at hw
  have he : a_E cA h' a = .inr (ci, ((List.range (a_N ci)).map (a_slot h a ci)).set k v) := by
    rw [a_E_obj (by rw [hkk]; exact hkd) (a_vw_lt hr), a_set_map (g := a_slot h' a ci) (by rw [v2]; exact hkN) hself hoth]
  by_cases hfb : a_fin ci k = true
  · obtain ⟨f1, f2⟩ := hfi hfb
    refine va_putF (D := D) (C := r.1) (T := r.2.1) (N := r.2.2) hx hb hts v1 ty v6 v3 hown hK.1 (a_P I) (a_D B cA h) (a_S I) (a - B) hw hr k hkN (hts _ hlink) (fun _ q => q) (by rw [w2]; exact hfb) (hini f1) (by rw [w1, ← v5, f2]) (v6 k hkN) n1 n2 (by simp [v2]; exact hkN) hdg fun H1 locs1 hP1 _ hS1 => ?_
    exact a_wrote I g1 g2 hn ht hkk he ho hP1 hS1 hL hl K
  · refine va_put (D := D) (C := r.1) (T := r.2.1) (N := r.2.2) hx hb hts v1 ty v6 v3 hown hK.1 (a_P I) (a_D B cA h) (a_S I) (a - B) hw hr k hkN (hts _ hlink) (fun _ q => q) (by rw [w2]; simpa using hfb) (v6 k hkN) n1 n2 (by simp [v2]; exact hkN) hdg fun H1 locs1 hP1 _ hS1 => ?_
    exact a_wrote I g1 g2 hn ht hkk he ho hP1 hS1 hL hl K
theorem s_putf (hx : p.tables.exec = Jvm.exec) (hb : c.code = cc) {ini : Bool} (hini : ini = true → meth.name = "<init>") (hown : s.vm.findClass (a_own o) = some m.cls) (hts : ∀ w ∈ a_tb, w.before args s = true) (hK : a_K D cA s) (hdg : decode cc pc = .ok (.putfield idx, 3)) (hs : x_putf o ini idx (pc + 3) ls st h = some (.inl (pc2, ls2, st2, h2))) (K : a_Ok p l e R s m args below meth c Q B cA D h0 nL pc2 ls2 st2 h2) : a_Ok p l e R s m args below meth c Q B cA D h0 nL pc ls st h := by
  intro H locs lsA I hL hl
  unfold x_putf at hs
  split at hs <;> try contradiction
  rename_i v a st' o' i' ci k hf
  split at hs <;> try contradiction
  rename_i hc
  obtain ⟨hkd, hfi⟩ := hc
  have hf2 := (a_found hf).2
  simp only [Bool.and_eq_true, beq_iff_eq] at hf2
  obtain ⟨rfl, rfl⟩ := hf2
  split at hs <;> try contradiction
  · rename_i x
    split at hs <;> try contradiction
    rename_i hty
    cases hs
    refine s_putf1 (h' := a_setI h a k x) hx hb hini hown hts hK hdg hf hkd hfi ?_ rfl rfl rfl (a_slot_setI_self (by omega)) (fun j hj => a_slot_setI_ne hj) (fun x hx => a_E_setI_ne hx) I hL hl K
    rintro ty (⟨q, rfl⟩ | ⟨q, rfl⟩ | ⟨q, -⟩)
    · exact ⟨rfl, rfl⟩
    · rcases hty with h1 | ⟨-, rfl | rfl⟩
      · omega
      · exact ⟨rfl, rfl⟩
      · exact ⟨rfl, rfl⟩
    · omega
  · rename_i r
    split at hs <;> try contradiction
    rename_i hty
    cases hs
    refine s_putf1 (h' := a_setR h a k r) hx hb hini hown hts hK hdg hf hkd hfi ?_ rfl rfl rfl ((a_slot_setR_self hty.1).trans (by unfold a_rf; rw [if_neg hty.2])) (fun j hj => a_slot_setR_ne hj) (fun x hx => a_E_setR_ne hx) I hL hl K
    rintro ty (⟨q, rfl⟩ | ⟨q, rfl⟩ | ⟨-, ⟨n, rfl⟩ | ⟨t, rfl⟩⟩)
    · omega
    · omega
    · exact ⟨rfl, rfl⟩
    · exact ⟨rfl, rfl⟩
  · split at hs <;> try contradiction
    rename_i hty
    cases hs
    refine s_putf1 (h' := a_setR h a k 0) hx hb hini hown hts hK hdg hf hkd hfi ?_ rfl rfl rfl ((a_slot_setR_self hty).trans rfl) (fun j hj => a_slot_setR_ne hj) (fun x hx => a_E_setR_ne hx) I hL hl K
    rintro ty (⟨q, rfl⟩ | ⟨q, rfl⟩ | ⟨-, ⟨n, rfl⟩ | ⟨t, rfl⟩⟩)
    · omega
    · omega
    · exact ⟨rfl, rfl⟩
    · exact ⟨rfl, rfl⟩
end AS3
end
section
section AS4
variable {p : Program} {l : Launch} {e : Env} {R : Room} {s : State} {m : MethodId} {args : Array Value} {below : List Frame} {meth : Method} {c : Code} {Q : State → Prop}
variable {B : Nat} {cA : Nat → ClassId} {D : va_G} {h0 h h2 : AH} {nL pc pc2 pc' k o idx : Nat} {ls ls2 : AL} {st st2 : List Value} {cc : ByteArray} {H : Heap} {locs : List Loc}
theorem a_tys0 (cA : Nat → ClassId) : (a_tys cA)[0]? = some (cA 20, .int) := rfl
theorem a_tys1 (cA : Nat → ClassId) : (a_tys cA)[1]? = some (cA 21, .boolean) := rfl
theorem a_tysR (cA : Nat → ClassId) {k : Nat} (hk : k ∈ a_aks) : ∃ t : Nat, (a_tys cA)[t]? = some (cA (22 + k), .object (a_own k)) := by
  apply List.getElem?_of_mem
  unfold a_tys
  exact List.mem_cons_of_mem _ (List.mem_cons_of_mem _ (List.mem_map.mpr ⟨k, hk, rfl⟩))
def a_scOk (sc : Option (Nat × Nat × (Nat → Int32))) (B : Nat) (s : State) : Prop := ∀ b L xs, sc = some (b, L, xs) → va_X b L xs s s.heap ∧ b < s.heap.size ∧ b < B
theorem s_iaload {sc : Option (Nat × Nat × (Nat → Int32))} (hsc : a_scOk sc B s) (hx : p.tables.exec = Jvm.exec) (hb : c.code = cc) (hK : a_K D cA s) (hdg : decode cc pc = .ok (.iaload, 1)) (hs : x_iald sc 20 (pc + 1) ls st h = some (.inl (pc2, ls2, st2, h2))) (K : a_Ok p l e R s m args below meth c Q B cA D h0 nL pc2 ls2 st2 h2) : a_Ok p l e R s m args below meth c Q B cA D h0 nL pc ls st h := by
  intro H locs lsA I hL hl
  unfold x_iald at hs
  split at hs <;> try contradiction
  split at hs
  · rename_i hc
    cases hs
    obtain ⟨g1, g2⟩ := a_here I hc.1 (by omega)
    have hw := a_get (cA := cA) g1 g2
    rw [a_E_int hc.1 (by omega) (by omega)] at hw
    exact va_iald hx hb hK.1 (a_P I) _ 0 hw (a_tys0 cA) hc.2 hdg (K H locs lsA I hL hl)
  · split at hs <;> try contradiction
    split at hs <;> try contradiction
    rename_i b L xs hc
    obtain ⟨-, rfl, hin⟩ := hc
    cases hs
    obtain ⟨q1, q2, q3⟩ := hsc _ _ _ rfl
    exact va_sld hx hb q1 q2 (Nat.not_le.mpr q3) (a_S I) hin hdg (K H locs lsA I hL hl)
theorem s_baload (hx : p.tables.exec = Jvm.exec) (hb : c.code = cc) (hK : a_K D cA s) (hdg : decode cc pc = .ok (.baload, 1)) (hs : x_iald none 21 (pc + 1) ls st h = some (.inl (pc2, ls2, st2, h2))) (K : a_Ok p l e R s m args below meth c Q B cA D h0 nL pc2 ls2 st2 h2) : a_Ok p l e R s m args below meth c Q B cA D h0 nL pc ls st h := by
  intro H locs lsA I hL hl
  unfold x_iald at hs
  split at hs <;> try contradiction
  split at hs
  · rename_i hc
    cases hs
    obtain ⟨g1, g2⟩ := a_here I hc.1 (by omega)
    have hw := a_get (cA := cA) g1 g2
    rw [a_E_int hc.1 (by omega) (by omega)] at hw
    exact va_zald hx hb hK.1 (a_P I) _ 1 hw (a_tys1 cA) hc.2 hdg (K H locs lsA I hL hl)
  · contradiction
theorem s_aaload (hx : p.tables.exec = Jvm.exec) (hb : c.code = cc) (hK : a_K D cA s) (hdg : decode cc pc = .ok (.aaload, 1)) (hs : x_aald (pc + 1) ls st h = some (.inl (pc2, ls2, st2, h2))) (K : a_Ok p l e R s m args below meth c Q B cA D h0 nL pc2 ls2 st2 h2) : a_Ok p l e R s m args below meth c Q B cA D h0 nL pc ls st h := by
  intro H locs lsA I hL hl
  unfold x_aald at hs
  split at hs <;> try contradiction
  split at hs <;> try contradiction
  rename_i a st' hc
  obtain ⟨c1, c2, c3⟩ := hc
  cases hs
  obtain ⟨g1, g2⟩ := a_here I (a := a) rfl (by omega)
  have hw := a_get (cA := cA) g1 g2
  rw [a_E_ref rfl c2] at hw
  obtain ⟨t0, ht⟩ := a_tysR cA (List.contains_iff_mem.mp c1)
  rw [show 22 + (a_kd h a - 22) = a_kd h a by omega] at ht
  refine va_aldq hx hb hK.1 (a_P I) _ t0 hw ht c3 hdg ?_
  rw [a_rf_op]
  exact K H locs lsA I hL hl
theorem s_iastore (hx : p.tables.exec = Jvm.exec) (hb : c.code = cc) (hK : a_K D cA s) (hdg : decode cc pc = .ok (.iastore, 1)) (hs : x_iast (pc + 1) ls st h = some (.inl (pc2, ls2, st2, h2))) (K : a_Ok p l e R s m args below meth c Q B cA D h0 nL pc2 ls2 st2 h2) : a_Ok p l e R s m args below meth c Q B cA D h0 nL pc ls st h := by
  intro H locs lsA I hL hl
  unfold x_iast at hs
  split at hs <;> try contradiction
  split at hs <;> try contradiction
  rename_i x i a st' hc
  cases hs
  obtain ⟨g1, g2⟩ := a_here I hc.1 (by omega)
  have hw := a_get (cA := cA) g1 g2
  rw [a_E_int hc.1 (by omega) (by omega)] at hw
  refine va_iast hx hb hK.1 (a_P I) (a_D B cA h) (a_S I) _ 0 hw (a_tys0 cA) hc.2 hdg fun H1 locs1 hP1 _ hS1 => ?_
  refine a_wrote (h' := a_setI h a i.toNatClampNeg x) I g1 g2 rfl rfl rfl ?_ (fun y hy => a_E_setI_ne hy) hP1 hS1 hL hl K
  rw [a_E_int (h := a_setI h a i.toNatClampNeg x) hc.1 (by omega) (by omega)]
  congr 3
  congr 1
  funext j
  simp [a_iv, a_setI, a_ui, upd]
theorem s_bastore (hx : p.tables.exec = Jvm.exec) (hb : c.code = cc) (hK : a_K D cA s) (hdg : decode cc pc = .ok (.bastore, 1)) (hs : x_zast (pc + 1) ls st h = some (.inl (pc2, ls2, st2, h2))) (K : a_Ok p l e R s m args below meth c Q B cA D h0 nL pc2 ls2 st2 h2) : a_Ok p l e R s m args below meth c Q B cA D h0 nL pc ls st h := by
  intro H locs lsA I hL hl
  unfold x_zast at hs
  split at hs <;> try contradiction
  split at hs <;> try contradiction
  rename_i x i a st' hc
  cases hs
  obtain ⟨g1, g2⟩ := a_here I hc.1 (by omega)
  have hw := a_get (cA := cA) g1 g2
  rw [a_E_int hc.1 (by omega) (by omega)] at hw
  refine va_zast hx hb hK.1 (a_P I) (a_D B cA h) (a_S I) _ 1 hw (a_tys1 cA) hc.2 hdg fun H1 locs1 hP1 _ hS1 => ?_
  refine a_wrote (h' := a_setI h a i.toNatClampNeg (x &&& 1)) I g1 g2 rfl rfl rfl ?_ (fun y hy => a_E_setI_ne hy) hP1 hS1 hL hl K
  rw [a_E_int (h := a_setI h a i.toNatClampNeg (x &&& 1)) hc.1 (by omega) (by omega)]
  congr 3
  congr 1
  funext j
  simp [a_iv, a_setI, a_ui, upd, vp_nar, narrow]
theorem a_E_setR_self {a i v : Nat} (hk : 22 ≤ a_kd h a) : a_E cA (a_setR h a i v) a = .inl (cA (a_kd h a), a_ln h a, .inr (.inr (.inr (.inr (va_up (fun j => a_op (a_rv h a j)) i (a_op v)))))) := by
  rw [a_E_ref (h := a_setR h a i v) rfl hk]
  congr 3
  congr 4
  funext j
  simp only [a_rv, a_setR, a_ur, va_up]
  by_cases hj : j = i
  · simp [hj]
  · simp [hj]
theorem s_aastore (hx : p.tables.exec = Jvm.exec) (hb : c.code = cc) (hK : a_K D cA s) (hdg : decode cc pc = .ok (.aastore, 1)) (hs : x_aast (pc + 1) ls st h = some (.inl (pc2, ls2, st2, h2))) (K : a_Ok p l e R s m args below meth c Q B cA D h0 nL pc2 ls2 st2 h2) : a_Ok p l e R s m args below meth c Q B cA D h0 nL pc ls st h := by
  intro H locs lsA I hL hl
  unfold x_aast at hs
  split at hs <;> try contradiction
  split at hs <;> try contradiction
  rename_i v i a st' hc
  obtain ⟨c1, c2, c3⟩ := hc
  obtain ⟨g1, g2⟩ := a_here I (a := a) rfl (by omega)
  have hw := a_get (cA := cA) g1 g2
  rw [a_E_ref rfl c2] at hw
  have hmem := List.contains_iff_mem.mp c1
  obtain ⟨t0, ht⟩ := a_tysR cA hmem
  rw [show 22 + (a_kd h a - 22) = a_kd h a by omega] at ht
  split at hs <;> try contradiction
  · cases hs
    refine va_astqN hx hb hK.1 (a_P I) (a_D B cA h) (a_S I) _ t0 hw ht c3 hdg fun H1 locs1 hP1 _ hS1 => ?_
    exact a_wrote (h' := a_setR h a i.toNatClampNeg 0) I g1 g2 rfl rfl rfl (a_E_setR_self c2) (fun y hy => a_E_setR_ne hy) hP1 hS1 hL hl K
  · rename_i r
    split at hs <;> try contradiction
    rename_i hr
    cases hs
    obtain ⟨q1, q2⟩ := a_here I hr.1 (by omega)
    have hr1 : ∃ r0, vwCl[a_kd h a - 22]? = some r0 := by
      have h9 : a_kd h a - 22 < vwCl.length := by
        have : ∀ z ∈ a_aks, z < vwCl.length := by decide
        exact this _ hmem
      exact ⟨_, List.getElem?_eq_getElem h9⟩
    obtain ⟨r0, hr0⟩ := hr1
    have hv := a_get (cA := cA) q1 q2
    rw [a_E_obj hr.1 (a_vw_lt hr0)] at hv
    have v5 := (a_vw _ _ hr0).2.2.2.2.1
    rw [v5] at ht
    refine va_astq (r := r0) hx hb hK.1 (a_P I) (a_D B cA h) (a_S I) _ t0 _ (a_kd h a - 22) hw ht hv hr0 c3 hdg fun H1 locs1 hP1 _ hS1 => ?_
    refine a_wrote (h' := a_setR h a i.toNatClampNeg r) I g1 g2 rfl rfl rfl ((a_E_setR_self c2).trans ?_) (fun y hy => a_E_setR_ne hy) hP1 hS1 hL hl K
    unfold a_op
    rw [if_neg hr.2]
theorem s_alen {sc : Option (Nat × Nat × (Nat → Int32))} (hsc : a_scOk sc B s) (hx : p.tables.exec = Jvm.exec) (hb : c.code = cc) (hK : a_K D cA s) (hdg : decode cc pc = .ok (.arraylength, 1)) (hs : x_alen sc (pc + 1) ls st h = some (.inl (pc2, ls2, st2, h2))) (K : a_Ok p l e R s m args below meth c Q B cA D h0 nL pc2 ls2 st2 h2) : a_Ok p l e R s m args below meth c Q B cA D h0 nL pc ls st h := by
  intro H locs lsA I hL hl
  unfold x_alen at hs
  split at hs <;> try contradiction
  rename_i a st'
  split at hs
  · rename_i hc
    cases hs
    obtain ⟨g1, g2⟩ := a_here I (a := a) rfl (by omega)
    have hw := a_get (cA := cA) g1 g2
    by_cases h22 : a_kd h a < 22
    · rw [a_E_int rfl hc.1 h22] at hw
      by_cases h20 : a_kd h a = 20
      · rw [h20] at hw
        exact va_alen hx hb hK.1 (a_P I) _ 0 hw (a_tys0 cA) rfl hdg (K H locs lsA I hL hl)
      · rw [show a_kd h a = 21 by omega] at hw
        exact va_alen hx hb hK.1 (a_P I) _ 1 hw (a_tys1 cA) rfl hdg (K H locs lsA I hL hl)
    · rw [a_E_ref rfl (by omega)] at hw
      have hmem := List.contains_iff_mem.mp (hc.2.resolve_left h22)
      obtain ⟨t0, ht⟩ := a_tysR cA hmem
      rw [show 22 + (a_kd h a - 22) = a_kd h a by omega] at ht
      exact va_alen hx hb hK.1 (a_P I) _ t0 hw ht rfl hdg (K H locs lsA I hL hl)
  · split at hs <;> try contradiction
    split at hs <;> try contradiction
    rename_i b L xs hc
    subst hc
    cases hs
    obtain ⟨q1, q2, q3⟩ := hsc _ _ _ rfl
    exact va_slen hx hb q1 q2 (Nat.not_le.mpr q3) (a_S I) hdg (K H locs lsA I hL hl)
theorem a_E_mk_lt {kind N x : Nat} (hx : x < a_nx h) : a_E cA (a_mk h kind N) x = a_E cA h x := by
  have hne : x ≠ a_nx h := by omega
  have h1 : a_kd (a_mk h kind N) x = a_kd h x := by simp [a_kd, a_mk, a_up, hne]
  have h3 : a_ln (a_mk h kind N) x = a_ln h x := by simp [a_ln, a_mk, a_up, hne]
  have h4 : a_iv (a_mk h kind N) x = a_iv h x := by funext j; simp [a_iv, a_mk, hne]
  have h5 : a_rv (a_mk h kind N) x = a_rv h x := by funext j; simp [a_rv, a_mk, hne]
  have h6 : a_slot (a_mk h kind N) x = a_slot h x := by funext c' j; unfold a_slot; rw [h4, h5]
  unfold a_E
  rw [h1, h3, h4, h5, h6]
/-- behind a making -/
theorem a_made {kind N q : Nat} {e1 : va_E} {H1 : Heap} {locs1 : List Loc} {lsA : Array Slot} (I : a_I B cA D h0 h s H locs) (hkind : kind ≠ 0) (he : a_E cA (a_mk h kind N) (a_nx h) = e1)
    (hP : va_P D vwCl (a_ws B cA h ++ [(q, e1)]) H1) (hD : va_D (fun q => B ≤ q) (a_ws B cA h ++ [(q, e1)])) (hS : va_S (fun q => B ≤ q) s.heap H1 locs1) (hL : ls2.length = nL) (hl : lv_has lsA nL (a_as ls2)) (K : a_Ok p l e R s m args below meth c Q B cA D h0 nL pc2 ls2 (.ref (a_nx h) :: st2) (a_mk h kind N)) : W p l e R s m args below meth c H1 locs1 (a_nx h - a_nx h0 + 1) (a_tot h - a_tot h0 + N) Q (F0 m pc2 lsA (.ref q :: st2)) := by
  refine a_sz fun hu => ?_
  obtain ⟨i1, i2, i3, i4, i5, i6, i7, i8, i9⟩ := id I
  have hlen : (a_ws B cA h).length = a_nx h - B := by unfold a_ws va_pl; simp
  have hlast : (a_ws B cA h ++ [(q, e1)])[a_nx h - B]? = some (q, e1) := by rw [List.getElem?_append_right (by omega), hlen]; simp
  have q1 := (hP _ _ hlast).lt
  have q2 := hD.2 _ _ hlast
  have hq : q = a_nx h := by
    simp only at q1 q2
    by_cases hlt : q < a_nx h
    · have h9 := a_get (cA := cA) q2 hlt
      have h10 : (a_ws B cA h ++ [(q, e1)])[q - B]? = some (q, a_E cA h q) := by rw [List.getElem?_append_left (by omega)]; exact h9
      have := hD.1 _ _ _ _ h10 hlast rfl
      omega
    · omega
  subst hq
  rw [a_pushw (h' := a_mk h kind N) (by omega) rfl he (fun x hx => a_E_mk_lt hx)] at hP
  have I' : a_I B cA D h0 (a_mk h kind N) s H1 locs1 := by
    refine a_I_of I (by show a_nx h ≤ a_nx h + 1; omega) (by show a_tot h ≤ a_tot h + N; omega) (fun x hx => ?_) hP hS (by show _ ≤ s.heap.size + (a_nx h + 1 - a_nx h0); omega)
    show B ≤ x ∧ x < a_nx h + 1
    by_cases hxn : x = a_nx h
    · omega
    · have h8 : a_kd h x ≠ 0 := by
        have h1 : a_kd (a_mk h kind N) x = a_kd h x := by simp [a_kd, a_mk, a_up, hxn]
        rw [← h1]; exact hx
      have := i7 x h8
      omega
  have := K H1 locs1 lsA I' hL hl
  rw [show a_nx (a_mk h kind N) - a_nx h0 = a_nx h - a_nx h0 + 1 by show a_nx h + 1 - a_nx h0 = _; omega, show a_tot (a_mk h kind N) - a_tot h0 = a_tot h - a_tot h0 + N by show a_tot h + N - a_tot h0 = _; omega] at this
  exact this
theorem a_E_mk_obj {c' N : Nat} (hc : c' < 19) : a_E cA (a_mk h (c' + 1) N) (a_nx h) = .inr (c', (List.range (a_N c')).map (fun k => if a_fty c' k = 2 then .null else .int 0)) := by
  rw [a_E_obj (c := c') (by simp [a_kd, a_mk, a_up]) hc]
  congr 2
  apply List.map_congr_left
  intro k _
  simp [a_slot, a_iv, a_rv, a_mk, a_rf]
theorem a_E_mk_int {kind N : Nat} (h1 : 20 ≤ kind) (h2 : kind < 22) : a_E cA (a_mk h kind N) (a_nx h) = .inl (cA kind, N, .inl (fun _ => 0)) := by
  rw [a_E_int (k := kind) (by simp [a_kd, a_mk, a_up]) h1 h2]
  have e1 : a_ln (a_mk h kind N) (a_nx h) = N := by simp [a_ln, a_mk, a_up]
  have e2 : a_iv (a_mk h kind N) (a_nx h) = fun _ => 0 := by funext j; simp [a_iv, a_mk]
  rw [e1, e2]
theorem a_E_mk_ref {kind N : Nat} (h1 : 22 ≤ kind) : a_E cA (a_mk h kind N) (a_nx h) = .inl (cA kind, N, .inr (.inr (.inr (.inr (fun _ => none))))) := by
  rw [a_E_ref (k := kind) (by simp [a_kd, a_mk, a_up]) h1]
  have e1 : a_ln (a_mk h kind N) (a_nx h) = N := by simp [a_ln, a_mk, a_up]
  have e2 : ∀ j, a_rv (a_mk h kind N) (a_nx h) j = 0 := by intro j; simp [a_rv, a_mk]
  rw [e1]
  simp only [e2]
  rfl
theorem a_lastK {cA' : ClassId} {ty : FieldType} (hK1 : va_K D vwCl (a_tys cA ++ [(cA', ty)]) s) : va_RA s cA' ty := by
  have : (a_tys cA ++ [(cA', ty)])[(a_tys cA).length]? = some (cA', ty) := by rw [List.getElem?_append_right (Nat.le_refl _)]; simp
  exact (hK1.2 _ _ this).2
theorem s_newint (hx : p.tables.exec = Jvm.exec) (hb : c.code = cc) (hts : ∀ w ∈ a_tb, w.before args s = true) (hK : a_K D cA s) (hroom : a_nx h2 - a_nx h0 ≤ R.cells ∧ a_tot h2 - a_tot h0 ≤ R.slots) (hdg : decode cc pc = .ok (.newarray .int, 2)) (hs : x_newarr 20 (pc + 2) ls st h = some (.inl (pc2, ls2, st2, h2))) (K : a_Ok p l e R s m args below meth c Q B cA D h0 nL pc2 ls2 st2 h2) : a_Ok p l e R s m args below meth c Q B cA D h0 nL pc ls st h := by
  intro H locs lsA I hL hl
  unfold x_newarr at hs
  split at hs <;> try contradiction
  split at hs <;> try contradiction
  rename_i n st' hc
  cases hs
  obtain ⟨r1, r2⟩ := hroom
  have r1 : a_nx h + 1 - a_nx h0 ≤ R.cells := r1
  have r2 : a_tot h + n.toNatClampNeg - a_tot h0 ≤ R.slots := r2
  have i3 := I.2.2.1
  have i4 := I.2.2.2.1
  have i5 := I.2.2.2.2.1
  have i2 := I.2.1
  refine va_newa (atype := .int) (ty := .int) (a0 := (n.toNatClampNeg, .inl (fun _ => 0))) hx hb (hts _ a_arr_i) rfl hK.1 (a_P I) (a_D B cA h) (a_S I) (fun q hq => by show B ≤ q; omega) (fun _ => rfl) hc.1 rfl (by show n.toNatClampNeg * 4 ≤ _; omega) (by omega) (by omega) hdg fun q cA' H1 hK1 hP1 hD1 hS1 => ?_
  have e1 : cA' = cA 20 := Option.some.inj ((a_lastK hK1).symm.trans (hK.1.2 0 _ (a_tys0 cA)).2)
  subst e1
  exact a_made I (by omega) (a_E_mk_int (by omega) (by omega)) hP1 hD1 hS1 hL hl K
theorem s_newbool (hx : p.tables.exec = Jvm.exec) (hb : c.code = cc) (hts : ∀ w ∈ a_tb, w.before args s = true) (hK : a_K D cA s) (hroom : a_nx h2 - a_nx h0 ≤ R.cells ∧ a_tot h2 - a_tot h0 ≤ R.slots) (hdg : decode cc pc = .ok (.newarray .boolean, 2)) (hs : x_newarr 21 (pc + 2) ls st h = some (.inl (pc2, ls2, st2, h2))) (K : a_Ok p l e R s m args below meth c Q B cA D h0 nL pc2 ls2 st2 h2) : a_Ok p l e R s m args below meth c Q B cA D h0 nL pc ls st h := by
  intro H locs lsA I hL hl
  unfold x_newarr at hs
  split at hs <;> try contradiction
  split at hs <;> try contradiction
  rename_i n st' hc
  cases hs
  obtain ⟨r1, r2⟩ := hroom
  have r1 : a_nx h + 1 - a_nx h0 ≤ R.cells := r1
  have r2 : a_tot h + n.toNatClampNeg - a_tot h0 ≤ R.slots := r2
  have i3 := I.2.2.1
  have i4 := I.2.2.2.1
  have i5 := I.2.2.2.2.1
  have i2 := I.2.1
  refine va_newa (atype := .boolean) (ty := .boolean) (a0 := (n.toNatClampNeg, .inl (fun _ => 0))) hx hb (hts _ a_arr_z) rfl hK.1 (a_P I) (a_D B cA h) (a_S I) (fun q hq => by show B ≤ q; omega) (fun _ => rfl) hc.1 rfl (by show n.toNatClampNeg * 1 ≤ _; omega) (by omega) (by omega) hdg fun q cA' H1 hK1 hP1 hD1 hS1 => ?_
  have e1 : cA' = cA 21 := Option.some.inj ((a_lastK hK1).symm.trans (hK.1.2 1 _ (a_tys1 cA)).2)
  subst e1
  exact a_made I (by omega) (a_E_mk_int (by omega) (by omega)) hP1 hD1 hS1 hL hl K
theorem s_anew (hx : p.tables.exec = Jvm.exec) (hb : c.code = cc) (hown : s.vm.findClass (a_own o) = some m.cls) (hts : ∀ w ∈ a_tb, w.before args s = true) (hK : a_K D cA s) (hroom : a_nx h2 - a_nx h0 ≤ R.cells ∧ a_tot h2 - a_tot h0 ≤ R.slots) (hdg : decode cc pc = .ok (.anewarray idx, 3)) (hs : x_anew o idx (pc + 3) ls st h = some (.inl (pc2, ls2, st2, h2))) (K : a_Ok p l e R s m args below meth c Q B cA D h0 nL pc2 ls2 st2 h2) : a_Ok p l e R s m args below meth c Q B cA D h0 nL pc ls st h := by
  intro H locs lsA I hL hl
  unfold x_anew at hs
  split at hs <;> try contradiction
  rename_i o' i' ci hf
  obtain ⟨f1, f2⟩ := a_found hf
  simp only [Bool.and_eq_true, beq_iff_eq] at f2
  obtain ⟨rfl, rfl⟩ := f2
  obtain ⟨r, hr, hlink, hmem, hnm⟩ := a_an_ok _ f1
  unfold x_newarr at hs
  split at hs <;> try contradiction
  split at hs <;> try contradiction
  rename_i n st' hc
  cases hs
  obtain ⟨r1, r2⟩ := hroom
  have r1 : a_nx h + 1 - a_nx h0 ≤ R.cells := r1
  have r2 : a_tot h + n.toNatClampNeg - a_tot h0 ≤ R.slots := r2
  have i3 := I.2.2.1
  have i4 := I.2.2.2.1
  have i5 := I.2.2.2.2.1
  have i2 := I.2.1
  have hao : va_AO r.1 s := by rw [← hnm]; exact hK.2.1 _ hmem
  refine va_newq (C := r.1) hx hb hown (hts _ hlink) hao hK.1 (a_P I) (a_D B cA h) (a_S I) (fun q hq => by show B ≤ q; omega) hc.1 rfl (by omega) (by omega) (by omega) hdg fun q cA' H1 hK1 hP1 hD1 hS1 => ?_
  have e1 : cA' = cA (22 + ci) := by
    obtain ⟨t0, ht⟩ := a_tysR cA hmem
    obtain ⟨k1, c1, -, -, -, e1⟩ := a_lastK hK1
    rw [hnm] at ht
    obtain ⟨k2, c2, -, -, -, e2⟩ := (hK.1.2 t0 _ ht).2
    exact Option.some.inj (e1.symm.trans e2)
  subst e1
  exact a_made I (by omega) (a_E_mk_ref (by omega)) hP1 hD1 hS1 hL hl K
theorem s_new (hx : p.tables.exec = Jvm.exec) (hb : c.code = cc) (hown : s.vm.findClass (a_own o) = some m.cls) (hts : ∀ w ∈ a_tb, w.before args s = true) (hK : a_K D cA s) (hroom : a_nx h2 - a_nx h0 ≤ R.cells ∧ a_tot h2 - a_tot h0 ≤ R.slots) (hdg : decode cc pc = .ok (.new idx, 3)) (hs : x_new o idx (pc + 3) ls st h = some (.inl (pc2, ls2, st2, h2))) (K : a_Ok p l e R s m args below meth c Q B cA D h0 nL pc2 ls2 st2 h2) : a_Ok p l e R s m args below meth c Q B cA D h0 nL pc ls st h := by
  intro H locs lsA I hL hl
  unfold x_new at hs
  split at hs <;> try contradiction
  rename_i o' i' ci hf
  obtain ⟨f1, f2⟩ := a_found hf
  simp only [Bool.and_eq_true, beq_iff_eq] at f2
  obtain ⟨rfl, rfl⟩ := f2
  obtain ⟨r, hr, hlink, hinst, hini⟩ := a_nw_ok _ f1
  obtain ⟨v1, v2, v3, v4, v5, ty, v6, v7⟩ := a_vw _ _ hr
  cases hs
  obtain ⟨r1, r2⟩ := hroom
  have r1 : a_nx h + 1 - a_nx h0 ≤ R.cells := r1
  have r2 : a_tot h + a_N ci - a_tot h0 ≤ R.slots := r2
  have i3 := I.2.2.1
  have i4 := I.2.2.2.1
  have i5 := I.2.2.2.2.1
  have i2 := I.2.1
  refine va_new (D := D) (C := r.1) (T := r.2.1) (N := r.2.2) (fs := (List.range (a_N ci)).map (fun k => if a_fty ci k = 2 then .null else .int 0)) hx hb hts v1 ty v6 hown (hts _ hlink) (hts _ hinst) (hts _ hini) hK.1 (a_P I) (a_D B cA h) (a_S I) (fun q hq => by show B ≤ q; omega) hr ?_ (by omega) (by have v2' : a_N ci = r.2.2 := v2; rw [← v2']; omega) hdg fun q H1 hP1 hD1 hS1 => ?_
  · intro j hj
    have hj2 : j < a_N ci := by rw [v2]; exact hj
    have e1 : vp_V ((List.range (a_N ci)).map (fun k => if a_fty ci k = 2 then Value.null else .int 0)) j = if a_fty ci j = 2 then .null else .int 0 := by
      unfold vp_V
      rw [List.getD_eq_getElem?_getD, List.getElem?_map, List.getElem?_range hj2]
      rfl
    rw [e1]
    obtain ⟨-, -, w3⟩ := v7 j hj
    rcases w3 with ⟨q, w⟩ | ⟨q, w⟩ | ⟨q, ⟨n, w⟩ | ⟨t, w⟩⟩ <;> rw [w, q] <;> rfl
  · rw [← v2]
    exact a_made I (by omega) (a_E_mk_obj (a_vw_lt hr)) hP1 hD1 hS1 hL hl K
theorem a_cpw : nativeFrameWords "java/lang/System" "arraycopy" 5 ≤ 100 := by decide +kernel
theorem s_obj (hx : p.tables.exec = Jvm.exec) (hb : c.code = cc) (hml : c.maxLocals = nL) (hown : s.vm.findClass (a_own o) = some m.cls) (hts : ∀ w ∈ a_tb, w.before args s = true) (hR1 : 1 ≤ R.frames) (hR2 : 200 ≤ R.locals) (hdg : decode cc pc = .ok (.invokespecial idx, 3)) (hs : x_obj o idx (pc + 3) ls st h = some (.inl (pc2, ls2, st2, h2))) (K : a_Ok p l e R s m args below meth c Q B cA D h0 nL pc2 ls2 st2 h2) : a_Ok p l e R s m args below meth c Q B cA D h0 nL pc ls st h := by
  intro H locs lsA I hL hl
  unfold x_obj at hs
  split at hs <;> try contradiction
  split at hs <;> try contradiction
  rename_i a st' hc
  obtain ⟨c1, c2⟩ := hc
  obtain ⟨q, hf⟩ := Option.isSome_iff_exists.mp c1
  obtain ⟨f1, f2⟩ := a_found hf
  simp only [Bool.and_eq_true, beq_iff_eq] at f2
  obtain ⟨rfl, rfl⟩ := f2
  cases hs
  refine W.objInit hx hb hown (hts _ (a_ob_ok _ f1)) (hts _ a_obj_i) (hts _ a_obj_c) rfl (by rw [hml]; exact hl.1) rfl hdg hR1 (by show 2 * 0 + a_sum st2 + 12 ≤ _; omega) ?_
  exact K H locs lsA I hL hl
theorem s_copy (hx : p.tables.exec = Jvm.exec) (hb : c.code = cc) (hml : c.maxLocals = nL) (hown : s.vm.findClass (a_own o) = some m.cls) (hts : ∀ w ∈ a_tb, w.before args s = true) (hK : a_K D cA s) (hR1 : 1 ≤ R.frames) (hR2 : 200 ≤ R.locals) (hdg : decode cc pc = .ok (.invokestatic idx, 3)) (hs : x_copy o idx (pc + 3) ls st h = some (.inl (pc2, ls2, st2, h2))) (K : a_Ok p l e R s m args below meth c Q B cA D h0 nL pc2 ls2 st2 h2) : a_Ok p l e R s m args below meth c Q B cA D h0 nL pc ls st h := by
  intro H locs lsA I hL hl
  unfold x_copy at hs
  split at hs <;> try contradiction
  split at hs <;> try contradiction
  rename_i n dp b sp a st' hc
  obtain ⟨c1, c2, c3, c4, c5, c6, c7, c8, c9⟩ := hc
  obtain ⟨q, hf⟩ := Option.isSome_iff_exists.mp c1
  obtain ⟨f1, f2⟩ := a_found hf
  simp only [Bool.and_eq_true, beq_iff_eq] at f2
  obtain ⟨rfl, rfl⟩ := f2
  cases hs
  obtain ⟨g1, g2⟩ := a_here I c2 (by omega)
  obtain ⟨g3, g4⟩ := a_here I c3 (by omega)
  have hwa := a_get (cA := cA) g1 g2
  rw [a_E_int c2 (by omega) (by omega)] at hwa
  have hwb := a_get (cA := cA) g3 g4
  rw [a_E_int c3 (by omega) (by omega)] at hwb
  have hcw := a_cpw
  refine va_copyi (ty := .int) hx hb (by rw [hml]; exact hl.1.symm) hown (hts _ (a_cp_ok _ f1)) (hts _ a_cp_n) (hts _ a_cp_s) (hts _ a_cp_i) hK.1 (a_P I) (a_D B cA h) (a_S I) _ _ 0 0 hwa hwb (a_tys0 cA) (a_tys0 cA) rfl c4 c5 c6 c7 c8 (fun _ _ => rfl) hR1 (by show a_sum st2 + _ ≤ _; omega) hdg fun H1 locs1 hP1 _ hS1 => ?_
  have hcE : ∀ x, x ≠ b → a_E cA (a_copy h a b sp.toNatClampNeg dp.toNatClampNeg n.toNatClampNeg) x = a_E cA h x := by
    intro x hxb
    have h1 : a_iv (a_copy h a b sp.toNatClampNeg dp.toNatClampNeg n.toNatClampNeg) x = a_iv h x := by funext j; simp [a_iv, a_copy, hxb]
    have h3 : a_slot (a_copy h a b sp.toNatClampNeg dp.toNatClampNeg n.toNatClampNeg) x = a_slot h x := by funext c' j; unfold a_slot; rw [h1]; rfl
    unfold a_E
    rw [h1, h3]
    rfl
  refine a_wrote (h' := a_copy h a b sp.toNatClampNeg dp.toNatClampNeg n.toNatClampNeg) I g3 g4 rfl rfl rfl ?_ hcE hP1 hS1 hL hl K
  rw [a_E_int (h := a_copy h a b sp.toNatClampNeg dp.toNatClampNeg n.toNatClampNeg) c3 (by omega) (by omega)]
  congr 3
  congr 1
  funext j
  simp [a_iv, a_copy]
end AS4
end
section
section AS5
variable {p : Program} {l : Launch} {e : Env} {R : Room} {s : State} {m : MethodId} {args : Array Value} {below : List Frame} {meth : Method} {c : Code} {Q : State → Prop}
variable {B : Nat} {cA : Nat → ClassId} {D : va_G} {h0 h h1 h2 : AH} {nL pc pc2 pc' k o idx : Nat} {ls ls2 : AL} {st st2 : List Value} {cc : ByteArray} {H : Heap} {locs : List Loc}
def a_rm (d nc ns : Nat) : Room := { frames := d, cells := nc, slots := ns, locals := 200 + 100 * d }
def a_Pre (B : Nat) (cA : Nat → ClassId) (D : va_G) (h : AH) : State → Prop := fun U => 1 ≤ B ∧ B ≤ a_nx h ∧ U.heap.size = a_nx h ∧ (∀ a, a_kd h a ≠ 0 → B ≤ a ∧ a < a_nx h) ∧ va_P D vwCl (a_ws B cA h) U.heap ∧ a_K D cA U
def a_Post (B : Nat) (cA : Nat → ClassId) (D : va_G) (h0 h1 : AH) (r : Option Value) : Array Value → State → Outcome → State → Prop := fun _ st oc t => oc = .returned r ∧ a_nx h0 ≤ a_nx h1 ∧ a_tot h0 ≤ a_tot h1 ∧ t.heap.size = a_nx h1 ∧ (∀ a, a_kd h1 a ≠ 0 → B ≤ a ∧ a < a_nx h1) ∧ va_P D vwCl (a_ws B cA h1) t.heap ∧ va_F (fun q => B ≤ q) st t
/-- what a method does, as a contract of the machine -/
def a_Met (l : Launch) (B : Nat) (cA : Nat → ClassId) (D : va_G) (d : Nat) (M : a_M) (as : List Value) (h0 h1 : AH) (r : Option Value) : Prop :=
  Met l M.2.1 (Jvm.Cond.code M.2.1 M.2.2.1 M.2.2.2.1 M.2.2.2.2.1 :: a_tb) (a_rm d (a_nx h1 - a_nx h0) (a_tot h1 - a_tot h0)) (va_Pc as (a_Pre B cA D h0)) (a_Post B cA D h0 h1 r) (a_nx h1 - a_nx h0) (a_tot h1 - a_tot h0) (fun q => B ≤ q)
theorem a_goodIn (M : a_M) (hM : a_okM M) : GoodIn a_tb (Jvm.Cond.code M.2.1 M.2.2.1 M.2.2.2.1 M.2.2.2.2.1 :: a_tb) := by
  intro w hw
  have hm : w ∈ a_tb := by
    rcases List.mem_cons.mp hw with rfl | q
    · exact hM.1
    · exact q
  exact ⟨hm, good_of_word (a_tb_good hm)⟩
theorem a_blind (as : List Value) : FrameBlind (va_Pc as (a_Pre B cA D h0)) := by
  intro a U g mk q
  obtain ⟨q0, q1, q2, q3, q4, q5, q6⟩ := q
  exact ⟨q0, q1, q2, q3, q4, q5, a_K.same (u := U) (U := U.calling g mk a) rfl q6⟩
theorem a_pre_of (I : a_I B cA D h0 h s H locs) (hK : a_K D cA s) (as : List Value) : ∀ U : State, U.heap = H → s.WarmedH U.vm → va_Pc as (a_Pre B cA D h) as.toArray U := by
  intro U hU hW
  obtain ⟨i1, i2, i3, i4, i5, i6, i7, i8, i9⟩ := I
  exact ⟨rfl, i1, by omega, by rw [hU]; exact i6, i7, by rw [hU]; exact i8, a_K.warm hW hK⟩
theorem a_after {g : JFrame} {rest : List Value} {as : List Value} {lsA : Array Slot} {r : Option Value} (I : a_I B cA D h0 h s H locs) (hL : ls.length = nL) (hl : lv_has lsA nL (a_as ls)) (hg : ({ g with pc := g.pc + 3, stack := r.toList ++ rest } : JFrame) = F0 m pc2 lsA (r.toList ++ rest))
    (hr : va_Run p l e R s m args below meth c H locs (a_nx h - a_nx h0) (a_tot h - a_tot h0) (a_nx h1 - a_nx h) (a_tot h1 - a_tot h) g rest (a_Post B cA D h h1 r as.toArray) (fun q => B ≤ q)) (K : a_Ok p l e R s m args below meth c Q B cA D h0 nL pc2 ls (r.toList ++ rest) h1) : W p l e R s m args below meth c H locs (a_nx h - a_nx h0) (a_tot h - a_tot h0) Q g := by
  intro T hT X
  obtain ⟨v, st₀, t, T', L, hh0, X', hL', e1, e2, ⟨hv, p0, p0', p1, p2, p3, p4, p5⟩, st⟩ := hr T hT X
  cases hv
  obtain ⟨i1, i2, i3, i4, i5, i6, i7, i8, i9⟩ := I
  have I' : a_I B cA D h0 h1 s T'.heap (locs ++ L) := by
    refine ⟨i1, i2, by omega, by omega, i5, by rw [e1]; exact p1, p2, by rw [e1]; exact p3, ?_, ?_, ?_⟩
    · rw [e1]
      have := i9.1
      rw [hh0] at p4
      omega
    · intro q q1 q2
      rw [e1, p5 q (by rw [hh0]; have := i9.1; omega) q2, hh0]
      exact i9.2.1 q q1 q2
    · intro q hq
      rcases List.mem_append.mp hq with z | z
      · exact i9.2.2 q z
      · exact hL' q z
  have k1 := K T'.heap (locs ++ L) lsA I' hL hl
  rw [show a_nx h1 - a_nx h0 = a_nx h - a_nx h0 + (a_nx h1 - a_nx h) by omega, show a_tot h1 - a_tot h0 = a_tot h - a_tot h0 + (a_tot h1 - a_tot h) by omega] at k1
  obtain ⟨t2, a1, b1⟩ := k1 T' rfl X'
  rw [← hg] at a1
  exact ⟨t2, st t2 a1, b1⟩
theorem a_ms_get {mid : Nat} {M : a_M} (h : a_ms[mid]? = some M) : a_np mid = M.2.2.2.2.2.1 ∧ a_ow mid = M.1 := by
  unfold a_np a_ow
  rw [h]
  exact ⟨rfl, rfl⟩
theorem a_callB {M : a_M} {d : Nat} (hM : a_okM M) (hts : ∀ w ∈ a_tb, w.before args s = true) {hh hh1 : AH} {own : String} {index : Nat} (hini : Jvm.Cond.initialized M.2.1.cls ∈ a_tb) (hlink : Jvm.Cond.methodLink own index M.2.1 ∈ a_tb) (hR1 : d + 1 ≤ R.frames) (hR2 : 300 + 100 * d ≤ R.locals) :
    CallB R s args own index M.2.1 M.2.2.1 M.2.2.2.1 M.2.2.2.2.1 (Jvm.Cond.code M.2.1 M.2.2.1 M.2.2.2.1 M.2.2.2.2.1 :: a_tb) (a_rm d (a_nx hh1 - a_nx hh) (a_tot hh1 - a_tot hh)) (a_nx hh1 - a_nx hh) (a_tot hh1 - a_tot hh) M.2.2.2.2.2.1 := by
  obtain ⟨m1, m2, m3, m4, m5, m6, m7⟩ := id hM
  exact callB_of _ hts (a_goodIn M hM) rfl rfl rfl (hts _ hini) (hts _ hlink) ⟨m4.1, m4.2, m5⟩ ⟨hR1, by show 8 + (M.2.2.2.1 + 11) + (200 + 100 * d) ≤ _; omega⟩
theorem a_split {n : Nat} {st : List Value} {b : Nat} {rest : List Value} (h : st.drop n = .ref b :: rest) : st = ((st.take n).reverse).reverse ++ .ref b :: rest := by
  rw [List.reverse_reverse, ← h, List.take_append_drop]
theorem s_inv {d : Nat} (hx : p.tables.exec = Jvm.exec) (hb : c.code = cc) (hml : c.maxLocals = nL) (hown : s.vm.findClass (a_own o) = some m.cls) (hts : ∀ w ∈ a_tb, w.before args s = true) (hK : a_K D cA s) (hR1 : d + 1 ≤ R.frames) (hR2 : 300 + 100 * d ≤ R.locals) {mid : Nat} {as : List Value} {r : Option Value}
    (hcall : ∀ M, a_ms[mid]? = some M → a_Met l B cA D d M as h h1 r) (hroom : a_nx h1 - a_nx h0 ≤ R.cells ∧ a_tot h1 - a_tot h0 ≤ R.slots) (hm1 : a_nx h ≤ a_nx h1) (hm2 : a_tot h ≤ a_tot h1) (hdg : decode cc pc = .ok (.invokevirtual idx, 3)) (hs : x_inv 0 o idx (pc + 3) ls st h = some (.inr (.inl (mid, as, pc2, st2)))) (K : a_Ok p l e R s m args below meth c Q B cA D h0 nL pc2 ls (r.toList ++ st2) h1) : a_Ok p l e R s m args below meth c Q B cA D h0 nL pc ls st h := by
  intro H locs lsA I hL hl
  unfold x_inv at hs
  split at hs <;> try contradiction
  rename_i o' i' t mid' hf
  split at hs <;> try contradiction
  rename_i b rest hdrop
  split at hs <;> try contradiction
  rename_i hc
  obtain ⟨c1, c2, c3, c4⟩ := hc
  obtain ⟨f1, f2⟩ := a_found hf
  simp only [Bool.and_eq_true, beq_iff_eq] at f2
  obtain ⟨rfl, rfl⟩ := f2
  subst c1
  cases hs
  obtain ⟨M, hM, w1, w2, w3, -, -⟩ := a_cl_ok _ f1
  have hok := a_ms_ok _ (List.mem_of_getElem? hM)
  obtain ⟨w4, w5, q, hq, hqc⟩ := w3 rfl
  obtain ⟨n1, n2⟩ := a_ms_get hM
  have hkd := c3 rfl
  rw [n2] at hkd
  obtain ⟨g1, g2⟩ := a_here I hkd (by omega)
  have hw := a_get (cA := cA) g1 g2
  rw [a_E_obj hkd (a_vw_lt hq)] at hw
  have hrecv := va_recv (q := q) hK.1 (a_P I) hq hw
  obtain ⟨i1, i2, i3, i4, i5, i6, i7, i8, i9⟩ := id I
  refine a_after (g := F0 m pc lsA st) I hL hl rfl (va_runV (As := (st.take (a_np mid)).reverse) (rest := st2) (C := q.1) ⟨hx, hb, hml, hown, hts⟩ (hcall M hM) ⟨a_callB hok hts w2 w1 hR1 hR2, hts _ w4, hts _ (by rw [hqc]; exact w5)⟩ ⟨a_blind _, hrecv, a_pre_of I hK _⟩ rfl ?_ hl.1 (a_split hdrop) (lv_room c4) hdg ⟨by omega, by omega⟩) K
  rw [List.length_reverse, List.length_take]
  have n3 : a_np mid = M.2.2.2.2.2.1 := n1
  omega
theorem s_invS {d : Nat} (hx : p.tables.exec = Jvm.exec) (hb : c.code = cc) (hml : c.maxLocals = nL) (hown : s.vm.findClass (a_own o) = some m.cls) (hts : ∀ w ∈ a_tb, w.before args s = true) (hK : a_K D cA s) (hR1 : d + 1 ≤ R.frames) (hR2 : 300 + 100 * d ≤ R.locals) {mid : Nat} {as : List Value} {r : Option Value}
    (hcall : ∀ M, a_ms[mid]? = some M → a_Met l B cA D d M as h h1 r) (hroom : a_nx h1 - a_nx h0 ≤ R.cells ∧ a_tot h1 - a_tot h0 ≤ R.slots) (hm1 : a_nx h ≤ a_nx h1) (hm2 : a_tot h ≤ a_tot h1) (hdg : decode cc pc = .ok (.invokestatic idx, 3)) (hs : x_stat o idx (pc + 3) ls st h = some (.inr (.inl (mid, as, pc2, st2)))) (K : a_Ok p l e R s m args below meth c Q B cA D h0 nL pc2 ls (r.toList ++ st2) h1) : a_Ok p l e R s m args below meth c Q B cA D h0 nL pc ls st h := by
  intro H locs lsA I hL hl
  unfold x_stat at hs
  split at hs
  · rename_i q hq
    exfalso
    unfold x_copy at hq
    split at hq <;> try contradiction
    split at hq <;> try contradiction
    cases hq
    cases hs
  split at hs
  rotate_left
  · unfold x_nest at hs
    split at hs <;> try contradiction
    rename_i o' i' mid' host hf
    split at hs <;> try contradiction
    rename_i hc
    obtain ⟨c2, c4⟩ := hc
    obtain ⟨f1, f2⟩ := a_found hf
    simp only [Bool.and_eq_true, beq_iff_eq] at f2
    obtain ⟨rfl, rfl⟩ := f2
    cases hs
    obtain ⟨M, hM, w1, w2, -⟩ := a_ns_ok _ f1
    have hok := a_ms_ok _ (List.mem_of_getElem? hM)
    obtain ⟨n1, n2⟩ := a_ms_get hM
    obtain ⟨i1, i2, i3, i4, i5, i6, i7, i8, i9⟩ := id I
    have hnw := hK.2.2 _ f1
    unfold a_nestWord at hnw
    rw [show a_ms[(o', i', mid, host).2.2.1]? = some M from hM] at hnw
    obtain ⟨m1, m2, m3, m4, m5, m6, m7⟩ := id hok
    refine a_after (g := F0 m pc lsA st) I hL hl rfl (va_runSN (host := host) (As := (st.take (a_np mid)).reverse) (rest := st.drop (a_np mid)) ⟨hx, hb, hml, hown, hts⟩ (hcall M hM) ⟨va_cnB _ hts (a_goodIn M hok) rfl rfl rfl hnw (hts _ w2) ⟨m4.1, m4.2, m5⟩ ⟨hR1, by show 8 + (M.2.2.2.1 + 11) + (200 + 100 * d) ≤ _; omega⟩, hts _ w1, trivial⟩ ⟨a_blind _, a_pre_of I hK _⟩ rfl ?_ hl.1 (by rw [List.reverse_reverse]; exact (List.take_append_drop _ _).symm) (lv_room c4) hdg ⟨by omega, by omega⟩) K
    rw [List.length_reverse, List.length_take]
    have n3 : a_np mid = M.2.2.2.2.2.1 := n1
    omega
  rename_i o' i' t mid' hf
  split at hs <;> try contradiction
  rename_i hc
  obtain ⟨c1, c2, c4⟩ := hc
  obtain ⟨f1, f2⟩ := a_found hf
  simp only [Bool.and_eq_true, beq_iff_eq] at f2
  obtain ⟨rfl, rfl⟩ := f2
  subst c1
  cases hs
  obtain ⟨M, hM, w1, w2, -, w3, -⟩ := a_cl_ok _ f1
  have hok := a_ms_ok _ (List.mem_of_getElem? hM)
  obtain ⟨n1, n2⟩ := a_ms_get hM
  obtain ⟨i1, i2, i3, i4, i5, i6, i7, i8, i9⟩ := id I
  refine a_after (g := F0 m pc lsA st) I hL hl rfl (va_runS (As := (st.take (a_np mid)).reverse) (rest := st.drop (a_np mid)) ⟨hx, hb, hml, hown, hts⟩ (hcall M hM) ⟨a_callB hok hts w2 w1 hR1 hR2, hts _ (w3 rfl)⟩ ⟨a_blind _, a_pre_of I hK _⟩ rfl ?_ hl.1 (by rw [List.reverse_reverse]; exact (List.take_append_drop _ _).symm) (lv_room c4) hdg ⟨by omega, by omega⟩) K
  rw [List.length_reverse, List.length_take]
  have n3 : a_np mid = M.2.2.2.2.2.1 := n1
  omega
theorem s_invI {d : Nat} (hx : p.tables.exec = Jvm.exec) (hb : c.code = cc) (hml : c.maxLocals = nL) (hown : s.vm.findClass (a_own o) = some m.cls) (hts : ∀ w ∈ a_tb, w.before args s = true) (hK : a_K D cA s) (hR1 : d + 1 ≤ R.frames) (hR2 : 300 + 100 * d ≤ R.locals) {mid : Nat} {as : List Value} {r : Option Value}
    (hcall : ∀ M, a_ms[mid]? = some M → a_Met l B cA D d M as h h1 r) (hroom : a_nx h1 - a_nx h0 ≤ R.cells ∧ a_tot h1 - a_tot h0 ≤ R.slots) (hm1 : a_nx h ≤ a_nx h1) (hm2 : a_tot h ≤ a_tot h1) (hdg : decode cc pc = .ok (.invokespecial idx, 3)) (hs : x_spec o idx (pc + 3) ls st h = some (.inr (.inl (mid, as, pc2, st2)))) (K : a_Ok p l e R s m args below meth c Q B cA D h0 nL pc2 ls (r.toList ++ st2) h1) : a_Ok p l e R s m args below meth c Q B cA D h0 nL pc ls st h := by
  intro H locs lsA I hL hl
  unfold x_spec at hs
  split at hs
  · rename_i q hq
    exfalso
    unfold x_obj at hq
    split at hq <;> try contradiction
    split at hq <;> try contradiction
    cases hq
    cases hs
  unfold x_inv at hs
  split at hs <;> try contradiction
  rename_i o' i' t mid' hf
  split at hs <;> try contradiction
  rename_i b rest hdrop
  split at hs <;> try contradiction
  rename_i hc
  obtain ⟨c1, c2, c3, c4⟩ := hc
  obtain ⟨f1, f2⟩ := a_found hf
  simp only [Bool.and_eq_true, beq_iff_eq] at f2
  obtain ⟨rfl, rfl⟩ := f2
  subst c1
  cases hs
  obtain ⟨M, hM, w1, w2, -, -, w3⟩ := a_cl_ok _ f1
  have hok := a_ms_ok _ (List.mem_of_getElem? hM)
  obtain ⟨w4, w5⟩ := w3 rfl
  obtain ⟨n1, n2⟩ := a_ms_get hM
  obtain ⟨i1, i2, i3, i4, i5, i6, i7, i8, i9⟩ := id I
  obtain ⟨hnm, hret⟩ := hok.2.2.2.2.2.1 w5
  have hcm := hcall M hM
  have hcb := a_callB (R := R) (hh := h) (hh1 := h1) hok hts w2 w1 hR1 hR2
  unfold a_Met at hcm
  rw [hret] at hcm hcb
  refine a_after (g := F0 m pc lsA st) I hL hl rfl (va_runI (As := (st.take (a_np mid)).reverse) (rest := st2) ⟨hx, hb, hml, hown, hts⟩ hcm ⟨hcb, hnm, hts _ w4⟩ ⟨a_blind _, a_pre_of I hK _⟩ rfl ?_ hl.1 (a_split hdrop) (lv_room c4) hdg ⟨by omega, by omega⟩) K
  rw [List.length_reverse, List.length_take]
  have n3 : a_np mid = M.2.2.2.2.2.1 := n1
  omega
end AS5
end
section
section AS6
variable {p : Program} {l : Launch} {e : Env} {R : Room} {s : State} {m : MethodId} {args : Array Value} {below : List Frame} {meth : Method} {c : Code} {Q : State → Prop}
variable {B : Nat} {cA : Nat → ClassId} {D : va_G} {h0 h h1 h2 : AH} {nL pc pc2 pc' k o idx : Nat} {ls ls2 : AL} {st st2 : List Value} {cc : ByteArray} {H : Heap} {locs : List Loc}
theorem n_br {t : Bool} {off : Int} {r : (Nat × List Value × Nat × List Value) ⊕ (Option Value)} (hs : a_br t pc off ls st h = some (.inr r)) : False := by
  unfold a_br at hs
  split at hs <;> try contradiction
  split at hs <;> cases hs
theorem m_a_to {off : Int} (hs : a_to pc off ls st h = some (.inl (pc2, ls2, st2, h2))) : a_nx h ≤ a_nx h2 ∧ a_tot h ≤ a_tot h2 := by
  unfold a_to at hs
  (repeat' split at hs) <;> first
    | contradiction
    | (cases hs; exact ⟨Nat.le_refl _, Nat.le_refl _⟩)
    | (cases hs; exact ⟨Nat.le_succ _, Nat.le_add_right _ _⟩)
    | (obtain ⟨_, -, -, -, rfl, -⟩ := s_br hs; exact ⟨Nat.le_refl _, Nat.le_refl _⟩)
theorem n_a_to {off : Int} {r : (Nat × List Value × Nat × List Value) ⊕ (Option Value)} (hs : a_to pc off ls st h = some (.inr r)) : False := by
  unfold a_to at hs
  (repeat' split at hs) <;> first
    | contradiction
    | (cases hs; done)
theorem m_x_load {w : Value → Bool} (hs : x_load k pc' ls st h w = some (.inl (pc2, ls2, st2, h2))) : a_nx h ≤ a_nx h2 ∧ a_tot h ≤ a_tot h2 := by
  unfold x_load at hs
  (repeat' split at hs) <;> first
    | contradiction
    | (cases hs; exact ⟨Nat.le_refl _, Nat.le_refl _⟩)
    | (cases hs; exact ⟨Nat.le_succ _, Nat.le_add_right _ _⟩)
    | exact m_a_to hs
    | (obtain ⟨_, -, -, -, rfl, -⟩ := s_br hs; exact ⟨Nat.le_refl _, Nat.le_refl _⟩)
theorem n_x_load {w : Value → Bool} {r : (Nat × List Value × Nat × List Value) ⊕ (Option Value)} (hs : x_load k pc' ls st h w = some (.inr r)) : False := by
  unfold x_load at hs
  (repeat' split at hs) <;> first
    | contradiction
    | (cases hs; done)
    | exact n_a_to hs
    | exact n_br hs
theorem m_x_store {w : Value → Bool} (hs : x_store k pc' ls st h w = some (.inl (pc2, ls2, st2, h2))) : a_nx h ≤ a_nx h2 ∧ a_tot h ≤ a_tot h2 := by
  unfold x_store at hs
  (repeat' split at hs) <;> first
    | contradiction
    | (cases hs; exact ⟨Nat.le_refl _, Nat.le_refl _⟩)
    | (cases hs; exact ⟨Nat.le_succ _, Nat.le_add_right _ _⟩)
    | exact m_a_to hs
    | (obtain ⟨_, -, -, -, rfl, -⟩ := s_br hs; exact ⟨Nat.le_refl _, Nat.le_refl _⟩)
theorem n_x_store {w : Value → Bool} {r : (Nat × List Value × Nat × List Value) ⊕ (Option Value)} (hs : x_store k pc' ls st h w = some (.inr r)) : False := by
  unfold x_store at hs
  (repeat' split at hs) <;> first
    | contradiction
    | (cases hs; done)
    | exact n_a_to hs
    | exact n_br hs
theorem m_x_iinc {n : Int} (hs : x_iinc k n pc' ls st h = some (.inl (pc2, ls2, st2, h2))) : a_nx h ≤ a_nx h2 ∧ a_tot h ≤ a_tot h2 := by
  unfold x_iinc at hs
  (repeat' split at hs) <;> first
    | contradiction
    | (cases hs; exact ⟨Nat.le_refl _, Nat.le_refl _⟩)
    | (cases hs; exact ⟨Nat.le_succ _, Nat.le_add_right _ _⟩)
    | exact m_a_to hs
    | (obtain ⟨_, -, -, -, rfl, -⟩ := s_br hs; exact ⟨Nat.le_refl _, Nat.le_refl _⟩)
theorem n_x_iinc {n : Int} {r : (Nat × List Value × Nat × List Value) ⊕ (Option Value)} (hs : x_iinc k n pc' ls st h = some (.inr r)) : False := by
  unfold x_iinc at hs
  (repeat' split at hs) <;> first
    | contradiction
    | (cases hs; done)
    | exact n_a_to hs
    | exact n_br hs
theorem m_x_push {v : Value} (hs : x_push v pc' ls st h = some (.inl (pc2, ls2, st2, h2))) : a_nx h ≤ a_nx h2 ∧ a_tot h ≤ a_tot h2 := by
  unfold x_push at hs
  (repeat' split at hs) <;> first
    | contradiction
    | (cases hs; exact ⟨Nat.le_refl _, Nat.le_refl _⟩)
    | (cases hs; exact ⟨Nat.le_succ _, Nat.le_add_right _ _⟩)
    | exact m_a_to hs
    | (obtain ⟨_, -, -, -, rfl, -⟩ := s_br hs; exact ⟨Nat.le_refl _, Nat.le_refl _⟩)
theorem n_x_push {v : Value} {r : (Nat × List Value × Nat × List Value) ⊕ (Option Value)} (hs : x_push v pc' ls st h = some (.inr r)) : False := by
  unfold x_push at hs
  (repeat' split at hs) <;> first
    | contradiction
    | (cases hs; done)
    | exact n_a_to hs
    | exact n_br hs
theorem m_x_bin {f : Int32 → Int32 → Int32} (hs : x_bin f pc' ls st h = some (.inl (pc2, ls2, st2, h2))) : a_nx h ≤ a_nx h2 ∧ a_tot h ≤ a_tot h2 := by
  unfold x_bin at hs
  (repeat' split at hs) <;> first
    | contradiction
    | (cases hs; exact ⟨Nat.le_refl _, Nat.le_refl _⟩)
    | (cases hs; exact ⟨Nat.le_succ _, Nat.le_add_right _ _⟩)
    | exact m_a_to hs
    | (obtain ⟨_, -, -, -, rfl, -⟩ := s_br hs; exact ⟨Nat.le_refl _, Nat.le_refl _⟩)
theorem n_x_bin {f : Int32 → Int32 → Int32} {r : (Nat × List Value × Nat × List Value) ⊕ (Option Value)} (hs : x_bin f pc' ls st h = some (.inr r)) : False := by
  unfold x_bin at hs
  (repeat' split at hs) <;> first
    | contradiction
    | (cases hs; done)
    | exact n_a_to hs
    | exact n_br hs
theorem m_x_div {f : Int32 → Int32 → Int32} (hs : x_div f pc' ls st h = some (.inl (pc2, ls2, st2, h2))) : a_nx h ≤ a_nx h2 ∧ a_tot h ≤ a_tot h2 := by
  unfold x_div at hs
  (repeat' split at hs) <;> first
    | contradiction
    | (cases hs; exact ⟨Nat.le_refl _, Nat.le_refl _⟩)
    | (cases hs; exact ⟨Nat.le_succ _, Nat.le_add_right _ _⟩)
    | exact m_a_to hs
    | (obtain ⟨_, -, -, -, rfl, -⟩ := s_br hs; exact ⟨Nat.le_refl _, Nat.le_refl _⟩)
theorem n_x_div {f : Int32 → Int32 → Int32} {r : (Nat × List Value × Nat × List Value) ⊕ (Option Value)} (hs : x_div f pc' ls st h = some (.inr r)) : False := by
  unfold x_div at hs
  (repeat' split at hs) <;> first
    | contradiction
    | (cases hs; done)
    | exact n_a_to hs
    | exact n_br hs
theorem m_x_lbin {f : Int64 → Int64 → Int64} (hs : x_lbin f pc' ls st h = some (.inl (pc2, ls2, st2, h2))) : a_nx h ≤ a_nx h2 ∧ a_tot h ≤ a_tot h2 := by
  unfold x_lbin at hs
  (repeat' split at hs) <;> first
    | contradiction
    | (cases hs; exact ⟨Nat.le_refl _, Nat.le_refl _⟩)
    | (cases hs; exact ⟨Nat.le_succ _, Nat.le_add_right _ _⟩)
    | exact m_a_to hs
    | (obtain ⟨_, -, -, -, rfl, -⟩ := s_br hs; exact ⟨Nat.le_refl _, Nat.le_refl _⟩)
theorem n_x_lbin {f : Int64 → Int64 → Int64} {r : (Nat × List Value × Nat × List Value) ⊕ (Option Value)} (hs : x_lbin f pc' ls st h = some (.inr r)) : False := by
  unfold x_lbin at hs
  (repeat' split at hs) <;> first
    | contradiction
    | (cases hs; done)
    | exact n_a_to hs
    | exact n_br hs
theorem m_x_lsh {f : Int64 → Int32 → Int64} (hs : x_lsh f pc' ls st h = some (.inl (pc2, ls2, st2, h2))) : a_nx h ≤ a_nx h2 ∧ a_tot h ≤ a_tot h2 := by
  unfold x_lsh at hs
  (repeat' split at hs) <;> first
    | contradiction
    | (cases hs; exact ⟨Nat.le_refl _, Nat.le_refl _⟩)
    | (cases hs; exact ⟨Nat.le_succ _, Nat.le_add_right _ _⟩)
    | exact m_a_to hs
    | (obtain ⟨_, -, -, -, rfl, -⟩ := s_br hs; exact ⟨Nat.le_refl _, Nat.le_refl _⟩)
theorem n_x_lsh {f : Int64 → Int32 → Int64} {r : (Nat × List Value × Nat × List Value) ⊕ (Option Value)} (hs : x_lsh f pc' ls st h = some (.inr r)) : False := by
  unfold x_lsh at hs
  (repeat' split at hs) <;> first
    | contradiction
    | (cases hs; done)
    | exact n_a_to hs
    | exact n_br hs
theorem m_x_neg  (hs : x_neg pc' ls st h = some (.inl (pc2, ls2, st2, h2))) : a_nx h ≤ a_nx h2 ∧ a_tot h ≤ a_tot h2 := by
  unfold x_neg at hs
  (repeat' split at hs) <;> first
    | contradiction
    | (cases hs; exact ⟨Nat.le_refl _, Nat.le_refl _⟩)
    | (cases hs; exact ⟨Nat.le_succ _, Nat.le_add_right _ _⟩)
    | exact m_a_to hs
    | (obtain ⟨_, -, -, -, rfl, -⟩ := s_br hs; exact ⟨Nat.le_refl _, Nat.le_refl _⟩)
theorem n_x_neg  {r : (Nat × List Value × Nat × List Value) ⊕ (Option Value)} (hs : x_neg pc' ls st h = some (.inr r)) : False := by
  unfold x_neg at hs
  (repeat' split at hs) <;> first
    | contradiction
    | (cases hs; done)
    | exact n_a_to hs
    | exact n_br hs
theorem m_x_i2l  (hs : x_i2l pc' ls st h = some (.inl (pc2, ls2, st2, h2))) : a_nx h ≤ a_nx h2 ∧ a_tot h ≤ a_tot h2 := by
  unfold x_i2l at hs
  (repeat' split at hs) <;> first
    | contradiction
    | (cases hs; exact ⟨Nat.le_refl _, Nat.le_refl _⟩)
    | (cases hs; exact ⟨Nat.le_succ _, Nat.le_add_right _ _⟩)
    | exact m_a_to hs
    | (obtain ⟨_, -, -, -, rfl, -⟩ := s_br hs; exact ⟨Nat.le_refl _, Nat.le_refl _⟩)
theorem n_x_i2l  {r : (Nat × List Value × Nat × List Value) ⊕ (Option Value)} (hs : x_i2l pc' ls st h = some (.inr r)) : False := by
  unfold x_i2l at hs
  (repeat' split at hs) <;> first
    | contradiction
    | (cases hs; done)
    | exact n_a_to hs
    | exact n_br hs
theorem m_x_l2i  (hs : x_l2i pc' ls st h = some (.inl (pc2, ls2, st2, h2))) : a_nx h ≤ a_nx h2 ∧ a_tot h ≤ a_tot h2 := by
  unfold x_l2i at hs
  (repeat' split at hs) <;> first
    | contradiction
    | (cases hs; exact ⟨Nat.le_refl _, Nat.le_refl _⟩)
    | (cases hs; exact ⟨Nat.le_succ _, Nat.le_add_right _ _⟩)
    | exact m_a_to hs
    | (obtain ⟨_, -, -, -, rfl, -⟩ := s_br hs; exact ⟨Nat.le_refl _, Nat.le_refl _⟩)
theorem n_x_l2i  {r : (Nat × List Value × Nat × List Value) ⊕ (Option Value)} (hs : x_l2i pc' ls st h = some (.inr r)) : False := by
  unfold x_l2i at hs
  (repeat' split at hs) <;> first
    | contradiction
    | (cases hs; done)
    | exact n_a_to hs
    | exact n_br hs
theorem m_x_icmp {q : Jvm.ClassFile.Cond} {off : Int} (hs : x_icmp q off pc ls st h = some (.inl (pc2, ls2, st2, h2))) : a_nx h ≤ a_nx h2 ∧ a_tot h ≤ a_tot h2 := by
  unfold x_icmp at hs
  (repeat' split at hs) <;> first
    | contradiction
    | (cases hs; exact ⟨Nat.le_refl _, Nat.le_refl _⟩)
    | (cases hs; exact ⟨Nat.le_succ _, Nat.le_add_right _ _⟩)
    | exact m_a_to hs
    | (obtain ⟨_, -, -, -, rfl, -⟩ := s_br hs; exact ⟨Nat.le_refl _, Nat.le_refl _⟩)
theorem n_x_icmp {q : Jvm.ClassFile.Cond} {off : Int} {r : (Nat × List Value × Nat × List Value) ⊕ (Option Value)} (hs : x_icmp q off pc ls st h = some (.inr r)) : False := by
  unfold x_icmp at hs
  (repeat' split at hs) <;> first
    | contradiction
    | (cases hs; done)
    | exact n_a_to hs
    | exact n_br hs
theorem m_x_if {q : Jvm.ClassFile.Cond} {off : Int} (hs : x_if q off pc ls st h = some (.inl (pc2, ls2, st2, h2))) : a_nx h ≤ a_nx h2 ∧ a_tot h ≤ a_tot h2 := by
  unfold x_if at hs
  (repeat' split at hs) <;> first
    | contradiction
    | (cases hs; exact ⟨Nat.le_refl _, Nat.le_refl _⟩)
    | (cases hs; exact ⟨Nat.le_succ _, Nat.le_add_right _ _⟩)
    | exact m_a_to hs
    | (obtain ⟨_, -, -, -, rfl, -⟩ := s_br hs; exact ⟨Nat.le_refl _, Nat.le_refl _⟩)
theorem n_x_if {q : Jvm.ClassFile.Cond} {off : Int} {r : (Nat × List Value × Nat × List Value) ⊕ (Option Value)} (hs : x_if q off pc ls st h = some (.inr r)) : False := by
  unfold x_if at hs
  (repeat' split at hs) <;> first
    | contradiction
    | (cases hs; done)
    | exact n_a_to hs
    | exact n_br hs
theorem m_x_null {b : Bool} {off : Int} (hs : x_null b off pc ls st h = some (.inl (pc2, ls2, st2, h2))) : a_nx h ≤ a_nx h2 ∧ a_tot h ≤ a_tot h2 := by
  unfold x_null at hs
  (repeat' split at hs) <;> first
    | contradiction
    | (cases hs; exact ⟨Nat.le_refl _, Nat.le_refl _⟩)
    | (cases hs; exact ⟨Nat.le_succ _, Nat.le_add_right _ _⟩)
    | exact m_a_to hs
    | (obtain ⟨_, -, -, -, rfl, -⟩ := s_br hs; exact ⟨Nat.le_refl _, Nat.le_refl _⟩)
theorem n_x_null {b : Bool} {off : Int} {r : (Nat × List Value × Nat × List Value) ⊕ (Option Value)} (hs : x_null b off pc ls st h = some (.inr r)) : False := by
  unfold x_null at hs
  (repeat' split at hs) <;> first
    | contradiction
    | (cases hs; done)
    | exact n_a_to hs
    | exact n_br hs
theorem m_x_acmp {b : Bool} {off : Int} (hs : x_acmp b off pc ls st h = some (.inl (pc2, ls2, st2, h2))) : a_nx h ≤ a_nx h2 ∧ a_tot h ≤ a_tot h2 := by
  unfold x_acmp at hs
  (repeat' split at hs) <;> first
    | contradiction
    | (cases hs; exact ⟨Nat.le_refl _, Nat.le_refl _⟩)
    | (cases hs; exact ⟨Nat.le_succ _, Nat.le_add_right _ _⟩)
    | exact m_a_to hs
    | (obtain ⟨_, -, -, -, rfl, -⟩ := s_br hs; exact ⟨Nat.le_refl _, Nat.le_refl _⟩)
theorem n_x_acmp {b : Bool} {off : Int} {r : (Nat × List Value × Nat × List Value) ⊕ (Option Value)} (hs : x_acmp b off pc ls st h = some (.inr r)) : False := by
  unfold x_acmp at hs
  (repeat' split at hs) <;> first
    | contradiction
    | (cases hs; done)
    | exact n_a_to hs
    | exact n_br hs
theorem m_x_table {d lo hi : Int} {offs : Array Int} (hs : x_table d lo hi offs pc ls st h = some (.inl (pc2, ls2, st2, h2))) : a_nx h ≤ a_nx h2 ∧ a_tot h ≤ a_tot h2 := by
  unfold x_table at hs
  (repeat' split at hs) <;> first
    | contradiction
    | (cases hs; exact ⟨Nat.le_refl _, Nat.le_refl _⟩)
    | (cases hs; exact ⟨Nat.le_succ _, Nat.le_add_right _ _⟩)
    | exact m_a_to hs
    | (obtain ⟨_, -, -, -, rfl, -⟩ := s_br hs; exact ⟨Nat.le_refl _, Nat.le_refl _⟩)
theorem n_x_table {d lo hi : Int} {offs : Array Int} {r : (Nat × List Value × Nat × List Value) ⊕ (Option Value)} (hs : x_table d lo hi offs pc ls st h = some (.inr r)) : False := by
  unfold x_table at hs
  (repeat' split at hs) <;> first
    | contradiction
    | (cases hs; done)
    | exact n_a_to hs
    | exact n_br hs
theorem m_x_look {d : Int} {ps : Array (Int × Int)} (hs : x_look d ps pc ls st h = some (.inl (pc2, ls2, st2, h2))) : a_nx h ≤ a_nx h2 ∧ a_tot h ≤ a_tot h2 := by
  unfold x_look at hs
  (repeat' split at hs) <;> first
    | contradiction
    | (cases hs; exact ⟨Nat.le_refl _, Nat.le_refl _⟩)
    | (cases hs; exact ⟨Nat.le_succ _, Nat.le_add_right _ _⟩)
    | exact m_a_to hs
    | (obtain ⟨_, -, -, -, rfl, -⟩ := s_br hs; exact ⟨Nat.le_refl _, Nat.le_refl _⟩)
theorem n_x_look {d : Int} {ps : Array (Int × Int)} {r : (Nat × List Value × Nat × List Value) ⊕ (Option Value)} (hs : x_look d ps pc ls st h = some (.inr r)) : False := by
  unfold x_look at hs
  (repeat' split at hs) <;> first
    | contradiction
    | (cases hs; done)
    | exact n_a_to hs
    | exact n_br hs
theorem m_x_getf  (hs : x_getf o idx pc' ls st h = some (.inl (pc2, ls2, st2, h2))) : a_nx h ≤ a_nx h2 ∧ a_tot h ≤ a_tot h2 := by
  unfold x_getf at hs
  (repeat' split at hs) <;> first
    | contradiction
    | (cases hs; exact ⟨Nat.le_refl _, Nat.le_refl _⟩)
    | (cases hs; exact ⟨Nat.le_succ _, Nat.le_add_right _ _⟩)
    | exact m_a_to hs
    | (obtain ⟨_, -, -, -, rfl, -⟩ := s_br hs; exact ⟨Nat.le_refl _, Nat.le_refl _⟩)
theorem n_x_getf  {r : (Nat × List Value × Nat × List Value) ⊕ (Option Value)} (hs : x_getf o idx pc' ls st h = some (.inr r)) : False := by
  unfold x_getf at hs
  (repeat' split at hs) <;> first
    | contradiction
    | (cases hs; done)
    | exact n_a_to hs
    | exact n_br hs
theorem m_x_putf {ini : Bool} (hs : x_putf o ini idx pc' ls st h = some (.inl (pc2, ls2, st2, h2))) : a_nx h ≤ a_nx h2 ∧ a_tot h ≤ a_tot h2 := by
  unfold x_putf at hs
  (repeat' split at hs) <;> first
    | contradiction
    | (cases hs; exact ⟨Nat.le_refl _, Nat.le_refl _⟩)
    | (cases hs; exact ⟨Nat.le_succ _, Nat.le_add_right _ _⟩)
    | exact m_a_to hs
    | (obtain ⟨_, -, -, -, rfl, -⟩ := s_br hs; exact ⟨Nat.le_refl _, Nat.le_refl _⟩)
theorem n_x_putf {ini : Bool} {r : (Nat × List Value × Nat × List Value) ⊕ (Option Value)} (hs : x_putf o ini idx pc' ls st h = some (.inr r)) : False := by
  unfold x_putf at hs
  (repeat' split at hs) <;> first
    | contradiction
    | (cases hs; done)
    | exact n_a_to hs
    | exact n_br hs
theorem m_x_iald {sc : Option (Nat × Nat × (Nat → Int32))} {kd : Nat} (hs : x_iald sc kd pc' ls st h = some (.inl (pc2, ls2, st2, h2))) : a_nx h ≤ a_nx h2 ∧ a_tot h ≤ a_tot h2 := by
  unfold x_iald at hs
  (repeat' split at hs) <;> first
    | contradiction
    | (cases hs; exact ⟨Nat.le_refl _, Nat.le_refl _⟩)
    | (cases hs; exact ⟨Nat.le_succ _, Nat.le_add_right _ _⟩)
    | exact m_a_to hs
    | (obtain ⟨_, -, -, -, rfl, -⟩ := s_br hs; exact ⟨Nat.le_refl _, Nat.le_refl _⟩)
theorem n_x_iald {sc : Option (Nat × Nat × (Nat → Int32))} {kd : Nat} {r : (Nat × List Value × Nat × List Value) ⊕ (Option Value)} (hs : x_iald sc kd pc' ls st h = some (.inr r)) : False := by
  unfold x_iald at hs
  (repeat' split at hs) <;> first
    | contradiction
    | (cases hs; done)
    | exact n_a_to hs
    | exact n_br hs
theorem m_x_aald  (hs : x_aald pc' ls st h = some (.inl (pc2, ls2, st2, h2))) : a_nx h ≤ a_nx h2 ∧ a_tot h ≤ a_tot h2 := by
  unfold x_aald at hs
  (repeat' split at hs) <;> first
    | contradiction
    | (cases hs; exact ⟨Nat.le_refl _, Nat.le_refl _⟩)
    | (cases hs; exact ⟨Nat.le_succ _, Nat.le_add_right _ _⟩)
    | exact m_a_to hs
    | (obtain ⟨_, -, -, -, rfl, -⟩ := s_br hs; exact ⟨Nat.le_refl _, Nat.le_refl _⟩)
theorem n_x_aald  {r : (Nat × List Value × Nat × List Value) ⊕ (Option Value)} (hs : x_aald pc' ls st h = some (.inr r)) : False := by
  unfold x_aald at hs
  (repeat' split at hs) <;> first
    | contradiction
    | (cases hs; done)
    | exact n_a_to hs
    | exact n_br hs
theorem m_x_iast  (hs : x_iast pc' ls st h = some (.inl (pc2, ls2, st2, h2))) : a_nx h ≤ a_nx h2 ∧ a_tot h ≤ a_tot h2 := by
  unfold x_iast at hs
  (repeat' split at hs) <;> first
    | contradiction
    | (cases hs; exact ⟨Nat.le_refl _, Nat.le_refl _⟩)
    | (cases hs; exact ⟨Nat.le_succ _, Nat.le_add_right _ _⟩)
    | exact m_a_to hs
    | (obtain ⟨_, -, -, -, rfl, -⟩ := s_br hs; exact ⟨Nat.le_refl _, Nat.le_refl _⟩)
theorem n_x_iast  {r : (Nat × List Value × Nat × List Value) ⊕ (Option Value)} (hs : x_iast pc' ls st h = some (.inr r)) : False := by
  unfold x_iast at hs
  (repeat' split at hs) <;> first
    | contradiction
    | (cases hs; done)
    | exact n_a_to hs
    | exact n_br hs
theorem m_x_zast  (hs : x_zast pc' ls st h = some (.inl (pc2, ls2, st2, h2))) : a_nx h ≤ a_nx h2 ∧ a_tot h ≤ a_tot h2 := by
  unfold x_zast at hs
  (repeat' split at hs) <;> first
    | contradiction
    | (cases hs; exact ⟨Nat.le_refl _, Nat.le_refl _⟩)
    | (cases hs; exact ⟨Nat.le_succ _, Nat.le_add_right _ _⟩)
    | exact m_a_to hs
    | (obtain ⟨_, -, -, -, rfl, -⟩ := s_br hs; exact ⟨Nat.le_refl _, Nat.le_refl _⟩)
theorem n_x_zast  {r : (Nat × List Value × Nat × List Value) ⊕ (Option Value)} (hs : x_zast pc' ls st h = some (.inr r)) : False := by
  unfold x_zast at hs
  (repeat' split at hs) <;> first
    | contradiction
    | (cases hs; done)
    | exact n_a_to hs
    | exact n_br hs
theorem m_x_aast  (hs : x_aast pc' ls st h = some (.inl (pc2, ls2, st2, h2))) : a_nx h ≤ a_nx h2 ∧ a_tot h ≤ a_tot h2 := by
  unfold x_aast at hs
  (repeat' split at hs) <;> first
    | contradiction
    | (cases hs; exact ⟨Nat.le_refl _, Nat.le_refl _⟩)
    | (cases hs; exact ⟨Nat.le_succ _, Nat.le_add_right _ _⟩)
    | exact m_a_to hs
    | (obtain ⟨_, -, -, -, rfl, -⟩ := s_br hs; exact ⟨Nat.le_refl _, Nat.le_refl _⟩)
theorem n_x_aast  {r : (Nat × List Value × Nat × List Value) ⊕ (Option Value)} (hs : x_aast pc' ls st h = some (.inr r)) : False := by
  unfold x_aast at hs
  (repeat' split at hs) <;> first
    | contradiction
    | (cases hs; done)
    | exact n_a_to hs
    | exact n_br hs
theorem m_x_alen {sc : Option (Nat × Nat × (Nat → Int32))} (hs : x_alen sc pc' ls st h = some (.inl (pc2, ls2, st2, h2))) : a_nx h ≤ a_nx h2 ∧ a_tot h ≤ a_tot h2 := by
  unfold x_alen at hs
  (repeat' split at hs) <;> first
    | contradiction
    | (cases hs; exact ⟨Nat.le_refl _, Nat.le_refl _⟩)
    | (cases hs; exact ⟨Nat.le_succ _, Nat.le_add_right _ _⟩)
    | exact m_a_to hs
    | (obtain ⟨_, -, -, -, rfl, -⟩ := s_br hs; exact ⟨Nat.le_refl _, Nat.le_refl _⟩)
theorem n_x_alen {sc : Option (Nat × Nat × (Nat → Int32))} {r : (Nat × List Value × Nat × List Value) ⊕ (Option Value)} (hs : x_alen sc pc' ls st h = some (.inr r)) : False := by
  unfold x_alen at hs
  (repeat' split at hs) <;> first
    | contradiction
    | (cases hs; done)
    | exact n_a_to hs
    | exact n_br hs
theorem m_x_newarr {kd : Nat} (hs : x_newarr kd pc' ls st h = some (.inl (pc2, ls2, st2, h2))) : a_nx h ≤ a_nx h2 ∧ a_tot h ≤ a_tot h2 := by
  unfold x_newarr at hs
  (repeat' split at hs) <;> first
    | contradiction
    | (cases hs; exact ⟨Nat.le_refl _, Nat.le_refl _⟩)
    | (cases hs; exact ⟨Nat.le_succ _, Nat.le_add_right _ _⟩)
    | exact m_a_to hs
    | (obtain ⟨_, -, -, -, rfl, -⟩ := s_br hs; exact ⟨Nat.le_refl _, Nat.le_refl _⟩)
theorem n_x_newarr {kd : Nat} {r : (Nat × List Value × Nat × List Value) ⊕ (Option Value)} (hs : x_newarr kd pc' ls st h = some (.inr r)) : False := by
  unfold x_newarr at hs
  (repeat' split at hs) <;> first
    | contradiction
    | (cases hs; done)
    | exact n_a_to hs
    | exact n_br hs
theorem m_x_new  (hs : x_new o idx pc' ls st h = some (.inl (pc2, ls2, st2, h2))) : a_nx h ≤ a_nx h2 ∧ a_tot h ≤ a_tot h2 := by
  unfold x_new at hs
  (repeat' split at hs) <;> first
    | contradiction
    | (cases hs; exact ⟨Nat.le_refl _, Nat.le_refl _⟩)
    | (cases hs; exact ⟨Nat.le_succ _, Nat.le_add_right _ _⟩)
    | exact m_a_to hs
    | (obtain ⟨_, -, -, -, rfl, -⟩ := s_br hs; exact ⟨Nat.le_refl _, Nat.le_refl _⟩)
theorem n_x_new  {r : (Nat × List Value × Nat × List Value) ⊕ (Option Value)} (hs : x_new o idx pc' ls st h = some (.inr r)) : False := by
  unfold x_new at hs
  (repeat' split at hs) <;> first
    | contradiction
    | (cases hs; done)
    | exact n_a_to hs
    | exact n_br hs
theorem m_x_dup  (hs : x_dup pc' ls st h = some (.inl (pc2, ls2, st2, h2))) : a_nx h ≤ a_nx h2 ∧ a_tot h ≤ a_tot h2 := by
  unfold x_dup at hs
  (repeat' split at hs) <;> first
    | contradiction
    | (cases hs; exact ⟨Nat.le_refl _, Nat.le_refl _⟩)
    | (cases hs; exact ⟨Nat.le_succ _, Nat.le_add_right _ _⟩)
    | exact m_a_to hs
    | (obtain ⟨_, -, -, -, rfl, -⟩ := s_br hs; exact ⟨Nat.le_refl _, Nat.le_refl _⟩)
theorem n_x_dup  {r : (Nat × List Value × Nat × List Value) ⊕ (Option Value)} (hs : x_dup pc' ls st h = some (.inr r)) : False := by
  unfold x_dup at hs
  (repeat' split at hs) <;> first
    | contradiction
    | (cases hs; done)
    | exact n_a_to hs
    | exact n_br hs
theorem m_x_dup2  (hs : x_dup2 pc' ls st h = some (.inl (pc2, ls2, st2, h2))) : a_nx h ≤ a_nx h2 ∧ a_tot h ≤ a_tot h2 := by
  unfold x_dup2 at hs
  (repeat' split at hs) <;> first
    | contradiction
    | (cases hs; exact ⟨Nat.le_refl _, Nat.le_refl _⟩)
    | (cases hs; exact ⟨Nat.le_succ _, Nat.le_add_right _ _⟩)
    | exact m_a_to hs
    | (obtain ⟨_, -, -, -, rfl, -⟩ := s_br hs; exact ⟨Nat.le_refl _, Nat.le_refl _⟩)
theorem n_x_dup2  {r : (Nat × List Value × Nat × List Value) ⊕ (Option Value)} (hs : x_dup2 pc' ls st h = some (.inr r)) : False := by
  unfold x_dup2 at hs
  (repeat' split at hs) <;> first
    | contradiction
    | (cases hs; done)
    | exact n_a_to hs
    | exact n_br hs
theorem m_x_pop  (hs : x_pop pc' ls st h = some (.inl (pc2, ls2, st2, h2))) : a_nx h ≤ a_nx h2 ∧ a_tot h ≤ a_tot h2 := by
  unfold x_pop at hs
  (repeat' split at hs) <;> first
    | contradiction
    | (cases hs; exact ⟨Nat.le_refl _, Nat.le_refl _⟩)
    | (cases hs; exact ⟨Nat.le_succ _, Nat.le_add_right _ _⟩)
    | exact m_a_to hs
    | (obtain ⟨_, -, -, -, rfl, -⟩ := s_br hs; exact ⟨Nat.le_refl _, Nat.le_refl _⟩)
theorem n_x_pop  {r : (Nat × List Value × Nat × List Value) ⊕ (Option Value)} (hs : x_pop pc' ls st h = some (.inr r)) : False := by
  unfold x_pop at hs
  (repeat' split at hs) <;> first
    | contradiction
    | (cases hs; done)
    | exact n_a_to hs
    | exact n_br hs
theorem m_x_ldc  (hs : x_ldc o idx pc' ls st h = some (.inl (pc2, ls2, st2, h2))) : a_nx h ≤ a_nx h2 ∧ a_tot h ≤ a_tot h2 := by
  unfold x_ldc at hs
  (repeat' split at hs) <;> first
    | contradiction
    | (cases hs; exact ⟨Nat.le_refl _, Nat.le_refl _⟩)
    | (cases hs; exact ⟨Nat.le_succ _, Nat.le_add_right _ _⟩)
    | exact m_a_to hs
    | (obtain ⟨_, -, -, -, rfl, -⟩ := s_br hs; exact ⟨Nat.le_refl _, Nat.le_refl _⟩)
theorem n_x_ldc  {r : (Nat × List Value × Nat × List Value) ⊕ (Option Value)} (hs : x_ldc o idx pc' ls st h = some (.inr r)) : False := by
  unfold x_ldc at hs
  (repeat' split at hs) <;> first
    | contradiction
    | (cases hs; done)
    | exact n_a_to hs
    | exact n_br hs
theorem m_x_ldc2  (hs : x_ldc2 o idx pc' ls st h = some (.inl (pc2, ls2, st2, h2))) : a_nx h ≤ a_nx h2 ∧ a_tot h ≤ a_tot h2 := by
  unfold x_ldc2 at hs
  (repeat' split at hs) <;> first
    | contradiction
    | (cases hs; exact ⟨Nat.le_refl _, Nat.le_refl _⟩)
    | (cases hs; exact ⟨Nat.le_succ _, Nat.le_add_right _ _⟩)
    | exact m_a_to hs
    | (obtain ⟨_, -, -, -, rfl, -⟩ := s_br hs; exact ⟨Nat.le_refl _, Nat.le_refl _⟩)
theorem n_x_ldc2  {r : (Nat × List Value × Nat × List Value) ⊕ (Option Value)} (hs : x_ldc2 o idx pc' ls st h = some (.inr r)) : False := by
  unfold x_ldc2 at hs
  (repeat' split at hs) <;> first
    | contradiction
    | (cases hs; done)
    | exact n_a_to hs
    | exact n_br hs
theorem m_x_obj  (hs : x_obj o idx pc' ls st h = some (.inl (pc2, ls2, st2, h2))) : a_nx h ≤ a_nx h2 ∧ a_tot h ≤ a_tot h2 := by
  unfold x_obj at hs
  (repeat' split at hs) <;> first
    | contradiction
    | (cases hs; exact ⟨Nat.le_refl _, Nat.le_refl _⟩)
    | (cases hs; exact ⟨Nat.le_succ _, Nat.le_add_right _ _⟩)
    | exact m_a_to hs
    | (obtain ⟨_, -, -, -, rfl, -⟩ := s_br hs; exact ⟨Nat.le_refl _, Nat.le_refl _⟩)
theorem n_x_obj  {r : (Nat × List Value × Nat × List Value) ⊕ (Option Value)} (hs : x_obj o idx pc' ls st h = some (.inr r)) : False := by
  unfold x_obj at hs
  (repeat' split at hs) <;> first
    | contradiction
    | (cases hs; done)
    | exact n_a_to hs
    | exact n_br hs
theorem m_x_copy  (hs : x_copy o idx pc' ls st h = some (.inl (pc2, ls2, st2, h2))) : a_nx h ≤ a_nx h2 ∧ a_tot h ≤ a_tot h2 := by
  unfold x_copy at hs
  (repeat' split at hs) <;> first
    | contradiction
    | (cases hs; exact ⟨Nat.le_refl _, Nat.le_refl _⟩)
    | (cases hs; exact ⟨Nat.le_succ _, Nat.le_add_right _ _⟩)
    | exact m_a_to hs
    | (obtain ⟨_, -, -, -, rfl, -⟩ := s_br hs; exact ⟨Nat.le_refl _, Nat.le_refl _⟩)
theorem n_x_copy  {r : (Nat × List Value × Nat × List Value) ⊕ (Option Value)} (hs : x_copy o idx pc' ls st h = some (.inr r)) : False := by
  unfold x_copy at hs
  (repeat' split at hs) <;> first
    | contradiction
    | (cases hs; done)
    | exact n_a_to hs
    | exact n_br hs
theorem m_x_anew (hs : x_anew o idx pc' ls st h = some (.inl (pc2, ls2, st2, h2))) : a_nx h ≤ a_nx h2 ∧ a_tot h ≤ a_tot h2 := by
  unfold x_anew at hs
  split at hs <;> try contradiction
  exact m_x_newarr hs
theorem n_x_anew {r : (Nat × List Value × Nat × List Value) ⊕ (Option Value)} (hs : x_anew o idx pc' ls st h = some (.inr r)) : False := by
  unfold x_anew at hs
  split at hs <;> try contradiction
  exact n_x_newarr hs
theorem i_x_inv {t : Nat} {q : Nat × AL × List Value × AH} (hs : x_inv t o idx pc' ls st h = some (.inl q)) : False := by
  unfold x_inv at hs
  (repeat' split at hs) <;> first
    | contradiction
    | (cases hs; done)
theorem r_x_inv {t : Nat} {q : Option Value} (hs : x_inv t o idx pc' ls st h = some (.inr (.inr q))) : False := by
  unfold x_inv at hs
  (repeat' split at hs) <;> first
    | contradiction
    | (cases hs; done)
theorem i_x_spec {q : Nat × AL × List Value × AH} (hs : x_spec o idx pc' ls st h = some (.inl q)) : x_obj o idx pc' ls st h = some (.inl q) := by
  unfold x_spec at hs
  split at hs
  · rename_i r hr
    rw [hr, hs]
  · exact (i_x_inv hs).elim
theorem r_x_spec {q : Option Value} (hs : x_spec o idx pc' ls st h = some (.inr (.inr q))) : False := by
  unfold x_spec at hs
  split at hs
  · rename_i r hr
    rw [hs] at hr
    exact n_x_obj hr
  · exact r_x_inv hs
theorem i_x_stat {q : Nat × AL × List Value × AH} (hs : x_stat o idx pc' ls st h = some (.inl q)) : x_copy o idx pc' ls st h = some (.inl q) := by
  unfold x_stat at hs
  split at hs
  · rename_i r hr
    rw [hr, hs]
  · unfold x_nest at hs
    (repeat' split at hs) <;> first
      | contradiction
      | (cases hs; done)
theorem r_x_stat {q : Option Value} (hs : x_stat o idx pc' ls st h = some (.inr (.inr q))) : False := by
  unfold x_stat at hs
  split at hs
  · rename_i r hr
    rw [hs] at hr
    exact n_x_copy hr
  · unfold x_nest at hs
    (repeat' split at hs) <;> first
      | contradiction
      | (cases hs; done)
theorem i_x_iret {ret : Option FieldType} {q : (Nat × AL × List Value × AH)} (hs : x_iret ret st = some (.inl q)) : False := by
  unfold x_iret at hs
  (repeat' split at hs) <;> first
    | contradiction
    | (cases hs; done)
theorem c_x_iret {ret : Option FieldType} {q : (Nat × List Value × Nat × List Value)} (hs : x_iret ret st = some (.inr (.inl q))) : False := by
  unfold x_iret at hs
  (repeat' split at hs) <;> first
    | contradiction
    | (cases hs; done)
theorem i_x_aret {ret : Option FieldType} {q : (Nat × AL × List Value × AH)} (hs : x_aret ret st = some (.inl q)) : False := by
  unfold x_aret at hs
  (repeat' split at hs) <;> first
    | contradiction
    | (cases hs; done)
theorem c_x_aret {ret : Option FieldType} {q : (Nat × List Value × Nat × List Value)} (hs : x_aret ret st = some (.inr (.inl q))) : False := by
  unfold x_aret at hs
  (repeat' split at hs) <;> first
    | contradiction
    | (cases hs; done)
theorem i_x_vret {ret : Option FieldType} {q : (Nat × AL × List Value × AH)} (hs : x_vret ret st = some (.inl q)) : False := by
  unfold x_vret at hs
  (repeat' split at hs) <;> first
    | contradiction
    | (cases hs; done)
theorem c_x_vret {ret : Option FieldType} {q : (Nat × List Value × Nat × List Value)} (hs : x_vret ret st = some (.inr (.inl q))) : False := by
  unfold x_vret at hs
  (repeat' split at hs) <;> first
    | contradiction
    | (cases hs; done)
set_option maxHeartbeats 4000000 in
theorem a_step_mono {sc : Option (Nat × Nat × (Nat → Int32))} {ini : Bool} {ret : Option FieldType} {i : Instr} {len : Nat} (hs : a_step sc o ini ret pc i len ls st h = some (.inl (pc2, ls2, st2, h2))) : a_nx h ≤ a_nx h2 ∧ a_tot h ≤ a_tot h2 := by
  unfold a_step at hs
  split at hs
  · exact m_x_push hs
  · exact m_x_push hs
  · exact m_x_push hs
  · exact m_x_push hs
  · exact m_x_ldc hs
  · exact m_x_ldc hs
  · exact m_x_ldc2 hs
  · exact m_x_load hs
  · exact m_x_load hs
  · exact m_x_load hs
  · exact m_x_load hs
  · exact m_x_load hs
  · exact m_x_load hs
  · exact m_x_store hs
  · exact m_x_store hs
  · exact m_x_store hs
  · exact m_x_store hs
  · exact m_x_iinc hs
  · exact m_x_bin hs
  · exact m_x_bin hs
  · exact m_x_bin hs
  · exact m_x_bin hs
  · exact m_x_bin hs
  · exact m_x_bin hs
  · exact m_x_bin hs
  · exact m_x_bin hs
  · exact m_x_bin hs
  · exact m_x_div hs
  · exact m_x_div hs
  · exact m_x_neg hs
  · exact m_x_lbin hs
  · exact m_x_lbin hs
  · exact m_x_lsh hs
  · exact m_x_lsh hs
  · exact m_x_i2l hs
  · exact m_x_l2i hs
  · exact m_x_dup hs
  · exact m_x_dup2 hs
  · exact m_x_pop hs
  · exact m_x_if hs
  · exact m_x_icmp hs
  · exact m_x_null hs
  · exact m_x_null hs
  · exact m_x_acmp hs
  · exact m_x_acmp hs
  · exact m_a_to hs
  · exact m_x_table hs
  · exact m_x_look hs
  · exact m_x_getf hs
  · exact m_x_putf hs
  · exact m_x_iald hs
  · exact m_x_iald hs
  · exact m_x_aald hs
  · exact m_x_iast hs
  · exact m_x_zast hs
  · exact m_x_aast hs
  · exact m_x_alen hs
  · exact m_x_newarr hs
  · exact m_x_newarr hs
  · exact m_x_anew hs
  · exact m_x_new hs
  · exact (i_x_inv hs).elim
  · exact m_x_obj (i_x_spec hs)
  · exact m_x_copy (i_x_stat hs)
  · exact (i_x_iret hs).elim
  · exact (i_x_aret hs).elim
  · exact (i_x_vret hs).elim
  · contradiction
set_option maxHeartbeats 4000000 in
theorem a_step_ok {d : Nat} {sc : Option (Nat × Nat × (Nat → Int32))} {ini : Bool} {ret : Option FieldType} {i : Instr} {len : Nat} (hx : p.tables.exec = Jvm.exec) (hb : c.code = cc) (hml : c.maxLocals = nL) (hown : s.vm.findClass (a_own o) = some m.cls) (hts : ∀ w ∈ a_tb, w.before args s = true) (hK : a_K D cA s) (hsc : a_scOk sc B s) (hini : ini = true → meth.name = "<init>") (hR1 : d + 1 ≤ R.frames) (hR2 : 300 + 100 * d ≤ R.locals) (hroom : a_nx h2 - a_nx h0 ≤ R.cells ∧ a_tot h2 - a_tot h0 ≤ R.slots) (hdg : decode cc pc = .ok (i, len)) (hs : a_step sc o ini ret pc i len ls st h = some (.inl (pc2, ls2, st2, h2))) (K : a_Ok p l e R s m args below meth c Q B cA D h0 nL pc2 ls2 st2 h2) : a_Ok p l e R s m args below meth c Q B cA D h0 nL pc ls st h := by
  unfold a_step at hs
  split at hs
  · exact s_iconst hx hb hdg hs K
  · exact s_bipush hx hb hdg hs K
  · exact s_sipush hx hb hdg hs K
  · exact s_null hx hb hdg hs K
  · exact s_ldc hx hb hown hts hdg hs K
  · exact s_ldcw hx hb hown hts hdg hs K
  · exact s_ldc2 hx hb hown hts hdg hs K
  · exact s_iload_n hx hb hdg hs K
  · exact s_iload hx hb hdg hs K
  · exact s_lload_n hx hb hdg hs K
  · exact s_lload hx hb hdg hs K
  · exact s_aload_n hx hb hdg hs K
  · exact s_aload hx hb hdg hs K
  · exact s_istore_n hx hb hdg hs K
  · exact s_istore hx hb hdg hs K
  · exact s_astore_n hx hb hdg hs K
  · exact s_astore hx hb hdg hs K
  · exact s_iinc hx hb hdg hs K
  · exact s_iadd hx hb hdg hs K
  · exact s_isub hx hb hdg hs K
  · exact s_imul hx hb hdg hs K
  · exact s_iand hx hb hdg hs K
  · exact s_ior hx hb hdg hs K
  · exact s_ixor hx hb hdg hs K
  · exact s_ishl hx hb hdg hs K
  · exact s_ishr hx hb hdg hs K
  · exact s_iushr hx hb hdg hs K
  · exact s_idiv hx hb hdg hs K
  · exact s_irem hx hb hdg hs K
  · exact s_ineg hx hb hdg hs K
  · exact s_land hx hb hdg hs K
  · exact s_lor hx hb hdg hs K
  · exact s_lshl hx hb hdg hs K
  · exact s_lshr hx hb hdg hs K
  · exact s_i2l hx hb hdg hs K
  · exact s_l2i hx hb hdg hs K
  · exact s_dup hx hb hdg hs K
  · exact s_dup2 hx hb hdg hs K
  · exact s_pop hx hb hdg hs K
  · rename_i q off
    cases q
    · exact s_if_eq hx hb hdg hs K
    · exact s_if_ne hx hb hdg hs K
    · exact s_if_lt hx hb hdg hs K
    · exact s_if_ge hx hb hdg hs K
    · exact s_if_gt hx hb hdg hs K
    · exact s_if_le hx hb hdg hs K
  · rename_i q off
    cases q
    · exact s_icmp_eq hx hb hdg hs K
    · exact s_icmp_ne hx hb hdg hs K
    · exact s_icmp_lt hx hb hdg hs K
    · exact s_icmp_ge hx hb hdg hs K
    · exact s_icmp_gt hx hb hdg hs K
    · exact s_icmp_le hx hb hdg hs K
  · exact s_ifnull hx hb hdg hs K
  · exact s_ifnonnull hx hb hdg hs K
  · exact s_acmp_eq hx hb hdg hs K
  · exact s_acmp_ne hx hb hdg hs K
  · exact s_goto hx hb hdg hs K
  · exact s_table hx hb hdg hs K
  · exact s_look hx hb hdg hs K
  · exact s_getf hx hb hown hts hK hdg hs K
  · exact s_putf hx hb hini hown hts hK hdg hs K
  · exact s_iaload hsc hx hb hK hdg hs K
  · exact s_baload hx hb hK hdg hs K
  · exact s_aaload hx hb hK hdg hs K
  · exact s_iastore hx hb hK hdg hs K
  · exact s_bastore hx hb hK hdg hs K
  · exact s_aastore hx hb hK hdg hs K
  · exact s_alen hsc hx hb hK hdg hs K
  · exact s_newint hx hb hts hK hroom hdg hs K
  · exact s_newbool hx hb hts hK hroom hdg hs K
  · exact s_anew hx hb hown hts hK hroom hdg hs K
  · exact s_new hx hb hown hts hK hroom hdg hs K
  · exact (i_x_inv hs).elim
  · exact s_obj hx hb hml hown hts (by omega) (by omega) hdg (i_x_spec hs) K
  · exact s_copy hx hb hml hown hts hK (by omega) (by omega) hdg (i_x_stat hs) K
  · exact (i_x_iret hs).elim
  · exact (i_x_aret hs).elim
  · exact (i_x_vret hs).elim
  · contradiction
set_option maxHeartbeats 4000000 in
theorem a_call_ok {d : Nat} {sc : Option (Nat × Nat × (Nat → Int32))} {ini : Bool} {ret : Option FieldType} {i : Instr} {len : Nat} (hx : p.tables.exec = Jvm.exec) (hb : c.code = cc) (hml : c.maxLocals = nL) (hown : s.vm.findClass (a_own o) = some m.cls) (hts : ∀ w ∈ a_tb, w.before args s = true) (hK : a_K D cA s) {mid : Nat} {as : List Value} {r : Option Value} (hR1 : d + 1 ≤ R.frames) (hR2 : 300 + 100 * d ≤ R.locals) (hcall : ∀ M, a_ms[mid]? = some M → a_Met l B cA D d M as h h1 r) (hroom : a_nx h1 - a_nx h0 ≤ R.cells ∧ a_tot h1 - a_tot h0 ≤ R.slots) (hm1 : a_nx h ≤ a_nx h1) (hm2 : a_tot h ≤ a_tot h1) (hdg : decode cc pc = .ok (i, len)) (hs : a_step sc o ini ret pc i len ls st h = some (.inr (.inl (mid, as, pc2, st2)))) (K : a_Ok p l e R s m args below meth c Q B cA D h0 nL pc2 ls (r.toList ++ st2) h1) : a_Ok p l e R s m args below meth c Q B cA D h0 nL pc ls st h := by
  unfold a_step at hs
  split at hs
  · exact (n_x_push hs).elim
  · exact (n_x_push hs).elim
  · exact (n_x_push hs).elim
  · exact (n_x_push hs).elim
  · exact (n_x_ldc hs).elim
  · exact (n_x_ldc hs).elim
  · exact (n_x_ldc2 hs).elim
  · exact (n_x_load hs).elim
  · exact (n_x_load hs).elim
  · exact (n_x_load hs).elim
  · exact (n_x_load hs).elim
  · exact (n_x_load hs).elim
  · exact (n_x_load hs).elim
  · exact (n_x_store hs).elim
  · exact (n_x_store hs).elim
  · exact (n_x_store hs).elim
  · exact (n_x_store hs).elim
  · exact (n_x_iinc hs).elim
  · exact (n_x_bin hs).elim
  · exact (n_x_bin hs).elim
  · exact (n_x_bin hs).elim
  · exact (n_x_bin hs).elim
  · exact (n_x_bin hs).elim
  · exact (n_x_bin hs).elim
  · exact (n_x_bin hs).elim
  · exact (n_x_bin hs).elim
  · exact (n_x_bin hs).elim
  · exact (n_x_div hs).elim
  · exact (n_x_div hs).elim
  · exact (n_x_neg hs).elim
  · exact (n_x_lbin hs).elim
  · exact (n_x_lbin hs).elim
  · exact (n_x_lsh hs).elim
  · exact (n_x_lsh hs).elim
  · exact (n_x_i2l hs).elim
  · exact (n_x_l2i hs).elim
  · exact (n_x_dup hs).elim
  · exact (n_x_dup2 hs).elim
  · exact (n_x_pop hs).elim
  · exact (n_x_if hs).elim
  · exact (n_x_icmp hs).elim
  · exact (n_x_null hs).elim
  · exact (n_x_null hs).elim
  · exact (n_x_acmp hs).elim
  · exact (n_x_acmp hs).elim
  · exact (n_a_to hs).elim
  · exact (n_x_table hs).elim
  · exact (n_x_look hs).elim
  · exact (n_x_getf hs).elim
  · exact (n_x_putf hs).elim
  · exact (n_x_iald hs).elim
  · exact (n_x_iald hs).elim
  · exact (n_x_aald hs).elim
  · exact (n_x_iast hs).elim
  · exact (n_x_zast hs).elim
  · exact (n_x_aast hs).elim
  · exact (n_x_alen hs).elim
  · exact (n_x_newarr hs).elim
  · exact (n_x_newarr hs).elim
  · exact (n_x_anew hs).elim
  · exact (n_x_new hs).elim
  · exact s_inv hx hb hml hown hts hK hR1 hR2 hcall hroom hm1 hm2 hdg hs K
  · exact s_invI hx hb hml hown hts hK hR1 hR2 hcall hroom hm1 hm2 hdg hs K
  · exact s_invS hx hb hml hown hts hK hR1 hR2 hcall hroom hm1 hm2 hdg hs K
  · exact (c_x_iret hs).elim
  · exact (c_x_aret hs).elim
  · exact (c_x_vret hs).elim
  · contradiction
theorem a_post_of (I : a_I B cA D h0 h s H locs) {r : Option Value} {as : Array Value} {t : State} (ht : t.heap = H) : a_Post B cA D h0 h r as s (.returned r) t := by
  obtain ⟨i1, i2, i3, i4, i5, i6, i7, i8, i9⟩ := I
  exact ⟨rfl, i3, i4, by rw [ht]; exact i6, i7, by rw [ht]; exact i8, by rw [ht]; exact i9.1, fun q q1 q2 => by rw [ht]; exact i9.2.1 q q1 q2⟩
theorem v_x_iret {ret : Option FieldType} {r : Option Value} {lsA : Array Slot} (hx : p.tables.exec = Jvm.exec) (hb : c.code = cc) (hr : meth.sig.returnType = ret) (hlocks : meth.locks = false) (hdg : decode cc pc = .ok (.ireturn, 1)) (hs : x_iret ret st = some (.inr (.inr r))) (I : a_I B cA D h0 h s H locs) : W p l e R s m args below meth c H locs (a_nx h - a_nx h0) (a_tot h - a_tot h0) (MQ below (a_Post B cA D h0 h r) args s (a_nx h - a_nx h0) (a_tot h - a_tot h0) (fun q => B ≤ q)) (F0 m pc lsA st) := by
  unfold x_iret at hs
  split at hs
  · cases hs
    exact W.iret hx hb hr (fun t ht _ => a_post_of I ht) (fun q hq => (a_S I).2.2 q hq) hdg
  · split at hs <;> try contradiction
    rename_i hv
    cases hs
    refine W.zret (ty := .boolean) hx hb hr ?_ (fun t ht _ => a_post_of I ht) (fun q hq => (a_S I).2.2 q hq) hdg
    rcases hv with rfl | rfl <;> rfl
  · contradiction
theorem v_x_aret {ret : Option FieldType} {r : Option Value} {lsA : Array Slot} (hx : p.tables.exec = Jvm.exec) (hb : c.code = cc) (hr : meth.sig.returnType = ret) (hlocks : meth.locks = false) (hdg : decode cc pc = .ok (.areturn, 1)) (hs : x_aret ret st = some (.inr (.inr r))) (I : a_I B cA D h0 h s H locs) : W p l e R s m args below meth c H locs (a_nx h - a_nx h0) (a_tot h - a_tot h0) (MQ below (a_Post B cA D h0 h r) args s (a_nx h - a_nx h0) (a_tot h - a_tot h0) (fun q => B ≤ q)) (F0 m pc lsA st) := by
  unfold x_aret at hs
  have hv : ∀ v : Value, a_isR v = true → v = .null ∨ ∃ a, v = .ref a := by
    intro v h
    cases v <;> simp [a_isR] at h
    · exact Or.inl rfl
    · exact Or.inr ⟨_, rfl⟩
  split at hs
  · split at hs <;> try contradiction
    rename_i h9
    cases hs
    exact W.aret hx hb hr (Or.inl ⟨_, rfl⟩) (hv _ h9) (fun t ht _ => a_post_of I ht) (fun q hq => (a_S I).2.2 q hq) hdg
  · split at hs <;> try contradiction
    rename_i h9
    cases hs
    exact W.aret hx hb hr (Or.inr ⟨_, rfl⟩) (hv _ h9) (fun t ht _ => a_post_of I ht) (fun q hq => (a_S I).2.2 q hq) hdg
  · contradiction
theorem v_x_vret {ret : Option FieldType} {r : Option Value} {lsA : Array Slot} (hx : p.tables.exec = Jvm.exec) (hb : c.code = cc) (hr : meth.sig.returnType = ret) (hlocks : meth.locks = false) (hdg : decode cc pc = .ok (.return_, 1)) (hs : x_vret ret st = some (.inr (.inr r))) (I : a_I B cA D h0 h s H locs) : W p l e R s m args below meth c H locs (a_nx h - a_nx h0) (a_tot h - a_tot h0) (MQ below (a_Post B cA D h0 h r) args s (a_nx h - a_nx h0) (a_tot h - a_tot h0) (fun q => B ≤ q)) (F0 m pc lsA st) := by
  unfold x_vret at hs
  split at hs <;> try contradiction
  cases hs
  exact W.vret hx hb hr (fun t ht _ => a_post_of I ht) (fun q hq => (a_S I).2.2 q hq) hdg
set_option maxHeartbeats 4000000 in
theorem a_ret_ok {sc : Option (Nat × Nat × (Nat → Int32))} {ini : Bool} {i : Instr} {len : Nat} {ret : Option FieldType} {r : Option Value} {lsA : Array Slot} (hx : p.tables.exec = Jvm.exec) (hb : c.code = cc) (hr : meth.sig.returnType = ret) (hlocks : meth.locks = false) (hdg : decode cc pc = .ok (i, len)) (hs : a_step sc o ini ret pc i len ls st h = some (.inr (.inr r))) (I : a_I B cA D h0 h s H locs) : W p l e R s m args below meth c H locs (a_nx h - a_nx h0) (a_tot h - a_tot h0) (MQ below (a_Post B cA D h0 h r) args s (a_nx h - a_nx h0) (a_tot h - a_tot h0) (fun q => B ≤ q)) (F0 m pc lsA st) := by
  unfold a_step at hs
  split at hs
  · exact (n_x_push hs).elim
  · exact (n_x_push hs).elim
  · exact (n_x_push hs).elim
  · exact (n_x_push hs).elim
  · exact (n_x_ldc hs).elim
  · exact (n_x_ldc hs).elim
  · exact (n_x_ldc2 hs).elim
  · exact (n_x_load hs).elim
  · exact (n_x_load hs).elim
  · exact (n_x_load hs).elim
  · exact (n_x_load hs).elim
  · exact (n_x_load hs).elim
  · exact (n_x_load hs).elim
  · exact (n_x_store hs).elim
  · exact (n_x_store hs).elim
  · exact (n_x_store hs).elim
  · exact (n_x_store hs).elim
  · exact (n_x_iinc hs).elim
  · exact (n_x_bin hs).elim
  · exact (n_x_bin hs).elim
  · exact (n_x_bin hs).elim
  · exact (n_x_bin hs).elim
  · exact (n_x_bin hs).elim
  · exact (n_x_bin hs).elim
  · exact (n_x_bin hs).elim
  · exact (n_x_bin hs).elim
  · exact (n_x_bin hs).elim
  · exact (n_x_div hs).elim
  · exact (n_x_div hs).elim
  · exact (n_x_neg hs).elim
  · exact (n_x_lbin hs).elim
  · exact (n_x_lbin hs).elim
  · exact (n_x_lsh hs).elim
  · exact (n_x_lsh hs).elim
  · exact (n_x_i2l hs).elim
  · exact (n_x_l2i hs).elim
  · exact (n_x_dup hs).elim
  · exact (n_x_dup2 hs).elim
  · exact (n_x_pop hs).elim
  · exact (n_x_if hs).elim
  · exact (n_x_icmp hs).elim
  · exact (n_x_null hs).elim
  · exact (n_x_null hs).elim
  · exact (n_x_acmp hs).elim
  · exact (n_x_acmp hs).elim
  · exact (n_a_to hs).elim
  · exact (n_x_table hs).elim
  · exact (n_x_look hs).elim
  · exact (n_x_getf hs).elim
  · exact (n_x_putf hs).elim
  · exact (n_x_iald hs).elim
  · exact (n_x_iald hs).elim
  · exact (n_x_aald hs).elim
  · exact (n_x_iast hs).elim
  · exact (n_x_zast hs).elim
  · exact (n_x_aast hs).elim
  · exact (n_x_alen hs).elim
  · exact (n_x_newarr hs).elim
  · exact (n_x_newarr hs).elim
  · exact (n_x_anew hs).elim
  · exact (n_x_new hs).elim
  · exact (r_x_inv hs).elim
  · exact (r_x_spec hs).elim
  · exact (r_x_stat hs).elim
  · exact v_x_iret hx hb hr hlocks hdg hs I
  · exact v_x_aret hx hb hr hlocks hdg hs I
  · exact v_x_vret hx hb hr hlocks hdg hs I
  · contradiction
theorem a_run_mono {call : Nat → List Value → AH → Option (Option Value × AH)} {sc : Option (Nat × Nat × (Nat → Int32))} {ini : Bool} {ret : Option FieldType} {r : Option Value} (hcall : ∀ mid as h r h', call mid as h = some (r, h') → a_nx h ≤ a_nx h' ∧ a_tot h ≤ a_tot h') :
    ∀ (n pc : Nat) (ls : AL) (st : List Value) (h : AH), a_run call sc o ini ret cc n pc ls st h = some (r, h1) → a_nx h ≤ a_nx h1 ∧ a_tot h ≤ a_tot h1 := by
  intro n
  induction n with
  | zero => intro pc ls st h hr; cases hr
  | succ n ih =>
    intro pc ls st h hr
    unfold a_run at hr
    split at hr <;> try contradiction
    split at hr <;> try contradiction
    · rename_i hs
      have g1 := a_step_mono hs
      have g2 := ih _ _ _ _ hr
      exact ⟨Nat.le_trans g1.1 g2.1, Nat.le_trans g1.2 g2.2⟩
    · split at hr <;> try contradiction
      rename_i hc
      have g1 := hcall _ _ _ _ _ hc
      have g2 := ih _ _ _ _ hr
      exact ⟨Nat.le_trans g1.1 g2.1, Nat.le_trans g1.2 g2.2⟩
    · cases hr
      exact ⟨Nat.le_refl _, Nat.le_refl _⟩
theorem a_run_ok {d : Nat} {call : Nat → List Value → AH → Option (Option Value × AH)} {sc : Option (Nat × Nat × (Nat → Int32))} {ini : Bool} {ret : Option FieldType} {r : Option Value} (hx : p.tables.exec = Jvm.exec) (hb : c.code = cc) (hml : c.maxLocals = nL) (hown : s.vm.findClass (a_own o) = some m.cls) (hts : ∀ w ∈ a_tb, w.before args s = true) (hK : a_K D cA s) (hsc : a_scOk sc B s) (hini : ini = true → meth.name = "<init>") (hR1 : d + 1 ≤ R.frames) (hR2 : 300 + 100 * d ≤ R.locals)
    (hcall : ∀ mid as h r h', call mid as h = some (r, h') → (a_nx h ≤ a_nx h' ∧ a_tot h ≤ a_tot h') ∧ ∀ M, a_ms[mid]? = some M → a_Met l B cA D d M as h h' r)
    (hroom : a_nx h1 - a_nx h0 ≤ R.cells ∧ a_tot h1 - a_tot h0 ≤ R.slots)
    (hfin : ∀ (pc : Nat) (i : Instr) (len : Nat) (ls : AL) (st : List Value), decode cc pc = .ok (i, len) → a_step sc o ini ret pc i len ls st h1 = some (.inr (.inr r)) → a_Ok p l e R s m args below meth c Q B cA D h0 nL pc ls st h1) :
    ∀ (n pc : Nat) (ls : AL) (st : List Value) (h : AH), a_run call sc o ini ret cc n pc ls st h = some (r, h1) → a_Ok p l e R s m args below meth c Q B cA D h0 nL pc ls st h := by
  intro n
  induction n with
  | zero => intro pc ls st h hr; cases hr
  | succ n ih =>
    intro pc ls st h hr
    unfold a_run at hr
    split at hr <;> try contradiction
    rename_i i len hdg
    split at hr <;> try contradiction
    · rename_i pc' ls' st' h' hs
      have g2 := a_run_mono (fun mid as h r h' q => (hcall mid as h r h' q).1) _ _ _ _ _ hr
      exact a_step_ok hx hb hml hown hts hK hsc hini hR1 hR2 ⟨by omega, by omega⟩ hdg hs (ih _ _ _ _ hr)
    · rename_i mid as pc' st' hs
      split at hr <;> try contradiction
      rename_i r' h' hc
      have g2 := a_run_mono (fun mid as h r h' q => (hcall mid as h r h' q).1) _ _ _ _ _ hr
      obtain ⟨g1, hM⟩ := hcall _ _ _ _ _ hc
      exact a_call_ok (d := d) hx hb hml hown hts hK hR1 hR2 hM ⟨by omega, by omega⟩ g1.1 g1.2 hdg hs (ih _ _ _ _ hr)
    · rename_i r' hs
      cases hr
      exact hfin _ _ _ _ _ hdg hs
theorem a_lookup_mem {l : List (Nat × Value)} {i : Nat} {v : Value} (h : l.lookup i = some v) : (i, v) ∈ l := by
  induction l with
  | nil => cases h
  | cons q t ih =>
    obtain ⟨j, w⟩ := q
    by_cases hj : i = j
    · subst hj
      simp at h
      subst h
      exact List.mem_cons_self
    · have : (i == j) = false := by simpa using hj
      simp [List.lookup, this] at h
      exact List.mem_cons_of_mem _ (ih h)
theorem a_init_has {lsA : Array Slot} {as : List Value} (hl : lv_has lsA nL (lv_args 0 as)) : lv_has lsA nL (a_as (a_init as nL)) := by
  refine ⟨hl.1, hl.2.1, fun q hq => hl.2.2 q ?_⟩
  obtain ⟨i, v⟩ := q
  have h1 := a_as_mem.mp hq
  unfold a_init at h1
  rw [List.getElem?_map] at h1
  by_cases hi : i < nL
  · rw [List.getElem?_range hi] at h1
    simp at h1
    exact a_lookup_mem h1
  · rw [List.getElem?_eq_none (by simp; omega)] at h1
    cases h1
/-- THE METHODS: what the machine in plain words does, the machine does -/
theorem a_meth_ok (l : Launch) (B : Nat) (cA : Nat → ClassId) (D : va_G) (fuel : Nat) : ∀ (d mid : Nat) (as : List Value) (h0 : AH) (r : Option Value) (h1 : AH), a_meth fuel d mid as h0 = some (r, h1) → (a_nx h0 ≤ a_nx h1 ∧ a_tot h0 ≤ a_tot h1) ∧ ∀ M, a_ms[mid]? = some M → a_Met l B cA D d M as h0 h1 r := by
  intro d
  induction d with
  | zero => intro mid as h0 r h1 hr; cases hr
  | succ d ih =>
    intro mid as h0 r h1 hr
    unfold a_meth at hr
    split at hr <;> try contradiction
    rename_i M hM
    split at hr <;> try contradiction
    rename_i hlen
    have hmono := a_run_mono (fun mid as h r h' q => (ih mid as h r h' q).1) _ _ _ _ _ hr
    refine ⟨hmono, fun M' hM' => ?_⟩
    cases hM.symm.trans hM'
    have hok := a_ms_ok _ (List.mem_of_getElem? hM)
    obtain ⟨m1, m2, m3, m4, m5, m6, m7⟩ := id hok
    unfold a_Met
    refine a_ofW (cc := M.2.2.1) (maxL := M.2.2.2.1) (ret := M.2.2.2.2.1) m3 rfl ?_
    intro p e s m args below meth c s₁ Bd hml hv
    obtain ⟨rfl, p1, p2, p3, p4, p5, p6⟩ := hv
    have hx := Bd.exec
    have hb := Bd.bytes
    have hr2 := Bd.returns
    have hts := atoms_spec (ws := Jvm.Cond.code M.2.1 M.2.2.1 M.2.2.2.1 M.2.2.2.2.1 :: a_tb) Bd.pre
    have hown : s.vm.findClass M.2.1.cls = some m.cls := findClass_of_methodNamed Bd.named
    have hin : meth.name = M.2.1.name := (name_of_methodNamed Bd.named Bd.method).1
    have hl := lv_entry as (n := M.2.2.2.1) hlen
    rw [lg_entry_eq]
    generalize ((lg_sl as ++ List.replicate (M.2.2.2.1 - (lg_sl as).length) Slot.unset).toArray) = lsA at hl ⊢
    have I : a_I B cA D h0 h0 s s.heap [] := ⟨p1, p2, Nat.le_refl _, Nat.le_refl _, p3, p3, p4, p5, va_S.rf⟩
    have hrun := a_run_ok (p := p) (l := l) (e := e) (R := a_rm (d + 1) (a_nx h1 - a_nx h0) (a_tot h1 - a_tot h0)) (s := s) (m := m) (args := as.toArray) (below := below) (meth := meth) (c := c) (Q := MQ below (a_Post B cA D h0 h1 r) as.toArray s (a_nx h1 - a_nx h0) (a_tot h1 - a_tot h0) (fun q => B ≤ q)) (B := B) (cA := cA) (D := D) (h0 := h0) (nL := M.2.2.2.1) (d := d)
      hx hb hml (by rw [m2]; exact hown) (fun w hw => hts w (List.mem_cons_of_mem _ hw)) p6 (fun b L xs q => by cases q) (fun q => by rw [hin]; exact (m6 q).1) (Nat.le_refl _) (by show 300 + 100 * d ≤ 200 + 100 * (d + 1); omega) (fun mid as h r h' q => ih mid as h r h' q) ⟨Nat.le_refl _, Nat.le_refl _⟩
      (fun pc i len ls st hdg hs H locs lsA I _ _ => a_ret_ok hx hb hr2 Bd.notSynchronized hdg hs I) fuel 0 (a_init as M.2.2.2.1) [] h0 hr
    have hw := hrun s.heap [] lsA I (by unfold a_init; simp) (a_init_has hl)
    rw [Nat.sub_self, Nat.sub_self] at hw
    exact hw
end AS6
end
section
/-! THE CLAIM OUT OF ONE WALK OF THE LAW'S BODY. Your part is whole_start (and what it stands on); all else here is the same for every law, but numbers. -/
def R_law : String := "BeamHallLaw"
def lw_P (b : Addr) (xs : List Int32) (args : Array Value) (s : State) : Prop := args = #[.ref b] ∧ s.IntsAt b xs ∧ xs.length ≤ 4096 ∧ (Jvm.Cond.and given_1 narrow_1).before args s = true
def lw_Q (_ : Array Value) (s : State) (o : Outcome) (t : State) : Prop := o = .returned (some (.int 1)) ∧ Framed s o t [] 600000 7302250
def lw_Z (below : List Frame) (a : Array Value) (s : State) : State → Prop := fun t => ∃ o, t.status = .running ∧ Ended t below o ∧ lw_Q a s o t
/-- the law's own end, with 1 on the stack, nothing written that was there before, its room as the claim has it -/
theorem lw_ret {p : Program} {l : Launch} {e : Env} {s : State} {m : MethodId} {below : List Frame} {meth : Method} {c : Code} {b : Nat} (hx : p.tables.exec = Jvm.exec) (hb : c.code = code) (hr : meth.sig.returnType = ret) (hlocks : meth.locks = false) {pc : Nat} {H : Heap} {ls : Array Slot} (hdg : decode code pc = .ok (.ireturn, 1)) : W p l e room_1 s m #[Value.ref b] below meth c H [] 600000 7302250 (lw_Z below #[Value.ref b] s) (F0 m pc ls [.int 1]) := by
  intro T hT X
  obtain ⟨fs, hret, hrun, hended, hW, hframe⟩ := X.leave (v := some (.int 1)) (hlocks := hlocks) (fun h => by rw [hr] at h; cases h)
  have hmeth' : T.vm.method? m = some meth := X.method'
  refine ⟨T.setFrames fs, ?_, .returned (some (.int 1)), hrun, hended, rfl, ⟨_, rfl⟩, hW, hframe⟩
  jvm_step X.here [X.here.top, hx, hb, hdg, hmeth', hr, ret, narrow_b1]
  (try refine ⟨rfl, ?_⟩); (try refine ⟨rfl, ?_⟩)
  first | (intro acts; rw [hret _ acts rfl rfl rfl]) | rw [hret _ _ rfl rfl rfl]
  exact Steps.refl _
/-- what holds at the law's entry: the machine, the code, the tables' words (any of lw_tbl by 'hts w (by decide +kernel)'), the script of L ints xs at the cell b, what the Statement gives of the start (any of its parts by flat_of_before) -/
def lw_At (p : Program) (s : State) (m : MethodId) (meth : Method) (c : Code) (b L : Nat) (xs : Nat → Int32) : Prop :=
  p.tables.exec = Jvm.exec ∧ c.code = code ∧ meth.sig.returnType = ret ∧ c.maxLocals = 4 ∧ s.vm.findClass R_law = some m.cls ∧ (∀ w ∈ lw_tbl, w.before #[Value.ref b] s = true) ∧ va_X b L xs s s.heap ∧ b < s.heap.size ∧ meth.locks = false ∧ (Jvm.Cond.and given_1 narrow_1).before #[Value.ref b] s = true
/-! THE LAW over the plain machine -/
def a_h0 (B : Nat) : AH := (B, 0, fun _ => 0, fun _ => 0, fun _ _ => 0, fun _ _ => 0)
theorem a_choice {α β : Type} {P : α → β → Prop} (h : ∀ a, ∃ b, P a b) : ∃ f : α → β, ∀ a, P a (f a) := ⟨fun a => Classical.choose (h a), fun a => Classical.choose_spec (h a)⟩
theorem a_arrT {s : State} {cA comp : ClassId} {k : Class} {ty : FieldType} (h1 : s.vm.classes[cA]? = some k) (h2 : k.kind = .array comp ty) : ArrOfT s cA ty := fun n z => ⟨fun q hq => (by cases hq), k, h1, comp, h2⟩
set_option maxHeartbeats 4000000 in
theorem a_worlds {s : State} {args : Array Value} (hts : ∀ w ∈ lw_tbl, w.before args s = true) : ∃ (D : va_G) (cA : Nat → ClassId), a_K D cA s := by
  have hgood : ∀ w ∈ a_tb, w.before args s = true := fun w hw => hts w (a_tb_sub hw)
  have h1 : ∀ k : Nat, ∃ q : ClassId × (Nat → Nat), ∀ r : vw_C, vwCl[k]? = some r → u_Kn s r.1 r.2.1 r.2.2 q.1 q.2 := by
    intro k
    cases hk : vwCl[k]? with
    | none => exact ⟨(0, fun _ => 0), fun r h => by cases h⟩
    | some r =>
      obtain ⟨v1, v2, v3, v4, v5, -⟩ := a_vw _ _ hk
      obtain ⟨c, iS, hc⟩ := u_known hgood v1 (hgood _ v4)
      exact ⟨(c, iS), fun r' h => by cases h; exact hc⟩
  obtain ⟨F, hF⟩ := a_choice h1
  have hi : ∃ c : ClassId, ArrOfT s c .int ∧ va_RA s c .int := by
    obtain ⟨c, k, comp, q1, q2, q3⟩ := Cond.arrayClass_spec (show (Jvm.Cond.arrayClass .int).before args s = true from hgood _ a_arr_i)
    exact ⟨c, a_arrT q2 q3, q1⟩
  have hz : ∃ c : ClassId, ArrOfT s c .boolean ∧ va_RA s c .boolean := by
    obtain ⟨c, k, comp, q1, q2, q3⟩ := Cond.arrayClass_spec (show (Jvm.Cond.arrayClass .boolean).before args s = true from hgood _ a_arr_z)
    exact ⟨c, a_arrT q2 q3, q1⟩
  have ho : ∀ k : Nat, ∃ c : ClassId, k ∈ a_aks → ArrOfT s c (.object (a_own k)) ∧ va_RA s c (.object (a_own k)) := by
    intro k
    by_cases hk : k ∈ a_aks
    · obtain ⟨comp, c, kk, q1, q2, q3, q4, q5⟩ := Cond.arrayOver_spec (show (Jvm.Cond.arrayOver (.object (a_own k))).before args s = true from hts _ (a_aks_ok k hk))
      exact ⟨c, fun _ => ⟨a_arrT q3 q4, kk, comp, q3, q4, q1, q5⟩⟩
    · exact ⟨0, fun h => absurd h hk⟩
  obtain ⟨ci, hi⟩ := hi
  obtain ⟨cz, hz⟩ := hz
  obtain ⟨co, hco⟩ := a_choice ho
  refine ⟨(fun k => (F k).1, fun k => (F k).2), (fun n => if n = 20 then ci else if n = 21 then cz else co (n - 22)), ⟨fun k r h => hF k r h, fun k q h => ?_⟩, fun k hk => va_AO.of (hts _ (a_aks_ok k hk)), fun q hq => ?_⟩
  rotate_left
  · obtain ⟨M, hM, -, -, hw⟩ := a_ns_ok _ hq
    unfold a_nestWord
    rw [hM]
    exact va_Nw.of rfl (hts _ hw)
  have hm := List.mem_of_getElem? h
  unfold a_tys at hm
  rcases List.mem_cons.mp hm with rfl | hm
  · exact hi
  · rcases List.mem_cons.mp hm with rfl | hm
    · exact hz
    · obtain ⟨j, hj, rfl⟩ := List.mem_map.mp hm
      have e1 : (if 22 + j = 20 then ci else if 22 + j = 21 then cz else co (22 + j - 22)) = co j := by
        rw [if_neg (by omega), if_neg (by omega), show 22 + j - 22 = j by omega]
      show ArrOfT s (if 22 + j = 20 then ci else if 22 + j = 21 then cz else co (22 + j - 22)) _ ∧ va_RA s (if 22 + j = 20 then ci else if 22 + j = 21 then cz else co (22 + j - 22)) _
      rw [e1]
      exact hco j hj
/-- the end of the law: 1 on the stack -/
theorem a_lawret {sc : Option (Nat × Nat × (Nat → Int32))} {pc : Nat} {i : Instr} {len : Nat} {ls : AL} {st : List Value} {h : AH} {cc : ByteArray} (hdg : decode cc pc = .ok (i, len)) (hs : a_step sc 13 false (some .boolean) pc i len ls st h = some (.inr (.inr (some (.int 1))))) : st = [.int 1] ∧ decode cc pc = .ok (.ireturn, 1) := by
  unfold a_step at hs
  split at hs
  · exact (n_x_push hs).elim
  · exact (n_x_push hs).elim
  · exact (n_x_push hs).elim
  · exact (n_x_push hs).elim
  · exact (n_x_ldc hs).elim
  · exact (n_x_ldc hs).elim
  · exact (n_x_ldc2 hs).elim
  · exact (n_x_load hs).elim
  · exact (n_x_load hs).elim
  · exact (n_x_load hs).elim
  · exact (n_x_load hs).elim
  · exact (n_x_load hs).elim
  · exact (n_x_load hs).elim
  · exact (n_x_store hs).elim
  · exact (n_x_store hs).elim
  · exact (n_x_store hs).elim
  · exact (n_x_store hs).elim
  · exact (n_x_iinc hs).elim
  · exact (n_x_bin hs).elim
  · exact (n_x_bin hs).elim
  · exact (n_x_bin hs).elim
  · exact (n_x_bin hs).elim
  · exact (n_x_bin hs).elim
  · exact (n_x_bin hs).elim
  · exact (n_x_bin hs).elim
  · exact (n_x_bin hs).elim
  · exact (n_x_bin hs).elim
  · exact (n_x_div hs).elim
  · exact (n_x_div hs).elim
  · exact (n_x_neg hs).elim
  · exact (n_x_lbin hs).elim
  · exact (n_x_lbin hs).elim
  · exact (n_x_lsh hs).elim
  · exact (n_x_lsh hs).elim
  · exact (n_x_i2l hs).elim
  · exact (n_x_l2i hs).elim
  · exact (n_x_dup hs).elim
  · exact (n_x_dup2 hs).elim
  · exact (n_x_pop hs).elim
  · exact (n_x_if hs).elim
  · exact (n_x_icmp hs).elim
  · exact (n_x_null hs).elim
  · exact (n_x_null hs).elim
  · exact (n_x_acmp hs).elim
  · exact (n_x_acmp hs).elim
  · exact (n_a_to hs).elim
  · exact (n_x_table hs).elim
  · exact (n_x_look hs).elim
  · exact (n_x_getf hs).elim
  · exact (n_x_putf hs).elim
  · exact (n_x_iald hs).elim
  · exact (n_x_iald hs).elim
  · exact (n_x_aald hs).elim
  · exact (n_x_iast hs).elim
  · exact (n_x_zast hs).elim
  · exact (n_x_aast hs).elim
  · exact (n_x_alen hs).elim
  · exact (n_x_newarr hs).elim
  · exact (n_x_newarr hs).elim
  · exact (n_x_anew hs).elim
  · exact (n_x_new hs).elim
  · exact (r_x_inv hs).elim
  · exact (r_x_spec hs).elim
  · exact (r_x_stat hs).elim
  · unfold x_iret at hs
    split at hs
    · rename_i q
      cases q
    · split at hs <;> try contradiction
      cases hs
      exact ⟨rfl, hdg⟩
    · contradiction
  · unfold x_aret at hs
    split at hs
    · rename_i q
      cases q
    · rename_i q
      cases q
    · contradiction
  · unfold x_vret at hs
    split at hs <;> contradiction
  · contradiction
/-- the law's claim, of the plain machine alone -/
def a_Pure : Prop := ∀ (B b L : Nat) (xs : Nat → Int32), b < B → L ≤ 4096 → ∃ (fuel : Nat) (h1 : AH), a_run (a_meth fuel 700) (some (b, L, xs)) 13 false (some .boolean) code fuel 0 (a_init [.ref b] 4) [] (a_h0 B) = some (some (.int 1), h1) ∧ a_nx h1 ≤ B + 600000 ∧ a_tot h1 ≤ 7302250
set_option maxHeartbeats 4000000 in
theorem a_start (hpure : a_Pure) {p : Program} {e : Env} {s : State} {m : MethodId} {below : List Frame} {meth : Method} {c : Code} (l : Launch) {b L : Nat} {xs : Nat → Int32} (hL : L ≤ 4096) (C0 : lw_At p s m meth c b L xs) : W p l e room_1 s m #[Value.ref b] below meth c s.heap [] 0 0 (lw_Z below #[Value.ref b] s) (entryFrame m ([Value.ref b] : List Value).toArray 4) := by
  obtain ⟨hx, hb, hr, hml, hown, hts, hX, hbl, hlocks, hgv⟩ := id C0
  obtain ⟨D, cA, hK⟩ := a_worlds hts
  obtain ⟨fuel, h1, hrun, hn, ht⟩ := hpure s.heap.size b L xs hbl hL
  have hl := lv_entry ([.ref b]) (n := 4) (Nat.le_of_ble_eq_true rfl)
  rw [lg_entry_eq]
  generalize (lg_sl ([.ref b]) ++ List.replicate (4 - (lg_sl ([.ref b])).length) Slot.unset).toArray = lsA at hl ⊢
  have I : a_I s.heap.size cA D (a_h0 s.heap.size) (a_h0 s.heap.size) s s.heap [] := by
    refine ⟨by omega, Nat.le_refl _, Nat.le_refl _, Nat.le_refl _, rfl, rfl, fun a ha => absurd rfl ha, ?_, va_S.rf⟩
    intro k q hq
    rw [a_ws_at] at hq
    have : ¬ k < a_nx (a_h0 s.heap.size) - s.heap.size := by show ¬ k < s.heap.size - s.heap.size; omega
    rw [if_neg this] at hq
    cases hq
  have hcallok : ∀ mid as h r h', a_meth fuel 700 mid as h = some (r, h') → (a_nx h ≤ a_nx h' ∧ a_tot h ≤ a_tot h') ∧ ∀ M, a_ms[mid]? = some M → a_Met l s.heap.size cA D 700 M as h h' r := fun mid as h r h' q => a_meth_ok l s.heap.size cA D fuel 700 mid as h r h' q
  have hrunok := a_run_ok (p := p) (l := l) (e := e) (R := room_1) (s := s) (m := m) (args := #[Value.ref b]) (below := below) (meth := meth) (c := c) (Q := lw_Z below #[Value.ref b] s) (B := s.heap.size) (cA := cA) (D := D) (h0 := a_h0 s.heap.size) (h1 := h1) (nL := 4) (d := 700) (o := 13)
    hx hb hml hown (fun w hw => hts w (a_tb_sub hw)) hK (fun b' L' xs' q => by cases q; exact ⟨hX, hbl, hbl⟩) (fun q => by cases q) (by decide) (by decide) hcallok ⟨by show a_nx h1 - s.heap.size ≤ 600000; omega, by show a_tot h1 - 0 ≤ 7302250; omega⟩
    (fun pc i len ls st hdg hs H locs lsA I hL2 hl2 => by
      obtain ⟨rfl, hd2⟩ := a_lawret hdg hs
      refine va_forget (fun q hq => I.2.2.2.2.2.2.2.2.2.2 q hq) ?_
      refine W.widen (k := 600000) (n := 7302250) (by show a_nx h1 - s.heap.size ≤ 600000; omega) (by show a_tot h1 - 0 ≤ 7302250; omega) ?_
      exact lw_ret hx hb hr hlocks hd2) fuel 0 (a_init [.ref b] 4) [] (a_h0 s.heap.size) hrun
  have hw := hrunok s.heap [] lsA I rfl (a_init_has hl)
  rw [Nat.sub_self, Nat.sub_self] at hw
  exact hw
end
section
/-! THE PLAIN MACHINE'S OWN RULES: more fuel changes nothing; what a place and a method come to -/
theorem a_run_more {call call' : Nat → List Value → AH → Option (Option Value × AH)} {sc : Option (Nat × Nat × (Nat → Int32))} {o : Nat} {ini : Bool} {ret : Option FieldType} {cc : ByteArray} (hc : ∀ mid as h q, call mid as h = some q → call' mid as h = some q) :
    ∀ (n n' pc : Nat) (ls : AL) (st : List Value) (h : AH) (q : Option Value × AH), n ≤ n' → a_run call sc o ini ret cc n pc ls st h = some q → a_run call' sc o ini ret cc n' pc ls st h = some q := by
  intro n
  induction n with
  | zero => intro n' pc ls st h q _ hr; cases hr
  | succ n ih =>
    intro n' pc ls st h q hn hr
    obtain ⟨k, rfl⟩ : ∃ k, n' = k + 1 := ⟨n' - 1, by omega⟩
    rw [a_run] at hr ⊢
    revert hr
    cases hd : decode cc pc with
    | error e => intro hr; cases hr
    | ok p =>
      obtain ⟨i, len⟩ := p
      show (match a_step sc o ini ret pc i len ls st h with
        | some (.inl (pc', ls', st', h')) => a_run call sc o ini ret cc n pc' ls' st' h'
        | some (.inr (.inl (mid, as, pc', st'))) => match call mid as h with
          | some (r, h') => a_run call sc o ini ret cc n pc' ls (r.toList ++ st') h'
          | none => none
        | some (.inr (.inr r)) => some (r, h)
        | none => none) = some q → (match a_step sc o ini ret pc i len ls st h with
        | some (.inl (pc', ls', st', h')) => a_run call' sc o ini ret cc k pc' ls' st' h'
        | some (.inr (.inl (mid, as, pc', st'))) => match call' mid as h with
          | some (r, h') => a_run call' sc o ini ret cc k pc' ls (r.toList ++ st') h'
          | none => none
        | some (.inr (.inr r)) => some (r, h)
        | none => none) = some q
      cases hs : a_step sc o ini ret pc i len ls st h with
      | none => intro hr; cases hr
      | some z =>
        obtain ⟨pc', ls', st', h'⟩ | ⟨mid, as, pc', st'⟩ | r := z
        · exact fun hr => ih _ _ _ _ _ _ (by omega) hr
        · show (match call mid as h with
            | some (r, h') => a_run call sc o ini ret cc n pc' ls (r.toList ++ st') h'
            | none => none) = some q → (match call' mid as h with
            | some (r, h') => a_run call' sc o ini ret cc k pc' ls (r.toList ++ st') h'
            | none => none) = some q
          cases hcl : call mid as h with
          | none => intro hr; cases hr
          | some z =>
            rw [hc _ _ _ _ hcl]
            exact fun hr => ih _ _ _ _ _ _ (by omega) hr
        · exact fun hr => hr
theorem a_meth_more : ∀ (d mid : Nat) (as : List Value) (h : AH) (q : Option Value × AH) (f f' : Nat), f ≤ f' → a_meth f d mid as h = some q → a_meth f' d mid as h = some q := by
  intro d
  induction d with
  | zero => intro mid as h q f f' _ hr; cases hr
  | succ d ih =>
    intro mid as h q f f' hf hr
    unfold a_meth at hr ⊢
    split at hr <;> try contradiction
    rename_i M hM
    try simp only [hM]
    split at hr <;> try contradiction
    rename_i hl
    rw [if_pos hl]
    exact a_run_more (fun mid as h q => ih mid as h q f f' hf) _ _ _ _ _ _ _ hf hr
/-- a method, called d deep at most, comes to its end with P -/
def a_does (d mid : Nat) (as : List Value) (h : AH) (P : Option Value → AH → Prop) : Prop := ∃ (f : Nat) (r : Option Value) (h' : AH), a_meth f d mid as h = some (r, h') ∧ P r h'
/-- from this place a body comes to its end with P; x: the script, the owner, constructor or not, what it returns, the code -/
abbrev a_X : Type := Option (Nat × Nat × (Nat → Int32)) × Nat × Bool × Option FieldType × ByteArray
def a_at (d : Nat) (x : a_X) (pc : Nat) (ls : AL) (st : List Value) (h : AH) (P : Option Value → AH → Prop) : Prop := ∃ (f n : Nat) (r : Option Value) (h' : AH), a_run (a_meth f d) x.1 x.2.1 x.2.2.1 x.2.2.2.1 x.2.2.2.2 n pc ls st h = some (r, h') ∧ P r h'
theorem a_at_iff {d : Nat} {x : a_X} {pc : Nat} {ls : AL} {st : List Value} {h : AH} {P : Option Value → AH → Prop} {i : Instr} {len : Nat} (hd : decode x.2.2.2.2 pc = .ok (i, len)) : a_at d x pc ls st h P ↔ (match a_step x.1 x.2.1 x.2.2.1 x.2.2.2.1 pc i len ls st h with
    | some (.inl (pc', ls', st', h')) => a_at d x pc' ls' st' h' P
    | some (.inr (.inl (mid, as, pc', st'))) => a_does d mid as h (fun r h' => a_at d x pc' ls (r.toList ++ st') h' P)
    | some (.inr (.inr r)) => P r h
    | none => False) := by
  constructor
  · rintro ⟨f, n, r, h', hr, hP⟩
    cases n with
    | zero => cases hr
    | succ n =>
      unfold a_run at hr
      simp only [hd] at hr
      split at hr <;> try contradiction
      · rename_i hs
        try simp only [hs]
        exact ⟨f, n, r, h', hr, hP⟩
      · rename_i hs
        try simp only [hs]
        split at hr <;> try contradiction
        rename_i r1 h1 hc
        exact ⟨f, r1, h1, hc, f, n, r, h', hr, hP⟩
      · rename_i hs
        try simp only [hs]
        cases hr
        exact hP
  · intro hm
    split at hm
    · rename_i hs
      obtain ⟨f, n, r, h', hr, hP⟩ := hm
      refine ⟨f, n + 1, r, h', ?_, hP⟩
      unfold a_run
      simp only [hd, hs]
      exact hr
    · rename_i mid as pc' st' hs
      obtain ⟨f1, r1, h1, hc, f, n, r, h', hr, hP⟩ := hm
      refine ⟨max f1 f, n + 1, r, h', ?_, hP⟩
      unfold a_run
      simp only [hd, hs, a_meth_more _ _ _ _ _ f1 (max f1 f) (by omega) hc]
      exact a_run_more (fun mid as h q => a_meth_more _ mid as h q f (max f1 f) (by omega)) _ _ _ _ _ _ _ (Nat.le_refl _) hr
    · rename_i r hs
      refine ⟨0, 1, r, h, ?_, hm⟩
      unfold a_run
      simp only [hd, hs]
    · exact hm.elim
def a_xm (M : a_M) : a_X := (none, M.1, M.2.2.2.2.2.2, M.2.2.2.2.1, M.2.2.1)
theorem a_enter {d mid : Nat} {as : List Value} {h : AH} {P : Option Value → AH → Prop} {M : a_M} (hM : a_ms[mid]? = some M) (hl : (lg_sl as).length ≤ M.2.2.2.1) : a_does (d + 1) mid as h P ↔ a_at d (a_xm M) 0 (a_init as M.2.2.2.1) [] h P := by
  constructor
  · rintro ⟨f, r, h', hr, hP⟩
    unfold a_meth at hr
    simp only [hM] at hr
    rw [if_pos hl] at hr
    exact ⟨f, f, r, h', hr, hP⟩
  · rintro ⟨f, n, r, h', hr, hP⟩
    refine ⟨max f n, r, h', ?_, hP⟩
    unfold a_meth
    try simp only [hM]
    rw [if_pos hl]
    exact a_run_more (fun mid as h q => a_meth_more _ mid as h q f (max f n) (by omega)) n (max f n) _ _ _ _ _ (by omega) hr
theorem a_does.weaken {d mid : Nat} {as : List Value} {h : AH} {P P' : Option Value → AH → Prop} (hd : a_does d mid as h P) (hP : ∀ r h', P r h' → P' r h') : a_does d mid as h P' := by
  obtain ⟨f, r, h', hr, hp⟩ := hd
  exact ⟨f, r, h', hr, hP _ _ hp⟩
theorem a_at.weaken {d : Nat} {x : a_X} {pc : Nat} {ls : AL} {st : List Value} {h : AH} {P P' : Option Value → AH → Prop} (hd : a_at d x pc ls st h P) (hP : ∀ r h', P r h' → P' r h') : a_at d x pc ls st h P' := by
  obtain ⟨f, n, r, h', hr, hp⟩ := hd
  exact ⟨f, n, r, h', hr, hP _ _ hp⟩
/-- deeper calls are allowed more -/
theorem a_meth_deeper : ∀ (d d' mid : Nat) (as : List Value) (h : AH) (q : Option Value × AH) (f : Nat), d ≤ d' → a_meth f d mid as h = some q → a_meth f d' mid as h = some q := by
  intro d
  induction d with
  | zero => intro d' mid as h q f _ hr; cases hr
  | succ d ih =>
    intro d' mid as h q f hdd hr
    obtain ⟨k, rfl⟩ : ∃ k, d' = k + 1 := ⟨d' - 1, by omega⟩
    unfold a_meth at hr ⊢
    split at hr <;> try contradiction
    rename_i M hM
    try simp only [hM]
    split at hr <;> try contradiction
    rename_i hl
    rw [if_pos hl]
    exact a_run_more (fun mid as h q => ih k mid as h q f (by omega)) _ _ _ _ _ _ _ (Nat.le_refl _) hr
theorem a_does.deeper {d d' mid : Nat} {as : List Value} {h : AH} {P : Option Value → AH → Prop} (hd : a_does d mid as h P) (hdd : d ≤ d') : a_does d' mid as h P := by
  obtain ⟨f, r, h', hr, hp⟩ := hd
  exact ⟨f, r, h', a_meth_deeper _ _ _ _ _ _ _ hdd hr, hp⟩
theorem a_pure_of (hp : ∀ (B b L : Nat) (xs : Nat → Int32), b < B → L ≤ 4096 → a_at 700 (some (b, L, xs), 13, false, some .boolean, code) 0 (a_init [.ref b] 4) [] (a_h0 B) (fun r h1 => r = some (.int 1) ∧ a_nx h1 ≤ B + 600000 ∧ a_tot h1 ≤ 7302250)) : a_Pure := by
  intro B b L xs hb hL
  obtain ⟨f, n, r, h1, hr, rfl, hn, ht⟩ := hp B b L xs hb hL
  exact ⟨max f n, h1, a_run_more (fun mid as h q => a_meth_more _ mid as h q f (max f n) (by omega)) n (max f n) _ _ _ _ _ (by omega) hr, hn, ht⟩
-- trial of tactics
theorem tr_1 (s : Int32) (h1 : 0 ≤ s) (h2 : s < 200) : s + 1 ≤ 200 := by grind
theorem tr_2 (a b : Int32) (h1 : 0 ≤ a) (h2 : a ≤ 30) (h3 : 0 ≤ b) (h4 : b < 4) : 4 * a + b < 200 := by grind
theorem tr_4 (a b : Int32) (h1 : ¬ b < 0) (h2 : ¬ 1600 - a < b) (h3 : 0 ≤ a) (h4 : a ≤ 1600) : a + b ≤ 1600 := by grind
end

/-! A MACHINE IN PLAIN WORDS: the instructions of this claim over a heap of functions; below it is held by the machine itself, once for all methods -/
/-- the next address, the slots made so far, the kind of a cell (0 none; c + 1 an object of the owner c; 20 ints, 21 booleans, 22 + c references to objects of c), an array's length, ints, references (0 none) -/
abbrev AH : Type := Nat × Nat × (Nat → Nat) × (Nat → Nat) × (Nat → Nat → Int32) × (Nat → Nat → Nat)
abbrev AL : Type := List (Option Value)
def a_nx (h : AH) : Nat := h.1
def a_tot (h : AH) : Nat := h.2.1
def a_kd (h : AH) : Nat → Nat := h.2.2.1
def a_ln (h : AH) : Nat → Nat := h.2.2.2.1
def a_iv (h : AH) : Nat → Nat → Int32 := h.2.2.2.2.1
def a_rv (h : AH) : Nat → Nat → Nat := h.2.2.2.2.2
def a_rf (r : Nat) : Value := if r = 0 then .null else .ref r
def a_op (r : Nat) : Option Nat := if r = 0 then none else some r
def a_up (f : Nat → Nat) (a v : Nat) : Nat → Nat := fun x => if x = a then v else f x
def a_ui (f : Nat → Nat → Int32) (a k : Nat) (v : Int32) : Nat → Nat → Int32 := fun x j => if x = a ∧ j = k then v else f x j
def a_ur (f : Nat → Nat → Nat) (a k : Nat) (v : Nat) : Nat → Nat → Nat := fun x j => if x = a ∧ j = k then v else f x j
def a_setI (h : AH) (a k : Nat) (v : Int32) : AH := (a_nx h, a_tot h, a_kd h, a_ln h, a_ui (a_iv h) a k v, a_rv h)
def a_setR (h : AH) (a k v : Nat) : AH := (a_nx h, a_tot h, a_kd h, a_ln h, a_iv h, a_ur (a_rv h) a k v)
/-- a new cell of a kind, of N slots -/
def a_mk (h : AH) (kind N : Nat) : AH := (a_nx h + 1, a_tot h + N, a_up (a_kd h) (a_nx h) kind, a_up (a_ln h) (a_nx h) N, (fun x j => if x = a_nx h then 0 else a_iv h x j), (fun x j => if x = a_nx h then 0 else a_rv h x j))
def a_copy (h : AH) (a b sp dp n : Nat) : AH := (a_nx h, a_tot h, a_kd h, a_ln h, (fun x j => if x = b then va_cpy (a_iv h a) (a_iv h b) sp dp n j else a_iv h x j), a_rv h)
/-- where the instruction leads: on, into a method (its number, what it is given, the pc behind, the stack left), or out -/
abbrev AR : Type := (Nat × AL × List Value × AH) ⊕ ((Nat × List Value × Nat × List Value) ⊕ (Option Value))
def a_go (pc : Nat) (ls : AL) (st : List Value) (h : AH) : Option AR := some (.inl (pc, ls, st, h))
def a_in (i : Int32) (n : Nat) : Prop := ¬ (i < 0 ∨ n ≤ i.toNatClampNeg)
def x_load (k pc' : Nat) (ls : AL) (st : List Value) (h : AH) (want : Value → Bool) : Option AR :=
  match ls[k]? with
  | some (some v) => if want v = true then a_go pc' ls (v :: st) h else none
  | _ => none
def a_isI : Value → Bool
  | .int _ => true
  | _ => false
def a_isL : Value → Bool
  | .long _ => true
  | _ => false
def a_isR : Value → Bool
  | .ref _ => true
  | .null => true
  | _ => false
/-- no long begins just ahead of place k -/
def a_clear (ls : AL) (k : Nat) : Bool := match k with
  | 0 => true
  | j + 1 => match ls[j]? with
    | some (some v) => v.category == 1
    | _ => true
def x_store (k pc' : Nat) (ls : AL) (st : List Value) (h : AH) (want : Value → Bool) : Option AR :=
  match st with
  | v :: st => if want v = true ∧ k < ls.length ∧ a_clear ls k = true then a_go pc' (ls.set k (some v)) st h else none
  | _ => none
def x_iinc (k : Nat) (n : Int) (pc' : Nat) (ls : AL) (st : List Value) (h : AH) : Option AR :=
  match ls[k]? with
  | some (some (.int x)) => if a_clear ls k = true then a_go pc' (ls.set k (some (.int (x + Int32.ofInt n)))) st h else none
  | _ => none
def x_push (v : Value) (pc' : Nat) (ls : AL) (st : List Value) (h : AH) : Option AR := a_go pc' ls (v :: st) h
def x_bin (f : Int32 → Int32 → Int32) (pc' : Nat) (ls : AL) (st : List Value) (h : AH) : Option AR :=
  match st with
  | .int y :: .int x :: st => a_go pc' ls (.int (f x y) :: st) h
  | _ => none
def x_div (f : Int32 → Int32 → Int32) (pc' : Nat) (ls : AL) (st : List Value) (h : AH) : Option AR :=
  match st with
  | .int y :: .int x :: st => if y = 0 then none else a_go pc' ls (.int (f x y) :: st) h
  | _ => none
def x_lbin (f : Int64 → Int64 → Int64) (pc' : Nat) (ls : AL) (st : List Value) (h : AH) : Option AR :=
  match st with
  | .long y :: .long x :: st => a_go pc' ls (.long (f x y) :: st) h
  | _ => none
def x_lsh (f : Int64 → Int32 → Int64) (pc' : Nat) (ls : AL) (st : List Value) (h : AH) : Option AR :=
  match st with
  | .int y :: .long x :: st => a_go pc' ls (.long (f x y) :: st) h
  | _ => none
def x_neg (pc' : Nat) (ls : AL) (st : List Value) (h : AH) : Option AR :=
  match st with
  | .int x :: st => a_go pc' ls (.int (-x) :: st) h
  | _ => none
def x_i2l (pc' : Nat) (ls : AL) (st : List Value) (h : AH) : Option AR :=
  match st with
  | .int x :: st => a_go pc' ls (.long x.toInt64 :: st) h
  | _ => none
def x_l2i (pc' : Nat) (ls : AL) (st : List Value) (h : AH) : Option AR :=
  match st with
  | .long x :: st => a_go pc' ls (.int x.toInt32 :: st) h
  | _ => none
def a_jump (pc : Nat) (off : Int) : Option Nat := if 0 ≤ (pc : Int) + off then some ((pc : Int) + off).toNat else none
def a_to (pc : Nat) (off : Int) (ls : AL) (st : List Value) (h : AH) : Option AR := match a_jump pc off with
  | some t => a_go t ls st h
  | none => none
def a_cond (c : Jvm.ClassFile.Cond) (x y : Int32) : Bool := match c with
  | .eq => decide (x = y)
  | .ne => decide (¬ x = y)
  | .lt => decide (x < y)
  | .ge => decide (y ≤ x)
  | .gt => decide (y < x)
  | .le => decide (x ≤ y)
def a_br (t : Bool) (pc : Nat) (off : Int) (ls : AL) (st : List Value) (h : AH) : Option AR := match a_jump pc off with
  | some tgt => if t = true then a_go tgt ls st h else a_go (pc + 3) ls st h
  | none => none
def x_icmp (c : Jvm.ClassFile.Cond) (off : Int) (pc : Nat) (ls : AL) (st : List Value) (h : AH) : Option AR :=
  match st with
  | .int y :: .int x :: st => a_br (a_cond c x y) pc off ls st h
  | _ => none
def x_if (c : Jvm.ClassFile.Cond) (off : Int) (pc : Nat) (ls : AL) (st : List Value) (h : AH) : Option AR :=
  match st with
  | .int x :: st => a_br (a_cond c x 0) pc off ls st h
  | _ => none
/-- jump at a reference (b: jump at none) -/
def x_null (b : Bool) (off : Int) (pc : Nat) (ls : AL) (st : List Value) (h : AH) : Option AR :=
  match st with
  | .null :: st => if b = true then a_to pc off ls st h else a_go (pc + 3) ls st h
  | .ref _ :: st => if b = true then a_go (pc + 3) ls st h else a_to pc off ls st h
  | _ => none
def a_adr : Value → Option (Option Nat)
  | .null => some none
  | .ref a => some (some a)
  | _ => none
def x_acmp (b : Bool) (off : Int) (pc : Nat) (ls : AL) (st : List Value) (h : AH) : Option AR :=
  match st with
  | y :: x :: st => match a_adr y, a_adr x with
    | some ry, some rx => a_br (decide (decide (rx = ry) = b)) pc off ls st h
    | _, _ => none
  | _ => none
def x_table (d lo hi : Int) (offs : Array Int) (pc : Nat) (ls : AL) (st : List Value) (h : AH) : Option AR :=
  match st with
  | .int x :: st => if x.toInt < lo ∨ hi < x.toInt then a_to pc d ls st h else match offs[(x.toInt - lo).toNat]? with
    | some off => a_to pc off ls st h
    | none => none
  | _ => none
def x_look (d : Int) (ps : Array (Int × Int)) (pc : Nat) (ls : AL) (st : List Value) (h : AH) : Option AR :=
  match st with
  | .int x :: st => if (ps.toList.zip (ps.toList.drop 1)).all (fun (a, next) => a.1 < next.1) = true then a_to pc (Op.lookupswitch.offset ps.toList d x.toInt) ls st h else none
  | _ => none
def a_slot (h : AH) (a c k : Nat) : Value := if a_fty c k = 2 then a_rf (a_rv h a k) else .int (a_iv h a k)
def a_fld (o idx : Nat) : Option (Nat × Nat × Nat × Nat) := a_fl.find? (fun e => e.1 == o && e.2.1 == idx)
def x_getf (o idx pc' : Nat) (ls : AL) (st : List Value) (h : AH) : Option AR :=
  match st, a_fld o idx with
  | .ref a :: st, some (_, _, c, k) => if a_kd h a = c + 1 then a_go pc' ls (a_slot h a c k :: st) h else none
  | _, _ => none
def x_putf (o : Nat) (ini : Bool) (idx pc' : Nat) (ls : AL) (st : List Value) (h : AH) : Option AR :=
  match st, a_fld o idx with
  | v :: .ref a :: st, some (_, _, c, k) =>
    if a_kd h a = c + 1 ∧ (a_fin c k = true → ini = true ∧ c = o) then
      match v with
      | .int x => if a_fty c k = 0 ∨ (a_fty c k = 1 ∧ (x = 0 ∨ x = 1)) then a_go pc' ls st (a_setI h a k x) else none
      | .ref r => if a_fty c k = 2 ∧ r ≠ 0 then a_go pc' ls st (a_setR h a k r) else none
      | .null => if a_fty c k = 2 then a_go pc' ls st (a_setR h a k 0) else none
      | _ => none
    else none
  | _, _ => none
def x_iald (sc : Option (Nat × Nat × (Nat → Int32))) (kind pc' : Nat) (ls : AL) (st : List Value) (h : AH) : Option AR :=
  match st with
  | .int i :: .ref a :: st =>
    if a_kd h a = kind ∧ ¬ (i < 0 ∨ a_ln h a ≤ i.toNatClampNeg) then a_go pc' ls (.int (a_iv h a i.toNatClampNeg) :: st) h
    else match sc with
    | some (b, L, xs) => if kind = 20 ∧ a = b ∧ ¬ (i < 0 ∨ L ≤ i.toNatClampNeg) then a_go pc' ls (.int (xs i.toNatClampNeg) :: st) h else none
    | none => none
  | _ => none
def x_aald (pc' : Nat) (ls : AL) (st : List Value) (h : AH) : Option AR :=
  match st with
  | .int i :: .ref a :: st => if a_aks.contains (a_kd h a - 22) = true ∧ 22 ≤ a_kd h a ∧ ¬ (i < 0 ∨ a_ln h a ≤ i.toNatClampNeg) then a_go pc' ls (a_rf (a_rv h a i.toNatClampNeg) :: st) h else none
  | _ => none
def x_iast (pc' : Nat) (ls : AL) (st : List Value) (h : AH) : Option AR :=
  match st with
  | .int x :: .int i :: .ref a :: st => if a_kd h a = 20 ∧ ¬ (i < 0 ∨ a_ln h a ≤ i.toNatClampNeg) then a_go pc' ls st (a_setI h a i.toNatClampNeg x) else none
  | _ => none
def x_zast (pc' : Nat) (ls : AL) (st : List Value) (h : AH) : Option AR :=
  match st with
  | .int x :: .int i :: .ref a :: st => if a_kd h a = 21 ∧ ¬ (i < 0 ∨ a_ln h a ≤ i.toNatClampNeg) then a_go pc' ls st (a_setI h a i.toNatClampNeg (x &&& 1)) else none
  | _ => none
def x_aast (pc' : Nat) (ls : AL) (st : List Value) (h : AH) : Option AR :=
  match st with
  | v :: .int i :: .ref a :: st =>
    if a_aks.contains (a_kd h a - 22) = true ∧ 22 ≤ a_kd h a ∧ ¬ (i < 0 ∨ a_ln h a ≤ i.toNatClampNeg) then
      match v with
      | .null => a_go pc' ls st (a_setR h a i.toNatClampNeg 0)
      | .ref r => if a_kd h r = a_kd h a - 22 + 1 ∧ r ≠ 0 then a_go pc' ls st (a_setR h a i.toNatClampNeg r) else none
      | _ => none
    else none
  | _ => none
def x_alen (sc : Option (Nat × Nat × (Nat → Int32))) (pc' : Nat) (ls : AL) (st : List Value) (h : AH) : Option AR :=
  match st with
  | .ref a :: st =>
    if 20 ≤ a_kd h a ∧ (a_kd h a < 22 ∨ a_aks.contains (a_kd h a - 22) = true) then a_go pc' ls (.int (Int32.ofNat (a_ln h a)) :: st) h
    else match sc with
    | some (b, L, _) => if a = b then a_go pc' ls (.int (Int32.ofNat L) :: st) h else none
    | none => none
  | _ => none
def x_newarr (kind pc' : Nat) (ls : AL) (st : List Value) (h : AH) : Option AR :=
  match st with
  | .int n :: st => if ¬ n < 0 ∧ n.toNatClampNeg ≤ 1000000 then a_go pc' ls (.ref (a_nx h) :: st) (a_mk h kind n.toNatClampNeg) else none
  | _ => none
def x_new (o idx pc' : Nat) (ls : AL) (st : List Value) (h : AH) : Option AR :=
  match a_nw.find? (fun e => e.1 == o && e.2.1 == idx) with
  | some (_, _, c) => a_go pc' ls (.ref (a_nx h) :: st) (a_mk h (c + 1) (a_N c))
  | none => none
def x_anew (o idx pc' : Nat) (ls : AL) (st : List Value) (h : AH) : Option AR :=
  match a_an.find? (fun e => e.1 == o && e.2.1 == idx) with
  | some (_, _, c) => x_newarr (22 + c) pc' ls st h
  | none => none
def x_dup (pc' : Nat) (ls : AL) (st : List Value) (h : AH) : Option AR :=
  match st with
  | v :: st => if v.category = 1 then a_go pc' ls (v :: v :: st) h else none
  | _ => none
def x_dup2 (pc' : Nat) (ls : AL) (st : List Value) (h : AH) : Option AR :=
  match st with
  | v :: w :: st => if v.category = 1 ∧ w.category = 1 then a_go pc' ls (v :: w :: v :: w :: st) h else none
  | _ => none
def x_pop (pc' : Nat) (ls : AL) (st : List Value) (h : AH) : Option AR :=
  match st with
  | v :: st => if v.category = 1 then a_go pc' ls st h else none
  | _ => none
def x_ldc (o idx pc' : Nat) (ls : AL) (st : List Value) (h : AH) : Option AR :=
  match a_ks.find? (fun e => e.1 == o && e.2.1 == idx) with
  | some (_, _, v) => a_go pc' ls (.int v :: st) h
  | none => none
def x_ldc2 (o idx pc' : Nat) (ls : AL) (st : List Value) (h : AH) : Option AR :=
  match a_kl.find? (fun e => e.1 == o && e.2.1 == idx) with
  | some (_, _, v) => a_go pc' ls (.long v :: st) h
  | none => none
def a_np (mid : Nat) : Nat := ((a_ms[mid]?).map (fun r => r.2.2.2.2.2.1)).getD 0
def a_ow (mid : Nat) : Nat := ((a_ms[mid]?).map (fun r => r.1)).getD 0
def a_sum (st : List Value) : Nat := (st.map fun v => v.category).sum
def a_call (o idx : Nat) : Option (Nat × Nat × Nat × Nat) := a_cl.find? (fun e => e.1 == o && e.2.1 == idx)
/-- a call of a method of an object (tag 0), of a constructor (tag 2) -/
def x_inv (tag o idx pc' : Nat) (ls : AL) (st : List Value) (h : AH) : Option AR :=
  match a_call o idx with
  | some (_, _, t, mid) =>
    match st.drop (a_np mid) with
    | .ref b :: rest => if t = tag ∧ a_np mid < st.length ∧ (tag = 0 → a_kd h b = a_ow mid + 1) ∧ a_sum rest ≤ 8 then some (.inr (.inl (mid, .ref b :: (st.take (a_np mid)).reverse, pc', rest))) else none
    | _ => none
  | none => none
def x_obj (o idx pc' : Nat) (ls : AL) (st : List Value) (h : AH) : Option AR :=
  match st with
  | .ref _ :: st => if (a_ob.find? (fun e => e.1 == o && e.2 == idx)).isSome = true ∧ a_sum st ≤ 8 then a_go pc' ls st h else none
  | _ => none
def x_spec (o idx pc' : Nat) (ls : AL) (st : List Value) (h : AH) : Option AR :=
  match x_obj o idx pc' ls st h with
  | some r => some r
  | none => x_inv 2 o idx pc' ls st h
def x_copy (o idx pc' : Nat) (ls : AL) (st : List Value) (h : AH) : Option AR :=
  match st with
  | .int n :: .int dp :: .ref b :: .int sp :: .ref a :: st =>
    if (a_cp.find? (fun e => e.1 == o && e.2 == idx)).isSome = true ∧ a_kd h a = 20 ∧ a_kd h b = 20 ∧ ¬ sp < 0 ∧ ¬ dp < 0 ∧ ¬ n < 0 ∧ sp.toNatClampNeg + n.toNatClampNeg ≤ a_ln h a ∧ dp.toNatClampNeg + n.toNatClampNeg ≤ a_ln h b ∧ a_sum st ≤ 8
    then a_go pc' ls st (a_copy h a b sp.toNatClampNeg dp.toNatClampNeg n.toNatClampNeg) else none
  | _ => none
def a_nst (o idx : Nat) : Option (Nat × Nat × Nat × String) := a_ns.find? (fun e => e.1 == o && e.2.1 == idx)
/-- a static call across the nest -/
def x_nest (o idx pc' : Nat) (ls : AL) (st : List Value) (h : AH) : Option AR :=
  match a_nst o idx with
  | some (_, _, mid, _) => if a_np mid ≤ st.length ∧ a_sum (st.drop (a_np mid)) ≤ 8 then some (.inr (.inl (mid, (st.take (a_np mid)).reverse, pc', st.drop (a_np mid)))) else none
  | none => none
def x_stat (o idx pc' : Nat) (ls : AL) (st : List Value) (h : AH) : Option AR :=
  match x_copy o idx pc' ls st h with
  | some r => some r
  | none => match a_call o idx with
    | some (_, _, t, mid) => if t = 1 ∧ a_np mid ≤ st.length ∧ a_sum (st.drop (a_np mid)) ≤ 8 then some (.inr (.inl (mid, (st.take (a_np mid)).reverse, pc', st.drop (a_np mid)))) else none
    | none => x_nest o idx pc' ls st h
def x_iret (ret : Option FieldType) (st : List Value) : Option AR :=
  match st, ret with
  | [.int v], some .int => some (.inr (.inr (some (.int v))))
  | [.int v], some .boolean => if v = 0 ∨ v = 1 then some (.inr (.inr (some (.int v)))) else none
  | _, _ => none
def x_aret (ret : Option FieldType) (st : List Value) : Option AR :=
  match st, ret with
  | [v], some (.object _) => if a_isR v = true then some (.inr (.inr (some v))) else none
  | [v], some (.array _) => if a_isR v = true then some (.inr (.inr (some v))) else none
  | _, _ => none
def x_vret (ret : Option FieldType) (st : List Value) : Option AR :=
  match st, ret with
  | [], none => some (.inr (.inr none))
  | _, _ => none
/-- one instruction; o: the owner's number; ini: in a constructor; sc: the law's script -/
def a_step (sc : Option (Nat × Nat × (Nat → Int32))) (o : Nat) (ini : Bool) (ret : Option FieldType) (pc : Nat) (i : Instr) (len : Nat) (ls : AL) (st : List Value) (h : AH) : Option AR :=
  match i, len with
  | .iconst n, 1 => x_push (.int (Int32.ofInt n)) (pc + 1) ls st h
  | .bipush n, 2 => x_push (.int (Int8.ofInt n).toInt32) (pc + 2) ls st h
  | .sipush n, 3 => x_push (.int (Int16.ofInt n).toInt32) (pc + 3) ls st h
  | .aconst_null, 1 => x_push .null (pc + 1) ls st h
  | .ldc i, 2 => x_ldc o i (pc + 2) ls st h
  | .ldc_w i, 3 => x_ldc o i (pc + 3) ls st h
  | .ldc2_w i, 3 => x_ldc2 o i (pc + 3) ls st h
  | .iload_n k, 1 => x_load k (pc + 1) ls st h a_isI
  | .iload k, 2 => x_load k (pc + 2) ls st h a_isI
  | .lload_n k, 1 => x_load k (pc + 1) ls st h a_isL
  | .lload k, 2 => x_load k (pc + 2) ls st h a_isL
  | .aload_n k, 1 => x_load k (pc + 1) ls st h a_isR
  | .aload k, 2 => x_load k (pc + 2) ls st h a_isR
  | .istore_n k, 1 => x_store k (pc + 1) ls st h a_isI
  | .istore k, 2 => x_store k (pc + 2) ls st h a_isI
  | .astore_n k, 1 => x_store k (pc + 1) ls st h a_isR
  | .astore k, 2 => x_store k (pc + 2) ls st h a_isR
  | .iinc k n, 3 => x_iinc k n (pc + 3) ls st h
  | .iadd, 1 => x_bin (· + ·) (pc + 1) ls st h
  | .isub, 1 => x_bin (· - ·) (pc + 1) ls st h
  | .imul, 1 => x_bin (· * ·) (pc + 1) ls st h
  | .iand, 1 => x_bin (· &&& ·) (pc + 1) ls st h
  | .ior, 1 => x_bin (· ||| ·) (pc + 1) ls st h
  | .ixor, 1 => x_bin (· ^^^ ·) (pc + 1) ls st h
  | .ishl, 1 => x_bin (fun x y => x <<< (y &&& 31)) (pc + 1) ls st h
  | .ishr, 1 => x_bin (fun x y => x >>> (y &&& 31)) (pc + 1) ls st h
  | .iushr, 1 => x_bin (fun x y => (x.toUInt32 >>> (y.toUInt32 &&& Int32.toUInt32 31)).toInt32) (pc + 1) ls st h
  | .idiv, 1 => x_div (· / ·) (pc + 1) ls st h
  | .irem, 1 => x_div (fun x y => x - x / y * y) (pc + 1) ls st h
  | .ineg, 1 => x_neg (pc + 1) ls st h
  | .land, 1 => x_lbin (· &&& ·) (pc + 1) ls st h
  | .lor, 1 => x_lbin (· ||| ·) (pc + 1) ls st h
  | .lshl, 1 => x_lsh (fun x y => x <<< (y.toInt64 &&& 63)) (pc + 1) ls st h
  | .lshr, 1 => x_lsh (fun x y => x >>> (y.toInt64 &&& 63)) (pc + 1) ls st h
  | .i2l, 1 => x_i2l (pc + 1) ls st h
  | .l2i, 1 => x_l2i (pc + 1) ls st h
  | .dup, 1 => x_dup (pc + 1) ls st h
  | .dup2, 1 => x_dup2 (pc + 1) ls st h
  | .pop, 1 => x_pop (pc + 1) ls st h
  | .ifCond c off, 3 => x_if c off pc ls st h
  | .if_icmp c off, 3 => x_icmp c off pc ls st h
  | .ifnull off, 3 => x_null true off pc ls st h
  | .ifnonnull off, 3 => x_null false off pc ls st h
  | .if_acmp .eq off, 3 => x_acmp true off pc ls st h
  | .if_acmp .ne off, 3 => x_acmp false off pc ls st h
  | .goto off, 3 => a_to pc off ls st h
  | .tableswitch d lo hi offs, _ => x_table d lo hi offs pc ls st h
  | .lookupswitch d ps, _ => x_look d ps pc ls st h
  | .getfield i, 3 => x_getf o i (pc + 3) ls st h
  | .putfield i, 3 => x_putf o ini i (pc + 3) ls st h
  | .iaload, 1 => x_iald sc 20 (pc + 1) ls st h
  | .baload, 1 => x_iald none 21 (pc + 1) ls st h
  | .aaload, 1 => x_aald (pc + 1) ls st h
  | .iastore, 1 => x_iast (pc + 1) ls st h
  | .bastore, 1 => x_zast (pc + 1) ls st h
  | .aastore, 1 => x_aast (pc + 1) ls st h
  | .arraylength, 1 => x_alen sc (pc + 1) ls st h
  | .newarray .int, 2 => x_newarr 20 (pc + 2) ls st h
  | .newarray .boolean, 2 => x_newarr 21 (pc + 2) ls st h
  | .anewarray i, 3 => x_anew o i (pc + 3) ls st h
  | .new i, 3 => x_new o i (pc + 3) ls st h
  | .invokevirtual i, 3 => x_inv 0 o i (pc + 3) ls st h
  | .invokespecial i, 3 => x_spec o i (pc + 3) ls st h
  | .invokestatic i, 3 => x_stat o i (pc + 3) ls st h
  | .ireturn, 1 => x_iret ret st
  | .areturn, 1 => x_aret ret st
  | .return_, 1 => x_vret ret st
  | _, _ => none
/-- a method's body, n instructions at most; call: what the methods that it calls do -/
def a_run (call : Nat → List Value → AH → Option (Option Value × AH)) (sc : Option (Nat × Nat × (Nat → Int32))) (o : Nat) (ini : Bool) (ret : Option FieldType) (cc : ByteArray) : Nat → Nat → AL → List Value → AH → Option (Option Value × AH)
  | 0, _, _, _, _ => none
  | n + 1, pc, ls, st, h => match decode cc pc with
    | .ok (i, len) => match a_step sc o ini ret pc i len ls st h with
      | some (.inl (pc', ls', st', h')) => a_run call sc o ini ret cc n pc' ls' st' h'
      | some (.inr (.inl (mid, as, pc', st'))) => match call mid as h with
        | some (r, h') => a_run call sc o ini ret cc n pc' ls (r.toList ++ st') h'
        | none => none
      | some (.inr (.inr r)) => some (r, h)
      | none => none
    | _ => none
def a_init (as : List Value) (nL : Nat) : AL := (List.range nL).map (fun i => (lv_args 0 as).lookup i)
/-- a method (its number), called d deep at most -/
def a_meth (fuel : Nat) : Nat → Nat → List Value → AH → Option (Option Value × AH)
  | 0, _, _, _ => none
  | d + 1, mid, as, h => match a_ms[mid]? with
    | some r => if (lg_sl as).length ≤ r.2.2.2.1 then a_run (a_meth fuel d) none r.1 r.2.2.2.2.2.2 r.2.2.2.2.1 r.2.2.1 fuel 0 (a_init as r.2.2.2.1) [] h else none
    | none => none

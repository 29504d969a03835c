/-! bits counted -/
section Z9A
theorem land_8 (x m : Nat) : x &&& m = 256 * ((x / 256) &&& (m / 256)) + ((x % 256) &&& (m % 256)) := by
  have h1 : (x &&& m) / 2 ^ 8 = x / 2 ^ 8 &&& m / 2 ^ 8 := Nat.and_div_two_pow
  have h2 : (x &&& m) % 2 ^ 8 = (x % 2 ^ 8) &&& (m % 2 ^ 8) := Nat.and_mod_two_pow
  rw [show (2 : Nat) ^ 8 = 256 from rfl] at h1 h2
  have h3 := Nat.div_add_mod (x &&& m) 256
  rw [h1, h2] at h3
  exact h3.symm
theorem land_15 (x : Nat) : x &&& 15 = x % 16 := by
  have h1 : (x &&& 15) / 2 ^ 4 = x / 2 ^ 4 &&& 15 / 2 ^ 4 := Nat.and_div_two_pow
  have h2 : (x &&& 15) % 2 ^ 4 = (x % 2 ^ 4) &&& (15 % 2 ^ 4) := Nat.and_mod_two_pow
  rw [show (15 : Nat) / 2 ^ 4 = 0 from rfl, Nat.and_zero] at h1
  rw [show (2 : Nat) ^ 4 = 16 from rfl] at h1 h2
  have k : ∀ u : Fin 16, u.val &&& 15 = u.val := by decide
  have h3 := k ⟨x % 16, Nat.mod_lt _ (by decide)⟩
  rw [show (15 : Nat) % 16 = 15 from rfl] at h2
  have h4 : x % 16 &&& 15 = x % 16 := h3
  rw [h4] at h2
  omega
theorem land_63 (x : Nat) : x &&& 63 = x % 64 := by
  have h1 : (x &&& 63) / 2 ^ 6 = x / 2 ^ 6 &&& 63 / 2 ^ 6 := Nat.and_div_two_pow
  have h2 : (x &&& 63) % 2 ^ 6 = (x % 2 ^ 6) &&& (63 % 2 ^ 6) := Nat.and_mod_two_pow
  rw [show (63 : Nat) / 2 ^ 6 = 0 from rfl, Nat.and_zero] at h1
  rw [show (2 : Nat) ^ 6 = 64 from rfl] at h1 h2
  have k : ∀ u : Fin 64, u.val &&& 63 = u.val := by decide
  have h3 := k ⟨x % 64, Nat.mod_lt _ (by decide)⟩
  rw [show (63 : Nat) % 64 = 63 from rfl] at h2
  have h4 : x % 64 &&& 63 = x % 64 := h3
  rw [h4] at h2
  omega
def mkk (c : Nat) : Nat → Nat
  | 0 => 0
  | k + 1 => 256 * mkk c k + c
theorem mkk_s (c k : Nat) (hc : c < 256) : mkk c (k + 1) / 256 = mkk c k ∧ mkk c (k + 1) % 256 = c := by
  show (256 * mkk c k + c) / 256 = _ ∧ (256 * mkk c k + c) % 256 = _
  omega
def pAk (k x : Nat) : Nat := x - ((x / 2) &&& mkk 85 k)
def pBk (k a : Nat) : Nat := (a &&& mkk 51 k) + ((a / 4) &&& mkk 51 k)
def pCk (k b : Nat) : Nat := (b + b / 16) &&& mkk 15 k
def a8 (v : Nat) : Nat := v - ((v / 2) &&& 85)
def b9 (a : Nat) : Nat := (a &&& 51) + ((a / 4) &&& 51)
theorem d85 : ∀ u : Fin 128, ∀ b : Fin 2, (u.val + 128 * b.val) &&& 85 = u.val &&& 85 := by decide +kernel
theorem d51 : ∀ u : Fin 64, ∀ b : Fin 4, (u.val + 64 * b.val) &&& 51 = u.val &&& 51 := by decide +kernel
theorem pA_s (k x : Nat) : pAk (k + 1) x = 256 * pAk k (x / 256) + a8 (x % 256) ∧ a8 (x % 256) < 256 := by
  obtain ⟨m1, m2⟩ := mkk_s 85 k (by decide)
  have h := land_8 (x / 2) (mkk 85 (k + 1))
  rw [m1, m2] at h
  have e1 : x / 2 / 256 = x / 256 / 2 := by omega
  have e2 : x / 2 % 256 = x % 256 / 2 + 128 * (x / 256 % 2) := by omega
  have e3 : (x % 256 / 2 + 128 * (x / 256 % 2)) &&& 85 = x % 256 / 2 &&& 85 := d85 ⟨x % 256 / 2, by omega⟩ ⟨x / 256 % 2, by omega⟩
  rw [e1, e2, e3] at h
  have l1 : (x / 256 / 2 &&& mkk 85 k) ≤ x / 256 / 2 := Nat.and_le_left
  have l2 : (x % 256 / 2 &&& 85) ≤ x % 256 / 2 := Nat.and_le_left
  unfold pAk a8
  rw [h]
  omega
theorem pB_s (k a : Nat) : pBk (k + 1) a = 256 * pBk k (a / 256) + b9 (a % 256) := by
  obtain ⟨m1, m2⟩ := mkk_s 51 k (by decide)
  have h := land_8 a (mkk 51 (k + 1))
  have h' := land_8 (a / 4) (mkk 51 (k + 1))
  rw [m1, m2] at h h'
  have e1 : a / 4 / 256 = a / 256 / 4 := by omega
  have e2 : a / 4 % 256 = a % 256 / 4 + 64 * (a / 256 % 4) := by omega
  have e3 : (a % 256 / 4 + 64 * (a / 256 % 4)) &&& 51 = a % 256 / 4 &&& 51 := d51 ⟨a % 256 / 4, by omega⟩ ⟨a / 256 % 4, by omega⟩
  rw [e1, e2, e3] at h'
  unfold pBk b9
  rw [h, h']
  omega
theorem pC_s (k b : Nat) (hb : b % 256 + b % 256 / 16 + 16 * (b / 256 % 16) < 256) : pCk (k + 1) b = 256 * pCk k (b / 256) + (b % 256 + b % 256 / 16) % 16 := by
  obtain ⟨m1, m2⟩ := mkk_s 15 k (by decide)
  have h := land_8 (b + b / 16) (mkk 15 (k + 1))
  rw [m1, m2, land_15] at h
  have e1 : (b + b / 16) / 256 = b / 256 + b / 256 / 16 := by omega
  have e2 : (b + b / 16) % 256 % 16 = (b % 256 + b % 256 / 16) % 16 := by omega
  rw [e1, e2] at h
  exact h
theorem byt : ∀ v : Fin 256, b9 (a8 v.val) % 16 ≤ 4 ∧ b9 (a8 v.val) < 256 ∧ b9 (a8 v.val) + b9 (a8 v.val) / 16 + 64 < 256 ∧ (b9 (a8 v.val) + b9 (a8 v.val) / 16) % 16 = pn 8 v.val := by decide +kernel
theorem pR_d (k x : Nat) : pBk k (pAk k x) % 16 ≤ 4 := by
  cases k with
  | zero =>
    show ((pAk 0 x &&& 0) + (pAk 0 x / 4 &&& 0)) % 16 ≤ 4
    rw [Nat.and_zero, Nat.and_zero]
    decide
  | succ k =>
    obtain ⟨h1, h2⟩ := pA_s k x
    rw [pB_s, h1]
    have b := byt ⟨x % 256, Nat.mod_lt _ (by decide)⟩
    have b0 : b9 (a8 (x % 256)) % 16 ≤ 4 := b.1
    have e1 : (256 * pAk k (x / 256) + a8 (x % 256)) % 256 = a8 (x % 256) := by omega
    rw [e1]
    omega
theorem pR_s (k x : Nat) : pCk (k + 1) (pBk (k + 1) (pAk (k + 1) x)) = 256 * pCk k (pBk k (pAk k (x / 256))) + pn 8 (x % 256) := by
  obtain ⟨h1, h2⟩ := pA_s k x
  obtain ⟨b0, b1, b2, b3⟩ := byt ⟨x % 256, Nat.mod_lt _ (by decide)⟩
  have b1' : b9 (a8 (x % 256)) < 256 := b1
  have b2' : b9 (a8 (x % 256)) + b9 (a8 (x % 256)) / 16 + 64 < 256 := b2
  have b3' : (b9 (a8 (x % 256)) + b9 (a8 (x % 256)) / 16) % 16 = pn 8 (x % 256) := b3
  have e1 : (256 * pAk k (x / 256) + a8 (x % 256)) / 256 = pAk k (x / 256) := by omega
  have e2 : (256 * pAk k (x / 256) + a8 (x % 256)) % 256 = a8 (x % 256) := by omega
  have eB : pBk (k + 1) (pAk (k + 1) x) = 256 * pBk k (pAk k (x / 256)) + b9 (a8 (x % 256)) := by
    rw [pB_s, h1, e1, e2]
  have d := pR_d k (x / 256)
  have e3 : (256 * pBk k (pAk k (x / 256)) + b9 (a8 (x % 256))) / 256 = pBk k (pAk k (x / 256)) := by omega
  have e4 : (256 * pBk k (pAk k (x / 256)) + b9 (a8 (x % 256))) % 256 = b9 (a8 (x % 256)) := by omega
  rw [eB, pC_s k _ (by rw [e3, e4]; omega), e3, e4, b3']
theorem pn_add : ∀ (a b w : Nat), pn (a + b) w = pn a w + pn b (w / 2 ^ a) := by
  intro a
  induction a with
  | zero => intro b w; rw [Nat.zero_add, Nat.pow_zero, Nat.div_one]; show _ = 0 + _; rw [Nat.zero_add]
  | succ a ih =>
    intro b w
    rw [show a + 1 + b = (a + b) + 1 by omega]
    show w % 2 + pn (a + b) (w / 2) = (w % 2 + pn a (w / 2)) + _
    rw [ih, Nat.div_div_eq_div_mul, Nat.pow_succ, Nat.mul_comm 2 (2 ^ a)]
    omega
theorem pn_8m (w : Nat) : pn 8 w = pn 8 (w % 256) ∧ pn 8 w ≤ 8 := by
  simp only [pn]
  omega
theorem bcf_sum {p0 p1 p2 p3 z : Nat} (l0 : p0 ≤ 8) (l1 : p1 ≤ 8) (l2 : p2 ≤ 8) (l3 : p3 ≤ 8) (hz : z = 256 * (256 * (256 * p3 + p2) + p1) + p0) : (z + z / 256 + (z + z / 256) / 65536) % 64 = p0 + (p1 + (p2 + p3)) ∧ z + z / 256 + (z + z / 256) / 65536 < 4294967296 := by
  have e1 : z / 256 = 256 * (256 * p3 + p2) + p1 := by omega
  have e2 : z + z / 256 = 16777216 * p3 + 65536 * (p2 + p3) + 256 * (p1 + p2) + (p0 + p1) := by omega
  have e3 : (z + z / 256) / 65536 = 256 * p3 + (p2 + p3) := by rw [e2]; omega
  rw [e3, e2]
  omega
theorem bcf_big (x : Nat) (hx : x < 4294967296) : ((pCk 4 (pBk 4 (pAk 4 x)) + pCk 4 (pBk 4 (pAk 4 x)) / 256) + (pCk 4 (pBk 4 (pAk 4 x)) + pCk 4 (pBk 4 (pAk 4 x)) / 256) / 65536) &&& 63 = pn 32 x ∧ pCk 4 (pBk 4 (pAk 4 x)) + pCk 4 (pBk 4 (pAk 4 x)) / 256 + (pCk 4 (pBk 4 (pAk 4 x)) + pCk 4 (pBk 4 (pAk 4 x)) / 256) / 65536 < 4294967296 := by
  have r0 : ∀ y, pCk 0 y = 0 := fun y => Nat.and_zero _
  have s3 := pR_s 3 x
  have s2 := pR_s 2 (x / 256)
  have s1 := pR_s 1 (x / 256 / 256)
  have s0 := pR_s 0 (x / 256 / 256 / 256)
  rw [r0] at s0
  have p : pn 32 x = pn 8 x + (pn 8 (x / 256) + (pn 8 (x / 256 / 256) + pn 8 (x / 256 / 256 / 256))) := by
    rw [show 32 = 8 + (8 + (8 + 8)) from rfl, pn_add 8, pn_add 8, pn_add 8, show (2 : Nat) ^ 8 = 256 from rfl]
  obtain ⟨q0, l0⟩ := pn_8m x
  obtain ⟨q1, l1⟩ := pn_8m (x / 256)
  obtain ⟨q2, l2⟩ := pn_8m (x / 256 / 256)
  obtain ⟨q3, l3⟩ := pn_8m (x / 256 / 256 / 256)
  rw [← q0] at s3
  rw [← q1] at s2
  rw [← q2] at s1
  rw [← q3] at s0
  rw [s2] at s3
  rw [s1] at s3
  rw [s0] at s3
  rw [land_63, p]
  rw [Nat.mul_zero, Nat.zero_add] at s3
  exact bcf_sum l0 l1 l2 l3 s3
theorem us_n (x : Int32) : (us x 1).toBitVec.toNat = x.toBitVec.toNat / 2 ∧ (us x 2).toBitVec.toNat = x.toBitVec.toNat / 4 ∧ (us x 4).toBitVec.toNat = x.toBitVec.toNat / 16 ∧ (us x 8).toBitVec.toNat = x.toBitVec.toNat / 256 ∧ (us x 16).toBitVec.toNat = x.toBitVec.toNat / 65536 := by
  have k : ∀ j : Nat, (x.toBitVec >>> j).toNat = x.toBitVec.toNat / 2 ^ j := fun j => by
    rw [BitVec.toNat_ushiftRight, Nat.shiftRight_eq_div_pow]
  exact ⟨k 1, k 2, k 4, k 8, k 16⟩
theorem bcf_pn {x : Int32} (h : 0 ≤ x) : (bcf x).toInt = (pn 31 x.toInt.toNat : Nat) := by
  have hX : x.toBitVec.toNat < 4294967296 := x.toBitVec.isLt
  have e0 : x.toInt = (x.toBitVec.toNat : Int) ∧ x.toBitVec.toNat < 2147483648 := by
    have h1 := Int32.le_iff_toInt_le.mp h
    have c0 : (0 : Int32).toInt = 0 := rfl
    rw [c0, ← Int32.toInt_toBitVec, BitVec.toInt_eq_toNat_cond] at h1
    rw [← Int32.toInt_toBitVec, BitVec.toInt_eq_toNat_cond]
    split at h1
    · rename_i h2
      rw [if_pos h2]
      exact ⟨rfl, by omega⟩
    · omega
  have hsub : ∀ y z : Int32, z.toBitVec.toNat ≤ y.toBitVec.toNat → (y - z).toBitVec.toNat = y.toBitVec.toNat - z.toBitVec.toNat := fun y z hz => by
    rw [Int32.toBitVec_sub, BitVec.toNat_sub]
    have := y.toBitVec.isLt
    omega
  have hadd : ∀ y z : Int32, y.toBitVec.toNat + z.toBitVec.toNat < 4294967296 → (y + z).toBitVec.toNat = y.toBitVec.toNat + z.toBitVec.toNat := fun y z hz => by
    rw [Int32.toBitVec_add, BitVec.toNat_add]
    omega
  have hand : ∀ y z : Int32, (y &&& z).toBitVec.toNat = (y.toBitVec.toNat &&& z.toBitVec.toNat) := fun y z => by
    rw [Int32.toBitVec_and, BitVec.toNat_and]
  have k5 : (1431655765 : Int32).toBitVec.toNat = mkk 85 4 := by decide
  have k3 : (858993459 : Int32).toBitVec.toNat = mkk 51 4 := by decide
  have kf : (252645135 : Int32).toBitVec.toNat = mkk 15 4 := by decide
  have k63 : (63 : Int32).toBitVec.toNat = 63 := by decide
  obtain ⟨big, bl⟩ := bcf_big x.toBitVec.toNat hX
  generalize hXX : x.toBitVec.toNat = X at *
  have eA : (x - (us x 1 &&& 1431655765)).toBitVec.toNat = pAk 4 X := by
    have e : (us x 1 &&& 1431655765).toBitVec.toNat = (X / 2 &&& mkk 85 4) := by rw [hand, (us_n x).1, k5, hXX]
    rw [hsub _ _ (by rw [e, hXX]; exact Nat.le_trans Nat.and_le_left (by omega)), e, hXX]
    rfl
  have m51 : mkk 51 4 = 858993459 := by decide
  have eB : ((x - (us x 1 &&& 1431655765) &&& 858993459) + (us (x - (us x 1 &&& 1431655765)) 2 &&& 858993459)).toBitVec.toNat = pBk 4 (pAk 4 X) := by
    have e1 : (x - (us x 1 &&& 1431655765) &&& 858993459).toBitVec.toNat = (pAk 4 X &&& mkk 51 4) := by rw [hand, eA, k3]
    have e2 : (us (x - (us x 1 &&& 1431655765)) 2 &&& 858993459).toBitVec.toNat = (pAk 4 X / 4 &&& mkk 51 4) := by rw [hand, (us_n _).2.1, eA, k3]
    have l1 : (pAk 4 X &&& mkk 51 4) ≤ mkk 51 4 := Nat.and_le_right
    have l2 : (pAk 4 X / 4 &&& mkk 51 4) ≤ mkk 51 4 := Nat.and_le_right
    rw [hadd _ _ (by rw [e1, e2]; omega), e1, e2]
    rfl
  have lB : pBk 4 (pAk 4 X) ≤ 1717986918 := by
    have l1 : (pAk 4 X &&& mkk 51 4) ≤ mkk 51 4 := Nat.and_le_right
    have l2 : (pAk 4 X / 4 &&& mkk 51 4) ≤ mkk 51 4 := Nat.and_le_right
    show (pAk 4 X &&& mkk 51 4) + (pAk 4 X / 4 &&& mkk 51 4) ≤ 1717986918
    omega
  have eb : bcf x = (fun b => (fun c => (fun g => (g + us g 16) &&& 63) (c + us c 8)) ((b + us b 4) &&& 252645135)) ((x - (us x 1 &&& 1431655765) &&& 858993459) + (us (x - (us x 1 &&& 1431655765)) 2 &&& 858993459)) := rfl
  rw [eb]
  show ((((((x - (us x 1 &&& 1431655765) &&& 858993459) + (us (x - (us x 1 &&& 1431655765)) 2 &&& 858993459)) + us ((x - (us x 1 &&& 1431655765) &&& 858993459) + (us (x - (us x 1 &&& 1431655765)) 2 &&& 858993459)) 4) &&& 252645135) + us ((((x - (us x 1 &&& 1431655765) &&& 858993459) + (us (x - (us x 1 &&& 1431655765)) 2 &&& 858993459)) + us ((x - (us x 1 &&& 1431655765) &&& 858993459) + (us (x - (us x 1 &&& 1431655765)) 2 &&& 858993459)) 4) &&& 252645135) 8) + us (((((x - (us x 1 &&& 1431655765) &&& 858993459) + (us (x - (us x 1 &&& 1431655765)) 2 &&& 858993459)) + us ((x - (us x 1 &&& 1431655765) &&& 858993459) + (us (x - (us x 1 &&& 1431655765)) 2 &&& 858993459)) 4) &&& 252645135) + us ((((x - (us x 1 &&& 1431655765) &&& 858993459) + (us (x - (us x 1 &&& 1431655765)) 2 &&& 858993459)) + us ((x - (us x 1 &&& 1431655765) &&& 858993459) + (us (x - (us x 1 &&& 1431655765)) 2 &&& 858993459)) 4) &&& 252645135) 8) 16 &&& 63).toInt = _
  generalize (x - (us x 1 &&& 1431655765) &&& 858993459) + (us (x - (us x 1 &&& 1431655765)) 2 &&& 858993459) = b at eB ⊢
  have eC : ((b + us b 4) &&& 252645135).toBitVec.toNat = pCk 4 (pBk 4 (pAk 4 X)) := by
    rw [hand, hadd _ _ (by rw [(us_n b).2.2.1, eB]; omega), (us_n b).2.2.1, eB, kf]
    rfl
  generalize (b + us b 4) &&& 252645135 = c at eC ⊢
  have eE : (c + us c 8).toBitVec.toNat = pCk 4 (pBk 4 (pAk 4 X)) + pCk 4 (pBk 4 (pAk 4 X)) / 256 := by
    rw [hadd _ _ (by rw [(us_n c).2.2.2.1, eC]; omega), (us_n c).2.2.2.1, eC]
  generalize c + us c 8 = g at eE ⊢
  have eF : ((g + us g 16) &&& 63).toBitVec.toNat = pn 32 X := by
    rw [hand, hadd _ _ (by rw [(us_n g).2.2.2.2, eE]; omega), (us_n g).2.2.2.2, eE, k63]
    exact big
  have p31 : pn 32 X = pn 31 X := by
    rw [show 32 = 31 + 1 from rfl, pn_step]
    have : X / 2 ^ 31 = 0 := Nat.div_eq_of_lt (by omega)
    rw [this]
    exact Nat.add_zero _
  have l63 : ((g + us g 16) &&& 63).toBitVec.toNat ≤ 63 := by
    rw [hand, k63]
    exact Nat.and_le_right
  have l64 : 2 * ((g + us g 16) &&& 63).toBitVec.toNat < 2 ^ 32 := by
    have : (2 : Nat) ^ 32 = 4294967296 := by decide
    omega
  rw [← Int32.toInt_toBitVec, BitVec.toInt_eq_toNat_cond, if_pos l64, eF, p31, e0.1]
  rfl
end Z9A

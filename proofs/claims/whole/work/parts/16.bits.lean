/-! bits -/
theorem am_ti {x : Int32} {n : Nat} (h : x.toBitVec.toNat = n) (hn : n < 2147483648) : x.toInt = (n : Int) := by
  show x.toBitVec.toInt = _
  rw [BitVec.toInt_eq_toNat_of_lt (by rw [h]; omega), h]
theorem am_tb {n : Nat} (hn : n < 4294967296) : (Int32.ofInt (n : Int)).toBitVec.toNat = n := by
  show (BitVec.ofInt 32 (n : Int)).toNat = n
  rw [BitVec.toNat_ofInt]
  omega
theorem am_shl1 : ∀ i, i < 31 → am_shl 1 ((i : Nat) : Int) = ((2 ^ i : Nat) : Int) := by decide +kernel
theorem am_shk : ∀ i, i < 32 → ((Int32.ofInt ((i : Nat) : Int) &&& 31).toBitVec.smod 32).toNat = i := by decide +kernel
theorem am_shrN {b i : Nat} (hb : b < 2147483648) (hi : i < 32) : am_shr (b : Int) (i : Int) = ((b / 2 ^ i : Nat) : Int) := by
  unfold am_shr
  have h := pk_shrN (n := b) (by omega) (Int32.ofInt (i : Int) &&& 31) i (am_shk i hi)
  have e : Int32.ofInt (b : Int) = nI b := rfl
  rw [e, h]
  exact nI_toInt (Nat.lt_of_le_of_lt (Nat.div_le_self _ _) (by omega))
theorem am_and1 {b : Nat} (hb : b < 2147483648) : am_and (b : Int) 1 = ((b % 2 : Nat) : Int) := by
  unfold am_and
  have h := pk_andN (n := b) (by omega) (m := (1 : Int32)) 1 (by decide)
  have e : Int32.ofInt (b : Int) = nI b := rfl
  have e1 : Int32.ofInt 1 = (1 : Int32) := rfl
  rw [e, e1, h]
  exact nI_toInt (by have := Nat.mod_lt b (y := 2) (by decide); simp; omega)
/-- bit i of b, as the code asks for it -/
theorem am_bit {b i : Nat} (hb : b < 2147483648) (hi : i < 32) : am_and (am_shr (b : Int) (i : Int)) 1 = if b.testBit i then 1 else 0 := by
  rw [am_shrN hb hi, am_and1 (Nat.lt_of_le_of_lt (Nat.div_le_self _ _) hb), Nat.testBit_eq_decide_div_mod_eq]
  have := Nat.mod_two_eq_zero_or_one (b / 2 ^ i)
  rcases this with h | h <;> rw [h] <;> simp
theorem am_orN {a b : Nat} (ha : a < 2147483648) (hb : b < 2147483648) : am_or (a : Int) (b : Int) = ((a ||| b : Nat) : Int) := by
  unfold am_or
  apply am_ti
  · show ((Int32.ofInt (a : Int)).toBitVec ||| (Int32.ofInt (b : Int)).toBitVec).toNat = _
    rw [BitVec.toNat_or, am_tb (by omega), am_tb (by omega)]
  · exact Nat.or_lt_two_pow (n := 31) ha hb
theorem am_xorN {a b : Nat} (ha : a < 2147483648) (hb : b < 2147483648) : am_xor (a : Int) (b : Int) = ((a ^^^ b : Nat) : Int) := by
  unfold am_xor
  apply am_ti
  · show ((Int32.ofInt (a : Int)).toBitVec ^^^ (Int32.ofInt (b : Int)).toBitVec).toNat = _
    rw [BitVec.toNat_xor, am_tb (by omega), am_tb (by omega)]
  · exact Nat.xor_lt_two_pow (n := 31) ha hb
/-- how many bits -/
def pc (b : Nat) : Nat := ((List.range 10).filter (fun i => b.testBit i)).length
def bc_e (x : Int) : Int :=
  let a := am_w32 (x - am_and (am_ushr x 1) 1431655765)
  let b := am_w32 (am_and a 858993459 + am_and (am_ushr a 2) 858993459)
  let c := am_and (am_w32 (b + am_ushr b 4)) 252645135
  let e := am_w32 (c + am_ushr c 8)
  let g := am_w32 (e + am_ushr e 16)
  am_and g 63
theorem bc_eq : ∀ b, b < 1024 → bc_e ((b : Nat) : Int) = ((pc b : Nat) : Int) := by decide +kernel
theorem bit_clear : ∀ b, b < 256 → ∀ i, i < 8 → am_and ((b : Nat) : Int) (am_xor ((2 ^ i : Nat) : Int) (-1)) = ((b - (if b.testBit i then 2 ^ i else 0) : Nat) : Int) := by decide +kernel

/-! ===== bits of ints ===== -/
theorem bv_i (a : Int) : (Int32.ofInt a).toBitVec = BitVec.ofInt 32 a := Int32.toBitVec_ofInt a
theorem bv_nat {a : Int} (h : 0 ≤ a ∧ a < 2147483648) : BitVec.ofInt 32 a = BitVec.ofNat 32 a.toNat := by
  apply BitVec.eq_of_toNat_eq
  rw [BitVec.toNat_ofInt, BitVec.toNat_ofNat]
  have e3 : ((2 ^ 32 : Nat) : Int) = 4294967296 := rfl
  rw [e3, Int.emod_eq_of_lt h.1 (by omega), Nat.mod_eq_of_lt (by omega)]
theorem toInt_small {x : BitVec 32} (h : x.toNat < 2147483648) : x.toInt = (x.toNat : Int) := BitVec.toInt_eq_toNat_of_lt (by omega)
theorem n_and_lt {a b : Nat} (h : a < 2147483648) : a &&& b < 2147483648 := Nat.lt_of_le_of_lt Nat.and_le_left h
theorem n_or_lt {a b : Nat} (h : a < 2147483648) (h2 : b < 2147483648) : a ||| b < 2147483648 := Nat.or_lt_two_pow (n := 31) h h2
theorem n_xor_lt {a b : Nat} (h : a < 2147483648) (h2 : b < 2147483648) : a ^^^ b < 2147483648 := Nat.xor_lt_two_pow (n := 31) h h2
theorem bAnd_nat {a b : Int} (ha : 0 ≤ a ∧ a < 2147483648) (hb : 0 ≤ b ∧ b < 2147483648) : bAnd a b = ((a.toNat &&& b.toNat : Nat) : Int) := by
  show (Int32.ofInt a &&& Int32.ofInt b).toBitVec.toInt = _
  rw [Int32.toBitVec_and, bv_i, bv_i, bv_nat ha, bv_nat hb, ← BitVec.ofNat_and]
  have hl : a.toNat &&& b.toNat < 2147483648 := n_and_lt (by omega)
  rw [toInt_small (by rw [BitVec.toNat_ofNat]; omega), BitVec.toNat_ofNat, Nat.mod_eq_of_lt (by omega)]
theorem bOr_nat {a b : Int} (ha : 0 ≤ a ∧ a < 2147483648) (hb : 0 ≤ b ∧ b < 2147483648) : bOr a b = ((a.toNat ||| b.toNat : Nat) : Int) := by
  show (Int32.ofInt a ||| Int32.ofInt b).toBitVec.toInt = _
  rw [Int32.toBitVec_or, bv_i, bv_i, bv_nat ha, bv_nat hb, ← BitVec.ofNat_or]
  have hl : a.toNat ||| b.toNat < 2147483648 := n_or_lt (by omega) (by omega)
  rw [toInt_small (by rw [BitVec.toNat_ofNat]; omega), BitVec.toNat_ofNat, Nat.mod_eq_of_lt (by omega)]
theorem bXor_nat {a b : Int} (ha : 0 ≤ a ∧ a < 2147483648) (hb : 0 ≤ b ∧ b < 2147483648) : bXor a b = ((a.toNat ^^^ b.toNat : Nat) : Int) := by
  show (Int32.ofInt a ^^^ Int32.ofInt b).toBitVec.toInt = _
  rw [Int32.toBitVec_xor, bv_i, bv_i, bv_nat ha, bv_nat hb, ← BitVec.ofNat_xor]
  have hl : a.toNat ^^^ b.toNat < 2147483648 := n_xor_lt (by omega) (by omega)
  rw [toInt_small (by rw [BitVec.toNat_ofNat]; omega), BitVec.toNat_ofNat, Nat.mod_eq_of_lt (by omega)]
theorem bAnd_1 (a : Int) : bAnd a 1 = a % 2 := by
  show (Int32.ofInt a &&& Int32.ofInt 1).toBitVec.toInt = _
  rw [Int32.toBitVec_and, bv_i, bv_i]
  have e : (BitVec.ofInt 32 a &&& BitVec.ofInt 32 1).toNat = (a % 2).toNat := by
    rw [BitVec.toNat_and, BitVec.toNat_ofInt]
    show (a % ((2 ^ 32 : Nat) : Int)).toNat &&& 1 = _
    rw [Nat.and_one_is_mod]
    have e3 : ((2 ^ 32 : Nat) : Int) = 4294967296 := rfl
    rw [e3]
    omega
  have h2 : 0 ≤ a % 2 ∧ a % 2 < 2 := by omega
  rw [toInt_small (by rw [e]; omega), e]
  omega
/-- x & (2^n - 1) -/
theorem bAnd_mask {a : Int} (n : Nat) (hn : n ≤ 31) : bAnd a (2 ^ n - 1) = a % 2 ^ n := by
  show (Int32.ofInt a &&& Int32.ofInt (2 ^ n - 1)).toBitVec.toInt = _
  have hp : (0 : Int) < 2 ^ n := Int.pow_pos (by decide)
  have hp2 : (2 : Int) ^ n ≤ 2 ^ 31 := by
    have : (2 : Nat) ^ n ≤ 2 ^ 31 := Nat.pow_le_pow_right (by decide) hn
    exact_mod_cast this
  have hp3 : (2 : Int) ^ 31 = 2147483648 := by decide
  rw [Int32.toBitVec_and, bv_i, bv_i, bv_nat (a := 2 ^ n - 1) (by omega)]
  have e : (BitVec.ofInt 32 a &&& BitVec.ofNat 32 ((2 : Int) ^ n - 1).toNat).toNat = (a % 2 ^ n).toNat := by
    have e4 : ((2 : Int) ^ n - 1).toNat = 2 ^ n - 1 := by
      have e5 : ((2 : Int) ^ n) = ((2 ^ n : Nat) : Int) := by simp
      have e6 : 0 < 2 ^ n := Nat.pow_pos (by decide)
      omega
    have e7 : 2 ^ n ≤ 2 ^ 31 := Nat.pow_le_pow_right (by decide) hn
    rw [BitVec.toNat_and, BitVec.toNat_ofInt, BitVec.toNat_ofNat, e4, Nat.mod_eq_of_lt (a := 2 ^ n - 1) (by omega), Nat.and_two_pow_sub_one_eq_mod]
    have e3 : ((2 ^ 32 : Nat) : Int) = 4294967296 := rfl
    rw [e3]
    have h0 : 0 ≤ a % 4294967296 := Int.emod_nonneg _ (by decide)
    have hd : (2 : Int) ^ n ∣ 4294967296 := ⟨2 ^ (32 - n), by rw [← Int.pow_add, show n + (32 - n) = 32 by omega]; rfl⟩
    rw [← Int.emod_emod_of_dvd a hd]
    generalize a % 4294967296 = z at *
    obtain ⟨k, rfl⟩ := Int.eq_ofNat_of_zero_le h0
    have e8 : (k : Int) % 2 ^ n = ((k % 2 ^ n : Nat) : Int) := by simp
    rw [e8, Int.toNat_natCast, Int.toNat_natCast]
  have h2 := Int.emod_nonneg a (b := 2 ^ n) (by omega)
  have h3 := Int.emod_lt_of_pos a hp
  rw [toInt_small (by rw [e]; omega), e]
  omega
/-- the bit i of a number -/
def tb (a : Int) (i : Nat) : Prop := a / 2 ^ i % 2 = 1
theorem tb_nat {n i : Nat} : tb (n : Int) i ↔ n.testBit i = true := by
  unfold tb
  have e : (n : Int) / 2 ^ i % 2 = ((n / 2 ^ i % 2 : Nat) : Int) := by simp
  rw [e, Nat.testBit_eq_decide_div_mod_eq]
  simp
  omega
theorem p2_pos (n : Nat) : (0 : Int) < 2 ^ n := Int.pow_pos (by decide)
theorem p2_cast (n : Nat) : ((2 ^ n : Nat) : Int) = 2 ^ n := by simp
theorem p2_mono {a b : Nat} (h : a ≤ b) : (2 : Int) ^ a ≤ 2 ^ b := by
  have : (2 : Nat) ^ a ≤ 2 ^ b := Nat.pow_le_pow_right (by decide) h
  have e1 := p2_cast a
  have e2 := p2_cast b
  omega
theorem p2_succ (n : Nat) : (2 : Int) ^ (n + 1) = 2 * 2 ^ n := by rw [Int.pow_succ]; omega

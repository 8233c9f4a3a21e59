/-! ===== numbers: an int is a whole number by 2^32, a long by 2^64 ===== -/
abbrev Hp : Type := Nat → Nat → Int
def iv (z : Int) : Value := .int (Int32.ofInt z)
def jv (z : Int) : Value := .long (Int64.ofInt z)
theorem i_to {z : Int} (h : -2147483648 ≤ z ∧ z ≤ 2147483647) : (Int32.ofInt z).toInt = z := Int32.toInt_ofInt_of_le (by omega) (by omega)
theorem l_to {z : Int} (h : -9223372036854775808 ≤ z ∧ z ≤ 9223372036854775807) : (Int64.ofInt z).toInt = z := Int64.toInt_ofInt_of_le (by omega) (by omega)
theorem i_eq {a b : Int} (ha : -2147483648 ≤ a ∧ a ≤ 2147483647) (hb : -2147483648 ≤ b ∧ b ≤ 2147483647) : Int32.ofInt a = Int32.ofInt b ↔ a = b := by
  rw [← Int32.toInt_inj, i_to ha, i_to hb]
theorem i_lt {a b : Int} (ha : -2147483648 ≤ a ∧ a ≤ 2147483647) (hb : -2147483648 ≤ b ∧ b ≤ 2147483647) : Int32.ofInt a < Int32.ofInt b ↔ a < b := by
  rw [Int32.lt_iff_toInt_lt, i_to ha, i_to hb]
theorem i_le {a b : Int} (ha : -2147483648 ≤ a ∧ a ≤ 2147483647) (hb : -2147483648 ≤ b ∧ b ≤ 2147483647) : Int32.ofInt a ≤ Int32.ofInt b ↔ a ≤ b := by
  rw [Int32.le_iff_toInt_le, i_to ha, i_to hb]
theorem i_0 : (0 : Int32) = Int32.ofInt 0 := by decide
theorem i_tdiv {a b : Int} (ha : -2147483648 ≤ a ∧ a ≤ 2147483647) (hb : -2147483648 ≤ b ∧ b ≤ 2147483647) : Int32.ofInt a / Int32.ofInt b = Int32.ofInt (a.tdiv b) := by
  rw [← Int32.toInt_inj, Int32.toInt_div, i_to ha, i_to hb, Int32.toInt_ofInt]
theorem l_tdiv {a b : Int} (ha : -9223372036854775808 ≤ a ∧ a ≤ 9223372036854775807) (hb : -9223372036854775808 ≤ b ∧ b ≤ 9223372036854775807) : Int64.ofInt a / Int64.ofInt b = Int64.ofInt (a.tdiv b) := by
  rw [← Int64.toInt_inj, Int64.toInt_div, l_to ha, l_to hb, Int64.toInt_ofInt]
theorem i_tmod {a b : Int} (ha : -2147483648 ≤ a ∧ a ≤ 2147483647) (hb : -2147483648 ≤ b ∧ b ≤ 2147483647) : Int32.ofInt a - Int32.ofInt a / Int32.ofInt b * Int32.ofInt b = Int32.ofInt (a.tmod b) := by
  rw [i_tdiv ha hb, ← Int32.ofInt_mul, ← Int32.ofInt_sub]
  congr 1
  have := Int.mul_tdiv_add_tmod a b
  rw [Int.mul_comm] at this
  omega
theorem l_tmod {a b : Int} (ha : -9223372036854775808 ≤ a ∧ a ≤ 9223372036854775807) (hb : -9223372036854775808 ≤ b ∧ b ≤ 9223372036854775807) : Int64.ofInt a - Int64.ofInt a / Int64.ofInt b * Int64.ofInt b = Int64.ofInt (a.tmod b) := by
  rw [l_tdiv ha hb, ← Int64.ofInt_mul, ← Int64.ofInt_sub]
  congr 1
  have := Int.mul_tdiv_add_tmod a b
  rw [Int.mul_comm] at this
  omega
def bAnd (a b : Int) : Int := (Int32.ofInt a &&& Int32.ofInt b).toInt
def bOr (a b : Int) : Int := (Int32.ofInt a ||| Int32.ofInt b).toInt
def bXor (a b : Int) : Int := (Int32.ofInt a ^^^ Int32.ofInt b).toInt
def lAnd (a b : Int) : Int := (Int64.ofInt a &&& Int64.ofInt b).toInt
def lOr (a b : Int) : Int := (Int64.ofInt a ||| Int64.ofInt b).toInt
def lXor (a b : Int) : Int := (Int64.ofInt a ^^^ Int64.ofInt b).toInt
def lUshr (a : Int) (n : Nat) : Int := ((Int64.ofInt a).toUInt64 >>> (UInt64.ofNat n)).toInt64.toInt
theorem shamt32 {b : Int} (h : 0 ≤ b ∧ b < 32) : Int32.ofInt b &&& 31 = Int32.ofInt b := by
  have e : ∀ n : Fin 32, Int32.ofInt (n.val : Int) &&& 31 = Int32.ofInt (n.val : Int) := by decide
  have := e ⟨b.toNat, by omega⟩
  simpa [Int.toNat_of_nonneg h.1] using this
theorem shamt64 {b : Int} (h : 0 ≤ b ∧ b < 64) : (Int32.ofInt b).toInt64 &&& 63 = Int64.ofInt b := by
  have e : ∀ n : Fin 64, (Int32.ofInt (n.val : Int)).toInt64 &&& 63 = Int64.ofInt (n.val : Int) := by decide +kernel
  have := e ⟨b.toNat, by omega⟩
  simpa [Int.toNat_of_nonneg h.1] using this
theorem twoPow32 {n : Nat} (h : n < 32) : BitVec.twoPow 32 n = BitVec.ofInt 32 (2 ^ n) := by
  have e : ∀ n : Fin 32, BitVec.twoPow 32 n.val = BitVec.ofInt 32 (2 ^ n.val) := by decide +kernel
  exact e ⟨n, h⟩
theorem twoPow64 {n : Nat} (h : n < 64) : BitVec.twoPow 64 n = BitVec.ofInt 64 (2 ^ n) := by
  have e : ∀ n : Fin 64, BitVec.twoPow 64 n.val = BitVec.ofInt 64 (2 ^ n.val) := by decide +kernel
  exact e ⟨n, h⟩
theorem smod32 {b : Int} (h : 0 ≤ b ∧ b < 32) : ((Int32.ofInt b).toBitVec.smod 32).toNat = b.toNat := by
  have e : ∀ n : Fin 32, ((Int32.ofInt (n.val : Int)).toBitVec.smod 32).toNat = n.val := by decide +kernel
  have := e ⟨b.toNat, by omega⟩
  simpa [Int.toNat_of_nonneg h.1] using this
theorem smod64 {b : Int} (h : 0 ≤ b ∧ b < 64) : ((Int64.ofInt b).toBitVec.smod 64).toNat = b.toNat := by
  have e : ∀ n : Fin 64, ((Int64.ofInt (n.val : Int)).toBitVec.smod 64).toNat = n.val := by decide +kernel
  have := e ⟨b.toNat, by omega⟩
  simpa [Int.toNat_of_nonneg h.1] using this
theorem i_shl {a b : Int} (h : 0 ≤ b ∧ b < 32) : Int32.ofInt a <<< (Int32.ofInt b &&& 31) = Int32.ofInt (a * 2 ^ b.toNat) := by
  rw [shamt32 h]
  apply Int32.toBitVec_inj.1
  rw [Int32.toBitVec_shiftLeft, BitVec.shiftLeft_eq', smod32 h, BitVec.shiftLeft_eq_mul_twoPow, twoPow32 (by omega), Int32.toBitVec_ofInt, Int32.toBitVec_ofInt, BitVec.ofInt_mul]
theorem l_shl {a b : Int} (h : 0 ≤ b ∧ b < 64) : Int64.ofInt a <<< ((Int32.ofInt b).toInt64 &&& 63) = Int64.ofInt (a * 2 ^ b.toNat) := by
  rw [shamt64 h]
  apply Int64.toBitVec_inj.1
  rw [Int64.toBitVec_shiftLeft, BitVec.shiftLeft_eq', smod64 h, BitVec.shiftLeft_eq_mul_twoPow, twoPow64 (by omega), Int64.toBitVec_ofInt, Int64.toBitVec_ofInt, BitVec.ofInt_mul]
theorem i_shr {a b : Int} (ha : -2147483648 ≤ a ∧ a ≤ 2147483647) (h : 0 ≤ b ∧ b < 32) : Int32.ofInt a >>> (Int32.ofInt b &&& 31) = Int32.ofInt (a / 2 ^ b.toNat) := by
  rw [shamt32 h]
  rw [← Int32.ofInt_toInt (Int32.ofInt a >>> Int32.ofInt b)]
  congr 1
  show ((Int32.ofInt a >>> Int32.ofInt b).toBitVec).toInt = _
  rw [Int32.toBitVec_shiftRight, BitVec.sshiftRight_eq', BitVec.toInt_sshiftRight, smod32 h, Int.shiftRight_eq_div_pow]
  show (Int32.ofInt a).toInt / _ = _
  rw [i_to ha]
  simp
theorem l_shr {a b : Int} (ha : -9223372036854775808 ≤ a ∧ a ≤ 9223372036854775807) (h : 0 ≤ b ∧ b < 64) : Int64.ofInt a >>> ((Int32.ofInt b).toInt64 &&& 63) = Int64.ofInt (a / 2 ^ b.toNat) := by
  rw [shamt64 h]
  rw [← Int64.ofInt_toInt (Int64.ofInt a >>> Int64.ofInt b)]
  congr 1
  show ((Int64.ofInt a >>> Int64.ofInt b).toBitVec).toInt = _
  rw [Int64.toBitVec_shiftRight, BitVec.sshiftRight_eq', BitVec.toInt_sshiftRight, smod64 h, Int.shiftRight_eq_div_pow]
  show (Int64.ofInt a).toInt / _ = _
  rw [l_to ha]
  simp
theorem i_ushr {a b : Int} (h : 0 ≤ b ∧ b < 32) : ((Int32.ofInt a).toUInt32 >>> ((Int32.ofInt b).toUInt32 &&& Int32.toUInt32 31)).toInt32 = Int32.ofInt ((a % 4294967296) / 2 ^ b.toNat) := by
  have e : ∀ n : Fin 32, (((Int32.ofInt (n.val : Int)).toUInt32 &&& Int32.toUInt32 31).toNat % 32 = n.val) := by decide +kernel
  have e1 := e ⟨b.toNat, by omega⟩
  simp only [Int.toNat_of_nonneg h.1] at e1
  apply Int32.toBitVec_inj.1
  apply BitVec.eq_of_toNat_eq
  show ((Int32.ofInt a).toUInt32 >>> ((Int32.ofInt b).toUInt32 &&& Int32.toUInt32 31)).toNat = (BitVec.ofInt 32 ((a % 4294967296) / 2 ^ b.toNat)).toNat
  rw [UInt32.toNat_shiftRight, e1, BitVec.toNat_ofInt, Nat.shiftRight_eq_div_pow]
  show (BitVec.ofInt 32 a).toNat / _ = _
  rw [BitVec.toNat_ofInt]
  have e3 : ((2 ^ 32 : Nat) : Int) = 4294967296 := rfl
  rw [e3]
  have h0 : 0 ≤ a % 4294967296 := Int.emod_nonneg _ (by decide)
  have h1 : a % 4294967296 < 4294967296 := Int.emod_lt_of_pos _ (by decide)
  generalize a % 4294967296 = z at *
  have hp : (0 : Int) < 2 ^ b.toNat := Int.pow_pos (by decide)
  have h2 : 0 ≤ z / 2 ^ b.toNat := Int.ediv_nonneg h0 (by omega)
  have h3 : z / 2 ^ b.toNat < 4294967296 := Int.lt_of_le_of_lt (Int.ediv_le_self _ h0) h1
  have e2 : (z / 2 ^ b.toNat) % 4294967296 = z / 2 ^ b.toNat := Int.emod_eq_of_lt h2 h3
  rw [e2]
  obtain ⟨n, rfl⟩ := Int.eq_ofNat_of_zero_le h0
  have e4 : (n : Int) / 2 ^ b.toNat = ((n / 2 ^ b.toNat : Nat) : Int) := by simp
  rw [e4, Int.toNat_natCast, Int.toNat_natCast]
theorem l_i2l {a : Int} (ha : -2147483648 ≤ a ∧ a ≤ 2147483647) : (Int32.ofInt a).toInt64 = Int64.ofInt a := by
  rw [← Int64.toInt_inj, Int32.toInt_toInt64, i_to ha, l_to (by omega)]
theorem l_l2i {a : Int} : (Int64.ofInt a).toInt32 = Int32.ofInt a := by
  apply Int32.toInt_inj.1
  rw [Int64.toInt_toInt32, Int64.toInt_ofInt, Int32.toInt_ofInt]
  exact Int.bmod_bmod_of_dvd (by decide)
theorem l_cmp {a b : Int} (ha : -9223372036854775808 ≤ a ∧ a ≤ 9223372036854775807) (hb : -9223372036854775808 ≤ b ∧ b ≤ 9223372036854775807) : lg_cmp (Int64.ofInt a) (Int64.ofInt b) = if b < a then 1 else if a = b then 0 else -1 := by
  have h1 : Int64.ofInt a > Int64.ofInt b ↔ b < a := by
    show Int64.ofInt b < Int64.ofInt a ↔ _
    rw [Int64.lt_iff_toInt_lt, l_to ha, l_to hb]
  have h2 : Int64.ofInt a = Int64.ofInt b ↔ a = b := by
    rw [← Int64.toInt_inj, l_to ha, l_to hb]
  unfold lg_cmp
  simp only [h1, h2]
theorem i_in {a : Int} {n : Nat} (h : 0 ≤ a ∧ a < n) (hn : n < 2147483648) : vp_in (Int32.ofInt a) n := by
  rw [vp_in_iff, i_to (by omega)]
  exact h
theorem i_cl {a : Int} (h : 0 ≤ a ∧ a < 2147483648) : (Int32.ofInt a).toNatClampNeg = a.toNat := by
  show (Int32.ofInt a).toInt.toNat = _
  rw [i_to (by omega)]
theorem bnd {a : Int} : -2147483648 ≤ (Int32.ofInt a).toInt ∧ (Int32.ofInt a).toInt ≤ 2147483647 := by
  have h1 := (Int32.ofInt a).minValue_le_toInt
  have h2 := (Int32.ofInt a).toInt_le
  have e1 : Int32.minValue.toInt = -2147483648 := by decide
  have e2 : Int32.maxValue.toInt = 2147483647 := by decide
  omega

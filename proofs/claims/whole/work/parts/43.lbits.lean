/-! ===== bits of longs ===== -/
theorem l_ushr {a b : Int} (ha : 0 ≤ a ∧ a ≤ 9223372036854775807) (h : 0 ≤ b ∧ b < 64) : ((Int64.ofInt a).toUInt64 >>> ((Int32.ofInt b).toInt64.toUInt64 &&& Int64.toUInt64 63)).toInt64 = Int64.ofInt (a / 2 ^ b.toNat) := by
  have e : ∀ n : Fin 64, (((Int32.ofInt (n.val : Int)).toInt64.toUInt64 &&& Int64.toUInt64 63).toNat % 64 = n.val) := by decide +kernel
  have e1 := e ⟨b.toNat, by omega⟩
  simp only [Int.toNat_of_nonneg h.1] at e1
  apply Int64.toBitVec_inj.1
  apply BitVec.eq_of_toNat_eq
  show ((Int64.ofInt a).toUInt64 >>> ((Int32.ofInt b).toInt64.toUInt64 &&& Int64.toUInt64 63)).toNat = (BitVec.ofInt 64 (a / 2 ^ b.toNat)).toNat
  rw [UInt64.toNat_shiftRight, e1, BitVec.toNat_ofInt, Nat.shiftRight_eq_div_pow]
  show (BitVec.ofInt 64 a).toNat / _ = _
  rw [BitVec.toNat_ofInt]
  have e3 : ((2 ^ 64 : Nat) : Int) = 18446744073709551616 := rfl
  rw [e3]
  have hp : (0 : Int) < 2 ^ b.toNat := Int.pow_pos (by decide)
  have h2 : 0 ≤ a / 2 ^ b.toNat := Int.ediv_nonneg ha.1 (by omega)
  have h3 : a / 2 ^ b.toNat ≤ a := Int.ediv_le_self _ ha.1
  rw [Int.emod_eq_of_lt ha.1 (by omega), Int.emod_eq_of_lt h2 (by omega)]
  obtain ⟨n, rfl⟩ := Int.eq_ofNat_of_zero_le ha.1
  have e4 : (n : Int) / 2 ^ b.toNat = ((n / 2 ^ b.toNat : Nat) : Int) := by simp
  rw [e4, Int.toNat_natCast, Int.toNat_natCast]
section
variable {G : Gx} {E : En} {cc : ByteArray} {nL : Nat} {own : String} {ret : Option FieldType} {d pc : Nat} {post : Option Value → Hp → Prop} {ls : List (Nat × Value)} {st : List Value} {h : Hp}
theorem wp_lushr {a b : Int} (ha : 0 ≤ a ∧ a ≤ 9223372036854775807) (hb : 0 ≤ b ∧ b < 64) (C : Cx G E cc nL own ret d) (hd : decode cc pc = .ok (.lushr, 1)) (k : Wp G E nL post (pc + 1) ls (jv (a / 2 ^ b.toNat) :: st) h) : Wp G E nL post pc ls (iv b :: jv a :: st) h := by
  intro H locs la hP hS hl
  exact lv_lushr C.1 C.2.1 hd (l_ushr ha hb) (k H locs la hP hS hl)
end
theorem bv_l (a : Int) : (Int64.ofInt a).toBitVec = BitVec.ofInt 64 a := Int64.toBitVec_ofInt a
theorem bv_natl {a : Nat} : BitVec.ofInt 64 (a : Int) = BitVec.ofNat 64 a := by
  apply BitVec.eq_of_toNat_eq
  rw [BitVec.toNat_ofInt, BitVec.toNat_ofNat]
  omega
theorem toInt_sml {x : BitVec 64} (h : x.toNat < 9223372036854775808) : x.toInt = (x.toNat : Int) := BitVec.toInt_eq_toNat_of_lt (by omega)
theorem lAnd_n {a b : Nat} (ha : a < 2 ^ 63) : lAnd (a : Int) (b : Int) = ((a &&& b : Nat) : Int) := by
  show (Int64.ofInt a &&& Int64.ofInt b).toBitVec.toInt = _
  rw [Int64.toBitVec_and, bv_l, bv_l, bv_natl, bv_natl, ← BitVec.ofNat_and]
  have hl : a &&& b < 2 ^ 63 := Nat.lt_of_le_of_lt Nat.and_le_left ha
  rw [toInt_sml (by rw [BitVec.toNat_ofNat]; omega), BitVec.toNat_ofNat, Nat.mod_eq_of_lt (by omega)]
theorem lOr_n {a b : Nat} (ha : a < 2 ^ 63) (hb : b < 2 ^ 63) : lOr (a : Int) (b : Int) = ((a ||| b : Nat) : Int) := by
  show (Int64.ofInt a ||| Int64.ofInt b).toBitVec.toInt = _
  rw [Int64.toBitVec_or, bv_l, bv_l, bv_natl, bv_natl, ← BitVec.ofNat_or]
  have hl : a ||| b < 2 ^ 63 := Nat.or_lt_two_pow (n := 63) ha hb
  rw [toInt_sml (by rw [BitVec.toNat_ofNat]; omega), BitVec.toNat_ofNat, Nat.mod_eq_of_lt (by omega)]
/-- the bits of a that b doesn't have -/
def anN (a b : Nat) : Nat := a ^^^ (a &&& b)
theorem anN_tb {a b j : Nat} : (anN a b).testBit j = (a.testBit j && !b.testBit j) := by
  unfold anN
  rw [Nat.testBit_xor, Nat.testBit_and]
  cases a.testBit j <;> cases b.testBit j <;> rfl
theorem anN_lt {a b n : Nat} (ha : a < 2 ^ n) : anN a b < 2 ^ n := by
  apply Nat.lt_pow_two_of_testBit
  intro j hj
  rw [anN_tb, Nat.testBit_lt_two_pow (Nat.lt_of_lt_of_le ha (Nat.pow_le_pow_right (by decide) hj))]
  rfl
theorem lAndNot_n {a b : Nat} (ha : a < 2 ^ 63) : lAnd (a : Int) (lXor (b : Int) (-1)) = ((anN a b : Nat) : Int) := by
  have e : lXor (b : Int) (-1) = (BitVec.ofNat 64 b ^^^ BitVec.ofInt 64 (-1)).toInt := by
    show (Int64.ofInt b ^^^ Int64.ofInt (-1)).toBitVec.toInt = _
    rw [Int64.toBitVec_xor, bv_l, bv_l, bv_natl]
  show (Int64.ofInt a &&& Int64.ofInt (lXor (b : Int) (-1))).toBitVec.toInt = _
  rw [Int64.toBitVec_and, bv_l, bv_l, bv_natl, e, BitVec.ofInt_toInt]
  have e2 : BitVec.ofNat 64 a &&& (BitVec.ofNat 64 b ^^^ BitVec.ofInt 64 (-1)) = BitVec.ofNat 64 (anN a b) := by
    have e3 : BitVec.ofInt 64 (-1) = BitVec.allOnes 64 := by decide
    rw [e3]
    apply BitVec.eq_of_getLsbD_eq
    intro i hi
    rw [BitVec.getLsbD_and, BitVec.getLsbD_xor, BitVec.getLsbD_allOnes, BitVec.getLsbD_ofNat, BitVec.getLsbD_ofNat, BitVec.getLsbD_ofNat, anN_tb]
    simp [hi]
  rw [e2]
  have hl : anN a b < 2 ^ 63 := anN_lt ha
  rw [toInt_sml (by rw [BitVec.toNat_ofNat]; omega), BitVec.toNat_ofNat, Nat.mod_eq_of_lt (by omega)]
theorem mul_tb {a n j : Nat} : (a * 2 ^ n).testBit j = (decide (n ≤ j) && a.testBit (j - n)) := by
  rw [← Nat.shiftLeft_eq, Nat.testBit_shiftLeft]
theorem div_tb {a n j : Nat} : (a / 2 ^ n).testBit j = a.testBit (n + j) := by rw [Nat.testBit_div_two_pow, Nat.add_comm]

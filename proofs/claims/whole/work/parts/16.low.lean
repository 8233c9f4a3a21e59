/-! ===== the lowest bit; a lot ahead of another ===== -/
theorem low_ex : ∀ n : Nat, 0 < n → ∃ s m : Nat, n = 2 ^ s * (2 * m + 1) := by
  intro n
  induction n using Nat.strongRecOn with
  | _ n ih =>
    intro hn
    by_cases h : n % 2 = 1
    · exact ⟨0, n / 2, by omega⟩
    · obtain ⟨s, m, e⟩ := ih (n / 2) (by omega) (by omega)
      exact ⟨s + 1, m, by rw [Nat.pow_succ, Nat.mul_comm (2 ^ s) 2, Nat.mul_assoc, ← e]; omega⟩
theorem and_mul (s a b : Nat) : (2 ^ s * a) &&& (2 ^ s * b) = 2 ^ s * (a &&& b) := by
  have := and_split (k := s) (a := 0) (b := a) (c := 0) (d := b) (Nat.pow_pos (by decide)) (Nat.pow_pos (by decide))
  simpa using this
theorem and_compl (k q : Nat) : q &&& (2 ^ k - (q + 1)) = 0 ∨ 2 ^ k ≤ q := by
  by_cases h : q < 2 ^ k
  · left
    apply Nat.eq_of_testBit_eq
    intro i
    rw [Nat.testBit_and, Nat.testBit_two_pow_sub_succ h]
    simp
    intro a _
    exact a
  · right; omega
theorem and_odd {k m : Nat} (h : 2 * m + 1 < 2 ^ (k + 1)) : (2 * m + 1) &&& (2 ^ (k + 1) - (2 * m + 1)) = 1 := by
  have hp : 2 ^ (k + 1) = 2 * 2 ^ k := by rw [Nat.pow_succ]; omega
  have hm : m < 2 ^ k := by omega
  have e1 : 2 ^ (k + 1) - (2 * m + 1) = 2 ^ 1 * (2 ^ k - (m + 1)) + 1 := by omega
  have e2 : 2 * m + 1 = 2 ^ 1 * m + 1 := by omega
  rw [e1]
  rw [e2]
  rw [and_split (by decide) (by decide)]
  rcases and_compl k m with h1 | h1
  · rw [h1]; rfl
  · omega
theorem low_and {s m : Nat} (h : 2 ^ s * (2 * m + 1) < 2 ^ 32) : 2 ^ s * (2 * m + 1) &&& (2 ^ 32 - 2 ^ s * (2 * m + 1)) = 2 ^ s := by
  have hs : s < 32 := by
    apply Nat.lt_of_not_le
    intro hc
    have : 2 ^ 32 ≤ 2 ^ s := Nat.pow_le_pow_right (by decide) hc
    have h2 : 2 ^ s ≤ 2 ^ s * (2 * m + 1) := Nat.le_mul_of_pos_right _ (by omega)
    omega
  obtain ⟨k, hk⟩ : ∃ k, 32 = s + (k + 1) := ⟨31 - s, by omega⟩
  have e : 2 ^ 32 - 2 ^ s * (2 * m + 1) = 2 ^ s * (2 ^ (k + 1) - (2 * m + 1)) := by
    rw [Nat.mul_sub, ← Nat.pow_add, ← hk]
  have h2 : 2 * m + 1 < 2 ^ (k + 1) := by
    rw [hk, Nat.pow_add] at h
    exact Nat.lt_of_mul_lt_mul_left h
  rw [e, and_mul, and_odd h2, Nat.mul_one]
theorem bAnd_assoc (a b c : Int) : bAnd (bAnd a b) c = bAnd a (bAnd b c) := by
  unfold bAnd
  rw [Int32.ofInt_toInt, Int32.ofInt_toInt, Int32.and_assoc]
theorem bAnd_low {n s m : Nat} (hn : n = 2 ^ s * (2 * m + 1)) (hl : n < 2147483648) : bAnd (n : Int) (-(n : Int)) = ((2 ^ s : Nat) : Int) := by
  have h0 : 0 < n := by rw [hn]; exact Nat.mul_pos (Nat.pow_pos (by decide)) (by omega)
  have hs2 : 2 ^ s ≤ n := by rw [hn]; exact Nat.le_mul_of_pos_right _ (by omega)
  show (Int32.ofInt n &&& Int32.ofInt (-(n : Int))).toBitVec.toInt = _
  rw [Int32.toBitVec_and, bv_i, bv_i]
  have e : (BitVec.ofInt 32 (n : Int) &&& BitVec.ofInt 32 (-(n : Int))).toNat = 2 ^ s := by
    rw [BitVec.toNat_and, BitVec.toNat_ofInt, BitVec.toNat_ofInt]
    have e3 : ((2 ^ 32 : Nat) : Int) = 4294967296 := rfl
    rw [e3, Int.emod_eq_of_lt (by omega) (by omega), Int.toNat_natCast]
    have e4 : (-(n : Int) % 4294967296).toNat = 2 ^ 32 - n := by
      have : (2 : Nat) ^ 32 = 4294967296 := rfl
      omega
    have e5 : n < 2 ^ 32 := by
      have : (2 : Nat) ^ 32 = 4294967296 := rfl
      omega
    rw [e4]
    rw [hn] at e5 ⊢
    exact low_and e5
  rw [toInt_small (by rw [e]; omega), e]
/-- of two lots the first has the least heap that is of one alone -/
def ahd (a b : Nat) : Prop := ∃ i : Nat, a.testBit i = true ∧ b.testBit i = false ∧ ∀ j, j < i → a.testBit j = b.testBit j
theorem low_tb {s m j : Nat} : (2 ^ s * (2 * m + 1)).testBit j = if j < s then false else if j = s then true else m.testBit (j - s - 1) := by
  have h := Nat.testBit_two_pow_mul_add (i := s) (2 * m + 1) (b := 0) (Nat.pow_pos (by decide)) j
  rw [Nat.add_zero] at h
  rw [h]
  by_cases h1 : j < s
  · rw [if_pos h1, if_pos h1]; simp
  · rw [if_neg h1, if_neg h1]
    by_cases h2 : j = s
    · subst h2
      rw [if_pos rfl, Nat.sub_self]
      simp
    · rw [if_neg h2]
      obtain ⟨t, ht⟩ : ∃ t, j - s = t + 1 := ⟨j - s - 1, by omega⟩
      rw [ht, Nat.testBit_succ, show (2 * m + 1) / 2 = m by omega]
      rfl
theorem ahd_iff {a b : Nat} (ha : a < 2147483648) (hb : b < 2147483648) : bAnd (bAnd (a : Int) (bXor (a : Int) (b : Int))) (-(bXor (a : Int) (b : Int))) ≠ 0 ↔ ahd a b := by
  have ex : bXor (a : Int) (b : Int) = ((a ^^^ b : Nat) : Int) := by rw [bXor_nat (by omega) (by omega), Int.toNat_natCast, Int.toNat_natCast]
  rw [ex, bAnd_assoc]
  have hx : a ^^^ b < 2147483648 := n_xor_lt ha hb
  by_cases h0 : a ^^^ b = 0
  · have hab : a = b := by
      apply Nat.eq_of_testBit_eq
      intro i
      have := congrArg (fun z => z.testBit i) h0
      simp only [Nat.testBit_xor, Nat.zero_testBit] at this
      revert this
      cases a.testBit i <;> cases b.testBit i <;> simp
    subst hab
    rw [h0]
    constructor
    · intro h
      refine absurd ?_ h
      rw [show bAnd ((0 : Nat) : Int) (-((0 : Nat) : Int)) = 0 by decide]
      show (Int32.ofInt a &&& 0).toInt = 0
      rw [Int32.and_zero]
      rfl
    · rintro ⟨i, h1, h2, -⟩
      rw [h1] at h2
      cases h2
  · obtain ⟨s, m, e⟩ := low_ex (a ^^^ b) (by omega)
    rw [bAnd_low e hx, bAnd_n ha (by have : 2 ^ s ≤ a ^^^ b := by rw [e]; exact Nat.le_mul_of_pos_right _ (by omega)
                                     omega)]
    have hbit : ∀ j, (a ^^^ b).testBit j = if j < s then false else if j = s then true else m.testBit (j - s - 1) := fun j => by rw [e]; exact low_tb
    have hand : a &&& 2 ^ s = if a.testBit s = true then 2 ^ s else 0 := by
      apply Nat.eq_of_testBit_eq
      intro i
      rw [Nat.testBit_and, Nat.testBit_two_pow]
      by_cases hi : s = i
      · subst hi
        cases hq : a.testBit s <;> simp
      · have h9 : decide (s = i) = false := by simp [hi]
        rw [h9]
        cases hq : a.testBit s
        · simp
        · simp [Nat.testBit_two_pow, hi]
    rw [hand]
    have hp : 0 < 2 ^ s := Nat.pow_pos (by decide)
    constructor
    · intro h
      cases hq : a.testBit s with
      | false => rw [hq] at h; simp at h
      | true =>
        refine ⟨s, hq, ?_, ?_⟩
        · have := hbit s
          rw [Nat.testBit_xor, hq, if_neg (by omega), if_pos rfl] at this
          revert this
          cases b.testBit s <;> simp
        · intro j hj
          have := hbit j
          rw [Nat.testBit_xor, if_pos hj] at this
          revert this
          cases a.testBit j <;> cases b.testBit j <;> simp
    · rintro ⟨i, h1, h2, h3⟩
      have hi := hbit i
      rw [Nat.testBit_xor, h1, h2] at hi
      have his : i = s := by
        rcases Nat.lt_trichotomy i s with q | q | q
        · rw [if_pos q] at hi; cases hi
        · exact q
        · have hs := hbit s
          rw [Nat.testBit_xor, h3 s q, if_neg (by omega), if_pos rfl] at hs
          revert hs
          cases b.testBit s <;> simp
      subst his
      rw [if_pos h1]
      omega

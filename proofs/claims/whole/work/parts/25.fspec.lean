/-! ===== find: what is reachable, the greedy lot ===== -/
/-- the side behind a heap -/
def sdw (Sc Cl : Nat → Int) (p kd s : Int) (i : Nat) : Int := if kd = 3 then trn (s + Sc i % p) p else if 4 ≤ kd ∧ Cl i = kd - 4 then 1 else s
/-- from heap i on, m heaps: c of them bring rest and side to their ends -/
def exA (N Sc Cl : Nat → Int) (p kd : Int) : Nat → Nat → Nat → Int → Int → Bool
  | 0, _, c, r, s => decide (c = 0) && decide (r = 0) && decide (s = if 4 ≤ kd then 1 else 0)
  | m + 1, i, c, r, s => exA N Sc Cl p kd m (i + 1) c r s || (decide (c ≠ 0) && exA N Sc Cl p kd m (i + 1) (c - 1) (trn (r + N i % p) p) (sdw Sc Cl p kd s i))
def canA (N Sc Cl : Nat → Int) (p kd : Int) (m i c : Nat) (r s : Int) : Bool := if kd = 1 then anyB (fun c' => exA N Sc Cl p kd m i c' r s) (c + 1) else exA N Sc Cl p kd m i c r s
def tkA (N Sc Cl : Nat → Int) (p kd : Int) (m i c : Nat) (r s : Int) : Bool := decide (c ≠ 0) && canA N Sc Cl p kd m (i + 1) (c - 1) (trn (r + N i % p) p) (sdw Sc Cl p kd s i)
def grA (N Sc Cl : Nat → Int) (p kd : Int) : Nat → Nat → Nat → Int → Int → Int
  | 0, _, _, _, _ => 0
  | m + 1, i, c, r, s => if tkA N Sc Cl p kd m i c r s = true then 2 ^ i + grA N Sc Cl p kd m (i + 1) (c - 1) (trn (r + N i % p) p) (sdw Sc Cl p kd s i) else grA N Sc Cl p kd m (i + 1) c r s
/-- some lot of the kind, not empty -/
def anyQ (N Sc Cl : Nat → Int) (p kd : Int) (m i c : Nat) (r s : Int) : Prop := ∃ c', 1 ≤ c' ∧ (if kd = 1 then c' ≤ c else c' = c) ∧ exA N Sc Cl p kd m i c' r s = true
section FS
variable {N Sc Cl : Nat → Int} {p kd : Int}
theorem tkA_iff {m i c : Nat} {r s : Int} : tkA N Sc Cl p kd m i c r s = true ↔ ∃ c', (if kd = 1 then c' + 1 ≤ c else c' + 1 = c) ∧ exA N Sc Cl p kd m (i + 1) c' (trn (r + N i % p) p) (sdw Sc Cl p kd s i) = true := by
  unfold tkA canA
  rw [Bool.and_eq_true, decide_eq_true_eq]
  by_cases hk : kd = 1
  · simp only [if_pos hk]
    rw [anyB_iff]
    constructor
    · rintro ⟨h1, c', h2, h3⟩
      exact ⟨c', by omega, h3⟩
    · rintro ⟨c', h2, h3⟩
      exact ⟨by omega, c', by omega, h3⟩
  · simp only [if_neg hk]
    constructor
    · rintro ⟨h1, h3⟩
      exact ⟨c - 1, by omega, h3⟩
    · rintro ⟨c', h2, h3⟩
      exact ⟨by omega, by rw [show c - 1 = c' by omega]; exact h3⟩
theorem grA_r : ∀ (m i c : Nat) (r s : Int), 0 ≤ grA N Sc Cl p kd m i c r s ∧ grA N Sc Cl p kd m i c r s < 2 ^ (i + m) ∧ ∃ q : Int, grA N Sc Cl p kd m i c r s = 2 ^ i * q
  | 0, i, c, r, s => ⟨Int.le_refl 0, p2_pos _, 0, by simp [grA]⟩
  | m + 1, i, c, r, s => by
    have hp := p2_pos i
    have e1 : (2 : Int) ^ (i + 1 + m) = 2 ^ (i + (m + 1)) := by rw [show i + 1 + m = i + (m + 1) by omega]
    unfold grA
    split
    · obtain ⟨h1, h2, q, h3⟩ := grA_r m (i + 1) (c - 1) (trn (r + N i % p) p) (sdw Sc Cl p kd s i)
      refine ⟨by omega, ?_, 2 * q + 1, ?_⟩
      · rw [← e1]
        have e2 : (2 : Int) ^ (i + 1 + m) = 2 ^ (i + 1) * 2 ^ m := Int.pow_add 2 (i + 1) m
        rw [h3] at h2 ⊢
        rw [e2] at h2 ⊢
        have h4 : q < 2 ^ m := Int.lt_of_mul_lt_mul_left h2 (Int.le_of_lt (p2_pos _))
        have h5 : (2 : Int) ^ (i + 1) * (q + 1) ≤ 2 ^ (i + 1) * 2 ^ m := Int.mul_le_mul_of_nonneg_left h4 (Int.le_of_lt (p2_pos _))
        have h6 : (2 : Int) ^ (i + 1) * (q + 1) = 2 ^ (i + 1) * q + 2 ^ (i + 1) := by rw [Int.mul_add, Int.mul_one]
        have h7 := p2_succ i
        omega
      · rw [h3, p2_succ, Int.mul_add, Int.mul_one, Int.mul_comm 2 (2 ^ i), Int.mul_assoc]
        omega
    · obtain ⟨h1, h2, q, h3⟩ := grA_r m (i + 1) c r s
      refine ⟨h1, by rw [← e1]; exact h2, 2 * q, ?_⟩
      rw [h3, p2_succ, Int.mul_comm 2 (2 ^ i), Int.mul_assoc]
theorem grA_pos : ∀ (m i c : Nat) (r s : Int), 0 < grA N Sc Cl p kd m i c r s ↔ anyQ N Sc Cl p kd m i c r s
  | 0, i, c, r, s => by
    constructor
    · intro h; exact absurd h (by simp [grA])
    · rintro ⟨c', h1, h2, h3⟩
      unfold exA at h3
      simp only [Bool.and_eq_true, decide_eq_true_eq] at h3
      omega
  | m + 1, i, c, r, s => by
    unfold grA
    by_cases ht : tkA N Sc Cl p kd m i c r s = true
    · rw [if_pos ht]
      have h1 := (grA_r (N := N) (Sc := Sc) (Cl := Cl) (p := p) (kd := kd) m (i + 1) (c - 1) (trn (r + N i % p) p) (sdw Sc Cl p kd s i)).1
      have hp := p2_pos i
      refine ⟨fun _ => ?_, fun _ => by omega⟩
      obtain ⟨c', h2, h3⟩ := tkA_iff.mp ht
      refine ⟨c' + 1, by omega, h2, ?_⟩
      unfold exA
      rw [show c' + 1 - 1 = c' by omega, h3]
      simp
    · rw [if_neg ht, grA_pos m (i + 1) c r s]
      constructor
      · rintro ⟨c', h1, h2, h3⟩
        exact ⟨c', h1, h2, by unfold exA; rw [h3]; rfl⟩
      · rintro ⟨c', h1, h2, h3⟩
        unfold exA at h3
        rw [Bool.or_eq_true] at h3
        rcases h3 with h3 | h3
        · exact ⟨c', h1, h2, h3⟩
        · rw [Bool.and_eq_true] at h3
          exact absurd (tkA_iff.mpr ⟨c' - 1, by split at h2 <;> split <;> omega, h3.2⟩) ht
theorem exA_long : ∀ (m i c : Nat) (r s : Int), m < c → exA N Sc Cl p kd m i c r s = false
  | 0, i, c, r, s, h => by simp [exA]; omega
  | m + 1, i, c, r, s, h => by
    unfold exA
    rw [exA_long m (i + 1) c r s (by omega), exA_long m (i + 1) (c - 1) _ _ (by omega)]
    simp
end FS
/-- the answer of find for the kinds that are no RUN -/
def findS (N Sc Cl : Nat → Int) (p kd : Int) (n k : Nat) : Int := if grA N Sc Cl p kd n 0 k 0 0 = 0 then -1 else grA N Sc Cl p kd n 0 k 0 0
/-- bits of joined and moved masks -/
theorem tb_or {a b : Int} (ha : 0 ≤ a ∧ a < 2147483648) (hb : 0 ≤ b ∧ b < 2147483648) (i : Nat) : tb (bOr a b) i ↔ tb a i ∨ tb b i := by
  obtain ⟨x, rfl⟩ := Int.eq_ofNat_of_zero_le ha.1
  obtain ⟨y, rfl⟩ := Int.eq_ofNat_of_zero_le hb.1
  rw [bOr_nat ha hb, tb_nat, tb_nat, tb_nat, Int.toNat_natCast, Int.toNat_natCast, Nat.testBit_or, Bool.or_eq_true]
theorem tb_and {a b : Int} (ha : 0 ≤ a ∧ a < 2147483648) (hb : 0 ≤ b ∧ b < 2147483648) (i : Nat) : tb (bAnd a b) i ↔ tb a i ∧ tb b i := by
  obtain ⟨x, rfl⟩ := Int.eq_ofNat_of_zero_le ha.1
  obtain ⟨y, rfl⟩ := Int.eq_ofNat_of_zero_le hb.1
  rw [bAnd_nat ha hb, tb_nat, tb_nat, tb_nat, Int.toNat_natCast, Int.toNat_natCast, Nat.testBit_and, Bool.and_eq_true]
theorem tb_dbl {a : Int} (i : Nat) : tb (a * 2) (i + 1) ↔ tb a i := by
  unfold tb
  rw [p2_succ, Int.mul_comm a 2, Int.mul_ediv_mul_of_pos _ _ (by decide)]
theorem tb_dbl0 {a : Int} : ¬ tb (a * 2) 0 := by
  unfold tb
  rw [Int.pow_zero, Int.ediv_one]
  omega
theorem tb_half {a : Int} (i : Nat) : tb (a / 2) i ↔ tb a (i + 1) := by
  unfold tb
  rw [p2_succ, Int.ediv_ediv_of_nonneg (by decide : (0:Int) ≤ 2)]
theorem tb_p2 {n : Nat} (i : Nat) : tb (2 ^ n) i ↔ i = n := by
  have e : (2 : Int) ^ n = ((2 ^ n : Nat) : Int) := (p2_cast n).symm
  rw [e, tb_nat, Nat.testBit_two_pow]
  simp
  exact eq_comm
theorem tb_0 (i : Nat) : ¬ tb 0 i := by
  unfold tb
  simp
theorem tb_ne {a : Int} (ha : 0 ≤ a ∧ a < 2147483648) : a ≠ 0 ↔ ∃ i, tb a i := by
  obtain ⟨x, rfl⟩ := Int.eq_ofNat_of_zero_le ha.1
  constructor
  · intro h
    obtain ⟨i, hi⟩ := Nat.exists_testBit_of_ne_zero (x := x) (by omega)
    exact ⟨i, tb_nat.mpr hi⟩
  · rintro ⟨i, hi⟩ h
    rw [h] at hi
    exact tb_0 i hi
theorem bOr_r {a b : Int} {n : Nat} (hn : n ≤ 31) (ha : 0 ≤ a ∧ a < 2 ^ n) (hb : 0 ≤ b ∧ b < 2 ^ n) : 0 ≤ bOr a b ∧ bOr a b < 2 ^ n := by
  have h31 : (2 : Int) ^ n ≤ 2 ^ 31 := p2_mono hn
  have e31 : (2 : Int) ^ 31 = 2147483648 := by decide
  have e := p2_cast n
  rw [bOr_nat (by omega) (by omega)]
  have h := Nat.or_lt_two_pow (n := n) (x := a.toNat) (y := b.toNat) (by omega) (by omega)
  omega
theorem bOr_add {a : Int} {i : Nat} (hi : i < 30) (ha : 0 ≤ a ∧ a < 2 ^ i) : bOr a (2 ^ i) = a + 2 ^ i := by
  have h31 : (2 : Int) ^ i ≤ 2 ^ 30 := p2_mono (by omega)
  have e31 : (2 : Int) ^ 30 = 1073741824 := by decide
  have e := p2_cast i
  rw [bOr_nat (by omega) (by omega), show ((2 : Int) ^ i).toNat = 2 ^ i by omega, Nat.or_comm]
  have h := Nat.two_pow_add_eq_or_of_lt (i := i) (b := a.toNat) (by omega) 1
  rw [Nat.mul_one] at h
  rw [← h]
  omega

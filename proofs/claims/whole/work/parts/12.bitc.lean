/-! ===== Integer.bitCount ===== -/
theorem and_split {k a b c d : Nat} (ha : a < 2 ^ k) (hc : c < 2 ^ k) : (2 ^ k * b + a) &&& (2 ^ k * d + c) = 2 ^ k * (b &&& d) + (a &&& c) := by
  have hac : a &&& c < 2 ^ k := Nat.lt_of_le_of_lt Nat.and_le_left ha
  apply Nat.eq_of_testBit_eq
  intro j
  rw [Nat.testBit_and, Nat.testBit_two_pow_mul_add _ ha, Nat.testBit_two_pow_mul_add _ hc, Nat.testBit_two_pow_mul_add _ hac]
  split <;> simp [Nat.testBit_and]
theorem and3 {m b0 b1 b2 : Nat} (h0 : b0 < 256) (h1 : b1 < 256) (hm : m < 256) : (b0 + 256 * b1 + 65536 * b2) &&& (m + 256 * m + 65536 * (m + 256 * m)) = (b0 &&& m) + 256 * (b1 &&& m) + 65536 * (b2 &&& (m + 256 * m)) := by
  have e1 : b0 + 256 * b1 + 65536 * b2 = 2 ^ 8 * (2 ^ 8 * b2 + b1) + b0 := by omega
  have e2 : m + 256 * m + 65536 * (m + 256 * m) = 2 ^ 8 * (2 ^ 8 * (m + 256 * m) + m) + m := by omega
  rw [e1, e2, and_split h0 hm, and_split h1 hm]
  omega
theorem andt {m b : Nat} (h : b < 256) (hm : m < 256) : b &&& (m + 256 * m) = b &&& m := by
  have e1 : b = 2 ^ 8 * 0 + b := by omega
  have e2 : m + 256 * m = 2 ^ 8 * m + m := by omega
  conv => lhs; rw [e1, e2, and_split h hm]
  simp
theorem bcA : ∀ b, b < 256 → ∀ e, e < 2 → (b / 2 + 128 * e) &&& 85 = (b / 2) &&& 85 := by decide +kernel
theorem bcB : ∀ b, b < 256 → ∀ e, e < 4 → (b / 4 + 64 * e) &&& 51 = (b / 4) &&& 51 := by decide +kernel
def bca (b : Nat) : Nat := b - ((b / 2) &&& 85)
def bcb (b : Nat) : Nat := (bca b &&& 51) + ((bca b / 4) &&& 51)
def bcc (b : Nat) : Nat := (bcb b + bcb b / 16) &&& 15
theorem bcC : ∀ b, b < 256 → ∀ e, e ≤ 4 → (bcb b + bcb b / 16 + 16 * e) &&& 15 = bcc b := by decide +kernel
theorem bcR : ∀ b, b < 256 → bca b < 256 ∧ bcb b % 16 ≤ 4 ∧ bcb b / 16 ≤ 4 ∧ bcc b ≤ 8 ∧ bcc b = b / 1 % 2 + b / 2 % 2 + b / 4 % 2 + b / 8 % 2 + b / 16 % 2 + b / 32 % 2 + b / 64 % 2 + b / 128 % 2 := by decide +kernel
theorem stepA {b0 b1 b2 : Nat} (h0 : b0 < 256) (h1 : b1 < 256) (h2 : b2 < 256) : (b0 + 256 * b1 + 65536 * b2) - ((b0 + 256 * b1 + 65536 * b2) / 2 &&& 1431655765) = bca b0 + 256 * bca b1 + 65536 * bca b2 := by
  have e : (b0 + 256 * b1 + 65536 * b2) / 2 = (b0 / 2 + 128 * (b1 % 2)) + 256 * (b1 / 2 + 128 * (b2 % 2)) + 65536 * (b2 / 2) := by omega
  have q := and3 (m := 85) (b0 := b0 / 2 + 128 * (b1 % 2)) (b1 := b1 / 2 + 128 * (b2 % 2)) (b2 := b2 / 2) (by omega) (by omega) (by omega)
  rw [show 85 + 256 * 85 + 65536 * (85 + 256 * 85) = 1431655765 from rfl] at q
  rw [e, q, bcA b0 h0 _ (by omega), bcA b1 h1 _ (by omega), andt (by omega) (by omega)]
  have l0 : b0 / 2 &&& 85 ≤ b0 / 2 := Nat.and_le_left
  have l1 : b1 / 2 &&& 85 ≤ b1 / 2 := Nat.and_le_left
  have l2 : b2 / 2 &&& 85 ≤ b2 / 2 := Nat.and_le_left
  unfold bca
  omega
theorem stepB {b0 b1 b2 : Nat} (h0 : b0 < 256) (h1 : b1 < 256) (h2 : b2 < 256) : ((bca b0 + 256 * bca b1 + 65536 * bca b2) &&& 858993459) + ((bca b0 + 256 * bca b1 + 65536 * bca b2) / 4 &&& 858993459) = bcb b0 + 256 * bcb b1 + 65536 * bcb b2 := by
  have r0 := (bcR b0 h0).1
  have r1 := (bcR b1 h1).1
  have r2 := (bcR b2 h2).1
  have e : (bca b0 + 256 * bca b1 + 65536 * bca b2) / 4 = (bca b0 / 4 + 64 * (bca b1 % 4)) + 256 * (bca b1 / 4 + 64 * (bca b2 % 4)) + 65536 * (bca b2 / 4) := by omega
  have q := and3 (m := 51) (b0 := bca b0 / 4 + 64 * (bca b1 % 4)) (b1 := bca b1 / 4 + 64 * (bca b2 % 4)) (b2 := bca b2 / 4) (by omega) (by omega) (by omega)
  have q2 := and3 (m := 51) (b0 := bca b0) (b1 := bca b1) (b2 := bca b2) r0 r1 (by omega)
  rw [show 51 + 256 * 51 + 65536 * (51 + 256 * 51) = 858993459 from rfl] at q q2
  rw [e, q, q2, bcB _ r0 _ (by omega), bcB _ r1 _ (by omega), andt (b := bca b2 / 4) (by omega) (by omega), andt (b := bca b2) r2 (by omega)]
  unfold bcb
  omega
theorem stepC {b0 b1 b2 : Nat} (h0 : b0 < 256) (h1 : b1 < 256) (h2 : b2 < 256) : ((bcb b0 + 256 * bcb b1 + 65536 * bcb b2) + (bcb b0 + 256 * bcb b1 + 65536 * bcb b2) / 16) &&& 252645135 = bcc b0 + 256 * bcc b1 + 65536 * bcc b2 := by
  obtain ⟨-, r0, s0, -, -⟩ := bcR b0 h0
  obtain ⟨-, r1, s1, -, -⟩ := bcR b1 h1
  obtain ⟨-, r2, s2, -, -⟩ := bcR b2 h2
  have e : (bcb b0 + 256 * bcb b1 + 65536 * bcb b2) + (bcb b0 + 256 * bcb b1 + 65536 * bcb b2) / 16 = (bcb b0 + bcb b0 / 16 + 16 * (bcb b1 % 16)) + 256 * (bcb b1 + bcb b1 / 16 + 16 * (bcb b2 % 16)) + 65536 * (bcb b2 + bcb b2 / 16 + 16 * 0) := by
    have d0 := Nat.div_add_mod (bcb b0) 16
    have d1 := Nat.div_add_mod (bcb b1) 16
    have d2 := Nat.div_add_mod (bcb b2) 16
    have m0 : bcb b0 % 16 < 16 := Nat.mod_lt _ (by decide)
    generalize bcb b0 / 16 = p0 at *
    generalize bcb b0 % 16 = q0 at *
    generalize bcb b1 / 16 = p1 at *
    generalize bcb b1 % 16 = q1 at *
    generalize bcb b2 / 16 = p2 at *
    generalize bcb b2 % 16 = q2 at *
    generalize bcb b0 = B0 at *
    generalize bcb b1 = B1 at *
    generalize bcb b2 = B2 at *
    subst d0 d1 d2
    have e9 : (16 * p0 + q0 + 256 * (16 * p1 + q1) + 65536 * (16 * p2 + q2)) / 16 = p0 + 16 * (16 * p1 + q1) + 4096 * (16 * p2 + q2) := by
      rw [show 16 * p0 + q0 + 256 * (16 * p1 + q1) + 65536 * (16 * p2 + q2) = q0 + 16 * (p0 + 16 * (16 * p1 + q1) + 4096 * (16 * p2 + q2)) by omega, Nat.add_mul_div_left _ _ (by decide), Nat.div_eq_of_lt m0]
      omega
    rw [e9]
    omega
  have q := and3 (m := 15) (b0 := bcb b0 + bcb b0 / 16 + 16 * (bcb b1 % 16)) (b1 := bcb b1 + bcb b1 / 16 + 16 * (bcb b2 % 16)) (b2 := bcb b2 + bcb b2 / 16 + 16 * 0) (by omega) (by omega) (by omega)
  rw [show 15 + 256 * 15 + 65536 * (15 + 256 * 15) = 252645135 from rfl] at q
  rw [e, q, bcC b0 h0 _ r1, bcC b1 h1 _ r2, andt (by omega) (by omega), bcC b2 h2 _ (by omega)]
theorem stepD {b0 b1 b2 : Nat} (h0 : b0 ≤ 8) (h1 : b1 ≤ 8) (h2 : b2 ≤ 8) : ((b0 + 256 * b1 + 65536 * b2) + (b0 + 256 * b1 + 65536 * b2) / 256 + ((b0 + 256 * b1 + 65536 * b2) + (b0 + 256 * b1 + 65536 * b2) / 256) / 65536) % 64 = b0 + b1 + b2 := by
  have e1 : (b0 + 256 * b1 + 65536 * b2) / 256 = b1 + 256 * b2 := by omega
  rw [e1]
  have e2 : (b0 + 256 * b1 + 65536 * b2 + (b1 + 256 * b2)) / 65536 = b2 := by omega
  rw [e2]
  omega
theorem bit_lo {k a b : Nat} (hk : k < 8) : (a + 256 * b) / 2 ^ k % 2 = a / 2 ^ k % 2 := by
  have e : 256 * b = 2 ^ k * (2 * (2 ^ (7 - k) * b)) := by
    have : 2 ^ k * (2 * 2 ^ (7 - k)) = 256 := by
      rw [← Nat.pow_succ', ← Nat.pow_add, show k + (7 - k).succ = 8 by omega]
    rw [← this]
    simp only [Nat.mul_assoc]
  rw [e, Nat.add_mul_div_left _ _ (Nat.pow_pos (by decide))]
  omega
theorem bit_hi {k a b : Nat} (ha : a < 256) : (a + 256 * b) / 2 ^ (8 + k) = b / 2 ^ k := by
  rw [Nat.pow_add, ← Nat.div_div_eq_div_mul]
  congr 1
  show (a + 256 * b) / 256 = b
  omega
/-- how many heaps a lot has -/
def cntB (lot : Int) (n : Nat) : Int := sumB (fun _ => 1) lot n
theorem cntB_bits {x b0 b1 b2 : Nat} (h0 : b0 < 256) (h1 : b1 < 256) (h2 : b2 < 16) (hx : x = b0 + 256 * b1 + 65536 * b2) : cntB (x : Int) 20 = ((bcc b0 + bcc b1 + bcc b2 : Nat) : Int) := by
  have f : ∀ n : Nat, sumB (fun _ => 1) (x : Int) (n + 1) = sumB (fun _ => 1) (x : Int) n + ((x / 2 ^ n % 2 : Nat) : Int) := by
    intro n
    show sumB (fun _ => 1) (x : Int) n + (if (x : Int) / 2 ^ n % 2 = 1 then 1 else 0) = _
    have e : (x : Int) / 2 ^ n % 2 = ((x / 2 ^ n % 2 : Nat) : Int) := by simp
    rw [e]
    have : x / 2 ^ n % 2 < 2 := Nat.mod_lt _ (by decide)
    split <;> omega
  unfold cntB
  have hx2 : x = b0 + 256 * (b1 + 256 * b2) := by omega
  have g0 : x / 2 ^ 0 % 2 = b0 / 1 % 2 := by rw [hx2, bit_lo (by decide)]
  have g1 : x / 2 ^ 1 % 2 = b0 / 2 % 2 := by rw [hx2, bit_lo (by decide)]
  have g2 : x / 2 ^ 2 % 2 = b0 / 4 % 2 := by rw [hx2, bit_lo (by decide)]
  have g3 : x / 2 ^ 3 % 2 = b0 / 8 % 2 := by rw [hx2, bit_lo (by decide)]
  have g4 : x / 2 ^ 4 % 2 = b0 / 16 % 2 := by rw [hx2, bit_lo (by decide)]
  have g5 : x / 2 ^ 5 % 2 = b0 / 32 % 2 := by rw [hx2, bit_lo (by decide)]
  have g6 : x / 2 ^ 6 % 2 = b0 / 64 % 2 := by rw [hx2, bit_lo (by decide)]
  have g7 : x / 2 ^ 7 % 2 = b0 / 128 % 2 := by rw [hx2, bit_lo (by decide)]
  have g8 : x / 2 ^ 8 % 2 = b1 / 1 % 2 := by rw [hx2, show 8 = 8 + 0 from rfl, bit_hi h0, bit_lo (by decide)]
  have g9 : x / 2 ^ 9 % 2 = b1 / 2 % 2 := by rw [hx2, show 9 = 8 + 1 from rfl, bit_hi h0, bit_lo (by decide)]
  have g10 : x / 2 ^ 10 % 2 = b1 / 4 % 2 := by rw [hx2, show 10 = 8 + 2 from rfl, bit_hi h0, bit_lo (by decide)]
  have g11 : x / 2 ^ 11 % 2 = b1 / 8 % 2 := by rw [hx2, show 11 = 8 + 3 from rfl, bit_hi h0, bit_lo (by decide)]
  have g12 : x / 2 ^ 12 % 2 = b1 / 16 % 2 := by rw [hx2, show 12 = 8 + 4 from rfl, bit_hi h0, bit_lo (by decide)]
  have g13 : x / 2 ^ 13 % 2 = b1 / 32 % 2 := by rw [hx2, show 13 = 8 + 5 from rfl, bit_hi h0, bit_lo (by decide)]
  have g14 : x / 2 ^ 14 % 2 = b1 / 64 % 2 := by rw [hx2, show 14 = 8 + 6 from rfl, bit_hi h0, bit_lo (by decide)]
  have g15 : x / 2 ^ 15 % 2 = b1 / 128 % 2 := by rw [hx2, show 15 = 8 + 7 from rfl, bit_hi h0, bit_lo (by decide)]
  have g16 : x / 2 ^ 16 % 2 = b2 / 1 % 2 := by rw [hx2, show 16 = 8 + (8 + 0) from rfl, bit_hi h0, bit_hi h1]
  have g17 : x / 2 ^ 17 % 2 = b2 / 2 % 2 := by rw [hx2, show 17 = 8 + (8 + 1) from rfl, bit_hi h0, bit_hi h1]
  have g18 : x / 2 ^ 18 % 2 = b2 / 4 % 2 := by rw [hx2, show 18 = 8 + (8 + 2) from rfl, bit_hi h0, bit_hi h1]
  have g19 : x / 2 ^ 19 % 2 = b2 / 8 % 2 := by rw [hx2, show 19 = 8 + (8 + 3) from rfl, bit_hi h0, bit_hi h1]
  rw [f 19, f 18, f 17, f 16, f 15, f 14, f 13, f 12, f 11, f 10, f 9, f 8, f 7, f 6, f 5, f 4, f 3, f 2, f 1, f 0]
  rw [g0, g1, g2, g3, g4, g5, g6, g7, g8, g9, g10, g11, g12, g13, g14, g15, g16, g17, g18, g19]
  have z4 : b2 / 16 % 2 = 0 := by omega
  have z5 : b2 / 32 % 2 = 0 := by omega
  have z6 : b2 / 64 % 2 = 0 := by omega
  have z7 : b2 / 128 % 2 = 0 := by omega
  clear f hx hx2 g0 g1 g2 g3 g4 g5 g6 g7 g8 g9 g10 g11 g12 g13 g14 g15 g16 g17 g18 g19
  have r0 := (bcR b0 h0).2.2.2.2
  have r1 := (bcR b1 h1).2.2.2.2
  have r2 := (bcR b2 (by omega)).2.2.2.2
  rw [r0, r1, r2]
  show (0 : Int) + _ + _ + _ + _ + _ + _ + _ + _ + _ + _ + _ + _ + _ + _ + _ + _ + _ + _ + _ + _ = _
  rw [z4, z5, z6, z7]
  clear r0 r1 r2 z4 z5 z6 z7 h0 h1 h2
  generalize b0 / 1 % 2 = t0
  generalize b0 / 2 % 2 = t1
  generalize b0 / 4 % 2 = t2
  generalize b0 / 8 % 2 = t3
  generalize b0 / 16 % 2 = t4
  generalize b0 / 32 % 2 = t5
  generalize b0 / 64 % 2 = t6
  generalize b0 / 128 % 2 = t7
  generalize b1 / 1 % 2 = t8
  generalize b1 / 2 % 2 = t9
  generalize b1 / 4 % 2 = t10
  generalize b1 / 8 % 2 = t11
  generalize b1 / 16 % 2 = t12
  generalize b1 / 32 % 2 = t13
  generalize b1 / 64 % 2 = t14
  generalize b1 / 128 % 2 = t15
  generalize b2 / 1 % 2 = t16
  generalize b2 / 2 % 2 = t17
  generalize b2 / 4 % 2 = t18
  generalize b2 / 8 % 2 = t19
  omega
theorem sh_n1 {x : Nat} {k : Nat} (hx : x < 4294967296) : (x : Int) % 4294967296 / 2 ^ k = ((x / 2 ^ k : Nat) : Int) := by
  rw [Int.emod_eq_of_lt (by omega) (by omega)]
  simp
theorem bAnd_n {x m : Nat} (hx : x < 2147483648) (hm : m < 2147483648) : bAnd (x : Int) (m : Int) = ((x &&& m : Nat) : Int) := by
  rw [bAnd_nat (by omega) (by omega), Int.toNat_natCast, Int.toNat_natCast]

set_option maxRecDepth 100000 in
set_option maxHeartbeats 4000000 in
theorem c_bitCount (E : En) (h : Hp) (a : Int) (ha : 0 ≤ a ∧ a ≤ 1048575) : Ct 0 yJ6_bitCount_0f7a4 cJ6_bitCount_0f7a4 1 (some .int) E [iv a] h (Ret (iv (cntB a 20)) h) := by
  obtain ⟨x, rfl⟩ := Int.eq_ofNat_of_zero_le ha.1
  obtain ⟨b0, b1, b2, h0, h1, h2, hx⟩ : ∃ b0 b1 b2 : Nat, b0 < 256 ∧ b1 < 256 ∧ b2 < 16 ∧ x = b0 + 256 * b1 + 65536 * b2 := ⟨x % 256, x / 256 % 256, x / 65536, by omega, by omega, by omega, by omega⟩
  have hc := cntB_bits h0 h1 h2 hx
  obtain ⟨t0, u0, w0, r0, -⟩ := bcR b0 h0
  obtain ⟨t1, u1, w1, r1, -⟩ := bcR b1 h1
  obtain ⟨t2, u2, w2, r2, -⟩ := bcR b2 (by omega)
  have A := stepA h0 h1 (show b2 < 256 by omega)
  have B := stepB h0 h1 (show b2 < 256 by omega)
  have D3 := stepC h0 h1 (show b2 < 256 by omega)
  have F := stepD r0 r1 r2
  rw [← hx] at A
  obtain ⟨y, hy⟩ : ∃ y, y = bca b0 + 256 * bca b1 + 65536 * bca b2 := ⟨_, rfl⟩
  rw [← hy] at A B
  obtain ⟨z, hz⟩ : ∃ z, z = bcb b0 + 256 * bcb b1 + 65536 * bcb b2 := ⟨_, rfl⟩
  rw [← hz] at B D3
  obtain ⟨w, hw⟩ : ∃ w, w = bcc b0 + 256 * bcc b1 + 65536 * bcc b2 := ⟨_, rfl⟩
  rw [← hw] at D3 F
  have lx : x / 2 &&& 1431655765 ≤ x / 2 := Nat.and_le_left
  refine ct_intro (by decide) (Nat.le_of_ble_eq_true rfl) (fun G C => ?_)
  show Wp G E 1 (Ret (iv (cntB ((x : Nat) : Int) 20)) h) 0 [(0, iv ((x : Nat) : Int))] [] h
  refine wp_iload_n 0 C dJ6_bitCount_0f7a4_0 rfl rfl ?_
  refine wp_iload_n 0 C dJ6_bitCount_0f7a4_1 rfl rfl ?_
  refine wp_iconst (v := 1) C dJ6_bitCount_0f7a4_2 rfl ?_
  refine wp_iushr (by omega) C dJ6_bitCount_0f7a4_3 ?_
  refine wp_top (show _ = ((x / 2 : Nat) : Int) from sh_n1 (k := 1) (by omega)) ?_
  refine wp_ldcw (v := 1431655765) C (mT (i := 568) (by decide +kernel) rfl) dJ6_bitCount_0f7a4_4 ?_
  refine wp_iand C dJ6_bitCount_0f7a4_7 ?_
  refine wp_top (show _ = ((x / 2 &&& 1431655765 : Nat) : Int) from bAnd_n (m := 1431655765) (by omega) (by omega)) ?_
  refine wp_isub C dJ6_bitCount_0f7a4_8 ?_
  refine wp_top (show _ = ((y : Nat) : Int) from by omega) ?_
  refine wp_istore_n (ls' := [(0, iv ((y : Nat) : Int))]) [0] C dJ6_bitCount_0f7a4_9 rfl (by decide) rfl ?_
  refine wp_iload_n 0 C dJ6_bitCount_0f7a4_10 rfl rfl ?_
  refine wp_ldcw (v := 858993459) C (mT (i := 569) (by decide +kernel) rfl) dJ6_bitCount_0f7a4_11 ?_
  refine wp_iand C dJ6_bitCount_0f7a4_14 ?_
  refine wp_top (show _ = ((y &&& 858993459 : Nat) : Int) from bAnd_n (m := 858993459) (by omega) (by omega)) ?_
  refine wp_iload_n 0 C dJ6_bitCount_0f7a4_15 rfl rfl ?_
  refine wp_iconst (v := 2) C dJ6_bitCount_0f7a4_16 rfl ?_
  refine wp_iushr (by omega) C dJ6_bitCount_0f7a4_17 ?_
  refine wp_top (show _ = ((y / 4 : Nat) : Int) from sh_n1 (k := 2) (by omega)) ?_
  refine wp_ldcw (v := 858993459) C (mT (i := 569) (by decide +kernel) rfl) dJ6_bitCount_0f7a4_18 ?_
  refine wp_iand C dJ6_bitCount_0f7a4_21 ?_
  refine wp_top (show _ = ((y / 4 &&& 858993459 : Nat) : Int) from bAnd_n (m := 858993459) (by omega) (by omega)) ?_
  refine wp_iadd C dJ6_bitCount_0f7a4_22 ?_
  refine wp_top (show _ = ((z : Nat) : Int) from by omega) ?_
  refine wp_istore_n (ls' := [(0, iv ((z : Nat) : Int))]) [0] C dJ6_bitCount_0f7a4_23 rfl (by decide) rfl ?_
  refine wp_iload_n 0 C dJ6_bitCount_0f7a4_24 rfl rfl ?_
  refine wp_iload_n 0 C dJ6_bitCount_0f7a4_25 rfl rfl ?_
  refine wp_iconst (v := 4) C dJ6_bitCount_0f7a4_26 rfl ?_
  refine wp_iushr (by omega) C dJ6_bitCount_0f7a4_27 ?_
  refine wp_top (show _ = ((z / 16 : Nat) : Int) from sh_n1 (k := 4) (by omega)) ?_
  refine wp_iadd C dJ6_bitCount_0f7a4_28 ?_
  refine wp_ldcw (v := 252645135) C (mT (i := 570) (by decide +kernel) rfl) dJ6_bitCount_0f7a4_29 ?_
  refine wp_iand C dJ6_bitCount_0f7a4_32 ?_
  refine wp_top (show _ = ((w : Nat) : Int) from by rw [show ((z : Nat) : Int) + ((z / 16 : Nat) : Int) = ((z + z / 16 : Nat) : Int) by omega]; rw [show (252645135 : Int) = ((252645135 : Nat) : Int) from rfl, bAnd_n (by omega) (by omega), D3]) ?_
  refine wp_istore_n (ls' := [(0, iv ((w : Nat) : Int))]) [0] C dJ6_bitCount_0f7a4_33 rfl (by decide) rfl ?_
  refine wp_iload_n 0 C dJ6_bitCount_0f7a4_34 rfl rfl ?_
  refine wp_iload_n 0 C dJ6_bitCount_0f7a4_35 rfl rfl ?_
  refine wp_bipush (v := 8) C dJ6_bitCount_0f7a4_36 rfl ?_
  refine wp_iushr (by omega) C dJ6_bitCount_0f7a4_38 ?_
  refine wp_top (show _ = ((w / 256 : Nat) : Int) from sh_n1 (k := 8) (by omega)) ?_
  refine wp_iadd C dJ6_bitCount_0f7a4_39 ?_
  refine wp_top (show _ = ((w + w / 256 : Nat) : Int) from by omega) ?_
  refine wp_istore_n (ls' := [(0, iv ((w + w / 256 : Nat) : Int))]) [0] C dJ6_bitCount_0f7a4_40 rfl (by decide) rfl ?_
  refine wp_iload_n 0 C dJ6_bitCount_0f7a4_41 rfl rfl ?_
  refine wp_iload_n 0 C dJ6_bitCount_0f7a4_42 rfl rfl ?_
  refine wp_bipush (v := 16) C dJ6_bitCount_0f7a4_43 rfl ?_
  refine wp_iushr (by omega) C dJ6_bitCount_0f7a4_45 ?_
  refine wp_top (show _ = (((w + w / 256) / 65536 : Nat) : Int) from sh_n1 (k := 16) (by omega)) ?_
  refine wp_iadd C dJ6_bitCount_0f7a4_46 ?_
  refine wp_top (show _ = ((w + w / 256 + (w + w / 256) / 65536 : Nat) : Int) from by omega) ?_
  refine wp_istore_n (ls' := [(0, iv ((w + w / 256 + (w + w / 256) / 65536 : Nat) : Int))]) [0] C dJ6_bitCount_0f7a4_47 rfl (by decide) rfl ?_
  refine wp_iload_n 0 C dJ6_bitCount_0f7a4_48 rfl rfl ?_
  refine wp_bipush (v := 63) C dJ6_bitCount_0f7a4_49 rfl ?_
  refine wp_iand C dJ6_bitCount_0f7a4_51 ?_
  refine wp_iret C dJ6_bitCount_0f7a4_52 ?_
  exact ret_iv (by rw [show (63 : Int) = 2 ^ 6 - 1 from rfl, bAnd_mask 6 (by omega), hc]; omega)


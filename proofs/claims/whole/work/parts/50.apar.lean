/-! ===== Apart: restOf, asLot, pack, mostOf, lotOfRow; EvenTen.apart ===== -/
theorem bXor_N {a b : Nat} (ha : a < 2147483648) (hb : b < 2147483648) : bXor (a : Int) (b : Int) = ((a ^^^ b : Nat) : Int) := by
  rw [bXor_nat (by omega) (by omega), Int.toNat_natCast, Int.toNat_natCast]
theorem bOr_N {a b : Nat} (ha : a < 2147483648) (hb : b < 2147483648) : bOr (a : Int) (b : Int) = ((a ||| b : Nat) : Int) := by
  rw [bOr_nat (by omega) (by omega), Int.toNat_natCast, Int.toNat_natCast]
theorem p2_31 {j : Nat} (hj : j < 31) : 2 ^ j < 2147483648 := Nat.lt_of_le_of_lt (Nat.pow_le_pow_right (by decide) (show j ≤ 30 by omega)) (by decide)
theorem bXor_p {a j : Nat} (ha : a < 2147483648) (hj : j < 31) : bXor (a : Int) (1 * 2 ^ j) = ((a ^^^ 2 ^ j : Nat) : Int) := by
  rw [show (1 * 2 ^ j : Int) = ((2 ^ j : Nat) : Int) by rw [Int.one_mul, p2_cast], bXor_N ha (p2_31 hj)]
theorem p12 {n S : Nat} (hn : n ≤ 12) (hS : S < 2 ^ n) : S < 4096 := Nat.lt_of_lt_of_le hS (Nat.pow_le_pow_right (by decide) hn)
theorem tbn {S j : Nat} (h : (S : Int) / 2 ^ j % 2 = 1) : S.testBit j = true := tb_nat.mp h
theorem tbn' {S j : Nat} (h : ¬ (S : Int) / 2 ^ j % 2 = 1) : S.testBit j = false := by
  cases q : S.testBit j with
  | false => rfl
  | true => exact absurd (tb_nat.mpr q) h
theorem sumB_hi {f : Nat → Int} {S n : Nat} (hS : S < 2 ^ n) : ∀ m : Nat, n ≤ m → sumB f (S : Int) m = sumB f (S : Int) n
  | 0, h => by rw [show n = 0 by omega]
  | m + 1, h => by
    rcases (show n = m + 1 ∨ n ≤ m by omega) with z | z
    · rw [z]
    · rw [sumB_low (Nat.lt_of_lt_of_le hS (Nat.pow_le_pow_right (by decide) z)), sumB_hi hS m z]
theorem cntB_hi {S n : Nat} (hS : S < 2 ^ n) (hn : n ≤ 20) : cntB (S : Int) 20 = cntB (S : Int) n := sumB_hi hS 20 hn
theorem addF_cnt (n : Nat) : addF (fun S => cntB (S : Int) n) := addF_sumB _ n
theorem cnt_p2 {n b : Nat} (hb : b < n) : cntB ((2 ^ b : Nat) : Int) n = 1 := by
  have h0 : ∀ m : Nat, m ≤ b → sumB (fun _ => 1) ((2 ^ b : Nat) : Int) m = 0 := fun m => by
    induction m with
    | zero => intro _; rfl
    | succ m ih =>
      intro hm
      rw [sumB_nat, ih (by omega), Nat.testBit_two_pow, decide_eq_false (by omega)]
      rfl
  unfold cntB
  rw [sumB_hi (n := b + 1) (Nat.pow_lt_pow_right (by decide) (by omega)) n (by omega), sumB_nat, h0 b (Nat.le_refl b), Nat.testBit_two_pow, decide_eq_true rfl]
  rfl
def layB (N : Nat → Int) (p : Int) (n : Nat) (k : Int) (S : Nat) : Prop := lay (fun S => cntB (S : Int) n) (fun S => sumB N (S : Int) n) p k S
def apV (N : Nat → Int) (p : Int) (n : Nat) (k v : Int) (S : Nat) : Prop := mxP (teB N p n k) S (v / 2).toNat ∧ (v % 2 = 1 ↔ layB N p n k S) ∧ 0 ≤ v ∧ v ≤ 25
theorem mx_le {N : Nat → Int} {p k : Int} {n S a : Nat} (hk : 1 ≤ k) (h : mxP (teB N p n k) S a) : a ≤ n := by
  obtain ⟨U, u1, u2⟩ := h.1
  have h1 := tU_card (addF_cnt n) a U u2
  have h2 := cntB_r (U : Int) n
  have h3 : (a : Int) * 1 ≤ a * k := Int.mul_le_mul_of_nonneg_left hk (by omega)
  have h1' : cntB (U : Int) n = a * k := h1
  omega
theorem apV_0 {N : Nat → Int} {p k : Int} {n : Nat} (hk : 1 ≤ k) : apV N p n k 1 0 := by
  have hU : ∀ j U, sb U 0 → tU (teB N p n k) j U → j = 0 := fun j U h1 h2 => by
    have e : U = 0 := sb_ext h1 (sb_0 U)
    subst e
    cases j with
    | zero => rfl
    | succ j =>
      have h3 : cntB ((0 : Nat) : Int) n = ((j + 1 : Nat) : Int) * k := tU_card (addF_cnt n) (j + 1) 0 h2
      have h4 : cntB ((0 : Nat) : Int) n = 0 := addF_0 (addF_cnt n)
      have h5 : ((j + 1 : Nat) : Int) * 1 ≤ ((j + 1 : Nat) : Int) * k := Int.mul_le_mul_of_nonneg_left hk (by omega)
      omega
  refine ⟨⟨⟨0, sb_refl 0, rfl⟩, fun j hj => ?_⟩, ⟨fun _ => ⟨0, 0, sb_refl 0, rfl, by omega⟩, fun _ => by decide⟩, by decide, by decide⟩
  obtain ⟨U, u1, u2⟩ := hj
  rw [hU j U u1 u2]
  exact Nat.zero_le _
theorem x_lt {S b : Nat} (h : S.testBit b = true) : S ^^^ 2 ^ b < S := by
  refine lt_tbt b ?_ h ?_
  · rw [Nat.testBit_xor, h, Nat.testBit_two_pow, decide_eq_true rfl]; rfl
  · intro j hj
    rw [Nat.testBit_xor, Nat.testBit_two_pow, decide_eq_false (by omega), Bool.xor_false]
theorem pack_fin {N : Nat → Int} {p k : Int} {n S : Nat} (hn : n ≤ 12) (hk : 1 ≤ k) (hS : 0 < S ∧ S < 2 ^ n) {g : Nat → Int} (hpk : ∀ T, T < S → apV N p n k (g T) T) {x3 x4 : Int} (h3 : 0 ≤ x3)
    (hm : ∀ b, S.testBit b = true → g (S ^^^ 2 ^ b) / 2 ≤ x3) (hm2 : x3 = 0 ∨ ∃ b, S.testBit b = true ∧ x3 = g (S ^^^ 2 ^ b) / 2) (h01 : x4 = 0 ∨ x4 = 1) (hl : x4 = 1 ↔ ∃ b, S.testBit b = true ∧ g (S ^^^ 2 ^ b) % 2 = 1) {a : Int}
    (ha : (x4 = 1 ∧ cntB (S : Int) n % k = 0 ∧ sumB N (S : Int) n % p = 0 ∧ a = cntB (S : Int) n / k * 2 + 1) ∨ (x4 = 1 ∧ cntB (S : Int) n % k = 0 ∧ ¬ sumB N (S : Int) n % p = 0 ∧ a = x3 * 2) ∨ ((x4 = 0 ∨ ¬ cntB (S : Int) n % k = 0) ∧ a = x3 * 2 + x4)) : apV N p n k a S := by
  have hS0 : S ≠ 0 := by omega
  have h1 : ∀ b, S.testBit b = true → cntB ((2 ^ b : Nat) : Int) n = 1 := fun b hb => cnt_p2 (lt_tb hS.2 hb)
  have hc0 : ∀ U : Nat, 0 ≤ cntB (U : Int) n := fun U => (cntB_r _ n).1
  have hlay : (∃ b, S.testBit b = true ∧ layB N p n k (S ^^^ 2 ^ b)) ↔ x4 = 1 := by
    rw [hl]
    exact ⟨fun ⟨b, b1, b2⟩ => ⟨b, b1, ((hpk _ (x_lt b1)).2.1).mpr b2⟩, fun ⟨b, b1, b2⟩ => ⟨b, b1, ((hpk _ (x_lt b1)).2.1).mp b2⟩⟩
  have hL : layB N p n k S ↔ (∃ b, S.testBit b = true ∧ layB N p n k (S ^^^ 2 ^ b)) ∧ (¬ cntB (S : Int) n % k = 0 ∨ sumB N (S : Int) n % p = 0) := lay_step (addF_cnt n) (addF_sumB N n) hk hc0 h1 hS0
  rw [hlay] at hL
  have hmx : ∀ r : Nat, ((x4 = 1 ∧ cntB (S : Int) n % k = 0 ∧ sumB N (S : Int) n % p = 0) ∧ r = (cntB (S : Int) n / k).toNat) ∨ (¬ (x4 = 1 ∧ cntB (S : Int) n % k = 0 ∧ sumB N (S : Int) n % p = 0) ∧ r = x3.toNat) → mxP (teB N p n k) S r := fun r hr => by
    refine mx_step (A := fun T => (g T / 2).toNat) (m := x3.toNat) (addF_cnt n) (addF_sumB N n) hk hc0 h1 hS0 (fun b hb => (hpk _ (x_lt hb)).1) (fun b hb => ?_) ?_ ?_
    · have := hm b hb
      show (g (S ^^^ 2 ^ b) / 2).toNat ≤ x3.toNat
      omega
    · rcases hm2 with z | ⟨b, b1, b2⟩
      · left; omega
      · right; exact ⟨b, b1, by show x3.toNat = (g (S ^^^ 2 ^ b) / 2).toNat; rw [b2]⟩
    · rw [← hlay] at hr
      exact hr
  have hd0 : 0 ≤ cntB (S : Int) n / k := Int.ediv_nonneg (hc0 S) (by omega)
  rcases ha with ⟨a1, a2, a3, a4⟩ | ⟨a1, a2, a3, a4⟩ | ⟨a1, a2⟩
  · have hM := hmx (cntB (S : Int) n / k).toNat (Or.inl ⟨⟨a1, a2, a3⟩, rfl⟩)
    have hle := mx_le hk hM
    generalize cntB (S : Int) n / k = q at *
    refine ⟨by rw [show a / 2 = q by omega]; exact hM, ?_, by omega, by omega⟩
    rw [hL]
    exact ⟨fun _ => ⟨a1, Or.inr a3⟩, fun _ => by omega⟩
  · have hM := hmx x3.toNat (Or.inr ⟨fun z => a3 z.2.2, rfl⟩)
    have hle := mx_le hk hM
    refine ⟨by rw [show a / 2 = x3 by omega]; exact hM, ?_, by omega, by omega⟩
    rw [hL]
    exact ⟨fun z => by omega, fun z => absurd z.2 (fun y => y.elim (fun w => w a2) a3)⟩
  · have hM := hmx x3.toNat (Or.inr ⟨fun z => a1.elim (by omega) (fun w => w z.2.1), rfl⟩)
    have hle := mx_le hk hM
    refine ⟨by rw [show a / 2 = x3 by omega]; exact hM, ?_, by omega, by omega⟩
    rw [hL]
    constructor
    · intro z
      have : x4 = 1 := by omega
      exact ⟨this, Or.inl (a1.elim (by omega) id)⟩
    · rintro ⟨z, -⟩
      omega
theorem rvA_lt {n S b : Nat} (hb : b ≤ n) : rvA n S b < 2 ^ n := by
  apply Nat.lt_pow_two_of_testBit
  intro j hj
  rw [rvA_tb b j hb, decide_eq_false (by omega)]
  rfl
theorem rvA_step {n S : Nat} {x : Int} (hn : n ≤ 12) (hx : 0 ≤ x ∧ x < n) : bOr (rvA n S x.toNat : Int) ((S : Int) / 2 ^ x.toNat % 2 * 2 ^ ((n : Int) - 1 - x).toNat) = (rvA n S (x + 1).toNat : Int) := by
  have h1 := rvA_lt (n := n) (S := S) (b := x.toNat) (by omega)
  have h2 := p12 hn h1
  rw [show (x + 1).toNat = x.toNat + 1 by omega, rvA, show ((n : Int) - 1 - x).toNat = n - 1 - x.toNat by omega]
  by_cases q : (S : Int) / 2 ^ x.toNat % 2 = 1
  · rw [q, if_pos (tbn q), Int.one_mul, ← p2_cast, bOr_N (by omega) (p2_31 (by omega))]
  · have : (S : Int) / 2 ^ x.toNat % 2 = 0 := by omega
    rw [this, tbn' q, Int.zero_mul]
    have := bOr_N (a := rvA n S x.toNat) (b := 0) (by omega) (by decide)
    simpa using this
set_option maxRecDepth 100000 in
set_option maxHeartbeats 4000000 in
theorem c_aRestOf (E : En) (h : Hp) (n : Nat) (N : Nat → Int) (p : Int) (hn : h 1 4 = (n : Int)) (hn12 : n ≤ 12) (hpp : h 1 5 = p) (hp : 2 ≤ p ∧ p ≤ 10) (hr : ∀ b : Nat, b < n → h 124 b = N b % p) (S : Nat) (hS : S < 2 ^ n) : Ct 1 yX0_restOf cX0_restOf 4 (some .int) E [rv E 123, iv (S : Int)] h (Ret (iv (sumB N (S : Int) n % p)) h) := by
  have hS12 := p12 hn12 hS
  refine ct_intro (by decide) (Nat.le_of_ble_eq_true rfl) (fun G C => ?_)
  show Wp G E 4 (Ret (iv (sumB N (S : Int) n % p)) h) 0 [(0, rv E 123), (1, iv (S : Int))] [] h
  refine wp_iconst (v := 0) C dX0_restOf_0 rfl ?_
  refine wp_istore_n (ls' := [(0, rv E 123), (1, iv (S : Int)), (2, iv 0)]) [1, 2, 0] C dX0_restOf_1 rfl (by decide) rfl ?_
  refine wp_iconst (v := 0) C dX0_restOf_2 rfl ?_
  refine wp_istore_n (ls' := [(0, rv E 123), (1, iv (S : Int)), (2, iv 0), (3, iv 0)]) [1, 2, 3, 0] C dX0_restOf_3 rfl (by decide) rfl ?_
  have q40 : ∀ n9 : Nat, ∀ (x2 : Int) (x3 : Int), (0 ≤ x3 ∧ x3 ≤ n) → (x2 = sumB N (S : Int) x3.toNat % p) → ((n : Int) - x3).toNat < n9 → Wp G E 4 (Ret (iv (sumB N (S : Int) n % p)) h) 4 [(0, rv E 123), (1, iv (S : Int)), (2, iv x2), (3, iv x3)] [] h := by
    intro n9
    induction n9 with
    | zero => intro x2 x3 hi hx2 hm9; exact absurd hm9 (Nat.not_lt_zero _)
    | succ n9 ih9 =>
      intro x2 x3 hi hx2 hm9
      have ih9_4 := ih9
      refine wp_iload_n 3 C dX0_restOf_4 rfl rfl ?_
      refine wp_aloadR_n 0 C dX0_restOf_5 rfl rfl ?_
      refine wp_getR flX0_15 sh_123 rfl C dX0_restOf_6 ?_
      refine wp_getI flX0_22 sh_1 rfl C dX0_restOf_9 ?_
      refine wp_icmp_ge (tgt := 49) (by omega) (by omega) C dX0_restOf_12 (by decide) (fun c_12 => ?_) (fun c_12 => ?_)
      · skip
        refine wp_iload_n 2 C dX0_restOf_49 rfl rfl ?_
        refine wp_iret C dX0_restOf_50 ?_
        exact ret_iv (by rw [hx2, show x3.toNat = n by omega])
      · skip
        refine wp_iload_n 1 C dX0_restOf_15 rfl rfl ?_
        refine wp_iload_n 3 C dX0_restOf_16 rfl rfl ?_
        refine wp_ishr (by omega) (by omega) C dX0_restOf_17 ?_
        refine wp_iconst (v := 1) C dX0_restOf_18 rfl ?_
        refine wp_iand C dX0_restOf_19 ?_
        refine wp_top (bAnd_1 _) ?_
        refine wp_iconst (v := 1) C dX0_restOf_20 rfl ?_
        refine wp_icmp_ne (tgt := 43) (by omega) (by omega) C dX0_restOf_21 (by decide) (fun c_21 => ?_) (fun c_21 => ?_)
        · skip
          obtain ⟨v1, e_v1⟩ : ∃ z : Int, z = x3 + (1) := ⟨_, rfl⟩
          refine wp_iinc (j := 3) (y := v1) (ls' := [(0, rv E 123), (1, iv (S : Int)), (2, iv x2), (3, iv v1)]) [1, 2, 3, 0] C dX0_restOf_43 rfl e_v1 (by decide) rfl ?_
          refine wp_goto (tgt := 4) C dX0_restOf_46 (by decide) ?_
          exact ih9_4 x2 v1 (by omega) (by rw [e_v1, hx2, show (x3 + 1).toNat = x3.toNat + 1 by omega, sumB, if_neg (by omega), Int.add_zero]) (by omega)
        · skip
          have hr9 := hr x3.toNat (by omega)
          have hm9 := mod_r (N x3.toNat) hp
          have hm8 := mod_r (sumB N (S : Int) x3.toNat) hp
          refine wp_iload_n 2 C dX0_restOf_24 rfl rfl ?_
          refine wp_aloadR_n 0 C dX0_restOf_25 rfl rfl ?_
          refine wp_getR flX0_9 sh_123 rfl C dX0_restOf_26 ?_
          refine wp_iload_n 3 C dX0_restOf_29 rfl rfl ?_
          refine wp_iald sh_124 (by omega) C dX0_restOf_30 ?_
          refine wp_iadd C dX0_restOf_31 ?_
          refine wp_aloadR_n 0 C dX0_restOf_32 rfl rfl ?_
          refine wp_getR flX0_15 sh_123 rfl C dX0_restOf_33 ?_
          refine wp_getI flX0_52 sh_1 rfl C dX0_restOf_36 ?_
          refine wp_callSNp (rest := []) (c_turned E h (x2 + (h 124 x3.toNat)) (h 1 5) (by omega) (by omega)) snX0_55 (by decide) rfl rfl (Nat.le_of_ble_eq_true rfl) C dX0_restOf_39 ?_
          refine wp_nm (fun v2 e_v2 => ?_)
          refine wp_istore_n (ls' := [(0, rv E 123), (1, iv (S : Int)), (2, iv v2), (3, iv x3)]) [1, 2, 0, 3] C dX0_restOf_42 rfl (by decide) rfl ?_
          obtain ⟨v3, e_v3⟩ : ∃ z : Int, z = x3 + (1) := ⟨_, rfl⟩
          refine wp_iinc (j := 3) (y := v3) (ls' := [(0, rv E 123), (1, iv (S : Int)), (2, iv v2), (3, iv v3)]) [1, 2, 3, 0] C dX0_restOf_43 rfl e_v3 (by decide) rfl ?_
          refine wp_goto (tgt := 4) C dX0_restOf_46 (by decide) ?_
          exact ih9_4 v2 v3 (by omega) (by rw [e_v2, e_v3, hx2, hr9, hpp, trn_mod hp, show (x3 + 1).toNat = x3.toNat + 1 by omega, sumB, if_pos (by omega)]) (by omega)
  have q4 : ∀ (x2 : Int) (x3 : Int), (0 ≤ x3 ∧ x3 ≤ n) → (x2 = sumB N (S : Int) x3.toNat % p) → Wp G E 4 (Ret (iv (sumB N (S : Int) n % p)) h) 4 [(0, rv E 123), (1, iv (S : Int)), (2, iv x2), (3, iv x3)] [] h := fun x2 x3 hi hx2 => q40 _ x2 x3 hi hx2 (Nat.lt_succ_self _)
  exact q4 0 0 (by omega) (by show 0 = (0 : Int) % p; rw [Int.zero_emod])

set_option maxRecDepth 100000 in
set_option maxHeartbeats 4000000 in
theorem c_asLot (E : En) (h : Hp) (n : Nat) (hn : h 1 4 = (n : Int)) (hn12 : n ≤ 12) (S : Nat) (hS : S < 2 ^ n) : Ct 0 yX0_asLot cX0_asLot 4 (some .int) E [rv E 123, iv (S : Int)] h (Ret (iv (rvN n S : Int)) h) := by
  have hS12 := p12 hn12 hS
  refine ct_intro (by decide) (Nat.le_of_ble_eq_true rfl) (fun G C => ?_)
  show Wp G E 4 (Ret (iv (rvN n S : Int)) h) 0 [(0, rv E 123), (1, iv (S : Int))] [] h
  refine wp_iconst (v := 0) C dX0_asLot_0 rfl ?_
  refine wp_istore_n (ls' := [(0, rv E 123), (1, iv (S : Int)), (2, iv 0)]) [1, 2, 0] C dX0_asLot_1 rfl (by decide) rfl ?_
  refine wp_iconst (v := 0) C dX0_asLot_2 rfl ?_
  refine wp_istore_n (ls' := [(0, rv E 123), (1, iv (S : Int)), (2, iv 0), (3, iv 0)]) [1, 2, 3, 0] C dX0_asLot_3 rfl (by decide) rfl ?_
  have q40 : ∀ n9 : Nat, ∀ (x2 : Int) (x3 : Int), (0 ≤ x3 ∧ x3 ≤ n) → (x2 = (rvA n S x3.toNat : Int)) → ((n : Int) - x3).toNat < n9 → Wp G E 4 (Ret (iv (rvN n S : Int)) h) 4 [(0, rv E 123), (1, iv (S : Int)), (2, iv x2), (3, iv x3)] [] h := by
    intro n9
    induction n9 with
    | zero => intro x2 x3 hi hx2 hm9; exact absurd hm9 (Nat.not_lt_zero _)
    | succ n9 ih9 =>
      intro x2 x3 hi hx2 hm9
      have ih9_4 := ih9
      refine wp_iload_n 3 C dX0_asLot_4 rfl rfl ?_
      refine wp_aloadR_n 0 C dX0_asLot_5 rfl rfl ?_
      refine wp_getR flX0_15 sh_123 rfl C dX0_asLot_6 ?_
      refine wp_getI flX0_22 sh_1 rfl C dX0_asLot_9 ?_
      refine wp_icmp_ge (tgt := 41) (by omega) (by omega) C dX0_asLot_12 (by decide) (fun c_12 => ?_) (fun c_12 => ?_)
      · skip
        refine wp_iload_n 2 C dX0_asLot_41 rfl rfl ?_
        refine wp_iret C dX0_asLot_42 ?_
        exact ret_iv (by rw [hx2, show x3.toNat = n by omega]; rfl)
      · skip
        refine wp_iload_n 2 C dX0_asLot_15 rfl rfl ?_
        refine wp_iload_n 1 C dX0_asLot_16 rfl rfl ?_
        refine wp_iload_n 3 C dX0_asLot_17 rfl rfl ?_
        refine wp_ishr (by omega) (by omega) C dX0_asLot_18 ?_
        refine wp_iconst (v := 1) C dX0_asLot_19 rfl ?_
        refine wp_iand C dX0_asLot_20 ?_
        refine wp_top (bAnd_1 _) ?_
        refine wp_aloadR_n 0 C dX0_asLot_21 rfl rfl ?_
        refine wp_getR flX0_15 sh_123 rfl C dX0_asLot_22 ?_
        refine wp_getI flX0_22 sh_1 rfl C dX0_asLot_25 ?_
        refine wp_iconst (v := 1) C dX0_asLot_28 rfl ?_
        refine wp_isub C dX0_asLot_29 ?_
        refine wp_iload_n 3 C dX0_asLot_30 rfl rfl ?_
        refine wp_isub C dX0_asLot_31 ?_
        refine wp_ishl (by omega) C dX0_asLot_32 ?_
        refine wp_ior C dX0_asLot_33 ?_
        refine wp_nm (fun v1 e_v1 => ?_)
        refine wp_istore_n (ls' := [(0, rv E 123), (1, iv (S : Int)), (2, iv v1), (3, iv x3)]) [1, 2, 0, 3] C dX0_asLot_34 rfl (by decide) rfl ?_
        obtain ⟨v2, e_v2⟩ : ∃ z : Int, z = x3 + (1) := ⟨_, rfl⟩
        refine wp_iinc (j := 3) (y := v2) (ls' := [(0, rv E 123), (1, iv (S : Int)), (2, iv v1), (3, iv v2)]) [1, 2, 3, 0] C dX0_asLot_35 rfl e_v2 (by decide) rfl ?_
        refine wp_goto (tgt := 4) C dX0_asLot_38 (by decide) ?_
        exact ih9_4 v1 v2 (by omega) (by rw [e_v1, e_v2, hx2, hn]; exact rvA_step hn12 (by omega)) (by omega)
  have q4 : ∀ (x2 : Int) (x3 : Int), (0 ≤ x3 ∧ x3 ≤ n) → (x2 = (rvA n S x3.toNat : Int)) → Wp G E 4 (Ret (iv (rvN n S : Int)) h) 4 [(0, rv E 123), (1, iv (S : Int)), (2, iv x2), (3, iv x3)] [] h := fun x2 x3 hi hx2 => q40 _ x2 x3 hi hx2 (Nat.lt_succ_self _)
  exact q4 0 0 (by omega) (rfl)

theorem or01 {x w : Int} (h : x = 0 ∨ x = 1) : (bOr x (w % 2) = 0 ∨ bOr x (w % 2) = 1) ∧ (bOr x (w % 2) = 1 ↔ x = 1 ∨ w % 2 = 1) := by
  have hw : w % 2 = 0 ∨ w % 2 = 1 := by omega
  rcases h with rfl | rfl <;> rcases hw with q | q <;> rw [q] <;> decide
theorem or_dbl {x y : Int} (hx : 0 ≤ x ∧ x ≤ 1000000) (hy : y = 0 ∨ y = 1) : bOr (x * 2 ^ Int.toNat 1) y = x * 2 + y := by
  obtain ⟨a, rfl⟩ := Int.eq_ofNat_of_zero_le hx.1
  have e : (a : Int) * 2 ^ Int.toNat 1 = ((a * 2 : Nat) : Int) := by simp
  rcases hy with rfl | rfl
  · rw [e, show (0 : Int) = ((0 : Nat) : Int) from rfl, bOr_N (by omega) (by decide), Nat.or_zero]; omega
  · rw [e, show (1 : Int) = ((1 : Nat) : Int) from rfl, bOr_N (by omega) (by decide)]
    have : a * 2 ||| 1 = a * 2 + 1 := by
      have := Nat.two_pow_add_eq_or_of_lt (i := 1) (b := 1) (by decide) a
      rw [Nat.pow_one, Nat.mul_comm] at this
      exact this.symm
    rw [this]; omega
set_option maxRecDepth 100000 in
set_option maxHeartbeats 4000000 in
theorem c_pack (E : En) (h : Hp) (n : Nat) (N : Nat → Int) (p : Int) (hn : h 1 4 = (n : Int)) (hn12 : n ≤ 12) (hpp : h 1 5 = p) (hp : 2 ≤ p ∧ p ≤ 10) (hr : ∀ b : Nat, b < n → h 124 b = N b % p) (k : Int) (hk : 1 ≤ k ∧ k ≤ 20) (S : Nat) (hS : 0 < S ∧ S < 2 ^ n) (hpk : ∀ T, T < S → apV N p n k (h 27 T) T) : Ct 2 yX0_pack cX0_pack 7 (some .int) E [rv E 123, iv (S : Int), iv k] h (fun v hx => hx = h ∧ ∃ a, v = some (iv a) ∧ apV N p n k a S) := by
  have hS12 := p12 hn12 hS.2
  refine ct_intro (by decide) (Nat.le_of_ble_eq_true rfl) (fun G C => ?_)
  show Wp G E 7 (fun v hx => hx = h ∧ ∃ a, v = some (iv a) ∧ apV N p n k a S) 0 [(0, rv E 123), (1, iv (S : Int)), (2, iv k)] [] h
  refine wp_iconst (v := 0) C dX0_pack_0 rfl ?_
  refine wp_istore_n (ls' := [(0, rv E 123), (1, iv (S : Int)), (2, iv k), (3, iv 0)]) [1, 2, 3, 0] C dX0_pack_1 rfl (by decide) rfl ?_
  refine wp_iconst (v := 0) C dX0_pack_2 rfl ?_
  refine wp_istore (ls' := [(0, rv E 123), (1, iv (S : Int)), (2, iv k), (3, iv 0), (4, iv 0)]) [1, 2, 3, 4, 0] C dX0_pack_3 (by decide) rfl ?_
  refine wp_iconst (v := 0) C dX0_pack_5 rfl ?_
  refine wp_istore (ls' := [(0, rv E 123), (1, iv (S : Int)), (2, iv k), (3, iv 0), (4, iv 0), (5, iv 0)]) [1, 2, 3, 4, 5, 0] C dX0_pack_6 (by decide) rfl ?_
  have q80 : ∀ n9 : Nat, ∀ (x3 : Int) (x4 : Int) (x5 : Int), (0 ≤ x5 ∧ x5 ≤ n) → (0 ≤ x3 ∧ x3 ≤ 12) → (∀ b, b < x5.toNat → S.testBit b = true → h 27 (S ^^^ 2 ^ b) / 2 ≤ x3) → (x3 = 0 ∨ ∃ b, b < x5.toNat ∧ S.testBit b = true ∧ x3 = h 27 (S ^^^ 2 ^ b) / 2) → (x4 = 0 ∨ x4 = 1) → (x4 = 1 ↔ ∃ b, b < x5.toNat ∧ S.testBit b = true ∧ h 27 (S ^^^ 2 ^ b) % 2 = 1) → ((n : Int) - x5).toNat < n9 → Wp G E 7 (fun v hx => hx = h ∧ ∃ a, v = some (iv a) ∧ apV N p n k a S) 8 [(0, rv E 123), (1, iv (S : Int)), (2, iv k), (3, iv x3), (4, iv x4), (5, iv x5)] [] h := by
    intro n9
    induction n9 with
    | zero => intro x3 x4 x5 hi hx3 hm hm2 h01 hl hm9; exact absurd hm9 (Nat.not_lt_zero _)
    | succ n9 ih9 =>
      intro x3 x4 x5 hi hx3 hm hm2 h01 hl hm9
      have ih9_8 := ih9
      refine wp_iload 5 C dX0_pack_8 rfl ?_
      refine wp_aloadR_n 0 C dX0_pack_10 rfl rfl ?_
      refine wp_getR flX0_15 sh_123 rfl C dX0_pack_11 ?_
      refine wp_getI flX0_22 sh_1 rfl C dX0_pack_14 ?_
      refine wp_icmp_ge (tgt := 67) (by omega) (by omega) C dX0_pack_17 (by decide) (fun c_17 => ?_) (fun c_17 => ?_)
      · skip
        have hn5 : x5.toNat = n := by omega
        rw [hn5] at hm hm2 hl
        refine wp_iload_n 1 C dX0_pack_67 rfl rfl ?_
        refine wp_callSp (rest := []) (c_bitCount E h (S : Int) (by omega)) ssX0_36 (by decide) rfl rfl (Nat.le_of_ble_eq_true rfl) C dX0_pack_68 ?_
        refine wp_nm (fun sz5 e_sz5 => ?_)
        refine wp_istore (ls' := [(0, rv E 123), (1, iv (S : Int)), (2, iv k), (3, iv x3), (4, iv x4), (5, iv sz5)]) [1, 2, 3, 4, 5, 0] C dX0_pack_71 (by decide) rfl ?_
        rw [cntB_hi hS.2 (by omega)] at e_sz5
        have hcr := cntB_r (S : Int) n
        refine wp_iload 4 C dX0_pack_73 rfl ?_
        refine wp_if_eq (tgt := 90) (by omega) C dX0_pack_75 (by decide) (fun c_75 => ?_) (fun c_75 => ?_)
        · skip
          refine wp_iload_n 3 C dX0_pack_90 rfl rfl ?_
          refine wp_iconst (v := 1) C dX0_pack_91 rfl ?_
          refine wp_ishl (by omega) C dX0_pack_92 ?_
          refine wp_iload 4 C dX0_pack_93 rfl ?_
          refine wp_ior C dX0_pack_95 ?_
          refine wp_iret C dX0_pack_96 ?_
          exact ⟨rfl, _, rfl, pack_fin hn12 hk.1 hS hpk hx3.1 (fun b hb => hm b (lt_tb hS.2 hb) hb) (hm2.elim Or.inl (fun ⟨b, b1, b2⟩ => Or.inr ⟨b, b2⟩)) h01 (hl.trans ⟨fun ⟨b, b1, b2⟩ => ⟨b, b2⟩, fun ⟨b, b2⟩ => ⟨b, lt_tb hS.2 b2.1, b2⟩⟩) (by rw [or_dbl (by omega) h01]; exact Or.inr (Or.inr ⟨Or.inl (by omega), rfl⟩))⟩
        · skip
          refine wp_iload_n 2 C dX0_pack_78 rfl rfl ?_
          refine wp_iconst (v := 1) C dX0_pack_79 rfl ?_
          refine wp_icmp_lt (tgt := 90) (by omega) (by omega) C dX0_pack_80 (by decide) (fun c_80 => ?_) (fun c_80 => ?_)
          · skip
            omega
          · skip
            refine wp_iload 5 C dX0_pack_83 rfl ?_
            refine wp_iload_n 2 C dX0_pack_85 rfl rfl ?_
            refine wp_irem (by omega) (by omega) C dX0_pack_86 ?_
            refine wp_top (show _ = sz5 % k from Int.tmod_eq_emod_of_nonneg (by omega)) ?_
            have hk9 : 0 ≤ sz5 % k ∧ sz5 % k < k := ⟨Int.emod_nonneg _ (by omega), Int.emod_lt_of_pos _ (by omega)⟩
            refine wp_if_eq (tgt := 97) (by omega) C dX0_pack_87 (by decide) (fun c_87 => ?_) (fun c_87 => ?_)
            · skip
              refine wp_aloadR_n 0 C dX0_pack_97 rfl rfl ?_
              refine wp_iload_n 1 C dX0_pack_98 rfl rfl ?_
              refine wp_callVp (rest := []) (c_aRestOf E h n N p hn hn12 hpp hp hr S hS.2) svX0_41 sh_123 (by decide) rfl rfl (Nat.le_of_ble_eq_true rfl) C dX0_pack_99 ?_
              have hm9 := mod_r (sumB N (S : Int) n) hp
              refine wp_if_ne (tgt := 116) (by omega) C dX0_pack_102 (by decide) (fun c_102 => ?_) (fun c_102 => ?_)
              · skip
                refine wp_iload_n 3 C dX0_pack_116 rfl rfl ?_
                refine wp_iconst (v := 1) C dX0_pack_117 rfl ?_
                refine wp_ishl (by omega) C dX0_pack_118 ?_
                refine wp_iret C dX0_pack_119 ?_
                exact ⟨rfl, _, rfl, pack_fin hn12 hk.1 hS hpk hx3.1 (fun b hb => hm b (lt_tb hS.2 hb) hb) (hm2.elim Or.inl (fun ⟨b, b1, b2⟩ => Or.inr ⟨b, b2⟩)) h01 (hl.trans ⟨fun ⟨b, b1, b2⟩ => ⟨b, b2⟩, fun ⟨b, b2⟩ => ⟨b, lt_tb hS.2 b2.1, b2⟩⟩) (by rw [← e_sz5]; exact Or.inr (Or.inl ⟨by omega, by omega, by omega, by simp⟩))⟩
              · skip
                refine wp_iload 5 C dX0_pack_105 rfl ?_
                refine wp_iload_n 2 C dX0_pack_107 rfl rfl ?_
                refine wp_idiv (by omega) (by omega) C dX0_pack_108 ?_
                refine wp_top (show _ = sz5 / k from Int.tdiv_eq_ediv_of_nonneg (by omega)) ?_
                have hk8 : 0 ≤ sz5 / k ∧ sz5 / k ≤ 12 := ⟨Int.ediv_nonneg (by omega) (by omega), Int.le_trans (Int.ediv_le_self _ (by omega)) (by omega)⟩
                refine wp_iconst (v := 1) C dX0_pack_109 rfl ?_
                refine wp_ishl (by omega) C dX0_pack_110 ?_
                refine wp_iconst (v := 1) C dX0_pack_111 rfl ?_
                refine wp_ior C dX0_pack_112 ?_
                refine wp_goto (tgt := 119) C dX0_pack_113 (by decide) ?_
                refine wp_iret C dX0_pack_119 ?_
                exact ⟨rfl, _, rfl, pack_fin hn12 hk.1 hS hpk hx3.1 (fun b hb => hm b (lt_tb hS.2 hb) hb) (hm2.elim Or.inl (fun ⟨b, b1, b2⟩ => Or.inr ⟨b, b2⟩)) h01 (hl.trans ⟨fun ⟨b, b1, b2⟩ => ⟨b, b2⟩, fun ⟨b, b2⟩ => ⟨b, lt_tb hS.2 b2.1, b2⟩⟩) (by rw [or_dbl (by omega) (Or.inr rfl), ← e_sz5]; exact Or.inl ⟨by omega, by omega, by omega, rfl⟩)⟩
            · skip
              refine wp_iload_n 3 C dX0_pack_90 rfl rfl ?_
              refine wp_iconst (v := 1) C dX0_pack_91 rfl ?_
              refine wp_ishl (by omega) C dX0_pack_92 ?_
              refine wp_iload 4 C dX0_pack_93 rfl ?_
              refine wp_ior C dX0_pack_95 ?_
              refine wp_iret C dX0_pack_96 ?_
              exact ⟨rfl, _, rfl, pack_fin hn12 hk.1 hS hpk hx3.1 (fun b hb => hm b (lt_tb hS.2 hb) hb) (hm2.elim Or.inl (fun ⟨b, b1, b2⟩ => Or.inr ⟨b, b2⟩)) h01 (hl.trans ⟨fun ⟨b, b1, b2⟩ => ⟨b, b2⟩, fun ⟨b, b2⟩ => ⟨b, lt_tb hS.2 b2.1, b2⟩⟩) (by rw [or_dbl (by omega) h01]; exact Or.inr (Or.inr ⟨Or.inr (by rw [← e_sz5]; exact c_87), rfl⟩))⟩
      · skip
        refine wp_iload_n 1 C dX0_pack_20 rfl rfl ?_
        refine wp_iload 5 C dX0_pack_21 rfl ?_
        refine wp_ishr (by omega) (by omega) C dX0_pack_23 ?_
        refine wp_iconst (v := 1) C dX0_pack_24 rfl ?_
        refine wp_iand C dX0_pack_25 ?_
        refine wp_top (bAnd_1 _) ?_
        refine wp_iconst (v := 1) C dX0_pack_26 rfl ?_
        refine wp_icmp_ne (tgt := 61) (by omega) (by omega) C dX0_pack_27 (by decide) (fun c_27 => ?_) (fun c_27 => ?_)
        · skip
          obtain ⟨v1, e_v1⟩ : ∃ z : Int, z = x5 + (1) := ⟨_, rfl⟩
          refine wp_iinc (j := 5) (y := v1) (ls' := [(0, rv E 123), (1, iv (S : Int)), (2, iv k), (3, iv x3), (4, iv x4), (5, iv v1)]) [1, 2, 3, 4, 5, 0] C dX0_pack_61 rfl e_v1 (by decide) rfl ?_
          refine wp_goto (tgt := 8) C dX0_pack_64 (by decide) ?_
          exact ih9_8 x3 x4 v1 (by omega) (by omega) (fun b hb hb2 => by have q9 := tbn' c_27; rw [e_v1, show (x5 + 1).toNat = x5.toNat + 1 by omega] at hb; rcases (show b < x5.toNat ∨ b = x5.toNat by omega) with q | rfl; exact hm b q hb2; rw [q9] at hb2; cases hb2) (hm2.elim Or.inl (fun ⟨b, b1, b2⟩ => Or.inr ⟨b, by rw [e_v1, show (x5 + 1).toNat = x5.toNat + 1 by omega]; omega, b2⟩)) (by omega) (by rw [hl]; constructor; exact (fun ⟨b, b1, b2⟩ => ⟨b, by rw [e_v1, show (x5 + 1).toNat = x5.toNat + 1 by omega]; omega, b2⟩); rintro ⟨b, b1, b2, b3⟩; have q9 := tbn' c_27; rw [e_v1, show (x5 + 1).toNat = x5.toNat + 1 by omega] at b1; rcases (show b < x5.toNat ∨ b = x5.toNat by omega) with q | rfl; exact ⟨b, q, b2, b3⟩; rw [q9] at b2; cases b2) (by omega)
        · skip
          have htb := tbn (S := S) (j := x5.toNat) (by omega)
          have hxl := x_lt htb
          have hap := hpk _ hxl
          refine wp_aloadR_n 0 C dX0_pack_30 rfl rfl ?_
          refine wp_getR flX0_19 sh_123 rfl C dX0_pack_31 ?_
          refine wp_iload_n 1 C dX0_pack_34 rfl rfl ?_
          refine wp_iconst (v := 1) C dX0_pack_35 rfl ?_
          refine wp_iload 5 C dX0_pack_36 rfl ?_
          refine wp_ishl (by omega) C dX0_pack_38 ?_
          refine wp_ixor C dX0_pack_39 ?_
          refine wp_top (bXor_p (a := S) (j := x5.toNat) (by omega) (by omega)) ?_
          refine wp_iald sh_27 (by omega) C dX0_pack_40 ?_
          refine wp_top (show _ = h 27 (S ^^^ 2 ^ x5.toNat) by rw [Int.toNat_natCast]) ?_
          refine wp_nm (fun w6 e_w6 => ?_)
          refine wp_istore (ls' := [(0, rv E 123), (1, iv (S : Int)), (2, iv k), (3, iv x3), (4, iv x4), (5, iv x5), (6, iv w6)]) [1, 2, 3, 4, 5, 6, 0] C dX0_pack_41 (by decide) rfl ?_
          have hw6 : 0 ≤ w6 ∧ w6 ≤ 25 := by rw [e_w6]; exact hap.2.2
          refine wp_iload_n 3 C dX0_pack_43 rfl rfl ?_
          refine wp_iload 6 C dX0_pack_44 rfl ?_
          refine wp_iconst (v := 1) C dX0_pack_46 rfl ?_
          refine wp_ishr (by omega) (by omega) C dX0_pack_47 ?_
          refine wp_top (show _ = w6 / 2 by simp) ?_
          refine wp_max (by omega) (by omega) (mT (i := 796) (by decide +kernel) rfl) (mT (i := 455) (by decide +kernel) rfl) (mT (i := 19) (by decide +kernel) rfl) (mT (i := 456) (by decide +kernel) rfl) (Nat.le_of_ble_eq_true rfl) (by decide) C dX0_pack_48 ?_
          refine wp_nm (fun v2 e_v2 => ?_)
          refine wp_istore_n (ls' := [(0, rv E 123), (1, iv (S : Int)), (2, iv k), (3, iv v2), (4, iv x4), (5, iv x5), (6, iv w6)]) [1, 2, 3, 0, 4, 5, 6] C dX0_pack_51 rfl (by decide) rfl ?_
          refine wp_iload 4 C dX0_pack_52 rfl ?_
          refine wp_iload 6 C dX0_pack_54 rfl ?_
          refine wp_iconst (v := 1) C dX0_pack_56 rfl ?_
          refine wp_iand C dX0_pack_57 ?_
          refine wp_top (bAnd_1 _) ?_
          refine wp_ior C dX0_pack_58 ?_
          refine wp_nm (fun v3 e_v3 => ?_)
          refine wp_istore (ls' := [(0, rv E 123), (1, iv (S : Int)), (2, iv k), (3, iv v2), (4, iv v3), (5, iv x5), (6, iv w6)]) [1, 2, 3, 4, 0, 5, 6] C dX0_pack_59 (by decide) rfl ?_
          obtain ⟨v4, e_v4⟩ : ∃ z : Int, z = x5 + (1) := ⟨_, rfl⟩
          refine wp_iinc (j := 5) (y := v4) (ls' := [(0, rv E 123), (1, iv (S : Int)), (2, iv k), (3, iv v2), (4, iv v3), (5, iv v4), (6, iv w6)]) [1, 2, 3, 4, 5, 0, 6] C dX0_pack_61 rfl e_v4 (by decide) rfl ?_
          refine wp_goto (tgt := 8) C dX0_pack_64 (by decide) ?_
          refine wp_loc [0, 1, 2, 3, 4, 5] rfl ?_
          exact ih9_8 v2 v3 v4 (by omega) (by rw [e_v2]; omega) (fun b hb hb2 => by rw [e_v4, show (x5 + 1).toNat = x5.toNat + 1 by omega] at hb; rw [e_v2]; rcases (show b < x5.toNat ∨ b = x5.toNat by omega) with q | rfl; have := hm b q hb2; omega; omega) (by rw [e_v2]; rcases (show max x3 (w6 / 2) = x3 ∨ max x3 (w6 / 2) = w6 / 2 by omega) with z | z; rw [z]; exact hm2.elim Or.inl (fun ⟨b, b1, b2⟩ => Or.inr ⟨b, by rw [e_v4, show (x5 + 1).toNat = x5.toNat + 1 by omega]; omega, b2⟩); exact Or.inr ⟨x5.toNat, by rw [e_v4, show (x5 + 1).toNat = x5.toNat + 1 by omega]; omega, htb, by rw [z, e_w6]⟩) (by rw [e_v3]; exact (or01 h01 (w := w6)).1) (by rw [e_v3, (or01 h01 (w := w6)).2, hl]; constructor; rintro (⟨b, b1, b2⟩ | z); exact ⟨b, by rw [e_v4, show (x5 + 1).toNat = x5.toNat + 1 by omega]; omega, b2⟩; exact ⟨x5.toNat, by rw [e_v4, show (x5 + 1).toNat = x5.toNat + 1 by omega]; omega, htb, by rw [← e_w6]; exact z⟩; rintro ⟨b, b1, b2, b3⟩; rw [e_v4, show (x5 + 1).toNat = x5.toNat + 1 by omega] at b1; rcases (show b < x5.toNat ∨ b = x5.toNat by omega) with q | rfl; exact Or.inl ⟨b, q, b2, b3⟩; exact Or.inr (by rw [e_w6]; exact b3)) (by omega)
  have q8 : ∀ (x3 : Int) (x4 : Int) (x5 : Int), (0 ≤ x5 ∧ x5 ≤ n) → (0 ≤ x3 ∧ x3 ≤ 12) → (∀ b, b < x5.toNat → S.testBit b = true → h 27 (S ^^^ 2 ^ b) / 2 ≤ x3) → (x3 = 0 ∨ ∃ b, b < x5.toNat ∧ S.testBit b = true ∧ x3 = h 27 (S ^^^ 2 ^ b) / 2) → (x4 = 0 ∨ x4 = 1) → (x4 = 1 ↔ ∃ b, b < x5.toNat ∧ S.testBit b = true ∧ h 27 (S ^^^ 2 ^ b) % 2 = 1) → Wp G E 7 (fun v hx => hx = h ∧ ∃ a, v = some (iv a) ∧ apV N p n k a S) 8 [(0, rv E 123), (1, iv (S : Int)), (2, iv k), (3, iv x3), (4, iv x4), (5, iv x5)] [] h := fun x3 x4 x5 hi hx3 hm hm2 h01 hl => q80 _ x3 x4 x5 hi hx3 hm hm2 h01 hl (Nat.lt_succ_self _)
  exact q8 0 0 0 (by omega) (by omega) (fun b hb => absurd hb (by omega)) (Or.inl rfl) (Or.inl rfl) (⟨fun z => absurd z (by decide), fun ⟨b, b1, _⟩ => absurd b1 (by omega)⟩)


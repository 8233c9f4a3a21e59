/-! ===== the reference: reads ===== -/
def MH (h : Hp) (n : Nat) (p : Int) (N Sc Cl Cs : Nat → Int) : Prop := h 131 0 = n ∧ n ≤ 20 ∧ h 131 1 = p ∧ (2 ≤ p ∧ p ≤ 10) ∧ (∀ i, i < n → h 129 i = N i ∧ 0 ≤ N i ∧ N i ≤ 999999999999999) ∧ (∀ i, i < n → h 130 (3 * i) = Sc i ∧ 0 ≤ Sc i ∧ Sc i ≤ 999) ∧ (∀ i, i < n → h 130 (3 * i + 1) = Cl i ∧ 0 ≤ Cl i ∧ Cl i ≤ 3) ∧ (∀ i, i < n → h 130 (3 * i + 2) = Cs i ∧ 0 ≤ Cs i ∧ Cs i ≤ 99)
theorem MH.of {h hx : Hp} {n : Nat} {p : Int} {N Sc Cl Cs : Nat → Int} (M : MH h n p N Sc Cl Cs) (e : ∀ b, hx 129 b = h 129 b ∧ hx 130 b = h 130 b ∧ hx 131 b = h 131 b) : MH hx n p N Sc Cl Cs := by
  obtain ⟨m0, m1, m2, m3, mN, mS, mC, mK⟩ := M
  exact ⟨by rw [(e 0).2.2]; exact m0, m1, by rw [(e 1).2.2]; exact m2, m3, fun i hi => by rw [(e i).1]; exact mN i hi, fun i hi => by rw [(e _).2.1]; exact mS i hi, fun i hi => by rw [(e _).2.1]; exact mC i hi, fun i hi => by rw [(e _).2.1]; exact mK i hi⟩
theorem sumB_mod (N : Nat → Int) (p lot : Int) : ∀ n : Nat, sumB (fun i => N i % p) lot n % p = sumB N lot n % p
  | 0 => rfl
  | n + 1 => by
    show (sumB (fun i => N i % p) lot n + (if lot / 2 ^ n % 2 = 1 then N n % p else 0)) % p = (sumB N lot n + (if lot / 2 ^ n % 2 = 1 then N n else 0)) % p
    rw [Int.add_emod, sumB_mod N p lot n, Int.add_emod (sumB N lot n)]
    congr 1
    congr 1
    split
    · exact Int.emod_emod_of_dvd _ (Int.dvd_refl p)
    · rfl
theorem sumB_le {f : Nat → Int} {lot m : Int} (hm : 0 ≤ m) : ∀ n : Nat, (∀ i, i < n → 0 ≤ f i ∧ f i ≤ m) → 0 ≤ sumB f lot n ∧ sumB f lot n ≤ n * m
  | 0, _ => by simp [sumB]
  | n + 1, hf => by
    have ih := sumB_le (lot := lot) hm n (fun i hi => hf i (by omega))
    have hn := hf n (by omega)
    have e : ((n + 1 : Nat) : Int) * m = n * m + m := by rw [Int.natCast_add, Int.add_mul]; omega
    unfold sumB
    rw [e]
    split <;> omega
set_option maxRecDepth 100000 in
set_option maxHeartbeats 4000000 in
theorem c_in (E : En) (h : Hp) (v a b : Int) (hv : -9223372036854775808 ≤ v ∧ v ≤ 9223372036854775807) (ha : -9223372036854775808 ≤ a ∧ a ≤ 9223372036854775807) (hb : -9223372036854775808 ≤ b ∧ b ≤ 9223372036854775807) : Ct 0 yX12_in cX12_in 6 (some .boolean) E [jv v, jv a, jv b] h (Ret (iv (bi (a ≤ v ∧ v ≤ b))) h) := by
  refine ct_intro (by decide) (Nat.le_of_ble_eq_true rfl) (fun G C => ?_)
  show Wp G E 6 (Ret (iv (bi (a ≤ v ∧ v ≤ b))) h) 0 [(0, jv v), (2, jv a), (4, jv b)] [] h
  refine wp_lload_n 0 C dX12_in_0 rfl rfl ?_
  refine wp_lload_n 1 C dX12_in_1 rfl rfl ?_
  refine wp_lcmp_lt (tgt := 17) (by omega) (by omega) C dX12_in_2 dX12_in_3 (by decide) (fun c_2 => ?_) (fun c_2 => ?_)
  · skip
    refine wp_iconst (v := 0) C dX12_in_17 rfl ?_
    refine wp_zret (by first | exact bi_01 | omega) C dX12_in_18 ?_
    exact ret_b0 (by omega)
  · skip
    refine wp_lload_n 0 C dX12_in_6 rfl rfl ?_
    refine wp_lload 2 C dX12_in_7 rfl ?_
    refine wp_lcmp_gt (tgt := 17) (by omega) (by omega) C dX12_in_9 dX12_in_10 (by decide) (fun c_9 => ?_) (fun c_9 => ?_)
    · skip
      refine wp_iconst (v := 0) C dX12_in_17 rfl ?_
      refine wp_zret (by first | exact bi_01 | omega) C dX12_in_18 ?_
      exact ret_b0 (by omega)
    · skip
      refine wp_iconst (v := 1) C dX12_in_13 rfl ?_
      refine wp_goto (tgt := 18) C dX12_in_14 (by decide) ?_
      refine wp_zret (by first | exact bi_01 | omega) C dX12_in_18 ?_
      exact ret_b1 (by omega)

theorem sh_bd {a : Int} {n : Nat} (ha : -2147483648 ≤ a ∧ a ≤ 2147483647) : -2147483648 ≤ a / 2 ^ n ∧ a / 2 ^ n ≤ 2147483647 := by
  have hp := p2_pos n
  by_cases h : 0 ≤ a
  · have h1 := Int.ediv_nonneg h (Int.le_of_lt hp)
    have h2 := Int.ediv_le_self (2 ^ n) h
    omega
  · have h1 : a / 2 ^ n < 0 := Int.ediv_neg_of_neg_of_pos (by omega) hp
    have h2 : a ≤ a / 2 ^ n := by
      have h3 : -1 * (-a) ≤ -1 * (-a) := Int.le_refl _
      have h4 := Int.le_ediv_of_mul_le (a := a) (b := a) hp (by
        have h5 : a * 2 ^ n ≤ a * 1 := Int.mul_le_mul_of_nonpos_left (by omega) (by omega)
        omega)
      exact h4
    omega
set_option maxRecDepth 100000 in
set_option maxHeartbeats 4000000 in
theorem c_has (E : En) (h : Hp) (a i : Int) (ha : -2147483648 ≤ a ∧ a ≤ 2147483647) (hi : 0 ≤ i ∧ i < 32) : Ct 0 yX12_has cX12_has 2 (some .boolean) E [iv a, iv i] h (Ret (iv (bi (a / 2 ^ i.toNat % 2 = 1))) h) := by
  refine ct_intro (by decide) (Nat.le_of_ble_eq_true rfl) (fun G C => ?_)
  show Wp G E 2 (Ret (iv (bi (a / 2 ^ i.toNat % 2 = 1))) h) 0 [(0, iv a), (1, iv i)] [] h
  refine wp_iload_n 0 C dX12_has_0 rfl rfl ?_
  refine wp_iload_n 1 C dX12_has_1 rfl rfl ?_
  have hd9 : -2147483648 ≤ a / 2 ^ i.toNat ∧ a / 2 ^ i.toNat ≤ 2147483647 := sh_bd ha
  refine wp_ishr (by omega) (by omega) C dX12_has_2 ?_
  refine wp_iconst (v := 1) C dX12_has_3 rfl ?_
  refine wp_iand C dX12_has_4 ?_
  refine wp_top (bAnd_1 _) ?_
  refine wp_iconst (v := 1) C dX12_has_5 rfl ?_
  refine wp_icmp_ne (tgt := 13) (by omega) (by omega) C dX12_has_6 (by decide) (fun c_6 => ?_) (fun c_6 => ?_)
  · skip
    refine wp_iconst (v := 0) C dX12_has_13 rfl ?_
    refine wp_zret (by first | exact bi_01 | omega) C dX12_has_14 ?_
    exact ret_b0 (by omega)
  · skip
    refine wp_iconst (v := 1) C dX12_has_9 rfl ?_
    refine wp_goto (tgt := 14) C dX12_has_10 (by decide) ?_
    refine wp_zret (by first | exact bi_01 | omega) C dX12_has_14 ?_
    exact ret_b1 (by omega)

set_option maxRecDepth 100000 in
set_option maxHeartbeats 4000000 in
theorem c_heaps (E : En) (h : Hp) (n : Nat) (p : Int) (N Sc Cl Cs : Nat → Int) (M0 : MH h n p N Sc Cl Cs)  : Ct 0 yX12_heaps cX12_heaps 1 (some .int) E [rv E 128] h (Ret (iv (n : Int)) h) := by
  obtain ⟨m0, m1, m2, m3, mN, mS, mC, mK⟩ := id M0
  refine ct_intro (by decide) (Nat.le_of_ble_eq_true rfl) (fun G C => ?_)
  show Wp G E 1 (Ret (iv (n : Int)) h) 0 [(0, rv E 128)] [] h
  refine wp_aloadR_n 0 C dX12_heaps_0 rfl rfl ?_
  refine wp_getR flX12_17 sh_128 rfl C dX12_heaps_1 ?_
  refine wp_iconst (v := 0) C dX12_heaps_4 rfl ?_
  refine wp_iald sh_131 (by omega) C dX12_heaps_5 ?_
  refine wp_iret C dX12_heaps_6 ?_
  exact ret_iv (m0)

set_option maxRecDepth 100000 in
set_option maxHeartbeats 4000000 in
theorem c_parts (E : En) (h : Hp) (n : Nat) (p : Int) (N Sc Cl Cs : Nat → Int) (M0 : MH h n p N Sc Cl Cs)  : Ct 0 yX12_parts cX12_parts 1 (some .int) E [rv E 128] h (Ret (iv p) h) := by
  obtain ⟨m0, m1, m2, m3, mN, mS, mC, mK⟩ := id M0
  refine ct_intro (by decide) (Nat.le_of_ble_eq_true rfl) (fun G C => ?_)
  show Wp G E 1 (Ret (iv p) h) 0 [(0, rv E 128)] [] h
  refine wp_aloadR_n 0 C dX12_parts_0 rfl rfl ?_
  refine wp_getR flX12_17 sh_128 rfl C dX12_parts_1 ?_
  refine wp_iconst (v := 1) C dX12_parts_4 rfl ?_
  refine wp_iald sh_131 (by omega) C dX12_parts_5 ?_
  refine wp_iret C dX12_parts_6 ?_
  exact ret_iv (m2)

set_option maxRecDepth 100000 in
set_option maxHeartbeats 4000000 in
theorem c_mrestOf (E : En) (h : Hp) (n : Nat) (p : Int) (N Sc Cl Cs : Nat → Int) (M0 : MH h n p N Sc Cl Cs) (i : Int) (hi : 0 ≤ i ∧ i < n) : Ct 1 yX12_restOf cX12_restOf 2 (some .int) E [rv E 128, iv i] h (Ret (iv (N i.toNat % p)) h) := by
  obtain ⟨m0, m1, m2, m3, mN, mS, mC, mK⟩ := id M0
  obtain ⟨k1, k2, k3⟩ := mN i.toNat (by omega)
  refine ct_intro (by decide) (Nat.le_of_ble_eq_true rfl) (fun G C => ?_)
  show Wp G E 2 (Ret (iv (N i.toNat % p)) h) 0 [(0, rv E 128), (1, iv i)] [] h
  refine wp_aloadR_n 0 C dX12_restOf_0 rfl rfl ?_
  refine wp_getR flX12_7 sh_128 rfl C dX12_restOf_1 ?_
  refine wp_iload_n 1 C dX12_restOf_4 rfl rfl ?_
  refine wp_lald sh_129 (by omega) C dX12_restOf_5 ?_
  refine wp_aloadR_n 0 C dX12_restOf_6 rfl rfl ?_
  refine wp_callVp (rest := [jv (h 129 i.toNat)]) (c_parts E h n p N Sc Cl Cs M0) svX12_157 sh_128 (by decide) rfl rfl (Nat.le_of_ble_eq_true rfl) C dX12_restOf_7 ?_
  refine wp_i2l (by omega) C dX12_restOf_10 ?_
  refine wp_lrem (by omega) (by omega) C dX12_restOf_11 ?_
  refine wp_l2i C dX12_restOf_12 ?_
  refine wp_iret C dX12_restOf_13 ?_
  exact ret_iv (by rw [k1]; exact Int.tmod_eq_emod_of_nonneg k2)

set_option maxRecDepth 100000 in
set_option maxHeartbeats 4000000 in
theorem c_isLot (E : En) (h : Hp) (n : Nat) (p : Int) (N Sc Cl Cs : Nat → Int) (M0 : MH h n p N Sc Cl Cs) (a : Int) (ha : -2147483648 ≤ a ∧ a ≤ 2147483647) : Ct 1 yX12_isLot cX12_isLot 2 (some .boolean) E [rv E 128, iv a] h (Ret (iv (bi (0 ≤ a ∧ a < 2 ^ n))) h) := by
  obtain ⟨m0, m1, m2, m3, mN, mS, mC, mK⟩ := id M0
  have h20 : (2 : Int) ^ n ≤ 2 ^ 20 := p2_mono m1
  have e20 : (2 : Int) ^ 20 = 1048576 := by decide
  have hp9 := p2_pos n
  refine ct_intro (by decide) (Nat.le_of_ble_eq_true rfl) (fun G C => ?_)
  show Wp G E 2 (Ret (iv (bi (0 ≤ a ∧ a < 2 ^ n))) h) 0 [(0, rv E 128), (1, iv a)] [] h
  refine wp_iload_n 1 C dX12_isLot_0 rfl rfl ?_
  refine wp_i2l (by omega) C dX12_isLot_1 ?_
  refine wp_lconst (v := 0) C dX12_isLot_2 rfl ?_
  refine wp_iconst (v := 1) C dX12_isLot_3 rfl ?_
  refine wp_aloadR_n 0 C dX12_isLot_4 rfl rfl ?_
  refine wp_callVp (rest := [iv 1, jv 0, jv a]) (c_heaps E h n p N Sc Cl Cs M0) svX12_141 sh_128 (by decide) rfl rfl (Nat.le_of_ble_eq_true rfl) C dX12_isLot_5 ?_
  refine wp_ishl (by omega) C dX12_isLot_8 ?_
  refine wp_top (show _ = 2 ^ n by rw [Int.toNat_natCast, Int.one_mul]) ?_
  refine wp_iconst (v := 1) C dX12_isLot_9 rfl ?_
  refine wp_isub C dX12_isLot_10 ?_
  refine wp_i2l (by omega) C dX12_isLot_11 ?_
  refine wp_callSp (rest := []) (c_in E h a 0 ((2 ^ n) - 1) (by omega) (by omega) (by omega)) ssX12_69 (by decide) rfl rfl (Nat.le_of_ble_eq_true rfl) C dX12_isLot_12 ?_
  refine wp_zret (by first | exact bi_01 | omega) C dX12_isLot_15 ?_
  exact ret_iv (bi_c (by omega))

theorem cnt_step {a x : Int} (hx : 0 ≤ x) : cntB a x.toNat + a / 2 ^ x.toNat % 2 = cntB a (x + 1).toNat := by
  rw [show (x + 1).toNat = x.toNat + 1 by omega]
  show _ = cntB a x.toNat + (if a / 2 ^ x.toNat % 2 = 1 then 1 else 0)
  have : a / 2 ^ x.toNat % 2 = 0 ∨ a / 2 ^ x.toNat % 2 = 1 := by omega
  rcases this with q | q <;> rw [q] <;> rfl
set_option maxRecDepth 100000 in
set_option maxHeartbeats 4000000 in
theorem c_bits (E : En) (h : Hp) (a : Int) (ha : 0 ≤ a ∧ a ≤ 1048575) : Ct 0 yX12_bits cX12_bits 3 (some .int) E [iv a] h (Ret (iv (cntB a 20)) h) := by
  refine ct_intro (by decide) (Nat.le_of_ble_eq_true rfl) (fun G C => ?_)
  show Wp G E 3 (Ret (iv (cntB a 20)) h) 0 [(0, iv a)] [] h
  refine wp_iconst (v := 0) C dX12_bits_0 rfl ?_
  refine wp_istore_n (ls' := [(0, iv a), (1, iv 0)]) [1, 0] C dX12_bits_1 rfl (by decide) rfl ?_
  refine wp_iconst (v := 0) C dX12_bits_2 rfl ?_
  refine wp_istore_n (ls' := [(0, iv a), (1, iv 0), (2, iv 0)]) [1, 2, 0] C dX12_bits_3 rfl (by decide) rfl ?_
  have q40 : ∀ n9 : Nat, ∀ (x1 : Int) (x2 : Int), (0 ≤ x2 ∧ x2 ≤ 20) → (x1 = cntB a x2.toNat) → (20 - x2).toNat < n9 → Wp G E 3 (Ret (iv (cntB a 20)) h) 4 [(0, iv a), (1, iv x1), (2, iv x2)] [] h := by
    intro n9
    induction n9 with
    | zero => intro x1 x2 hi hs hm9; exact absurd hm9 (Nat.not_lt_zero _)
    | succ n9 ih9 =>
      intro x1 x2 hi hs hm9
      have ih9_4 := ih9
      refine wp_iload_n 2 C dX12_bits_4 rfl rfl ?_
      refine wp_bipush (v := 20) C dX12_bits_5 rfl ?_
      refine wp_icmp_ge (tgt := 24) (by omega) (by omega) C dX12_bits_7 (by decide) (fun c_7 => ?_) (fun c_7 => ?_)
      · skip
        refine wp_iload_n 1 C dX12_bits_24 rfl rfl ?_
        refine wp_iret C dX12_bits_25 ?_
        exact ret_iv (by rw [hs, show x2 = 20 by omega]; rfl)
      · skip
        refine wp_iload_n 1 C dX12_bits_10 rfl rfl ?_
        refine wp_iload_n 0 C dX12_bits_11 rfl rfl ?_
        refine wp_iload_n 2 C dX12_bits_12 rfl rfl ?_
        refine wp_ishr (by omega) (by omega) C dX12_bits_13 ?_
        refine wp_iconst (v := 1) C dX12_bits_14 rfl ?_
        refine wp_iand C dX12_bits_15 ?_
        refine wp_top (bAnd_1 _) ?_
        refine wp_iadd C dX12_bits_16 ?_
        refine wp_nm (fun v1 e_v1 => ?_)
        refine wp_istore_n (ls' := [(0, iv a), (1, iv v1), (2, iv x2)]) [1, 0, 2] C dX12_bits_17 rfl (by decide) rfl ?_
        obtain ⟨v2, e_v2⟩ : ∃ z : Int, z = x2 + (1) := ⟨_, rfl⟩
        refine wp_iinc (j := 2) (y := v2) (ls' := [(0, iv a), (1, iv v1), (2, iv v2)]) [1, 2, 0] C dX12_bits_18 rfl e_v2 (by decide) rfl ?_
        refine wp_goto (tgt := 4) C dX12_bits_21 (by decide) ?_
        exact ih9_4 v1 v2 (by omega) (by rw [e_v1, e_v2, hs]; exact cnt_step (by omega)) (by omega)
  have q4 : ∀ (x1 : Int) (x2 : Int), (0 ≤ x2 ∧ x2 ≤ 20) → (x1 = cntB a x2.toNat) → Wp G E 3 (Ret (iv (cntB a 20)) h) 4 [(0, iv a), (1, iv x1), (2, iv x2)] [] h := fun x1 x2 hi hs => q40 _ x1 x2 hi hs (Nat.lt_succ_self _)
  exact q4 0 0 (by omega) (rfl)

set_option maxRecDepth 100000 in
set_option maxHeartbeats 4000000 in
theorem c_restOfLot0 (E : En) (h : Hp) (n : Nat) (p : Int) (N Sc Cl Cs : Nat → Int) (M0 : MH h n p N Sc Cl Cs) (a : Int) (ha : 0 ≤ a ∧ a ≤ 1048575) : Ct 2 yX12_restOfLot cX12_restOfLot 5 (some .int) E [rv E 128, iv a, iv 0] h (Ret (iv (sumB N a n % p)) h) := by
  obtain ⟨m0, m1, m2, m3, mN, mS, mC, mK⟩ := id M0
  have hb9 : ∀ k : Nat, k ≤ n → 0 ≤ sumB (fun i => N i % p) a k ∧ sumB (fun i => N i % p) a k ≤ k * 999 := fun k hk => sumB_le (by decide) k (fun i hi => by have := mod_r (N i) m3; omega)
  refine ct_intro (by decide) (Nat.le_of_ble_eq_true rfl) (fun G C => ?_)
  show Wp G E 5 (Ret (iv (sumB N a n % p)) h) 0 [(0, rv E 128), (1, iv a), (2, iv 0)] [] h
  refine wp_iconst (v := 0) C dX12_restOfLot_0 rfl ?_
  refine wp_istore_n (ls' := [(0, rv E 128), (1, iv a), (2, iv 0), (3, iv 0)]) [1, 2, 3, 0] C dX12_restOfLot_1 rfl (by decide) rfl ?_
  refine wp_iconst (v := 0) C dX12_restOfLot_2 rfl ?_
  refine wp_istore (ls' := [(0, rv E 128), (1, iv a), (2, iv 0), (3, iv 0), (4, iv 0)]) [1, 2, 3, 4, 0] C dX12_restOfLot_3 (by decide) rfl ?_
  have q50 : ∀ n9 : Nat, ∀ (x3 : Int) (x4 : Int), (0 ≤ x4 ∧ x4 ≤ n) → (x3 = sumB (fun i => N i % p) a x4.toNat) → ((n : Int) - x4).toNat < n9 → Wp G E 5 (Ret (iv (sumB N a n % p)) h) 5 [(0, rv E 128), (1, iv a), (2, iv 0), (3, iv x3), (4, iv x4)] [] h := by
    intro n9
    induction n9 with
    | zero => intro x3 x4 hi hs hm9; exact absurd hm9 (Nat.not_lt_zero _)
    | succ n9 ih9 =>
      intro x3 x4 hi hs hm9
      have ih9_5 := ih9
      refine wp_iload 4 C dX12_restOfLot_5 rfl ?_
      refine wp_aloadR_n 0 C dX12_restOfLot_7 rfl rfl ?_
      refine wp_callVp (rest := [iv x4]) (c_heaps E h n p N Sc Cl Cs M0) svX12_141 sh_128 (by decide) rfl rfl (Nat.le_of_ble_eq_true rfl) C dX12_restOfLot_8 ?_
      refine wp_icmp_ge (tgt := 60) (by omega) (by omega) C dX12_restOfLot_11 (by decide) (fun c_11 => ?_) (fun c_11 => ?_)
      · skip
        have hq9 := hb9 x4.toNat (by omega)
        refine wp_iload_n 3 C dX12_restOfLot_60 rfl rfl ?_
        refine wp_aloadR_n 0 C dX12_restOfLot_61 rfl rfl ?_
        refine wp_callVp (rest := [iv x3]) (c_parts E h n p N Sc Cl Cs M0) svX12_157 sh_128 (by decide) rfl rfl (Nat.le_of_ble_eq_true rfl) C dX12_restOfLot_62 ?_
        refine wp_irem (by omega) (by omega) C dX12_restOfLot_65 ?_
        refine wp_iret C dX12_restOfLot_66 ?_
        exact ret_iv (by rw [Int.tmod_eq_emod_of_nonneg (by omega), hs, show x4 = n by omega, Int.toNat_natCast, sumB_mod])
      · skip
        refine wp_iload_n 3 C dX12_restOfLot_14 rfl rfl ?_
        refine wp_iload_n 1 C dX12_restOfLot_15 rfl rfl ?_
        refine wp_iload 4 C dX12_restOfLot_16 rfl ?_
        refine wp_callSp (rest := [iv x3]) (c_has E h a x4 (by omega) (by omega)) ssX12_167 (by decide) rfl rfl (Nat.le_of_ble_eq_true rfl) C dX12_restOfLot_18 ?_
        refine wp_ifb_ne (tgt := 28) C dX12_restOfLot_21 (by decide) (fun c_21 => ?_) (fun c_21 => ?_)
        · skip
          refine wp_iload_n 2 C dX12_restOfLot_28 rfl rfl ?_
          refine wp_if_eq (tgt := 46) (by omega) C dX12_restOfLot_29 (by decide) (fun c_29 => ?_) (fun c_29 => ?_)
          · skip
            refine wp_aloadR_n 0 C dX12_restOfLot_46 rfl rfl ?_
            refine wp_iload 4 C dX12_restOfLot_47 rfl ?_
            refine wp_callVp (rest := [iv x3]) (c_mrestOf E h n p N Sc Cl Cs M0 x4 (by omega)) svX12_162 sh_128 (by decide) rfl rfl (Nat.le_of_ble_eq_true rfl) C dX12_restOfLot_49 ?_
            refine wp_iadd C dX12_restOfLot_52 ?_
            refine wp_nm (fun v1 e_v1 => ?_)
            refine wp_istore_n (ls' := [(0, rv E 128), (1, iv a), (2, iv 0), (3, iv v1), (4, iv x4)]) [1, 2, 3, 0, 4] C dX12_restOfLot_53 rfl (by decide) rfl ?_
            obtain ⟨v2, e_v2⟩ : ∃ z : Int, z = x4 + (1) := ⟨_, rfl⟩
            refine wp_iinc (j := 4) (y := v2) (ls' := [(0, rv E 128), (1, iv a), (2, iv 0), (3, iv v1), (4, iv v2)]) [1, 2, 3, 4, 0] C dX12_restOfLot_54 rfl e_v2 (by decide) rfl ?_
            refine wp_goto (tgt := 5) C dX12_restOfLot_57 (by decide) ?_
            exact ih9_5 v1 v2 (by omega) (by rw [e_v1, e_v2, hs, show (x4 + 1).toNat = x4.toNat + 1 by omega, sumB, if_pos c_21]) (by omega)
          · skip
            exact absurd rfl c_29
        · skip
          refine wp_iconst (v := 0) C dX12_restOfLot_24 rfl ?_
          refine wp_goto (tgt := 52) C dX12_restOfLot_25 (by decide) ?_
          refine wp_iadd C dX12_restOfLot_52 ?_
          refine wp_nm (fun v3 e_v3 => ?_)
          refine wp_istore_n (ls' := [(0, rv E 128), (1, iv a), (2, iv 0), (3, iv v3), (4, iv x4)]) [1, 2, 3, 0, 4] C dX12_restOfLot_53 rfl (by decide) rfl ?_
          obtain ⟨v4, e_v4⟩ : ∃ z : Int, z = x4 + (1) := ⟨_, rfl⟩
          refine wp_iinc (j := 4) (y := v4) (ls' := [(0, rv E 128), (1, iv a), (2, iv 0), (3, iv v3), (4, iv v4)]) [1, 2, 3, 4, 0] C dX12_restOfLot_54 rfl e_v4 (by decide) rfl ?_
          refine wp_goto (tgt := 5) C dX12_restOfLot_57 (by decide) ?_
          exact ih9_5 v3 v4 (by omega) (by rw [e_v3, e_v4, hs, show (x4 + 1).toNat = x4.toNat + 1 by omega, sumB, if_neg c_21]) (by omega)
  have q5 : ∀ (x3 : Int) (x4 : Int), (0 ≤ x4 ∧ x4 ≤ n) → (x3 = sumB (fun i => N i % p) a x4.toNat) → Wp G E 5 (Ret (iv (sumB N a n % p)) h) 5 [(0, rv E 128), (1, iv a), (2, iv 0), (3, iv x3), (4, iv x4)] [] h := fun x3 x4 hi hs => q50 _ x3 x4 hi hs (Nat.lt_succ_self _)
  exact q5 0 0 (by omega) (rfl)

set_option maxRecDepth 100000 in
set_option maxHeartbeats 4000000 in
theorem c_restOfLot1 (E : En) (h : Hp) (n : Nat) (p : Int) (N Sc Cl Cs : Nat → Int) (M0 : MH h n p N Sc Cl Cs) (a : Int) (ha : 0 ≤ a ∧ a ≤ 1048575) : Ct 2 yX12_restOfLot cX12_restOfLot 5 (some .int) E [rv E 128, iv a, iv 1] h (Ret (iv (sumB Sc a n % p)) h) := by
  obtain ⟨m0, m1, m2, m3, mN, mS, mC, mK⟩ := id M0
  have hb9 : ∀ k : Nat, k ≤ n → 0 ≤ sumB Sc a k ∧ sumB Sc a k ≤ k * 999 := fun k hk => sumB_le (by decide) k (fun i hi => (mS i (by omega)).2)
  refine ct_intro (by decide) (Nat.le_of_ble_eq_true rfl) (fun G C => ?_)
  show Wp G E 5 (Ret (iv (sumB Sc a n % p)) h) 0 [(0, rv E 128), (1, iv a), (2, iv 1)] [] h
  refine wp_iconst (v := 0) C dX12_restOfLot_0 rfl ?_
  refine wp_istore_n (ls' := [(0, rv E 128), (1, iv a), (2, iv 1), (3, iv 0)]) [1, 2, 3, 0] C dX12_restOfLot_1 rfl (by decide) rfl ?_
  refine wp_iconst (v := 0) C dX12_restOfLot_2 rfl ?_
  refine wp_istore (ls' := [(0, rv E 128), (1, iv a), (2, iv 1), (3, iv 0), (4, iv 0)]) [1, 2, 3, 4, 0] C dX12_restOfLot_3 (by decide) rfl ?_
  have q50 : ∀ n9 : Nat, ∀ (x3 : Int) (x4 : Int), (0 ≤ x4 ∧ x4 ≤ n) → (x3 = sumB Sc a x4.toNat) → ((n : Int) - x4).toNat < n9 → Wp G E 5 (Ret (iv (sumB Sc a n % p)) h) 5 [(0, rv E 128), (1, iv a), (2, iv 1), (3, iv x3), (4, iv x4)] [] h := by
    intro n9
    induction n9 with
    | zero => intro x3 x4 hi hs hm9; exact absurd hm9 (Nat.not_lt_zero _)
    | succ n9 ih9 =>
      intro x3 x4 hi hs hm9
      have ih9_5 := ih9
      refine wp_iload 4 C dX12_restOfLot_5 rfl ?_
      refine wp_aloadR_n 0 C dX12_restOfLot_7 rfl rfl ?_
      refine wp_callVp (rest := [iv x4]) (c_heaps E h n p N Sc Cl Cs M0) svX12_141 sh_128 (by decide) rfl rfl (Nat.le_of_ble_eq_true rfl) C dX12_restOfLot_8 ?_
      refine wp_icmp_ge (tgt := 60) (by omega) (by omega) C dX12_restOfLot_11 (by decide) (fun c_11 => ?_) (fun c_11 => ?_)
      · skip
        have hq9 := hb9 x4.toNat (by omega)
        refine wp_iload_n 3 C dX12_restOfLot_60 rfl rfl ?_
        refine wp_aloadR_n 0 C dX12_restOfLot_61 rfl rfl ?_
        refine wp_callVp (rest := [iv x3]) (c_parts E h n p N Sc Cl Cs M0) svX12_157 sh_128 (by decide) rfl rfl (Nat.le_of_ble_eq_true rfl) C dX12_restOfLot_62 ?_
        refine wp_irem (by omega) (by omega) C dX12_restOfLot_65 ?_
        refine wp_iret C dX12_restOfLot_66 ?_
        exact ret_iv (by rw [Int.tmod_eq_emod_of_nonneg (by omega), hs, show x4 = n by omega, Int.toNat_natCast])
      · skip
        refine wp_iload_n 3 C dX12_restOfLot_14 rfl rfl ?_
        refine wp_iload_n 1 C dX12_restOfLot_15 rfl rfl ?_
        refine wp_iload 4 C dX12_restOfLot_16 rfl ?_
        refine wp_callSp (rest := [iv x3]) (c_has E h a x4 (by omega) (by omega)) ssX12_167 (by decide) rfl rfl (Nat.le_of_ble_eq_true rfl) C dX12_restOfLot_18 ?_
        refine wp_ifb_ne (tgt := 28) C dX12_restOfLot_21 (by decide) (fun c_21 => ?_) (fun c_21 => ?_)
        · skip
          refine wp_iload_n 2 C dX12_restOfLot_28 rfl rfl ?_
          refine wp_if_eq (tgt := 46) (by omega) C dX12_restOfLot_29 (by decide) (fun c_29 => ?_) (fun c_29 => ?_)
          · skip
            exact absurd c_29 (by decide)
          · skip
            refine wp_aloadR_n 0 C dX12_restOfLot_32 rfl rfl ?_
            refine wp_getR flX12_13 sh_128 rfl C dX12_restOfLot_33 ?_
            refine wp_iconst (v := 3) C dX12_restOfLot_36 rfl ?_
            refine wp_iload 4 C dX12_restOfLot_37 rfl ?_
            refine wp_imul C dX12_restOfLot_39 ?_
            refine wp_iconst (v := 0) C dX12_restOfLot_40 rfl ?_
            refine wp_iadd C dX12_restOfLot_41 ?_
            have hS9 := mS x4.toNat (by omega)
            refine wp_iald sh_130 (by omega) C dX12_restOfLot_42 ?_
            refine wp_top (show _ = Sc x4.toNat by rw [show (3 * x4 + 0).toNat = 3 * x4.toNat by omega]; exact hS9.1) ?_
            refine wp_goto (tgt := 52) C dX12_restOfLot_43 (by decide) ?_
            refine wp_iadd C dX12_restOfLot_52 ?_
            refine wp_nm (fun v1 e_v1 => ?_)
            refine wp_istore_n (ls' := [(0, rv E 128), (1, iv a), (2, iv 1), (3, iv v1), (4, iv x4)]) [1, 2, 3, 0, 4] C dX12_restOfLot_53 rfl (by decide) rfl ?_
            obtain ⟨v2, e_v2⟩ : ∃ z : Int, z = x4 + (1) := ⟨_, rfl⟩
            refine wp_iinc (j := 4) (y := v2) (ls' := [(0, rv E 128), (1, iv a), (2, iv 1), (3, iv v1), (4, iv v2)]) [1, 2, 3, 4, 0] C dX12_restOfLot_54 rfl e_v2 (by decide) rfl ?_
            refine wp_goto (tgt := 5) C dX12_restOfLot_57 (by decide) ?_
            exact ih9_5 v1 v2 (by omega) (by rw [e_v1, e_v2, hs, show (x4 + 1).toNat = x4.toNat + 1 by omega, sumB, if_pos c_21]) (by omega)
        · skip
          refine wp_iconst (v := 0) C dX12_restOfLot_24 rfl ?_
          refine wp_goto (tgt := 52) C dX12_restOfLot_25 (by decide) ?_
          refine wp_iadd C dX12_restOfLot_52 ?_
          refine wp_nm (fun v3 e_v3 => ?_)
          refine wp_istore_n (ls' := [(0, rv E 128), (1, iv a), (2, iv 1), (3, iv v3), (4, iv x4)]) [1, 2, 3, 0, 4] C dX12_restOfLot_53 rfl (by decide) rfl ?_
          obtain ⟨v4, e_v4⟩ : ∃ z : Int, z = x4 + (1) := ⟨_, rfl⟩
          refine wp_iinc (j := 4) (y := v4) (ls' := [(0, rv E 128), (1, iv a), (2, iv 1), (3, iv v3), (4, iv v4)]) [1, 2, 3, 4, 0] C dX12_restOfLot_54 rfl e_v4 (by decide) rfl ?_
          refine wp_goto (tgt := 5) C dX12_restOfLot_57 (by decide) ?_
          exact ih9_5 v3 v4 (by omega) (by rw [e_v3, e_v4, hs, show (x4 + 1).toNat = x4.toNat + 1 by omega, sumB, if_neg c_21]) (by omega)
  have q5 : ∀ (x3 : Int) (x4 : Int), (0 ≤ x4 ∧ x4 ≤ n) → (x3 = sumB Sc a x4.toNat) → Wp G E 5 (Ret (iv (sumB Sc a n % p)) h) 5 [(0, rv E 128), (1, iv a), (2, iv 1), (3, iv x3), (4, iv x4)] [] h := fun x3 x4 hi hs => q50 _ x3 x4 hi hs (Nat.lt_succ_self _)
  exact q5 0 0 (by omega) (rfl)

set_option maxRecDepth 100000 in
set_option maxHeartbeats 4000000 in
theorem c_misSize (E : En) (h : Hp) (k : Int) (hk : -2147483648 ≤ k ∧ k ≤ 2147483647) : Ct 1 yX12_isSize cX12_isSize 1 (some .boolean) E [iv k] h (Ret (iv (bi (1 ≤ k ∧ k ≤ 20))) h) := by
  refine ct_intro (by decide) (Nat.le_of_ble_eq_true rfl) (fun G C => ?_)
  show Wp G E 1 (Ret (iv (bi (1 ≤ k ∧ k ≤ 20))) h) 0 [(0, iv k)] [] h
  refine wp_iload_n 0 C dX12_isSize_0 rfl rfl ?_
  refine wp_i2l (by omega) C dX12_isSize_1 ?_
  refine wp_lconst (v := 1) C dX12_isSize_2 rfl ?_
  refine wp_ldc2 (v := 20) C (mT (i := 1089) (by decide +kernel) rfl) dX12_isSize_3 ?_
  refine wp_callSp (rest := []) (c_in E h k 1 20 (by omega) (by omega) (by omega)) ssX12_69 (by decide) rfl rfl (Nat.le_of_ble_eq_true rfl) C dX12_isSize_6 ?_
  refine wp_zret (by first | exact bi_01 | omega) C dX12_isSize_9 ?_
  exact ret_iv (rfl)

set_option maxRecDepth 100000 in
set_option maxHeartbeats 4000000 in
theorem c_isKind (E : En) (h : Hp) (k : Int) (hk : -2147483648 ≤ k ∧ k ≤ 2147483647) : Ct 1 yX12_isKind cX12_isKind 1 (some .boolean) E [iv k] h (Ret (iv (bi (0 ≤ k ∧ k ≤ 7))) h) := by
  refine ct_intro (by decide) (Nat.le_of_ble_eq_true rfl) (fun G C => ?_)
  show Wp G E 1 (Ret (iv (bi (0 ≤ k ∧ k ≤ 7))) h) 0 [(0, iv k)] [] h
  refine wp_iload_n 0 C dX12_isKind_0 rfl rfl ?_
  refine wp_i2l (by omega) C dX12_isKind_1 ?_
  refine wp_lconst (v := 0) C dX12_isKind_2 rfl ?_
  refine wp_ldc2 (v := 7) C (mT (i := 1084) (by decide +kernel) rfl) dX12_isKind_3 ?_
  refine wp_callSp (rest := []) (c_in E h k 0 7 (by omega) (by omega) (by omega)) ssX12_69 (by decide) rfl rfl (Nat.le_of_ble_eq_true rfl) C dX12_isKind_6 ?_
  refine wp_zret (by first | exact bi_01 | omega) C dX12_isKind_9 ?_
  exact ret_iv (rfl)

set_option maxRecDepth 100000 in
set_option maxHeartbeats 4000000 in
theorem c_isTen (E : En) (h : Hp) (n : Nat) (p : Int) (N Sc Cl Cs : Nat → Int) (M0 : MH h n p N Sc Cl Cs) (a k : Int) (ha : 0 ≤ a ∧ a ≤ 1048575) (hk : -2147483648 ≤ k ∧ k ≤ 2147483647) : Ct 3 yX12_isTen cX12_isTen 3 (some .boolean) E [rv E 128, iv a, iv k] h (Ret (iv (bi (cntB a 20 = k ∧ sumB N a n % p = 0))) h) := by
  obtain ⟨m0, m1, m2, m3, mN, mS, mC, mK⟩ := id M0
  have hc9 := cntB_r a 20
  have hm9 := mod_r (sumB N a n) m3
  refine ct_intro (by decide) (Nat.le_of_ble_eq_true rfl) (fun G C => ?_)
  show Wp G E 3 (Ret (iv (bi (cntB a 20 = k ∧ sumB N a n % p = 0))) h) 0 [(0, rv E 128), (1, iv a), (2, iv k)] [] h
  refine wp_iload_n 1 C dX12_isTen_0 rfl rfl ?_
  refine wp_callSp (rest := []) (c_bits E h a (by omega)) ssX12_177 (by decide) rfl rfl (Nat.le_of_ble_eq_true rfl) C dX12_isTen_1 ?_
  refine wp_iload_n 2 C dX12_isTen_4 rfl rfl ?_
  refine wp_icmp_ne (tgt := 21) (by omega) (by omega) C dX12_isTen_5 (by decide) (fun c_5 => ?_) (fun c_5 => ?_)
  · skip
    refine wp_iconst (v := 0) C dX12_isTen_21 rfl ?_
    refine wp_zret (by first | exact bi_01 | omega) C dX12_isTen_22 ?_
    exact ret_b0 (by omega)
  · skip
    refine wp_aloadR_n 0 C dX12_isTen_8 rfl rfl ?_
    refine wp_iload_n 1 C dX12_isTen_9 rfl rfl ?_
    refine wp_iconst (v := 0) C dX12_isTen_10 rfl ?_
    refine wp_callVp (rest := []) (c_restOfLot0 E h n p N Sc Cl Cs M0 a (by omega)) svX12_173 sh_128 (by decide) rfl rfl (Nat.le_of_ble_eq_true rfl) C dX12_isTen_11 ?_
    refine wp_if_ne (tgt := 21) (by omega) C dX12_isTen_14 (by decide) (fun c_14 => ?_) (fun c_14 => ?_)
    · skip
      refine wp_iconst (v := 0) C dX12_isTen_21 rfl ?_
      refine wp_zret (by first | exact bi_01 | omega) C dX12_isTen_22 ?_
      exact ret_b0 (by omega)
    · skip
      refine wp_iconst (v := 1) C dX12_isTen_17 rfl ?_
      refine wp_goto (tgt := 22) C dX12_isTen_18 (by decide) ?_
      refine wp_zret (by first | exact bi_01 | omega) C dX12_isTen_22 ?_
      exact ret_b1 (by omega)


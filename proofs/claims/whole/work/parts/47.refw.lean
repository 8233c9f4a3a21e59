/-! ===== the reference: always, need, worst ===== -/
theorem dgT_high {v p : Nat} (h : v < 10 ^ p) : ∀ r, p ≤ r → dgT v r = 0 := fun r hr => by
  unfold dgT
  rw [Nat.div_eq_of_lt (Nat.lt_of_lt_of_le h (Nat.pow_le_pow_right (by decide) hr))]
theorem sN_tail {f : Nat → Nat} {p : Nat} : ∀ q : Nat, p ≤ q → (∀ r, p ≤ r → f r = 0) → sN f q = sN f p
  | 0, h, _ => by rw [show p = 0 by omega]
  | q + 1, h, hf => by
    rcases (show p = q + 1 ∨ p ≤ q by omega) with z | z
    · rw [z]
    · rw [sN, hf q z, sN_tail q z hf]; rfl
set_option maxRecDepth 100000 in
set_option maxHeartbeats 4000000 in
theorem c_layOften (E : En) (h : Hp) (v : Nat) (m vi : Int) (hv : v ≤ 99999) (hvi : vi = (v : Int)) (hm : 0 ≤ m ∧ m ≤ 9) : Ct 0 yX12_layOften cX12_layOften 6 (some .boolean) E [rv E 128, iv vi, iv m] h (fun w hx => w = some (iv (bi ((sN (dgT v) 10 : Int) = m))) ∧ (∀ r : Nat, r < 10 → hx 140 r = (dgT v r : Int)) ∧ (∀ a b, a ≠ 140 → hx a b = h a b)) := by
  refine ct_intro (by decide) (Nat.le_of_ble_eq_true rfl) (fun G C => ?_)
  show Wp G E 6 (fun w hx => w = some (iv (bi ((sN (dgT v) 10 : Int) = m))) ∧ (∀ r : Nat, r < 10 → hx 140 r = (dgT v r : Int)) ∧ (∀ a b, a ≠ 140 → hx a b = h a b)) 0 [(0, rv E 128), (1, iv vi), (2, iv m)] [] h
  refine wp_iconst (v := 0) C dX12_layOften_0 rfl ?_
  refine wp_istore_n (ls' := [(0, rv E 128), (1, iv vi), (2, iv m), (3, iv 0)]) [1, 2, 3, 0] C dX12_layOften_1 rfl (by decide) rfl ?_
  refine wp_iload_n 1 C dX12_layOften_2 rfl rfl ?_
  refine wp_istore (ls' := [(0, rv E 128), (1, iv vi), (2, iv m), (3, iv 0), (4, iv vi)]) [1, 2, 3, 4, 0] C dX12_layOften_3 (by decide) rfl ?_
  refine wp_iconst (v := 0) C dX12_layOften_5 rfl ?_
  refine wp_istore (ls' := [(0, rv E 128), (1, iv vi), (2, iv m), (3, iv 0), (4, iv vi), (5, iv 0)]) [1, 2, 3, 4, 5, 0] C dX12_layOften_6 (by decide) rfl ?_
  have q80 : ∀ n9 : Nat, ∀ (x3 : Int) (x4 : Int) (x5 : Int) (hx : Hp), (0 ≤ x5 ∧ x5 ≤ 10) → (x3 = (sN (dgT v) x5.toNat : Int)) → (x4 = ((v / 10 ^ x5.toNat : Nat) : Int)) → (∀ r : Nat, (r : Int) < x5 → hx 140 r = (dgT v r : Int)) → (∀ a b, a ≠ 140 → hx a b = h a b) → (10 - x5).toNat < n9 → Wp G E 6 (fun w hx => w = some (iv (bi ((sN (dgT v) 10 : Int) = m))) ∧ (∀ r : Nat, r < 10 → hx 140 r = (dgT v r : Int)) ∧ (∀ a b, a ≠ 140 → hx a b = h a b)) 8 [(0, rv E 128), (1, iv vi), (2, iv m), (3, iv x3), (4, iv x4), (5, iv x5)] [] hx := by
    intro n9
    induction n9 with
    | zero => intro x3 x4 x5 hx hi hs hr ho hf hm9; exact absurd hm9 (Nat.not_lt_zero _)
    | succ n9 ih9 =>
      intro x3 x4 x5 hx hi hs hr ho hf hm9
      have ih9_8 := ih9
      have h4r : 0 ≤ x4 ∧ x4 ≤ 99999 := by rw [hr]; exact ⟨Int.natCast_nonneg _, Int.le_trans (Int.ofNat_le.mpr (Nat.div_le_self _ _)) (by omega)⟩
      refine wp_iload 5 C dX12_layOften_8 rfl ?_
      refine wp_bipush (v := 10) C dX12_layOften_10 rfl ?_
      refine wp_icmp_ge (tgt := 50) (by omega) (by omega) C dX12_layOften_12 (by decide) (fun c_12 => ?_) (fun c_12 => ?_)
      · skip
        have hS9 : sN (dgT v) x5.toNat ≤ 90 := by rw [show x5.toNat = 10 by omega]; simp only [sN]; have hd : ∀ r, dgT v r ≤ 9 := (fun r => by unfold dgT; omega); have := hd 0; have := hd 1; have := hd 2; have := hd 3; have := hd 4; have := hd 5; have := hd 6; have := hd 7; have := hd 8; have := hd 9; omega
        refine wp_iload_n 3 C dX12_layOften_50 rfl rfl ?_
        refine wp_iload_n 2 C dX12_layOften_51 rfl rfl ?_
        refine wp_icmp_ne (tgt := 59) (by omega) (by omega) C dX12_layOften_52 (by decide) (fun c_52 => ?_) (fun c_52 => ?_)
        · skip
          refine wp_iconst (v := 0) C dX12_layOften_59 rfl ?_
          refine wp_zret (by first | exact bi_01 | omega) C dX12_layOften_60 ?_
          exact ⟨by rw [bi_f (by rw [show x5.toNat = 10 by omega] at hs; omega)], fun r hr9 => ho r (by omega), hf⟩
        · skip
          refine wp_iconst (v := 1) C dX12_layOften_55 rfl ?_
          refine wp_goto (tgt := 60) C dX12_layOften_56 (by decide) ?_
          refine wp_zret (by first | exact bi_01 | omega) C dX12_layOften_60 ?_
          exact ⟨by rw [bi_t (by rw [show x5.toNat = 10 by omega] at hs; omega)], fun r hr9 => ho r (by omega), hf⟩
      · skip
        refine wp_aloadR_n 0 C dX12_layOften_15 rfl rfl ?_
        refine wp_getR flX12_46 sh_128 rfl C dX12_layOften_16 ?_
        refine wp_iload 5 C dX12_layOften_19 rfl ?_
        refine wp_iload 4 C dX12_layOften_21 rfl ?_
        refine wp_bipush (v := 10) C dX12_layOften_23 rfl ?_
        refine wp_irem (by omega) (by omega) C dX12_layOften_25 ?_
        refine wp_top (show _ = (dgT v x5.toNat : Int) from tm_nat (b := 9) hr) ?_
        refine wp_iast sh_140 (by omega) C dX12_layOften_26 ?_
        obtain ⟨H1, e_H1⟩ : ∃ z : Hp, z = upd2 hx 140 x5.toNat (dgT v x5.toNat : Int) := ⟨_, rfl⟩
        refine wp_heq e_H1 ?_
        refine wp_iload_n 3 C dX12_layOften_27 rfl rfl ?_
        refine wp_aloadR_n 0 C dX12_layOften_28 rfl rfl ?_
        refine wp_getR flX12_46 sh_128 rfl C dX12_layOften_29 ?_
        refine wp_iload 5 C dX12_layOften_32 rfl ?_
        refine wp_iald sh_140 (by omega) C dX12_layOften_34 ?_
        refine wp_top (rdu_eq e_H1) ?_
        refine wp_iadd C dX12_layOften_35 ?_
        refine wp_nm (fun v2 e_v2 => ?_)
        refine wp_istore_n (ls' := [(0, rv E 128), (1, iv vi), (2, iv m), (3, iv v2), (4, iv x4), (5, iv x5)]) [1, 2, 3, 0, 4, 5] C dX12_layOften_36 rfl (by decide) rfl ?_
        refine wp_iload 4 C dX12_layOften_37 rfl ?_
        refine wp_bipush (v := 10) C dX12_layOften_39 rfl ?_
        refine wp_idiv (by omega) (by omega) C dX12_layOften_41 ?_
        refine wp_top (show _ = ((v / 10 ^ x5.toNat / 10 : Nat) : Int) from td_nat (b := 9) hr) ?_
        refine wp_nm (fun v3 e_v3 => ?_)
        refine wp_istore (ls' := [(0, rv E 128), (1, iv vi), (2, iv m), (3, iv v2), (4, iv v3), (5, iv x5)]) [1, 2, 3, 4, 0, 5] C dX12_layOften_42 (by decide) rfl ?_
        obtain ⟨v4, e_v4⟩ : ∃ z : Int, z = x5 + (1) := ⟨_, rfl⟩
        refine wp_iinc (j := 5) (y := v4) (ls' := [(0, rv E 128), (1, iv vi), (2, iv m), (3, iv v2), (4, iv v3), (5, iv v4)]) [1, 2, 3, 4, 5, 0] C dX12_layOften_44 rfl e_v4 (by decide) rfl ?_
        refine wp_goto (tgt := 8) C dX12_layOften_47 (by decide) ?_
        exact ih9_8 v2 v3 v4 H1 (by omega) (by rw [e_v2, e_v4, show (x5 + 1).toNat = x5.toNat + 1 by omega, sN, hs]; exact (Int.natCast_add _ _).symm) (by rw [e_v3, e_v4, show (x5 + 1).toNat = x5.toNat + 1 by omega, Nat.pow_succ, Nat.div_div_eq_div_mul]) (fun r hr9 => by rw [e_H1]; unfold upd2; by_cases w : r = x5.toNat; rw [if_pos ⟨rfl, w⟩, w]; rw [if_neg (fun z => w z.2)]; exact ho r (by omega)) (fun a b hab => by rw [e_H1]; unfold upd2; rw [if_neg (fun z => hab z.1)]; exact hf a b hab) (by omega)
  have q8 : ∀ (x3 : Int) (x4 : Int) (x5 : Int) (hx : Hp), (0 ≤ x5 ∧ x5 ≤ 10) → (x3 = (sN (dgT v) x5.toNat : Int)) → (x4 = ((v / 10 ^ x5.toNat : Nat) : Int)) → (∀ r : Nat, (r : Int) < x5 → hx 140 r = (dgT v r : Int)) → (∀ a b, a ≠ 140 → hx a b = h a b) → Wp G E 6 (fun w hx => w = some (iv (bi ((sN (dgT v) 10 : Int) = m))) ∧ (∀ r : Nat, r < 10 → hx 140 r = (dgT v r : Int)) ∧ (∀ a b, a ≠ 140 → hx a b = h a b)) 8 [(0, rv E 128), (1, iv vi), (2, iv m), (3, iv x3), (4, iv x4), (5, iv x5)] [] hx := fun x3 x4 x5 hx hi hs hr ho hf => q80 _ x3 x4 x5 hx hi hs hr ho hf (Nat.lt_succ_self _)
  exact q8 0 vi 0 h (by omega) (rfl) (by rw [show Int.toNat 0 = 0 from rfl, Nat.pow_zero, Nat.div_one]; exact hvi) (fun r hr9 => absurd hr9 (by omega)) (fun a b _ => rfl)

set_option maxRecDepth 100000 in
set_option maxHeartbeats 4000000 in
theorem c_rowsOf (E : En) (h : Hp) (p : Int) (hp : 2 ≤ p ∧ p ≤ 5) : Ct 0 yX12_rowsOf cX12_rowsOf 3 (some .int) E [iv p] h (Ret (iv ((10 ^ p.toNat : Nat) : Int)) h) := by
  refine ct_intro (by decide) (Nat.le_of_ble_eq_true rfl) (fun G C => ?_)
  show Wp G E 3 (Ret (iv ((10 ^ p.toNat : Nat) : Int)) h) 0 [(0, iv p)] [] h
  refine wp_iconst (v := 1) C dX12_rowsOf_0 rfl ?_
  refine wp_istore_n (ls' := [(0, iv p), (1, iv 1)]) [1, 0] C dX12_rowsOf_1 rfl (by decide) rfl ?_
  refine wp_iconst (v := 0) C dX12_rowsOf_2 rfl ?_
  refine wp_istore_n (ls' := [(0, iv p), (1, iv 1), (2, iv 0)]) [1, 2, 0] C dX12_rowsOf_3 rfl (by decide) rfl ?_
  have q40 : ∀ n9 : Nat, ∀ (x1 : Int) (x2 : Int), (0 ≤ x2 ∧ x2 ≤ p) → (x1 = ((10 ^ x2.toNat : Nat) : Int)) → (p - x2).toNat < n9 → Wp G E 3 (Ret (iv ((10 ^ p.toNat : Nat) : Int)) h) 4 [(0, iv p), (1, iv x1), (2, iv x2)] [] h := by
    intro n9
    induction n9 with
    | zero => intro x1 x2 hi hx1 hm9; exact absurd hm9 (Nat.not_lt_zero _)
    | succ n9 ih9 =>
      intro x1 x2 hi hx1 hm9
      have ih9_4 := ih9
      refine wp_iload_n 2 C dX12_rowsOf_4 rfl rfl ?_
      refine wp_iload_n 0 C dX12_rowsOf_5 rfl rfl ?_
      refine wp_icmp_ge (tgt := 20) (by omega) (by omega) C dX12_rowsOf_6 (by decide) (fun c_6 => ?_) (fun c_6 => ?_)
      · skip
        refine wp_iload_n 1 C dX12_rowsOf_20 rfl rfl ?_
        refine wp_iret C dX12_rowsOf_21 ?_
        exact ret_iv (by rw [hx1, show x2 = p by omega])
      · skip
        refine wp_iload_n 1 C dX12_rowsOf_9 rfl rfl ?_
        refine wp_bipush (v := 10) C dX12_rowsOf_10 rfl ?_
        refine wp_imul C dX12_rowsOf_12 ?_
        refine wp_nm (fun v1 e_v1 => ?_)
        refine wp_istore_n (ls' := [(0, iv p), (1, iv v1), (2, iv x2)]) [1, 0, 2] C dX12_rowsOf_13 rfl (by decide) rfl ?_
        obtain ⟨v2, e_v2⟩ : ∃ z : Int, z = x2 + (1) := ⟨_, rfl⟩
        refine wp_iinc (j := 2) (y := v2) (ls' := [(0, iv p), (1, iv v1), (2, iv v2)]) [1, 2, 0] C dX12_rowsOf_14 rfl e_v2 (by decide) rfl ?_
        refine wp_goto (tgt := 4) C dX12_rowsOf_17 (by decide) ?_
        exact ih9_4 v1 v2 (by omega) (by rw [e_v1, e_v2, hx1, show (x2 + 1).toNat = x2.toNat + 1 by omega, Nat.pow_succ, Int.natCast_mul]; rfl) (by omega)
  have q4 : ∀ (x1 : Int) (x2 : Int), (0 ≤ x2 ∧ x2 ≤ p) → (x1 = ((10 ^ x2.toNat : Nat) : Int)) → Wp G E 3 (Ret (iv ((10 ^ p.toNat : Nat) : Int)) h) 4 [(0, iv p), (1, iv x1), (2, iv x2)] [] h := fun x1 x2 hi hx1 => q40 _ x1 x2 hi hx1 (Nat.lt_succ_self _)
  exact q4 1 0 (by omega) (rfl)

set_option maxRecDepth 100000 in
set_option maxHeartbeats 4000000 in
theorem c_areSmall (E : En) (h : Hp) (p m k : Int) (hp : -2147483648 ≤ p ∧ p ≤ 2147483647) (hm : -2147483648 ≤ m ∧ m ≤ 2147483647) (hk : -2147483648 ≤ k ∧ k ≤ 2147483647) : Ct 1 yX12_areSmall cX12_areSmall 3 (some .boolean) E [iv p, iv m, iv k] h (Ret (iv (bi (((2 ≤ p ∧ p ≤ 5) ∧ (1 ≤ k ∧ k ≤ 9)) ∧ (0 ≤ m ∧ m ≤ 9)))) h) := by
  refine ct_intro (by decide) (Nat.le_of_ble_eq_true rfl) (fun G C => ?_)
  show Wp G E 3 (Ret (iv (bi (((2 ≤ p ∧ p ≤ 5) ∧ (1 ≤ k ∧ k ≤ 9)) ∧ (0 ≤ m ∧ m ≤ 9)))) h) 0 [(0, iv p), (1, iv m), (2, iv k)] [] h
  refine wp_iload_n 0 C dX12_areSmall_0 rfl rfl ?_
  refine wp_i2l (by omega) C dX12_areSmall_1 ?_
  refine wp_ldc2 (v := 2) C (mT (i := 1177) (by decide +kernel) rfl) dX12_areSmall_2 ?_
  refine wp_ldc2 (v := 5) C (mT (i := 1178) (by decide +kernel) rfl) dX12_areSmall_5 ?_
  refine wp_callSp (rest := []) (c_in E h p 2 5 (by omega) (by omega) (by omega)) ssX12_69 (by decide) rfl rfl (Nat.le_of_ble_eq_true rfl) C dX12_areSmall_8 ?_
  refine wp_ifb_eq (tgt := 42) C dX12_areSmall_11 (by decide) (fun c_11 => ?_) (fun c_11 => ?_)
  · skip
    refine wp_iconst (v := 0) C dX12_areSmall_42 rfl ?_
    refine wp_zret (by first | exact bi_01 | omega) C dX12_areSmall_43 ?_
    exact ret_b0 (fun z => c_11 z.1.1)
  · skip
    refine wp_iload_n 1 C dX12_areSmall_14 rfl rfl ?_
    refine wp_i2l (by omega) C dX12_areSmall_15 ?_
    refine wp_lconst (v := 0) C dX12_areSmall_16 rfl ?_
    refine wp_ldc2 (v := 9) C (mT (i := 1179) (by decide +kernel) rfl) dX12_areSmall_17 ?_
    refine wp_callSp (rest := []) (c_in E h m 0 9 (by omega) (by omega) (by omega)) ssX12_69 (by decide) rfl rfl (Nat.le_of_ble_eq_true rfl) C dX12_areSmall_20 ?_
    refine wp_ifb_eq (tgt := 42) C dX12_areSmall_23 (by decide) (fun c_23 => ?_) (fun c_23 => ?_)
    · skip
      refine wp_iconst (v := 0) C dX12_areSmall_42 rfl ?_
      refine wp_zret (by first | exact bi_01 | omega) C dX12_areSmall_43 ?_
      exact ret_b0 (fun z => c_23 z.2)
    · skip
      refine wp_iload_n 2 C dX12_areSmall_26 rfl rfl ?_
      refine wp_i2l (by omega) C dX12_areSmall_27 ?_
      refine wp_lconst (v := 1) C dX12_areSmall_28 rfl ?_
      refine wp_ldc2 (v := 9) C (mT (i := 1179) (by decide +kernel) rfl) dX12_areSmall_29 ?_
      refine wp_callSp (rest := []) (c_in E h k 1 9 (by omega) (by omega) (by omega)) ssX12_69 (by decide) rfl rfl (Nat.le_of_ble_eq_true rfl) C dX12_areSmall_32 ?_
      refine wp_ifb_eq (tgt := 42) C dX12_areSmall_35 (by decide) (fun c_35 => ?_) (fun c_35 => ?_)
      · skip
        refine wp_iconst (v := 0) C dX12_areSmall_42 rfl ?_
        refine wp_zret (by first | exact bi_01 | omega) C dX12_areSmall_43 ?_
        exact ret_b0 (fun z => c_35 z.1.2)
      · skip
        refine wp_iconst (v := 1) C dX12_areSmall_38 rfl ?_
        refine wp_goto (tgt := 43) C dX12_areSmall_39 (by decide) ?_
        refine wp_zret (by first | exact bi_01 | omega) C dX12_areSmall_43 ?_
        exact ret_b1 (⟨⟨c_11, c_35⟩, c_23⟩)

set_option maxRecDepth 100000 in
set_option maxHeartbeats 4000000 in
theorem c_worstOf (E : En) (h : Hp) (p m k i : Int) (hp : 2 ≤ p ∧ p ≤ 5) (hm : 0 ≤ m ∧ m ≤ 9) (hk : 1 ≤ k ∧ k ≤ 9) (hi0 : -1 ≤ i ∧ i ≤ 2147483647) : Ct 2 yX12_worstOf cX12_worstOf 7 (some .int) E [rv E 128, iv p, iv m, iv k, iv i] h (fun v hx => v = some (iv (wrS (wkB p m.toNat k.toNat) (10 ^ p.toNat) i)) ∧ (∀ a b, a ≠ 140 → a ≠ 141 → hx a b = h a b)) := by
  have h105 := p105 hp
  have hpp : (0 : Int) ≤ 10 ^ p.toNat := Int.le_of_lt (Int.pow_pos (by decide))
  refine ct_intro (by decide) (Nat.le_of_ble_eq_true rfl) (fun G C => ?_)
  show Wp G E 7 (fun v hx => v = some (iv (wrS (wkB p m.toNat k.toNat) (10 ^ p.toNat) i)) ∧ (∀ a b, a ≠ 140 → a ≠ 141 → hx a b = h a b)) 0 [(0, rv E 128), (1, iv p), (2, iv m), (3, iv k), (4, iv i)] [] h
  refine wp_iconst (v := 0) C dX12_worstOf_0 rfl ?_
  refine wp_istore (ls' := [(0, rv E 128), (1, iv p), (2, iv m), (3, iv k), (4, iv i), (5, iv 0)]) [1, 2, 3, 4, 5, 0] C dX12_worstOf_1 (by decide) rfl ?_
  refine wp_iconst (v := 0) C dX12_worstOf_3 rfl ?_
  refine wp_istore (ls' := [(0, rv E 128), (1, iv p), (2, iv m), (3, iv k), (4, iv i), (5, iv 0), (6, iv 0)]) [1, 2, 3, 4, 5, 6, 0] C dX12_worstOf_4 (by decide) rfl ?_
  have q60 : ∀ n9 : Nat, ∀ (x5 : Int) (x6 : Int) (hx : Hp), (0 ≤ x6 ∧ x6 ≤ 10 ^ p.toNat) → (x5 = (cntP (wkB p m.toNat k.toNat) x6.toNat : Int)) → (nthP (wkB p m.toNat k.toNat) i x6.toNat = -1) → (∀ a b, a ≠ 140 → a ≠ 141 → hx a b = h a b) → (10 ^ p.toNat - x6).toNat < n9 → Wp G E 7 (fun v hx => v = some (iv (wrS (wkB p m.toNat k.toNat) (10 ^ p.toNat) i)) ∧ (∀ a b, a ≠ 140 → a ≠ 141 → hx a b = h a b)) 6 [(0, rv E 128), (1, iv p), (2, iv m), (3, iv k), (4, iv i), (5, iv x5), (6, iv x6)] [] hx := by
    intro n9
    induction n9 with
    | zero => intro x5 x6 hx hi hc hn hf hm9; exact absurd hm9 (Nat.not_lt_zero _)
    | succ n9 ih9 =>
      intro x5 x6 hx hi hc hn hf hm9
      have ih9_6 := ih9
      have hcl := cntP_le (P := wkB p m.toNat k.toNat) x6.toNat
      have hpc : ((10 ^ p.toNat : Nat) : Int) = 10 ^ p.toNat := by simp
      refine wp_iload 6 C dX12_worstOf_6 rfl ?_
      refine wp_iload_n 1 C dX12_worstOf_8 rfl rfl ?_
      refine wp_callSp (rest := [iv x6]) (c_rowsOf E hx p hp) ssX12_249 (by decide) rfl rfl (Nat.le_of_ble_eq_true rfl) C dX12_worstOf_9 ?_
      refine wp_icmp_ge (tgt := 53) (by omega) (by omega) C dX12_worstOf_12 (by decide) (fun c_12 => ?_) (fun c_12 => ?_)
      · skip
        refine wp_iload 4 C dX12_worstOf_53 rfl ?_
        refine wp_iconst (v := (-1)) C dX12_worstOf_55 rfl ?_
        refine wp_icmp_ne (tgt := 64) (by omega) (by omega) C dX12_worstOf_56 (by decide) (fun c_56 => ?_) (fun c_56 => ?_)
        · skip
          refine wp_iconst (v := (-1)) C dX12_worstOf_64 rfl ?_
          refine wp_iret C dX12_worstOf_65 ?_
          exact ⟨by unfold wrS; rw [if_neg (by omega), ← show x6.toNat = 10 ^ p.toNat by omega, hn], hf⟩
        · skip
          refine wp_iload 5 C dX12_worstOf_59 rfl ?_
          refine wp_goto (tgt := 65) C dX12_worstOf_61 (by decide) ?_
          refine wp_iret C dX12_worstOf_65 ?_
          exact ⟨by unfold wrS; rw [if_pos (by omega), hc, show x6.toNat = 10 ^ p.toNat by omega], hf⟩
      · skip
        refine wp_aloadR_n 0 C dX12_worstOf_15 rfl rfl ?_
        refine wp_iload 6 C dX12_worstOf_16 rfl ?_
        refine wp_iload_n 2 C dX12_worstOf_18 rfl rfl ?_
        refine wp_callV (rest := []) (c_layOften E hx x6.toNat m x6 (by omega) (by omega) hm) svX12_252 sh_128 (by decide) rfl rfl (Nat.le_of_ble_eq_true rfl) C dX12_worstOf_19 (fun r0 hy pf => ?_)
        obtain ⟨rfl, ho, hfy⟩ := pf
        have hS : sN (dgT x6.toNat) 10 = sN (dgT x6.toNat) p.toNat := sN_tail 10 (by omega) (dgT_high (by omega))
        refine wp_ifb_eq (tgt := 47) C dX12_worstOf_22 (by decide) (fun c_22 => ?_) (fun c_22 => ?_)
        · skip
          have hPv : wkB p m.toNat k.toNat x6.toNat = false := by unfold wkB; rw [decide_eq_false (by omega)]; rfl
          obtain ⟨v1, e_v1⟩ : ∃ z : Int, z = x6 + (1) := ⟨_, rfl⟩
          refine wp_iinc (j := 6) (y := v1) (ls' := [(0, rv E 128), (1, iv p), (2, iv m), (3, iv k), (4, iv i), (5, iv x5), (6, iv v1)]) [1, 2, 3, 4, 5, 6, 0] C dX12_worstOf_47 rfl e_v1 (by decide) rfl ?_
          refine wp_goto (tgt := 6) C dX12_worstOf_50 (by decide) ?_
          exact ih9_6 x5 v1 hy (by omega) (by rw [e_v1, show (x6 + 1).toNat = x6.toNat + 1 by omega, cntP, hPv]; simp only [Bool.false_eq_true, if_false]; omega) (by rw [e_v1, show (x6 + 1).toNat = x6.toNat + 1 by omega, nthP, hPv]; rw [if_neg (fun z => absurd z.1 (by decide))]; exact hn) (fun a b h1 h2 => (hfy a b h1).trans (hf a b h1 h2)) (by omega)
        · skip
          refine wp_aloadR_n 0 C dX12_worstOf_25 rfl rfl ?_
          refine wp_iload_n 1 C dX12_worstOf_26 rfl rfl ?_
          refine wp_iload_n 3 C dX12_worstOf_27 rfl rfl ?_
          refine wp_callV (rest := []) (c_hasTen E hy p k (dgT x6.toNat) (by omega) (by omega) (fun r hr => ⟨ho r (by omega), by unfold dgT; omega⟩)) svX12_255 sh_128 (by decide) rfl rfl (Nat.le_of_ble_eq_true rfl) C dX12_worstOf_28 (fun r1 hz pf => ?_)
          obtain ⟨rfl, hfz⟩ := pf
          refine wp_ifb_ne (tgt := 47) C dX12_worstOf_31 (by decide) (fun c_31 => ?_) (fun c_31 => ?_)
          · skip
            have hPv : wkB p m.toNat k.toNat x6.toNat = false := by unfold wkB; rw [c_31]; simp
            obtain ⟨v2, e_v2⟩ : ∃ z : Int, z = x6 + (1) := ⟨_, rfl⟩
            refine wp_iinc (j := 6) (y := v2) (ls' := [(0, rv E 128), (1, iv p), (2, iv m), (3, iv k), (4, iv i), (5, iv x5), (6, iv v2)]) [1, 2, 3, 4, 5, 6, 0] C dX12_worstOf_47 rfl e_v2 (by decide) rfl ?_
            refine wp_goto (tgt := 6) C dX12_worstOf_50 (by decide) ?_
            exact ih9_6 x5 v2 hz (by omega) (by rw [e_v2, show (x6 + 1).toNat = x6.toNat + 1 by omega, cntP, hPv]; simp only [Bool.false_eq_true, if_false]; omega) (by rw [e_v2, show (x6 + 1).toNat = x6.toNat + 1 by omega, nthP, hPv]; rw [if_neg (fun z => absurd z.1 (by decide))]; exact hn) (fun a b h1 h2 => (hfz a b h2).trans ((hfy a b h1).trans (hf a b h1 h2))) (by omega)
          · skip
            have hPv : wkB p m.toNat k.toNat x6.toNat = true := by unfold wkB; rw [decide_eq_true (by omega), Bool.eq_false_iff.mpr c_31]; rfl
            refine wp_iload 5 C dX12_worstOf_34 rfl ?_
            refine wp_iload 4 C dX12_worstOf_36 rfl ?_
            refine wp_icmp_ne (tgt := 44) (by omega) (by omega) C dX12_worstOf_38 (by decide) (fun c_38 => ?_) (fun c_38 => ?_)
            · skip
              obtain ⟨v3, e_v3⟩ : ∃ z : Int, z = x5 + (1) := ⟨_, rfl⟩
              refine wp_iinc (j := 5) (y := v3) (ls' := [(0, rv E 128), (1, iv p), (2, iv m), (3, iv k), (4, iv i), (5, iv v3), (6, iv x6)]) [1, 2, 3, 4, 5, 0, 6] C dX12_worstOf_44 rfl e_v3 (by decide) rfl ?_
              obtain ⟨v4, e_v4⟩ : ∃ z : Int, z = x6 + (1) := ⟨_, rfl⟩
              refine wp_iinc (j := 6) (y := v4) (ls' := [(0, rv E 128), (1, iv p), (2, iv m), (3, iv k), (4, iv i), (5, iv v3), (6, iv v4)]) [1, 2, 3, 4, 5, 6, 0] C dX12_worstOf_47 rfl e_v4 (by decide) rfl ?_
              refine wp_goto (tgt := 6) C dX12_worstOf_50 (by decide) ?_
              exact ih9_6 v3 v4 hz (by omega) (by rw [e_v4, show (x6 + 1).toNat = x6.toNat + 1 by omega, cntP, hPv]; simp only [if_pos]; omega) (by rw [e_v4, show (x6 + 1).toNat = x6.toNat + 1 by omega, nthP, hPv]; rw [if_neg (fun z => by omega)]; exact hn) (fun a b h1 h2 => (hfz a b h2).trans ((hfy a b h1).trans (hf a b h1 h2))) (by omega)
            · skip
              refine wp_iload 6 C dX12_worstOf_41 rfl ?_
              refine wp_iret C dX12_worstOf_43 ?_
              exact ⟨by unfold wrS; rw [if_neg (by omega), nthP_stop (V := x6.toNat + 1) (by rw [cntP, hPv]; simp only [if_pos]; omega) (10 ^ p.toNat) (by omega), nthP, if_pos ⟨hPv, by omega⟩, show ((x6.toNat : Nat) : Int) = x6 by omega], fun a b h1 h2 => (hfz a b h2).trans ((hfy a b h1).trans (hf a b h1 h2))⟩
  have q6 : ∀ (x5 : Int) (x6 : Int) (hx : Hp), (0 ≤ x6 ∧ x6 ≤ 10 ^ p.toNat) → (x5 = (cntP (wkB p m.toNat k.toNat) x6.toNat : Int)) → (nthP (wkB p m.toNat k.toNat) i x6.toNat = -1) → (∀ a b, a ≠ 140 → a ≠ 141 → hx a b = h a b) → Wp G E 7 (fun v hx => v = some (iv (wrS (wkB p m.toNat k.toNat) (10 ^ p.toNat) i)) ∧ (∀ a b, a ≠ 140 → a ≠ 141 → hx a b = h a b)) 6 [(0, rv E 128), (1, iv p), (2, iv m), (3, iv k), (4, iv i), (5, iv x5), (6, iv x6)] [] hx := fun x5 x6 hx hi hc hn hf => q60 _ x5 x6 hx hi hc hn hf (Nat.lt_succ_self _)
  exact q6 0 0 h (by omega) (rfl) (rfl) (fun a b _ _ => rfl)

set_option maxRecDepth 100000 in
set_option maxHeartbeats 4000000 in
theorem m_always (E : En) (h : Hp) (p m k : Int) (hp : -2147483648 ≤ p ∧ p ≤ 2147483647) (hm : -2147483648 ≤ m ∧ m ≤ 2147483647) (hk : -2147483648 ≤ k ∧ k ≤ 2147483647) : Ct 3 yX12_always cX12_always 4 (some .int) E [rv E 128, iv p, iv m, iv k] h (fun v hx => v = some (iv (if ¬ (((2 ≤ p ∧ p ≤ 5) ∧ (1 ≤ k ∧ k ≤ 9)) ∧ (0 ≤ m ∧ m ≤ 9)) then -3 else bi (nthP (wkB p (m).toNat k.toNat) 0 (10 ^ p.toNat) = -1))) ∧ (∀ a b, a ≠ 140 → a ≠ 141 → hx a b = h a b)) := by
  refine ct_intro (by decide) (Nat.le_of_ble_eq_true rfl) (fun G C => ?_)
  show Wp G E 4 (fun v hx => v = some (iv (if ¬ (((2 ≤ p ∧ p ≤ 5) ∧ (1 ≤ k ∧ k ≤ 9)) ∧ (0 ≤ m ∧ m ≤ 9)) then -3 else bi (nthP (wkB p (m).toNat k.toNat) 0 (10 ^ p.toNat) = -1))) ∧ (∀ a b, a ≠ 140 → a ≠ 141 → hx a b = h a b)) 0 [(0, rv E 128), (1, iv p), (2, iv m), (3, iv k)] [] h
  refine wp_iload_n 1 C dX12_always_0 rfl rfl ?_
  refine wp_iload_n 2 C dX12_always_1 rfl rfl ?_
  refine wp_iload_n 3 C dX12_always_2 rfl rfl ?_
  refine wp_callSp (rest := []) (c_areSmall E h p m k (by omega) (by omega) (by omega)) ssX12_258 (by decide) rfl rfl (Nat.le_of_ble_eq_true rfl) C dX12_always_3 ?_
  refine wp_ifb_ne (tgt := 14) C dX12_always_6 (by decide) (fun c_6 => ?_) (fun c_6 => ?_)
  · skip
    refine wp_aloadR_n 0 C dX12_always_14 rfl rfl ?_
    refine wp_iload_n 1 C dX12_always_15 rfl rfl ?_
    refine wp_iload_n 2 C dX12_always_16 rfl rfl ?_
    refine wp_iload_n 3 C dX12_always_17 rfl rfl ?_
    refine wp_iconst (v := 0) C dX12_always_18 rfl ?_
    refine wp_callV (rest := []) (c_worstOf E h p m k 0 (by omega) (by omega) (by omega) (by omega)) svX12_261 sh_128 (by decide) rfl rfl (Nat.le_of_ble_eq_true rfl) C dX12_always_19 (fun r0 hx pf => ?_)
    obtain ⟨rfl, hf⟩ := pf
    have hwr : wrS (wkB p (m).toNat k.toNat) (10 ^ p.toNat) 0 = nthP (wkB p (m).toNat k.toNat) 0 (10 ^ p.toNat) := if_neg (by decide)
    have hnr := nthP_r (wkB p (m).toNat k.toNat) 0 (10 ^ p.toNat)
    have h105 := p105 (p := p) (by omega)
    refine wp_iconst (v := (-1)) C dX12_always_22 rfl ?_
    refine wp_icmp_ne (tgt := 30) (by omega) (by omega) C dX12_always_23 (by decide) (fun c_23 => ?_) (fun c_23 => ?_)
    · skip
      refine wp_iconst (v := 0) C dX12_always_30 rfl ?_
      refine wp_iret C dX12_always_31 ?_
      exact ⟨by rw [if_neg (not_not_intro c_6), bi_f (by rw [← hwr]; omega)], hf⟩
    · skip
      refine wp_iconst (v := 1) C dX12_always_26 rfl ?_
      refine wp_goto (tgt := 31) C dX12_always_27 (by decide) ?_
      refine wp_iret C dX12_always_31 ?_
      exact ⟨by rw [if_neg (not_not_intro c_6), bi_t (by rw [← hwr]; omega)], hf⟩
  · skip
    refine wp_bipush (v := (-3)) C dX12_always_9 rfl ?_
    refine wp_goto (tgt := 31) C dX12_always_11 (by decide) ?_
    refine wp_iret C dX12_always_31 ?_
    exact ⟨by rw [if_pos c_6], fun _ _ _ _ => rfl⟩

set_option maxRecDepth 100000 in
set_option maxHeartbeats 4000000 in
theorem m_need (E : En) (h : Hp) (p k : Int) (hp : -2147483648 ≤ p ∧ p ≤ 2147483647) (hk : -2147483648 ≤ k ∧ k ≤ 2147483647) : Ct 3 yX12_need cX12_need 4 (some .int) E [rv E 128, iv p, iv k] h (fun v hx => v = some (iv (if ¬ ((2 ≤ p ∧ p ≤ 5) ∧ (1 ≤ k ∧ k ≤ 9)) then -3 else needS p k)) ∧ (∀ a b, a ≠ 140 → a ≠ 141 → hx a b = h a b)) := by
  refine ct_intro (by decide) (Nat.le_of_ble_eq_true rfl) (fun G C => ?_)
  show Wp G E 4 (fun v hx => v = some (iv (if ¬ ((2 ≤ p ∧ p ≤ 5) ∧ (1 ≤ k ∧ k ≤ 9)) then -3 else needS p k)) ∧ (∀ a b, a ≠ 140 → a ≠ 141 → hx a b = h a b)) 0 [(0, rv E 128), (1, iv p), (2, iv k)] [] h
  refine wp_iload_n 1 C dX12_need_0 rfl rfl ?_
  refine wp_iconst (v := 0) C dX12_need_1 rfl ?_
  refine wp_iload_n 2 C dX12_need_2 rfl rfl ?_
  refine wp_callSp (rest := []) (c_areSmall E h p 0 k (by omega) (by omega) (by omega)) ssX12_258 (by decide) rfl rfl (Nat.le_of_ble_eq_true rfl) C dX12_need_3 ?_
  refine wp_ifb_ne (tgt := 12) C dX12_need_6 (by decide) (fun c_6 => ?_) (fun c_6 => ?_)
  · skip
    refine wp_iconst (v := 0) C dX12_need_12 rfl ?_
    refine wp_istore_n (ls' := [(0, rv E 128), (1, iv p), (2, iv k), (3, iv 0)]) [1, 2, 3, 0] C dX12_need_13 rfl (by decide) rfl ?_
    have q140 : ∀ n9 : Nat, ∀ (x3 : Int) (hx : Hp), (0 ≤ x3 ∧ x3 ≤ 10) → (∀ j, j < x3.toNat → (fun m => decide (nthP (wkB p m k.toNat) 0 (10 ^ p.toNat) = -1)) j = false) → (∀ a b, a ≠ 140 → a ≠ 141 → hx a b = h a b) → (10 - x3).toNat < n9 → Wp G E 4 (fun v hx => v = some (iv (if ¬ ((2 ≤ p ∧ p ≤ 5) ∧ (1 ≤ k ∧ k ≤ 9)) then -3 else needS p k)) ∧ (∀ a b, a ≠ 140 → a ≠ 141 → hx a b = h a b)) 14 [(0, rv E 128), (1, iv p), (2, iv k), (3, iv x3)] [] hx := by
      intro n9
      induction n9 with
      | zero => intro x3 hx hi hs hf hm9; exact absurd hm9 (Nat.not_lt_zero _)
      | succ n9 ih9 =>
        intro x3 hx hi hs hf hm9
        have ih9_14 := ih9
        refine wp_iload_n 3 C dX12_need_14 rfl rfl ?_
        refine wp_bipush (v := 10) C dX12_need_15 rfl ?_
        refine wp_icmp_ge (tgt := 40) (by omega) (by omega) C dX12_need_17 (by decide) (fun c_17 => ?_) (fun c_17 => ?_)
        · skip
          refine wp_iconst (v := (-1)) C dX12_need_40 rfl ?_
          refine wp_iret C dX12_need_41 ?_
          exact ⟨by rw [if_neg (not_not_intro c_6.1)]; unfold needS; rw [firstI_none (p := (fun m => decide (nthP (wkB p m k.toNat) 0 (10 ^ p.toNat) = -1))) (n := 10) (fun j hj => hs j (by omega))], hf⟩
        · skip
          refine wp_aloadR_n 0 C dX12_need_20 rfl rfl ?_
          refine wp_iload_n 1 C dX12_need_21 rfl rfl ?_
          refine wp_iload_n 3 C dX12_need_22 rfl rfl ?_
          refine wp_iload_n 2 C dX12_need_23 rfl rfl ?_
          refine wp_iconst (v := 0) C dX12_need_24 rfl ?_
          refine wp_callV (rest := []) (c_worstOf E hx p x3 k 0 (by omega) (by omega) (by omega) (by omega)) svX12_261 sh_128 (by decide) rfl rfl (Nat.le_of_ble_eq_true rfl) C dX12_need_25 (fun r0 hy pf => ?_)
          obtain ⟨rfl, hfy⟩ := pf
          have hwr : wrS (wkB p (x3).toNat k.toNat) (10 ^ p.toNat) 0 = nthP (wkB p (x3).toNat k.toNat) 0 (10 ^ p.toNat) := if_neg (by decide)
          have hnr := nthP_r (wkB p (x3).toNat k.toNat) 0 (10 ^ p.toNat)
          have h105 := p105 (p := p) (by omega)
          refine wp_iconst (v := (-1)) C dX12_need_28 rfl ?_
          refine wp_icmp_ne (tgt := 34) (by omega) (by omega) C dX12_need_29 (by decide) (fun c_29 => ?_) (fun c_29 => ?_)
          · skip
            obtain ⟨v1, e_v1⟩ : ∃ z : Int, z = x3 + (1) := ⟨_, rfl⟩
            refine wp_iinc (j := 3) (y := v1) (ls' := [(0, rv E 128), (1, iv p), (2, iv k), (3, iv v1)]) [1, 2, 3, 0] C dX12_need_34 rfl e_v1 (by decide) rfl ?_
            refine wp_goto (tgt := 14) C dX12_need_37 (by decide) ?_
            exact ih9_14 v1 hy (by omega) (fun j hj => by rcases (show j < x3.toNat ∨ j = x3.toNat by omega) with q | rfl; exact hs j q; exact decide_eq_false (by rw [← hwr]; omega)) (fun a b h1 h2 => (hfy a b h1 h2).trans (hf a b h1 h2)) (by omega)
          · skip
            refine wp_iload_n 3 C dX12_need_32 rfl rfl ?_
            refine wp_iret C dX12_need_33 ?_
            exact ⟨by rw [if_neg (not_not_intro c_6.1)]; have q := firstI_some (p := (fun m => decide (nthP (wkB p m k.toNat) 0 (10 ^ p.toNat) = -1))) (n := 10) (i := x3.toNat) (by omega) (decide_eq_true (by rw [← hwr]; omega)) hs; unfold needS; rw [q, show ((x3.toNat : Nat) : Int) = x3 by omega], fun a b h1 h2 => (hfy a b h1 h2).trans (hf a b h1 h2)⟩
    have q14 : ∀ (x3 : Int) (hx : Hp), (0 ≤ x3 ∧ x3 ≤ 10) → (∀ j, j < x3.toNat → (fun m => decide (nthP (wkB p m k.toNat) 0 (10 ^ p.toNat) = -1)) j = false) → (∀ a b, a ≠ 140 → a ≠ 141 → hx a b = h a b) → Wp G E 4 (fun v hx => v = some (iv (if ¬ ((2 ≤ p ∧ p ≤ 5) ∧ (1 ≤ k ∧ k ≤ 9)) then -3 else needS p k)) ∧ (∀ a b, a ≠ 140 → a ≠ 141 → hx a b = h a b)) 14 [(0, rv E 128), (1, iv p), (2, iv k), (3, iv x3)] [] hx := fun x3 hx hi hs hf => q140 _ x3 hx hi hs hf (Nat.lt_succ_self _)
    exact q14 0 h (by omega) (fun j hj => absurd hj (by omega)) (fun a b _ _ => rfl)
  · skip
    refine wp_bipush (v := (-3)) C dX12_need_9 rfl ?_
    refine wp_iret C dX12_need_11 ?_
    exact ⟨by rw [if_pos (fun z => c_6 ⟨z, by decide⟩)], fun _ _ _ _ => rfl⟩

set_option maxRecDepth 100000 in
set_option maxHeartbeats 4000000 in
theorem m_worst (E : En) (h : Hp) (p m k i : Int) (hp : -2147483648 ≤ p ∧ p ≤ 2147483647) (hm : -2147483648 ≤ m ∧ m ≤ 2147483647) (hk : -2147483648 ≤ k ∧ k ≤ 2147483647) (hi : -2147483648 ≤ i ∧ i ≤ 2147483647) : Ct 3 yX12_worst cX12_worst 5 (some .int) E [rv E 128, iv p, iv m, iv k, iv i] h (fun v hx => v = some (iv (if ¬ (((2 ≤ p ∧ p ≤ 5) ∧ (1 ≤ k ∧ k ≤ 9)) ∧ (0 ≤ m ∧ m ≤ 9)) ∨ i < -1 then -3 else wrS (wkB p m.toNat k.toNat) (10 ^ p.toNat) i)) ∧ (∀ a b, a ≠ 140 → a ≠ 141 → hx a b = h a b)) := by
  refine ct_intro (by decide) (Nat.le_of_ble_eq_true rfl) (fun G C => ?_)
  show Wp G E 5 (fun v hx => v = some (iv (if ¬ (((2 ≤ p ∧ p ≤ 5) ∧ (1 ≤ k ∧ k ≤ 9)) ∧ (0 ≤ m ∧ m ≤ 9)) ∨ i < -1 then -3 else wrS (wkB p m.toNat k.toNat) (10 ^ p.toNat) i)) ∧ (∀ a b, a ≠ 140 → a ≠ 141 → hx a b = h a b)) 0 [(0, rv E 128), (1, iv p), (2, iv m), (3, iv k), (4, iv i)] [] h
  refine wp_iload_n 1 C dX12_worst_0 rfl rfl ?_
  refine wp_iload_n 2 C dX12_worst_1 rfl rfl ?_
  refine wp_iload_n 3 C dX12_worst_2 rfl rfl ?_
  refine wp_callSp (rest := []) (c_areSmall E h p m k (by omega) (by omega) (by omega)) ssX12_258 (by decide) rfl rfl (Nat.le_of_ble_eq_true rfl) C dX12_worst_3 ?_
  refine wp_ifb_eq (tgt := 15) C dX12_worst_6 (by decide) (fun c_6 => ?_) (fun c_6 => ?_)
  · skip
    refine wp_bipush (v := (-3)) C dX12_worst_15 rfl ?_
    refine wp_goto (tgt := 29) C dX12_worst_17 (by decide) ?_
    refine wp_iret C dX12_worst_29 ?_
    exact ⟨by rw [if_pos (Or.inl c_6)], fun _ _ _ _ => rfl⟩
  · skip
    refine wp_iload 4 C dX12_worst_9 rfl ?_
    refine wp_iconst (v := (-1)) C dX12_worst_11 rfl ?_
    refine wp_icmp_ge (tgt := 20) (by omega) (by omega) C dX12_worst_12 (by decide) (fun c_12 => ?_) (fun c_12 => ?_)
    · skip
      refine wp_aloadR_n 0 C dX12_worst_20 rfl rfl ?_
      refine wp_iload_n 1 C dX12_worst_21 rfl rfl ?_
      refine wp_iload_n 2 C dX12_worst_22 rfl rfl ?_
      refine wp_iload_n 3 C dX12_worst_23 rfl rfl ?_
      refine wp_iload 4 C dX12_worst_24 rfl ?_
      refine wp_callV (rest := []) (c_worstOf E h p m k i (by omega) (by omega) (by omega) (by omega)) svX12_261 sh_128 (by decide) rfl rfl (Nat.le_of_ble_eq_true rfl) C dX12_worst_26 (fun r0 hx pf => ?_)
      obtain ⟨rfl, hf⟩ := pf
      refine wp_iret C dX12_worst_29 ?_
      exact ⟨by rw [if_neg (fun z => z.elim (fun y => y c_6) (by omega))], hf⟩
    · skip
      refine wp_bipush (v := (-3)) C dX12_worst_15 rfl ?_
      refine wp_goto (tgt := 29) C dX12_worst_17 (by decide) ?_
      refine wp_iret C dX12_worst_29 ?_
      exact ⟨by rw [if_pos (Or.inr (by omega))], fun _ _ _ _ => rfl⟩


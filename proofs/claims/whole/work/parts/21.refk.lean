/-! ===== the reference: kinds, swap, sales, images ===== -/
theorem oddp_id {n f : Nat} (h : ¬ (n % 2 = 0 ∧ 0 < n)) : oddp f n = n := by
  cases f with
  | zero => rfl
  | succ f => unfold oddp; rw [if_neg h]
theorem oddp_half {n : Nat} (h0 : 0 < n) (h2 : n % 2 = 0) (hn : n < 2 ^ 31) : oddp 32 (n / 2) = oddp 32 n := by
  obtain ⟨s, m, e⟩ := low_ex n h0
  have hs : s ≤ 31 := by
    apply Nat.le_of_not_lt
    intro hc
    have : 2 ^ 32 ≤ 2 ^ s := Nat.pow_le_pow_right (by decide) hc
    have h1 : 2 ^ s ≤ n := by rw [e]; exact Nat.le_mul_of_pos_right _ (by omega)
    have h3 : (2 : Nat) ^ 32 = 2 * 2 ^ 31 := rfl
    omega
  cases s with
  | zero => rw [e] at h2; simp at h2
  | succ s =>
    have e2 : n / 2 = 2 ^ s * (2 * m + 1) := by
      rw [e, Nat.pow_succ, Nat.mul_comm (2 ^ s) 2, Nat.mul_assoc]
      omega
    rw [e2, e, oddp_low 32 s (by omega), oddp_low 32 (s + 1) (by omega)]
set_option maxRecDepth 100000 in
set_option maxHeartbeats 4000000 in
theorem c_isRow (E : En) (h : Hp) (a : Int) (ha : 0 ≤ a ∧ a ≤ 1048575) : Ct 0 yX12_isRow cX12_isRow 3 (some .boolean) E [rv E 128, iv a] h (Ret (iv (bi (rowB a.toNat = true))) h) := by
  refine ct_intro (by decide) (Nat.le_of_ble_eq_true rfl) (fun G C => ?_)
  show Wp G E 3 (Ret (iv (bi (rowB a.toNat = true))) h) 0 [(0, rv E 128), (1, iv a)] [] h
  refine wp_iload_n 1 C dX12_isRow_0 rfl rfl ?_
  refine wp_istore_n (ls' := [(0, rv E 128), (1, iv a), (2, iv a)]) [1, 2, 0] C dX12_isRow_1 rfl (by decide) rfl ?_
  have q20 : ∀ n9 : Nat, ∀ (x2 : Int), (0 ≤ x2 ∧ x2 ≤ 1048575) → (oddp 32 x2.toNat = oddp 32 a.toNat) → x2.toNat < n9 → Wp G E 3 (Ret (iv (bi (rowB a.toNat = true))) h) 2 [(0, rv E 128), (1, iv a), (2, iv x2)] [] h := by
    intro n9
    induction n9 with
    | zero => intro x2 hi ho hm9; exact absurd hm9 (Nat.not_lt_zero _)
    | succ n9 ih9 =>
      intro x2 hi ho hm9
      have ih9_2 := ih9
      refine wp_iload_n 2 C dX12_isRow_2 rfl rfl ?_
      refine wp_iconst (v := 2) C dX12_isRow_3 rfl ?_
      refine wp_irem (by omega) (by omega) C dX12_isRow_4 ?_
      refine wp_top (Int.tmod_eq_emod_of_nonneg hi.1) ?_
      refine wp_if_ne (tgt := 19) (by omega) C dX12_isRow_5 (by decide) (fun c_5 => ?_) (fun c_5 => ?_)
      · skip
        refine wp_iload_n 2 C dX12_isRow_19 rfl rfl ?_
        refine wp_iload_n 2 C dX12_isRow_20 rfl rfl ?_
        refine wp_iconst (v := 1) C dX12_isRow_21 rfl ?_
        refine wp_iadd C dX12_isRow_22 ?_
        refine wp_iand C dX12_isRow_23 ?_
        have hr9 := bAnd_r x2 (x2 + 1)
        have hq9 : bAnd x2 (x2 + 1) = 0 ↔ rowB a.toNat = true := by
          unfold rowB
          rw [decide_eq_true_eq, ← ho, oddp_id (by omega), bAnd_nat (by omega) (by omega), show (x2 + 1).toNat = x2.toNat + 1 by omega]
          omega
        refine wp_if_ne (tgt := 31) (by omega) C dX12_isRow_24 (by decide) (fun c_24 => ?_) (fun c_24 => ?_)
        · skip
          refine wp_iconst (v := 0) C dX12_isRow_31 rfl ?_
          refine wp_zret (by first | exact bi_01 | omega) C dX12_isRow_32 ?_
          exact ret_b0 (fun z => c_24 (hq9.mpr z))
        · skip
          refine wp_iconst (v := 1) C dX12_isRow_27 rfl ?_
          refine wp_goto (tgt := 32) C dX12_isRow_28 (by decide) ?_
          refine wp_zret (by first | exact bi_01 | omega) C dX12_isRow_32 ?_
          exact ret_b1 (hq9.mp c_24)
      · skip
        refine wp_iload_n 2 C dX12_isRow_8 rfl rfl ?_
        refine wp_if_le (tgt := 19) (by omega) C dX12_isRow_9 (by decide) (fun c_9 => ?_) (fun c_9 => ?_)
        · skip
          refine wp_iload_n 2 C dX12_isRow_19 rfl rfl ?_
          refine wp_iload_n 2 C dX12_isRow_20 rfl rfl ?_
          refine wp_iconst (v := 1) C dX12_isRow_21 rfl ?_
          refine wp_iadd C dX12_isRow_22 ?_
          refine wp_iand C dX12_isRow_23 ?_
          have hr9 := bAnd_r x2 (x2 + 1)
          have hq9 : bAnd x2 (x2 + 1) = 0 ↔ rowB a.toNat = true := by
            unfold rowB
            rw [decide_eq_true_eq, ← ho, oddp_id (by omega), bAnd_nat (by omega) (by omega), show (x2 + 1).toNat = x2.toNat + 1 by omega]
            omega
          refine wp_if_ne (tgt := 31) (by omega) C dX12_isRow_24 (by decide) (fun c_24 => ?_) (fun c_24 => ?_)
          · skip
            refine wp_iconst (v := 0) C dX12_isRow_31 rfl ?_
            refine wp_zret (by first | exact bi_01 | omega) C dX12_isRow_32 ?_
            exact ret_b0 (fun z => c_24 (hq9.mpr z))
          · skip
            refine wp_iconst (v := 1) C dX12_isRow_27 rfl ?_
            refine wp_goto (tgt := 32) C dX12_isRow_28 (by decide) ?_
            refine wp_zret (by first | exact bi_01 | omega) C dX12_isRow_32 ?_
            exact ret_b1 (hq9.mp c_24)
        · skip
          refine wp_iload_n 2 C dX12_isRow_12 rfl rfl ?_
          refine wp_iconst (v := 2) C dX12_isRow_13 rfl ?_
          refine wp_idiv (by omega) (by omega) C dX12_isRow_14 ?_
          refine wp_nm (fun v1 e_v1 => ?_)
          refine wp_istore_n (ls' := [(0, rv E 128), (1, iv a), (2, iv v1)]) [1, 2, 0] C dX12_isRow_15 rfl (by decide) rfl ?_
          refine wp_goto (tgt := 2) C dX12_isRow_16 (by decide) ?_
          exact ih9_2 v1 (by rw [e_v1, Int.tdiv_eq_ediv_of_nonneg hi.1]; omega) (by rw [← ho, e_v1, show (Int.tdiv x2 2).toNat = x2.toNat / 2 by rw [Int.tdiv_eq_ediv_of_nonneg hi.1]; omega]; exact oddp_half (by omega) (by omega) (by omega)) (by rw [e_v1, Int.tdiv_eq_ediv_of_nonneg hi.1]; omega)
  have q2 : ∀ (x2 : Int), (0 ≤ x2 ∧ x2 ≤ 1048575) → (oddp 32 x2.toNat = oddp 32 a.toNat) → Wp G E 3 (Ret (iv (bi (rowB a.toNat = true))) h) 2 [(0, rv E 128), (1, iv a), (2, iv x2)] [] h := fun x2 hi ho => q20 _ x2 hi ho (Nat.lt_succ_self _)
  exact q2 a (by omega) (rfl)

theorem anyB_succ {p : Nat → Bool} {n : Nat} : anyB p (n + 1) = true ↔ anyB p n = true ∨ p n = true := by
  rw [anyB_iff, anyB_iff]
  constructor
  · rintro ⟨i, h1, h2⟩
    rcases (show i < n ∨ i = n by omega) with q | rfl
    · exact Or.inl ⟨i, q, h2⟩
    · exact Or.inr h2
  · rintro (⟨i, h1, h2⟩ | h2)
    · exact ⟨i, by omega, h2⟩
    · exact ⟨n, by omega, h2⟩
set_option maxRecDepth 100000 in
set_option maxHeartbeats 4000000 in
theorem c_mhasColour (E : En) (h : Hp) (n : Nat) (p : Int) (N Sc Cl Cs : Nat → Int) (M0 : MH h n p N Sc Cl Cs) (a c : Int) (ha : 0 ≤ a ∧ a ≤ 1048575) (hc : 0 ≤ c ∧ c ≤ 3) : Ct 1 yX12_hasColour cX12_hasColour 5 (some .boolean) E [rv E 128, iv a, iv c] h (Ret (iv (bi (anyB (colP Cl a c) n = true))) h) := by
  obtain ⟨m0, m1, m2, m3, mN, mS, mC, mK⟩ := id M0
  refine ct_intro (by decide) (Nat.le_of_ble_eq_true rfl) (fun G C => ?_)
  show Wp G E 5 (Ret (iv (bi (anyB (colP Cl a c) n = true))) h) 0 [(0, rv E 128), (1, iv a), (2, iv c)] [] h
  refine wp_iconst (v := 0) C dX12_hasColour_0 rfl ?_
  refine wp_istore_n (ls' := [(0, rv E 128), (1, iv a), (2, iv c), (3, iv 0)]) [1, 2, 3, 0] C dX12_hasColour_1 rfl (by decide) rfl ?_
  refine wp_iconst (v := 0) C dX12_hasColour_2 rfl ?_
  refine wp_istore (ls' := [(0, rv E 128), (1, iv a), (2, iv c), (3, iv 0), (4, iv 0)]) [1, 2, 3, 4, 0] C dX12_hasColour_3 (by decide) rfl ?_
  have q50 : ∀ n9 : Nat, ∀ (x3 : Int) (x4 : Int), (0 ≤ x4 ∧ x4 ≤ n) → ((x3 = 1 ∧ anyB (colP Cl a c) x4.toNat = true) ∨ (x3 = 0 ∧ ¬ anyB (colP Cl a c) x4.toNat = true)) → ((n : Int) - x4).toNat < n9 → Wp G E 5 (Ret (iv (bi (anyB (colP Cl a c) n = true))) h) 5 [(0, rv E 128), (1, iv a), (2, iv c), (3, iv x3), (4, iv x4)] [] h := by
    intro n9
    induction n9 with
    | zero => intro x3 x4 hi hs hm9; exact absurd hm9 (Nat.not_lt_zero _)
    | succ n9 ih9 =>
      intro x3 x4 hi hs hm9
      have ih9_5 := ih9
      refine wp_iload 4 C dX12_hasColour_5 rfl ?_
      refine wp_aloadR_n 0 C dX12_hasColour_7 rfl rfl ?_
      refine wp_callVp (rest := [iv x4]) (c_heaps E h n p N Sc Cl Cs M0) svX12_141 sh_128 (by decide) rfl rfl (Nat.le_of_ble_eq_true rfl) C dX12_hasColour_8 ?_
      refine wp_icmp_ge (tgt := 54) (by omega) (by omega) C dX12_hasColour_11 (by decide) (fun c_11 => ?_) (fun c_11 => ?_)
      · skip
        refine wp_iload_n 3 C dX12_hasColour_54 rfl rfl ?_
        refine wp_zret (by omega) C dX12_hasColour_55 ?_
        exact ret_iv (by rw [show x4 = n by omega, Int.toNat_natCast] at hs; rcases hs with q | q; rw [q.1, bi_t q.2]; rw [q.1, bi_f q.2])
      · skip
        refine wp_iload_n 3 C dX12_hasColour_14 rfl rfl ?_
        refine wp_if_ne (tgt := 42) (by omega) C dX12_hasColour_15 (by decide) (fun c_15 => ?_) (fun c_15 => ?_)
        · skip
          refine wp_iconst (v := 1) C dX12_hasColour_42 rfl ?_
          refine wp_goto (tgt := 47) C dX12_hasColour_43 (by decide) ?_
          refine wp_istore_n (ls' := [(0, rv E 128), (1, iv a), (2, iv c), (3, iv 1), (4, iv x4)]) [1, 2, 3, 0, 4] C dX12_hasColour_47 rfl (by decide) rfl ?_
          obtain ⟨v1, e_v1⟩ : ∃ z : Int, z = x4 + (1) := ⟨_, rfl⟩
          refine wp_iinc (j := 4) (y := v1) (ls' := [(0, rv E 128), (1, iv a), (2, iv c), (3, iv 1), (4, iv v1)]) [1, 2, 3, 4, 0] C dX12_hasColour_48 rfl e_v1 (by decide) rfl ?_
          refine wp_goto (tgt := 5) C dX12_hasColour_51 (by decide) ?_
          exact ih9_5 1 v1 (by omega) (Or.inl ⟨rfl, by rw [e_v1, show (x4 + 1).toNat = x4.toNat + 1 by omega]; exact anyB_succ.mpr (Or.inl (by rcases hs with q | q; exact q.2; exact absurd q.1 c_15))⟩) (by omega)
        · skip
          refine wp_iload_n 1 C dX12_hasColour_18 rfl rfl ?_
          refine wp_iload 4 C dX12_hasColour_19 rfl ?_
          refine wp_callSp (rest := []) (c_has E h a x4 (by omega) (by omega)) ssX12_167 (by decide) rfl rfl (Nat.le_of_ble_eq_true rfl) C dX12_hasColour_21 ?_
          refine wp_ifb_eq (tgt := 46) C dX12_hasColour_24 (by decide) (fun c_24 => ?_) (fun c_24 => ?_)
          · skip
            refine wp_iconst (v := 0) C dX12_hasColour_46 rfl ?_
            refine wp_istore_n (ls' := [(0, rv E 128), (1, iv a), (2, iv c), (3, iv 0), (4, iv x4)]) [1, 2, 3, 0, 4] C dX12_hasColour_47 rfl (by decide) rfl ?_
            obtain ⟨v2, e_v2⟩ : ∃ z : Int, z = x4 + (1) := ⟨_, rfl⟩
            refine wp_iinc (j := 4) (y := v2) (ls' := [(0, rv E 128), (1, iv a), (2, iv c), (3, iv 0), (4, iv v2)]) [1, 2, 3, 4, 0] C dX12_hasColour_48 rfl e_v2 (by decide) rfl ?_
            refine wp_goto (tgt := 5) C dX12_hasColour_51 (by decide) ?_
            exact ih9_5 0 v2 (by omega) (Or.inr ⟨rfl, by rw [e_v2, show (x4 + 1).toNat = x4.toNat + 1 by omega, anyB_succ]; exact fun z => z.elim (by rcases hs with q | q; exact absurd q.1 (by omega); exact q.2) (fun w => by simp [colP, c_24] at w)⟩) (by omega)
          · skip
            have hC9 := mC x4.toNat (by omega)
            refine wp_aloadR_n 0 C dX12_hasColour_27 rfl rfl ?_
            refine wp_getR flX12_13 sh_128 rfl C dX12_hasColour_28 ?_
            refine wp_iconst (v := 3) C dX12_hasColour_31 rfl ?_
            refine wp_iload 4 C dX12_hasColour_32 rfl ?_
            refine wp_imul C dX12_hasColour_34 ?_
            refine wp_iconst (v := 1) C dX12_hasColour_35 rfl ?_
            refine wp_iadd C dX12_hasColour_36 ?_
            refine wp_iald sh_130 (by omega) C dX12_hasColour_37 ?_
            refine wp_top (show _ = h 130 (3 * x4.toNat + 1) by rw [show (3 * x4 + 1).toNat = 3 * x4.toNat + 1 by omega]) ?_
            refine wp_iload_n 2 C dX12_hasColour_38 rfl rfl ?_
            refine wp_icmp_ne (tgt := 46) (by omega) (by omega) C dX12_hasColour_39 (by decide) (fun c_39 => ?_) (fun c_39 => ?_)
            · skip
              refine wp_iconst (v := 0) C dX12_hasColour_46 rfl ?_
              refine wp_istore_n (ls' := [(0, rv E 128), (1, iv a), (2, iv c), (3, iv 0), (4, iv x4)]) [1, 2, 3, 0, 4] C dX12_hasColour_47 rfl (by decide) rfl ?_
              obtain ⟨v3, e_v3⟩ : ∃ z : Int, z = x4 + (1) := ⟨_, rfl⟩
              refine wp_iinc (j := 4) (y := v3) (ls' := [(0, rv E 128), (1, iv a), (2, iv c), (3, iv 0), (4, iv v3)]) [1, 2, 3, 4, 0] C dX12_hasColour_48 rfl e_v3 (by decide) rfl ?_
              refine wp_goto (tgt := 5) C dX12_hasColour_51 (by decide) ?_
              exact ih9_5 0 v3 (by omega) (Or.inr ⟨rfl, by rw [e_v3, show (x4 + 1).toNat = x4.toNat + 1 by omega, anyB_succ]; exact fun z => z.elim (by rcases hs with q | q; exact absurd q.1 (by omega); exact q.2) (fun w => by simp [colP, c_24, ← hC9.1, c_39] at w)⟩) (by omega)
            · skip
              refine wp_iconst (v := 1) C dX12_hasColour_42 rfl ?_
              refine wp_goto (tgt := 47) C dX12_hasColour_43 (by decide) ?_
              refine wp_istore_n (ls' := [(0, rv E 128), (1, iv a), (2, iv c), (3, iv 1), (4, iv x4)]) [1, 2, 3, 0, 4] C dX12_hasColour_47 rfl (by decide) rfl ?_
              obtain ⟨v4, e_v4⟩ : ∃ z : Int, z = x4 + (1) := ⟨_, rfl⟩
              refine wp_iinc (j := 4) (y := v4) (ls' := [(0, rv E 128), (1, iv a), (2, iv c), (3, iv 1), (4, iv v4)]) [1, 2, 3, 4, 0] C dX12_hasColour_48 rfl e_v4 (by decide) rfl ?_
              refine wp_goto (tgt := 5) C dX12_hasColour_51 (by decide) ?_
              exact ih9_5 1 v4 (by omega) (Or.inl ⟨rfl, by rw [e_v4, show (x4 + 1).toNat = x4.toNat + 1 by omega, anyB_succ]; exact Or.inr (by simp [colP, c_24, ← hC9.1, c_39])⟩) (by omega)
  have q5 : ∀ (x3 : Int) (x4 : Int), (0 ≤ x4 ∧ x4 ≤ n) → ((x3 = 1 ∧ anyB (colP Cl a c) x4.toNat = true) ∨ (x3 = 0 ∧ ¬ anyB (colP Cl a c) x4.toNat = true)) → Wp G E 5 (Ret (iv (bi (anyB (colP Cl a c) n = true))) h) 5 [(0, rv E 128), (1, iv a), (2, iv c), (3, iv x3), (4, iv x4)] [] h := fun x3 x4 hi hs => q50 _ x3 x4 hi hs (Nat.lt_succ_self _)
  exact q5 0 0 (by omega) (Or.inr ⟨rfl, fun z => by obtain ⟨i, h1, h2⟩ := anyB_iff.mp z; exact absurd h1 (by omega)⟩)

set_option maxRecDepth 100000 in
set_option maxHeartbeats 4000000 in
theorem c_isOf (E : En) (h : Hp) (n : Nat) (p : Int) (N Sc Cl Cs : Nat → Int) (M0 : MH h n p N Sc Cl Cs) (kind a k : Int) (hkd : 0 ≤ kind ∧ kind ≤ 7) (ha : 0 ≤ a ∧ a ≤ 1048575) (hk : 1 ≤ k ∧ k ≤ 20) : Ct 4 yX12_isOf cX12_isOf 5 (some .boolean) E [rv E 128, iv kind, iv a, iv k] h (Ret (iv (bi (fitB N Sc Cl p n kind a k = true))) h) := by
  obtain ⟨m0, m1, m2, m3, mN, mS, mC, mK⟩ := id M0
  have hm2 := mod_r (sumB N a n) m3
  have hm3 := mod_r (sumB Sc a n) m3
  have hcn := cntB_r a 20
  refine ct_intro (by decide) (Nat.le_of_ble_eq_true rfl) (fun G C => ?_)
  show Wp G E 5 (Ret (iv (bi (fitB N Sc Cl p n kind a k = true))) h) 0 [(0, rv E 128), (1, iv kind), (2, iv a), (3, iv k)] [] h
  refine wp_iload_n 2 C dX12_isOf_0 rfl rfl ?_
  refine wp_callSp (rest := []) (c_bits E h a (by omega)) ssX12_177 (by decide) rfl rfl (Nat.le_of_ble_eq_true rfl) C dX12_isOf_1 ?_
  refine wp_nm (fun v1 e_v1 => ?_)
  refine wp_istore (ls' := [(0, rv E 128), (1, iv kind), (2, iv a), (3, iv k), (4, iv v1)]) [1, 2, 3, 4, 0] C dX12_isOf_4 (by decide) rfl ?_
  refine wp_iload_n 1 C dX12_isOf_6 rfl rfl ?_
  refine wp_iconst (v := 1) C dX12_isOf_7 rfl ?_
  refine wp_icmp_eq (tgt := 16) (by omega) (by omega) C dX12_isOf_8 (by decide) (fun c_8 => ?_) (fun c_8 => ?_)
  · skip
    refine wp_iload 4 C dX12_isOf_16 rfl ?_
    refine wp_i2l (by omega) C dX12_isOf_18 ?_
    refine wp_lconst (v := 1) C dX12_isOf_19 rfl ?_
    refine wp_iload_n 3 C dX12_isOf_20 rfl rfl ?_
    refine wp_i2l (by omega) C dX12_isOf_21 ?_
    refine wp_callSp (rest := []) (c_in E h v1 1 k (by omega) (by omega) (by omega)) ssX12_69 (by decide) rfl rfl (Nat.le_of_ble_eq_true rfl) C dX12_isOf_22 ?_
    refine wp_ifb_eq (tgt := 54) C dX12_isOf_25 (by decide) (fun c_25 => ?_) (fun c_25 => ?_)
    · skip
      refine wp_iconst (v := 0) C dX12_isOf_54 rfl ?_
      refine wp_zret (by first | exact bi_01 | omega) C dX12_isOf_55 ?_
      have k1 : kind = 1 := by omega
      subst k1
      subst e_v1
      exact ret_b0 (by simp [fitB, c_25])
    · skip
      refine wp_aloadR_n 0 C dX12_isOf_28 rfl rfl ?_
      refine wp_iload_n 2 C dX12_isOf_29 rfl rfl ?_
      refine wp_iconst (v := 0) C dX12_isOf_30 rfl ?_
      refine wp_callVp (rest := []) (c_restOfLot0 E h n p N Sc Cl Cs M0 a (by omega)) svX12_173 sh_128 (by decide) rfl rfl (Nat.le_of_ble_eq_true rfl) C dX12_isOf_31 ?_
      refine wp_if_ne (tgt := 54) (by omega) C dX12_isOf_34 (by decide) (fun c_34 => ?_) (fun c_34 => ?_)
      · skip
        refine wp_iconst (v := 0) C dX12_isOf_54 rfl ?_
        refine wp_zret (by first | exact bi_01 | omega) C dX12_isOf_55 ?_
        have k1 : kind = 1 := by omega
        subst k1
        subst e_v1
        exact ret_b0 (by simp [fitB, c_25, c_34])
      · skip
        refine wp_iload_n 1 C dX12_isOf_37 rfl rfl ?_
        refine wp_iconst (v := 1) C dX12_isOf_38 rfl ?_
        refine wp_icmp_eq (tgt := 50) (by omega) (by omega) C dX12_isOf_39 (by decide) (fun c_39 => ?_) (fun c_39 => ?_)
        · skip
          refine wp_iconst (v := 1) C dX12_isOf_50 rfl ?_
          refine wp_goto (tgt := 55) C dX12_isOf_51 (by decide) ?_
          refine wp_zret (by first | exact bi_01 | omega) C dX12_isOf_55 ?_
          have k1 : kind = 1 := by omega
          subst k1
          subst e_v1
          exact ret_b1 (by simp [fitB, c_25, c_34])
        · skip
          exact absurd (by omega) c_39
  · skip
    refine wp_iload_n 1 C dX12_isOf_11 rfl rfl ?_
    refine wp_iconst (v := 2) C dX12_isOf_12 rfl ?_
    refine wp_icmp_ne (tgt := 56) (by omega) (by omega) C dX12_isOf_13 (by decide) (fun c_13 => ?_) (fun c_13 => ?_)
    · skip
      refine wp_aloadR_n 0 C dX12_isOf_56 rfl rfl ?_
      refine wp_iload_n 2 C dX12_isOf_57 rfl rfl ?_
      refine wp_iload_n 3 C dX12_isOf_58 rfl rfl ?_
      refine wp_callVp (rest := []) (c_isTen E h n p N Sc Cl Cs M0 a k (by omega) (by omega)) svX12_185 sh_128 (by decide) rfl rfl (Nat.le_of_ble_eq_true rfl) C dX12_isOf_59 ?_
      refine wp_ifb_eq (tgt := 99) C dX12_isOf_62 (by decide) (fun c_62 => ?_) (fun c_62 => ?_)
      · skip
        refine wp_iconst (v := 0) C dX12_isOf_99 rfl ?_
        refine wp_zret (by first | exact bi_01 | omega) C dX12_isOf_100 ?_
        have k1 : ¬ kind = 1 := by omega
        have k2 : ¬ kind = 2 := by omega
        subst e_v1
        exact ret_b0 (by intro z; apply c_62; simp only [fitB, Bool.and_eq_true, decide_eq_true_eq] at z; refine ⟨?_, z.1⟩; have z2 := z.2; split at z2; exact of_decide_eq_true z2; split at z2; exact of_decide_eq_true (Bool.and_eq_true_iff.mp z2).1; exact of_decide_eq_true (Bool.and_eq_true_iff.mp z2).1)
      · skip
        refine wp_iload_n 1 C dX12_isOf_65 rfl rfl ?_
        refine wp_iconst (v := 3) C dX12_isOf_66 rfl ?_
        refine wp_icmp_ne (tgt := 79) (by omega) (by omega) C dX12_isOf_67 (by decide) (fun c_67 => ?_) (fun c_67 => ?_)
        · skip
          refine wp_iload_n 1 C dX12_isOf_79 rfl rfl ?_
          refine wp_iconst (v := 4) C dX12_isOf_80 rfl ?_
          refine wp_icmp_lt (tgt := 95) (by omega) (by omega) C dX12_isOf_81 (by decide) (fun c_81 => ?_) (fun c_81 => ?_)
          · skip
            refine wp_iconst (v := 1) C dX12_isOf_95 rfl ?_
            refine wp_goto (tgt := 100) C dX12_isOf_96 (by decide) ?_
            refine wp_zret (by first | exact bi_01 | omega) C dX12_isOf_100 ?_
            have k1 : kind = 0 := by omega
            subst k1
            subst e_v1
            exact ret_b1 (by simp [fitB, c_62])
          · skip
            refine wp_aloadR_n 0 C dX12_isOf_84 rfl rfl ?_
            refine wp_iload_n 2 C dX12_isOf_85 rfl rfl ?_
            refine wp_iload_n 1 C dX12_isOf_86 rfl rfl ?_
            refine wp_iconst (v := 4) C dX12_isOf_87 rfl ?_
            refine wp_isub C dX12_isOf_88 ?_
            refine wp_callVp (rest := []) (c_mhasColour E h n p N Sc Cl Cs M0 a (kind - 4) (by omega) (by omega)) svX12_188 sh_128 (by decide) rfl rfl (Nat.le_of_ble_eq_true rfl) C dX12_isOf_89 ?_
            refine wp_ifb_eq (tgt := 99) C dX12_isOf_92 (by decide) (fun c_92 => ?_) (fun c_92 => ?_)
            · skip
              refine wp_iconst (v := 0) C dX12_isOf_99 rfl ?_
              refine wp_zret (by first | exact bi_01 | omega) C dX12_isOf_100 ?_
              have k0 : ¬ kind = 0 := by omega
              have k1 : ¬ kind = 1 := by omega
              have k2 : ¬ kind = 2 := by omega
              have k3 : ¬ kind = 3 := by omega
              subst e_v1
              exact ret_b0 (by simp [fitB, c_62, c_92, k0, k1, k2, k3])
            · skip
              refine wp_iconst (v := 1) C dX12_isOf_95 rfl ?_
              refine wp_goto (tgt := 100) C dX12_isOf_96 (by decide) ?_
              refine wp_zret (by first | exact bi_01 | omega) C dX12_isOf_100 ?_
              have k0 : ¬ kind = 0 := by omega
              have k1 : ¬ kind = 1 := by omega
              have k2 : ¬ kind = 2 := by omega
              have k3 : ¬ kind = 3 := by omega
              subst e_v1
              exact ret_b1 (by simp [fitB, c_62, c_92, k0, k1, k2, k3])
        · skip
          refine wp_aloadR_n 0 C dX12_isOf_70 rfl rfl ?_
          refine wp_iload_n 2 C dX12_isOf_71 rfl rfl ?_
          refine wp_iconst (v := 1) C dX12_isOf_72 rfl ?_
          refine wp_callVp (rest := []) (c_restOfLot1 E h n p N Sc Cl Cs M0 a (by omega)) svX12_173 sh_128 (by decide) rfl rfl (Nat.le_of_ble_eq_true rfl) C dX12_isOf_73 ?_
          refine wp_if_ne (tgt := 99) (by omega) C dX12_isOf_76 (by decide) (fun c_76 => ?_) (fun c_76 => ?_)
          · skip
            refine wp_iconst (v := 0) C dX12_isOf_99 rfl ?_
            refine wp_zret (by first | exact bi_01 | omega) C dX12_isOf_100 ?_
            have k1 : kind = 3 := by omega
            subst k1
            subst e_v1
            exact ret_b0 (by simp [fitB, c_62, c_76])
          · skip
            refine wp_iload_n 1 C dX12_isOf_79 rfl rfl ?_
            refine wp_iconst (v := 4) C dX12_isOf_80 rfl ?_
            refine wp_icmp_lt (tgt := 95) (by omega) (by omega) C dX12_isOf_81 (by decide) (fun c_81 => ?_) (fun c_81 => ?_)
            · skip
              refine wp_iconst (v := 1) C dX12_isOf_95 rfl ?_
              refine wp_goto (tgt := 100) C dX12_isOf_96 (by decide) ?_
              refine wp_zret (by first | exact bi_01 | omega) C dX12_isOf_100 ?_
              have k1 : kind = 3 := by omega
              subst k1
              subst e_v1
              exact ret_b1 (by simp [fitB, c_62, c_76])
            · skip
              exact absurd (by omega) c_81
    · skip
      refine wp_iload 4 C dX12_isOf_16 rfl ?_
      refine wp_i2l (by omega) C dX12_isOf_18 ?_
      refine wp_lconst (v := 1) C dX12_isOf_19 rfl ?_
      refine wp_iload_n 3 C dX12_isOf_20 rfl rfl ?_
      refine wp_i2l (by omega) C dX12_isOf_21 ?_
      refine wp_callSp (rest := []) (c_in E h v1 1 k (by omega) (by omega) (by omega)) ssX12_69 (by decide) rfl rfl (Nat.le_of_ble_eq_true rfl) C dX12_isOf_22 ?_
      refine wp_ifb_eq (tgt := 54) C dX12_isOf_25 (by decide) (fun c_25 => ?_) (fun c_25 => ?_)
      · skip
        refine wp_iconst (v := 0) C dX12_isOf_54 rfl ?_
        refine wp_zret (by first | exact bi_01 | omega) C dX12_isOf_55 ?_
        have k1 : kind = 2 := by omega
        subst k1
        subst e_v1
        exact ret_b0 (by simp [fitB, c_25])
      · skip
        refine wp_aloadR_n 0 C dX12_isOf_28 rfl rfl ?_
        refine wp_iload_n 2 C dX12_isOf_29 rfl rfl ?_
        refine wp_iconst (v := 0) C dX12_isOf_30 rfl ?_
        refine wp_callVp (rest := []) (c_restOfLot0 E h n p N Sc Cl Cs M0 a (by omega)) svX12_173 sh_128 (by decide) rfl rfl (Nat.le_of_ble_eq_true rfl) C dX12_isOf_31 ?_
        refine wp_if_ne (tgt := 54) (by omega) C dX12_isOf_34 (by decide) (fun c_34 => ?_) (fun c_34 => ?_)
        · skip
          refine wp_iconst (v := 0) C dX12_isOf_54 rfl ?_
          refine wp_zret (by first | exact bi_01 | omega) C dX12_isOf_55 ?_
          have k1 : kind = 2 := by omega
          subst k1
          subst e_v1
          exact ret_b0 (by simp [fitB, c_25, c_34])
        · skip
          refine wp_iload_n 1 C dX12_isOf_37 rfl rfl ?_
          refine wp_iconst (v := 1) C dX12_isOf_38 rfl ?_
          refine wp_icmp_eq (tgt := 50) (by omega) (by omega) C dX12_isOf_39 (by decide) (fun c_39 => ?_) (fun c_39 => ?_)
          · skip
            exact absurd c_39 (by omega)
          · skip
            refine wp_aloadR_n 0 C dX12_isOf_42 rfl rfl ?_
            refine wp_iload_n 2 C dX12_isOf_43 rfl rfl ?_
            refine wp_callVp (rest := []) (c_isRow E h a (by omega)) svX12_182 sh_128 (by decide) rfl rfl (Nat.le_of_ble_eq_true rfl) C dX12_isOf_44 ?_
            refine wp_ifb_eq (tgt := 54) C dX12_isOf_47 (by decide) (fun c_47 => ?_) (fun c_47 => ?_)
            · skip
              refine wp_iconst (v := 0) C dX12_isOf_54 rfl ?_
              refine wp_zret (by first | exact bi_01 | omega) C dX12_isOf_55 ?_
              have k1 : kind = 2 := by omega
              subst k1
              subst e_v1
              exact ret_b0 (by simp [fitB, c_25, c_34, c_47])
            · skip
              refine wp_iconst (v := 1) C dX12_isOf_50 rfl ?_
              refine wp_goto (tgt := 55) C dX12_isOf_51 (by decide) ?_
              refine wp_zret (by first | exact bi_01 | omega) C dX12_isOf_55 ?_
              have k1 : kind = 2 := by omega
              subst k1
              subst e_v1
              exact ret_b1 (by simp [fitB, c_25, c_34, c_47])

theorem mayT {kd w : Int} (h1 : 0 ≤ kd ∧ kd ≤ 7) (h2 : 0 ≤ w ∧ w ≤ 6) : tkI kd.toNat / 2 ^ w.toNat % 2 = if (w = 0 ∨ (w = 1 ∨ w = 2) ∧ ¬ (kd = 1 ∨ kd = 2) ∨ w = 3 ∧ (kd = 1 ∨ kd = 2) ∨ w = 4 ∧ kd = 2 ∨ w = 5 ∧ kd = 3 ∨ w = 6 ∧ 4 ≤ kd) then 1 else 0 := by
  have e : ∀ a : Fin 8, ∀ b : Fin 7, tkI a.val / 2 ^ b.val % 2 = if ((b.val : Int) = 0 ∨ ((b.val : Int) = 1 ∨ (b.val : Int) = 2) ∧ ¬ ((a.val : Int) = 1 ∨ (a.val : Int) = 2) ∨ (b.val : Int) = 3 ∧ ((a.val : Int) = 1 ∨ (a.val : Int) = 2) ∨ (b.val : Int) = 4 ∧ (a.val : Int) = 2 ∨ (b.val : Int) = 5 ∧ (a.val : Int) = 3 ∨ (b.val : Int) = 6 ∧ 4 ≤ (a.val : Int)) then 1 else 0 := by decide +kernel
  have := e ⟨kd.toNat, by omega⟩ ⟨w.toNat, by omega⟩
  simp only [show ((kd.toNat : Nat) : Int) = kd by omega, show ((w.toNat : Nat) : Int) = w by omega] at this
  exact this
theorem lotn {a : Int} {n : Nat} (hn : n ≤ 20) (h : 0 ≤ a ∧ a < 2 ^ n) : 0 ≤ a ∧ a ≤ 1048575 := lot_lt hn h
set_option maxRecDepth 100000 in
set_option maxHeartbeats 4000000 in
theorem m_as (E : En) (h : Hp) (n : Nat) (p : Int) (N Sc Cl Cs : Nat → Int) (M0 : MH h n p N Sc Cl Cs) (kd w a k : Int) (hkd : -2147483648 ≤ kd ∧ kd ≤ 2147483647) (hw : -2147483648 ≤ w ∧ w ≤ 2147483647) (ha : -2147483648 ≤ a ∧ a ≤ 2147483647) (hk : -2147483648 ≤ k ∧ k ≤ 2147483647) : Ct 5 yX12_as cX12_as 7 (some .int) E [rv E 128, iv kd, iv w, iv a, iv k] h (Ret (iv (if ¬ ((0 ≤ kd ∧ kd ≤ 7) ∧ (0 ≤ a ∧ a < 2 ^ n)) then -2 else if ¬ ((0 ≤ w ∧ w ≤ 6) ∧ (1 ≤ k ∧ k ≤ 20)) then -3 else if tkI kd.toNat / 2 ^ w.toNat % 2 = 0 then -4 else bi (fitB N Sc Cl p n kd a k = true))) h) := by
  obtain ⟨m0, m1, m2, m3, mN, mS, mC, mK⟩ := id M0
  refine ct_intro (by decide) (Nat.le_of_ble_eq_true rfl) (fun G C => ?_)
  show Wp G E 7 (Ret (iv (if ¬ ((0 ≤ kd ∧ kd ≤ 7) ∧ (0 ≤ a ∧ a < 2 ^ n)) then -2 else if ¬ ((0 ≤ w ∧ w ≤ 6) ∧ (1 ≤ k ∧ k ≤ 20)) then -3 else if tkI kd.toNat / 2 ^ w.toNat % 2 = 0 then -4 else bi (fitB N Sc Cl p n kd a k = true))) h) 0 [(0, rv E 128), (1, iv kd), (2, iv w), (3, iv a), (4, iv k)] [] h
  refine wp_iload_n 1 C dX12_as_0 rfl rfl ?_
  refine wp_callSp (rest := []) (c_isKind E h kd (by omega)) ssX12_193 (by decide) rfl rfl (Nat.le_of_ble_eq_true rfl) C dX12_as_1 ?_
  refine wp_ifb_eq (tgt := 15) C dX12_as_4 (by decide) (fun c_4 => ?_) (fun c_4 => ?_)
  · skip
    refine wp_bipush (v := (-2)) C dX12_as_15 rfl ?_
    refine wp_iret C dX12_as_17 ?_
    exact ret_iv (by rw [if_pos (fun z => c_4 z.1)])
  · skip
    refine wp_aloadR_n 0 C dX12_as_7 rfl rfl ?_
    refine wp_iload_n 3 C dX12_as_8 rfl rfl ?_
    refine wp_callVp (rest := []) (c_isLot E h n p N Sc Cl Cs M0 a (by omega)) svX12_170 sh_128 (by decide) rfl rfl (Nat.le_of_ble_eq_true rfl) C dX12_as_9 ?_
    refine wp_ifb_ne (tgt := 18) C dX12_as_12 (by decide) (fun c_12 => ?_) (fun c_12 => ?_)
    · skip
      refine wp_iload_n 2 C dX12_as_18 rfl rfl ?_
      refine wp_i2l (by omega) C dX12_as_19 ?_
      refine wp_lconst (v := 0) C dX12_as_20 rfl ?_
      refine wp_ldc2 (v := 6) C (mT (i := 1085) (by decide +kernel) rfl) dX12_as_21 ?_
      refine wp_callSp (rest := []) (c_in E h w 0 6 (by omega) (by omega) (by omega)) ssX12_69 (by decide) rfl rfl (Nat.le_of_ble_eq_true rfl) C dX12_as_24 ?_
      refine wp_ifb_eq (tgt := 38) C dX12_as_27 (by decide) (fun c_27 => ?_) (fun c_27 => ?_)
      · skip
        refine wp_bipush (v := (-3)) C dX12_as_38 rfl ?_
        refine wp_iret C dX12_as_40 ?_
        exact ret_iv (by rw [if_neg (not_not_intro ⟨c_4, c_12⟩), if_pos (fun z => c_27 z.1)])
      · skip
        refine wp_iload 4 C dX12_as_30 rfl ?_
        refine wp_callSp (rest := []) (c_misSize E h k (by omega)) ssX12_198 (by decide) rfl rfl (Nat.le_of_ble_eq_true rfl) C dX12_as_32 ?_
        refine wp_ifb_ne (tgt := 41) C dX12_as_35 (by decide) (fun c_35 => ?_) (fun c_35 => ?_)
        · skip
          have hl9 := lotn m1 c_12
          have q58 : ∀ (x5 : Int), ((x5 = 1 ∧ (kd = 1 ∨ kd = 2)) ∨ (x5 = 0 ∧ ¬ (kd = 1 ∨ kd = 2))) → Wp G E 7 (Ret (iv (if ¬ ((0 ≤ kd ∧ kd ≤ 7) ∧ (0 ≤ a ∧ a < 2 ^ n)) then -2 else if ¬ ((0 ≤ w ∧ w ≤ 6) ∧ (1 ≤ k ∧ k ≤ 20)) then -3 else if tkI kd.toNat / 2 ^ w.toNat % 2 = 0 then -4 else bi (fitB N Sc Cl p n kd a k = true))) h) 58 [(0, rv E 128), (1, iv kd), (2, iv w), (3, iv a), (4, iv k), (5, iv x5)] [] h := by
            intro x5 h5
            have q125 : ∀ (x6 : Int), (x6 = tkI kd.toNat / 2 ^ w.toNat % 2) → Wp G E 7 (Ret (iv (if ¬ ((0 ≤ kd ∧ kd ≤ 7) ∧ (0 ≤ a ∧ a < 2 ^ n)) then -2 else if ¬ ((0 ≤ w ∧ w ≤ 6) ∧ (1 ≤ k ∧ k ≤ 20)) then -3 else if tkI kd.toNat / 2 ^ w.toNat % 2 = 0 then -4 else bi (fitB N Sc Cl p n kd a k = true))) h) 125 [(0, rv E 128), (1, iv kd), (2, iv w), (3, iv a), (4, iv k), (5, iv x5), (6, iv x6)] [] h := by
              intro x6 h6
              have hd9 : 0 ≤ tkI kd.toNat / 2 ^ w.toNat % 2 ∧ tkI kd.toNat / 2 ^ w.toNat % 2 < 2 := by omega
              refine wp_iload 6 C dX12_as_125 rfl ?_
              refine wp_if_ne (tgt := 135) (by omega) C dX12_as_127 (by decide) (fun c_127 => ?_) (fun c_127 => ?_)
              · skip
                refine wp_aloadR_n 0 C dX12_as_135 rfl rfl ?_
                refine wp_iload_n 1 C dX12_as_136 rfl rfl ?_
                refine wp_iload_n 3 C dX12_as_137 rfl rfl ?_
                refine wp_iload 4 C dX12_as_138 rfl ?_
                refine wp_callVp (rest := []) (c_isOf E h n p N Sc Cl Cs M0 kd a k (by omega) (by omega) (by omega)) svX12_201 sh_128 (by decide) rfl rfl (Nat.le_of_ble_eq_true rfl) C dX12_as_140 ?_
                refine wp_ifb_eq (tgt := 150) C dX12_as_143 (by decide) (fun c_143 => ?_) (fun c_143 => ?_)
                · skip
                  refine wp_iconst (v := 0) C dX12_as_150 rfl ?_
                  refine wp_iret C dX12_as_151 ?_
                  exact ret_iv (by rw [if_neg (not_not_intro ⟨c_4, c_12⟩), if_neg (not_not_intro ⟨c_27, c_35⟩), if_neg (by omega), bi_f c_143])
                · skip
                  refine wp_iconst (v := 1) C dX12_as_146 rfl ?_
                  refine wp_goto (tgt := 151) C dX12_as_147 (by decide) ?_
                  refine wp_iret C dX12_as_151 ?_
                  exact ret_iv (by rw [if_neg (not_not_intro ⟨c_4, c_12⟩), if_neg (not_not_intro ⟨c_27, c_35⟩), if_neg (by omega), bi_t c_143])
              · skip
                refine wp_bipush (v := (-4)) C dX12_as_130 rfl ?_
                refine wp_goto (tgt := 151) C dX12_as_132 (by decide) ?_
                refine wp_iret C dX12_as_151 ?_
                exact ret_iv (by rw [if_neg (not_not_intro ⟨c_4, c_12⟩), if_neg (not_not_intro ⟨c_27, c_35⟩), if_pos (by omega)])
            refine wp_iload_n 2 C dX12_as_58 rfl rfl ?_
            refine wp_if_eq (tgt := 118) (by omega) C dX12_as_59 (by decide) (fun c_59 => ?_) (fun c_59 => ?_)
            · skip
              refine wp_iconst (v := 1) C dX12_as_118 rfl ?_
              refine wp_goto (tgt := 123) C dX12_as_119 (by decide) ?_
              refine wp_istore (ls' := [(0, rv E 128), (1, iv kd), (2, iv w), (3, iv a), (4, iv k), (5, iv x5), (6, iv 1)]) [1, 2, 3, 4, 5, 6, 0] C dX12_as_123 (by decide) rfl ?_
              exact q125 1 (by rw [mayT (by omega) (by omega)]; rw [if_pos (by omega)])
            · skip
              refine wp_iload_n 2 C dX12_as_62 rfl rfl ?_
              refine wp_iconst (v := 1) C dX12_as_63 rfl ?_
              refine wp_icmp_eq (tgt := 72) (by omega) (by omega) C dX12_as_64 (by decide) (fun c_64 => ?_) (fun c_64 => ?_)
              · skip
                refine wp_iload 5 C dX12_as_72 rfl ?_
                refine wp_if_eq (tgt := 118) (by omega) C dX12_as_74 (by decide) (fun c_74 => ?_) (fun c_74 => ?_)
                · skip
                  refine wp_iconst (v := 1) C dX12_as_118 rfl ?_
                  refine wp_goto (tgt := 123) C dX12_as_119 (by decide) ?_
                  refine wp_istore (ls' := [(0, rv E 128), (1, iv kd), (2, iv w), (3, iv a), (4, iv k), (5, iv x5), (6, iv 1)]) [1, 2, 3, 4, 5, 6, 0] C dX12_as_123 (by decide) rfl ?_
                  exact q125 1 (by rw [mayT (by omega) (by omega)]; rw [if_pos (by omega)])
                · skip
                  refine wp_iload_n 2 C dX12_as_77 rfl rfl ?_
                  refine wp_iconst (v := 3) C dX12_as_78 rfl ?_
                  refine wp_icmp_ne (tgt := 87) (by omega) (by omega) C dX12_as_79 (by decide) (fun c_79 => ?_) (fun c_79 => ?_)
                  · skip
                    refine wp_iload_n 2 C dX12_as_87 rfl rfl ?_
                    refine wp_iconst (v := 4) C dX12_as_88 rfl ?_
                    refine wp_icmp_ne (tgt := 97) (by omega) (by omega) C dX12_as_89 (by decide) (fun c_89 => ?_) (fun c_89 => ?_)
                    · skip
                      refine wp_iload_n 2 C dX12_as_97 rfl rfl ?_
                      refine wp_iconst (v := 5) C dX12_as_98 rfl ?_
                      refine wp_icmp_ne (tgt := 107) (by omega) (by omega) C dX12_as_99 (by decide) (fun c_99 => ?_) (fun c_99 => ?_)
                      · skip
                        refine wp_iload_n 2 C dX12_as_107 rfl rfl ?_
                        refine wp_bipush (v := 6) C dX12_as_108 rfl ?_
                        refine wp_icmp_ne (tgt := 122) (by omega) (by omega) C dX12_as_110 (by decide) (fun c_110 => ?_) (fun c_110 => ?_)
                        · skip
                          refine wp_iconst (v := 0) C dX12_as_122 rfl ?_
                          refine wp_istore (ls' := [(0, rv E 128), (1, iv kd), (2, iv w), (3, iv a), (4, iv k), (5, iv x5), (6, iv 0)]) [1, 2, 3, 4, 5, 6, 0] C dX12_as_123 (by decide) rfl ?_
                          exact q125 0 (by rw [mayT (by omega) (by omega)]; rw [if_neg (by omega)])
                        · skip
                          refine wp_iload_n 1 C dX12_as_113 rfl rfl ?_
                          refine wp_iconst (v := 4) C dX12_as_114 rfl ?_
                          refine wp_icmp_lt (tgt := 122) (by omega) (by omega) C dX12_as_115 (by decide) (fun c_115 => ?_) (fun c_115 => ?_)
                          · skip
                            refine wp_iconst (v := 0) C dX12_as_122 rfl ?_
                            refine wp_istore (ls' := [(0, rv E 128), (1, iv kd), (2, iv w), (3, iv a), (4, iv k), (5, iv x5), (6, iv 0)]) [1, 2, 3, 4, 5, 6, 0] C dX12_as_123 (by decide) rfl ?_
                            exact q125 0 (by rw [mayT (by omega) (by omega)]; rw [if_neg (by omega)])
                          · skip
                            refine wp_iconst (v := 1) C dX12_as_118 rfl ?_
                            refine wp_goto (tgt := 123) C dX12_as_119 (by decide) ?_
                            refine wp_istore (ls' := [(0, rv E 128), (1, iv kd), (2, iv w), (3, iv a), (4, iv k), (5, iv x5), (6, iv 1)]) [1, 2, 3, 4, 5, 6, 0] C dX12_as_123 (by decide) rfl ?_
                            exact q125 1 (by rw [mayT (by omega) (by omega)]; rw [if_pos (by omega)])
                      · skip
                        refine wp_iload_n 1 C dX12_as_102 rfl rfl ?_
                        refine wp_iconst (v := 3) C dX12_as_103 rfl ?_
                        refine wp_icmp_eq (tgt := 118) (by omega) (by omega) C dX12_as_104 (by decide) (fun c_104 => ?_) (fun c_104 => ?_)
                        · skip
                          refine wp_iconst (v := 1) C dX12_as_118 rfl ?_
                          refine wp_goto (tgt := 123) C dX12_as_119 (by decide) ?_
                          refine wp_istore (ls' := [(0, rv E 128), (1, iv kd), (2, iv w), (3, iv a), (4, iv k), (5, iv x5), (6, iv 1)]) [1, 2, 3, 4, 5, 6, 0] C dX12_as_123 (by decide) rfl ?_
                          exact q125 1 (by rw [mayT (by omega) (by omega)]; rw [if_pos (by omega)])
                        · skip
                          refine wp_iload_n 2 C dX12_as_107 rfl rfl ?_
                          refine wp_bipush (v := 6) C dX12_as_108 rfl ?_
                          refine wp_icmp_ne (tgt := 122) (by omega) (by omega) C dX12_as_110 (by decide) (fun c_110 => ?_) (fun c_110 => ?_)
                          · skip
                            refine wp_iconst (v := 0) C dX12_as_122 rfl ?_
                            refine wp_istore (ls' := [(0, rv E 128), (1, iv kd), (2, iv w), (3, iv a), (4, iv k), (5, iv x5), (6, iv 0)]) [1, 2, 3, 4, 5, 6, 0] C dX12_as_123 (by decide) rfl ?_
                            exact q125 0 (by rw [mayT (by omega) (by omega)]; rw [if_neg (by omega)])
                          · skip
                            refine wp_iload_n 1 C dX12_as_113 rfl rfl ?_
                            refine wp_iconst (v := 4) C dX12_as_114 rfl ?_
                            refine wp_icmp_lt (tgt := 122) (by omega) (by omega) C dX12_as_115 (by decide) (fun c_115 => ?_) (fun c_115 => ?_)
                            · skip
                              refine wp_iconst (v := 0) C dX12_as_122 rfl ?_
                              refine wp_istore (ls' := [(0, rv E 128), (1, iv kd), (2, iv w), (3, iv a), (4, iv k), (5, iv x5), (6, iv 0)]) [1, 2, 3, 4, 5, 6, 0] C dX12_as_123 (by decide) rfl ?_
                              exact q125 0 (by rw [mayT (by omega) (by omega)]; rw [if_neg (by omega)])
                            · skip
                              refine wp_iconst (v := 1) C dX12_as_118 rfl ?_
                              refine wp_goto (tgt := 123) C dX12_as_119 (by decide) ?_
                              refine wp_istore (ls' := [(0, rv E 128), (1, iv kd), (2, iv w), (3, iv a), (4, iv k), (5, iv x5), (6, iv 1)]) [1, 2, 3, 4, 5, 6, 0] C dX12_as_123 (by decide) rfl ?_
                              exact q125 1 (by rw [mayT (by omega) (by omega)]; rw [if_pos (by omega)])
                    · skip
                      refine wp_iload_n 1 C dX12_as_92 rfl rfl ?_
                      refine wp_iconst (v := 2) C dX12_as_93 rfl ?_
                      refine wp_icmp_eq (tgt := 118) (by omega) (by omega) C dX12_as_94 (by decide) (fun c_94 => ?_) (fun c_94 => ?_)
                      · skip
                        refine wp_iconst (v := 1) C dX12_as_118 rfl ?_
                        refine wp_goto (tgt := 123) C dX12_as_119 (by decide) ?_
                        refine wp_istore (ls' := [(0, rv E 128), (1, iv kd), (2, iv w), (3, iv a), (4, iv k), (5, iv x5), (6, iv 1)]) [1, 2, 3, 4, 5, 6, 0] C dX12_as_123 (by decide) rfl ?_
                        exact q125 1 (by rw [mayT (by omega) (by omega)]; rw [if_pos (by omega)])
                      · skip
                        refine wp_iload_n 2 C dX12_as_97 rfl rfl ?_
                        refine wp_iconst (v := 5) C dX12_as_98 rfl ?_
                        refine wp_icmp_ne (tgt := 107) (by omega) (by omega) C dX12_as_99 (by decide) (fun c_99 => ?_) (fun c_99 => ?_)
                        · skip
                          refine wp_iload_n 2 C dX12_as_107 rfl rfl ?_
                          refine wp_bipush (v := 6) C dX12_as_108 rfl ?_
                          refine wp_icmp_ne (tgt := 122) (by omega) (by omega) C dX12_as_110 (by decide) (fun c_110 => ?_) (fun c_110 => ?_)
                          · skip
                            refine wp_iconst (v := 0) C dX12_as_122 rfl ?_
                            refine wp_istore (ls' := [(0, rv E 128), (1, iv kd), (2, iv w), (3, iv a), (4, iv k), (5, iv x5), (6, iv 0)]) [1, 2, 3, 4, 5, 6, 0] C dX12_as_123 (by decide) rfl ?_
                            exact q125 0 (by rw [mayT (by omega) (by omega)]; rw [if_neg (by omega)])
                          · skip
                            refine wp_iload_n 1 C dX12_as_113 rfl rfl ?_
                            refine wp_iconst (v := 4) C dX12_as_114 rfl ?_
                            refine wp_icmp_lt (tgt := 122) (by omega) (by omega) C dX12_as_115 (by decide) (fun c_115 => ?_) (fun c_115 => ?_)
                            · skip
                              refine wp_iconst (v := 0) C dX12_as_122 rfl ?_
                              refine wp_istore (ls' := [(0, rv E 128), (1, iv kd), (2, iv w), (3, iv a), (4, iv k), (5, iv x5), (6, iv 0)]) [1, 2, 3, 4, 5, 6, 0] C dX12_as_123 (by decide) rfl ?_
                              exact q125 0 (by rw [mayT (by omega) (by omega)]; rw [if_neg (by omega)])
                            · skip
                              refine wp_iconst (v := 1) C dX12_as_118 rfl ?_
                              refine wp_goto (tgt := 123) C dX12_as_119 (by decide) ?_
                              refine wp_istore (ls' := [(0, rv E 128), (1, iv kd), (2, iv w), (3, iv a), (4, iv k), (5, iv x5), (6, iv 1)]) [1, 2, 3, 4, 5, 6, 0] C dX12_as_123 (by decide) rfl ?_
                              exact q125 1 (by rw [mayT (by omega) (by omega)]; rw [if_pos (by omega)])
                        · skip
                          refine wp_iload_n 1 C dX12_as_102 rfl rfl ?_
                          refine wp_iconst (v := 3) C dX12_as_103 rfl ?_
                          refine wp_icmp_eq (tgt := 118) (by omega) (by omega) C dX12_as_104 (by decide) (fun c_104 => ?_) (fun c_104 => ?_)
                          · skip
                            refine wp_iconst (v := 1) C dX12_as_118 rfl ?_
                            refine wp_goto (tgt := 123) C dX12_as_119 (by decide) ?_
                            refine wp_istore (ls' := [(0, rv E 128), (1, iv kd), (2, iv w), (3, iv a), (4, iv k), (5, iv x5), (6, iv 1)]) [1, 2, 3, 4, 5, 6, 0] C dX12_as_123 (by decide) rfl ?_
                            exact q125 1 (by rw [mayT (by omega) (by omega)]; rw [if_pos (by omega)])
                          · skip
                            refine wp_iload_n 2 C dX12_as_107 rfl rfl ?_
                            refine wp_bipush (v := 6) C dX12_as_108 rfl ?_
                            refine wp_icmp_ne (tgt := 122) (by omega) (by omega) C dX12_as_110 (by decide) (fun c_110 => ?_) (fun c_110 => ?_)
                            · skip
                              refine wp_iconst (v := 0) C dX12_as_122 rfl ?_
                              refine wp_istore (ls' := [(0, rv E 128), (1, iv kd), (2, iv w), (3, iv a), (4, iv k), (5, iv x5), (6, iv 0)]) [1, 2, 3, 4, 5, 6, 0] C dX12_as_123 (by decide) rfl ?_
                              exact q125 0 (by rw [mayT (by omega) (by omega)]; rw [if_neg (by omega)])
                            · skip
                              refine wp_iload_n 1 C dX12_as_113 rfl rfl ?_
                              refine wp_iconst (v := 4) C dX12_as_114 rfl ?_
                              refine wp_icmp_lt (tgt := 122) (by omega) (by omega) C dX12_as_115 (by decide) (fun c_115 => ?_) (fun c_115 => ?_)
                              · skip
                                refine wp_iconst (v := 0) C dX12_as_122 rfl ?_
                                refine wp_istore (ls' := [(0, rv E 128), (1, iv kd), (2, iv w), (3, iv a), (4, iv k), (5, iv x5), (6, iv 0)]) [1, 2, 3, 4, 5, 6, 0] C dX12_as_123 (by decide) rfl ?_
                                exact q125 0 (by rw [mayT (by omega) (by omega)]; rw [if_neg (by omega)])
                              · skip
                                refine wp_iconst (v := 1) C dX12_as_118 rfl ?_
                                refine wp_goto (tgt := 123) C dX12_as_119 (by decide) ?_
                                refine wp_istore (ls' := [(0, rv E 128), (1, iv kd), (2, iv w), (3, iv a), (4, iv k), (5, iv x5), (6, iv 1)]) [1, 2, 3, 4, 5, 6, 0] C dX12_as_123 (by decide) rfl ?_
                                exact q125 1 (by rw [mayT (by omega) (by omega)]; rw [if_pos (by omega)])
                  · skip
                    refine wp_iload 5 C dX12_as_82 rfl ?_
                    refine wp_if_ne (tgt := 118) (by omega) C dX12_as_84 (by decide) (fun c_84 => ?_) (fun c_84 => ?_)
                    · skip
                      refine wp_iconst (v := 1) C dX12_as_118 rfl ?_
                      refine wp_goto (tgt := 123) C dX12_as_119 (by decide) ?_
                      refine wp_istore (ls' := [(0, rv E 128), (1, iv kd), (2, iv w), (3, iv a), (4, iv k), (5, iv x5), (6, iv 1)]) [1, 2, 3, 4, 5, 6, 0] C dX12_as_123 (by decide) rfl ?_
                      exact q125 1 (by rw [mayT (by omega) (by omega)]; rw [if_pos (by omega)])
                    · skip
                      refine wp_iload_n 2 C dX12_as_87 rfl rfl ?_
                      refine wp_iconst (v := 4) C dX12_as_88 rfl ?_
                      refine wp_icmp_ne (tgt := 97) (by omega) (by omega) C dX12_as_89 (by decide) (fun c_89 => ?_) (fun c_89 => ?_)
                      · skip
                        refine wp_iload_n 2 C dX12_as_97 rfl rfl ?_
                        refine wp_iconst (v := 5) C dX12_as_98 rfl ?_
                        refine wp_icmp_ne (tgt := 107) (by omega) (by omega) C dX12_as_99 (by decide) (fun c_99 => ?_) (fun c_99 => ?_)
                        · skip
                          refine wp_iload_n 2 C dX12_as_107 rfl rfl ?_
                          refine wp_bipush (v := 6) C dX12_as_108 rfl ?_
                          refine wp_icmp_ne (tgt := 122) (by omega) (by omega) C dX12_as_110 (by decide) (fun c_110 => ?_) (fun c_110 => ?_)
                          · skip
                            refine wp_iconst (v := 0) C dX12_as_122 rfl ?_
                            refine wp_istore (ls' := [(0, rv E 128), (1, iv kd), (2, iv w), (3, iv a), (4, iv k), (5, iv x5), (6, iv 0)]) [1, 2, 3, 4, 5, 6, 0] C dX12_as_123 (by decide) rfl ?_
                            exact q125 0 (by rw [mayT (by omega) (by omega)]; rw [if_neg (by omega)])
                          · skip
                            refine wp_iload_n 1 C dX12_as_113 rfl rfl ?_
                            refine wp_iconst (v := 4) C dX12_as_114 rfl ?_
                            refine wp_icmp_lt (tgt := 122) (by omega) (by omega) C dX12_as_115 (by decide) (fun c_115 => ?_) (fun c_115 => ?_)
                            · skip
                              refine wp_iconst (v := 0) C dX12_as_122 rfl ?_
                              refine wp_istore (ls' := [(0, rv E 128), (1, iv kd), (2, iv w), (3, iv a), (4, iv k), (5, iv x5), (6, iv 0)]) [1, 2, 3, 4, 5, 6, 0] C dX12_as_123 (by decide) rfl ?_
                              exact q125 0 (by rw [mayT (by omega) (by omega)]; rw [if_neg (by omega)])
                            · skip
                              refine wp_iconst (v := 1) C dX12_as_118 rfl ?_
                              refine wp_goto (tgt := 123) C dX12_as_119 (by decide) ?_
                              refine wp_istore (ls' := [(0, rv E 128), (1, iv kd), (2, iv w), (3, iv a), (4, iv k), (5, iv x5), (6, iv 1)]) [1, 2, 3, 4, 5, 6, 0] C dX12_as_123 (by decide) rfl ?_
                              exact q125 1 (by rw [mayT (by omega) (by omega)]; rw [if_pos (by omega)])
                        · skip
                          refine wp_iload_n 1 C dX12_as_102 rfl rfl ?_
                          refine wp_iconst (v := 3) C dX12_as_103 rfl ?_
                          refine wp_icmp_eq (tgt := 118) (by omega) (by omega) C dX12_as_104 (by decide) (fun c_104 => ?_) (fun c_104 => ?_)
                          · skip
                            refine wp_iconst (v := 1) C dX12_as_118 rfl ?_
                            refine wp_goto (tgt := 123) C dX12_as_119 (by decide) ?_
                            refine wp_istore (ls' := [(0, rv E 128), (1, iv kd), (2, iv w), (3, iv a), (4, iv k), (5, iv x5), (6, iv 1)]) [1, 2, 3, 4, 5, 6, 0] C dX12_as_123 (by decide) rfl ?_
                            exact q125 1 (by rw [mayT (by omega) (by omega)]; rw [if_pos (by omega)])
                          · skip
                            refine wp_iload_n 2 C dX12_as_107 rfl rfl ?_
                            refine wp_bipush (v := 6) C dX12_as_108 rfl ?_
                            refine wp_icmp_ne (tgt := 122) (by omega) (by omega) C dX12_as_110 (by decide) (fun c_110 => ?_) (fun c_110 => ?_)
                            · skip
                              refine wp_iconst (v := 0) C dX12_as_122 rfl ?_
                              refine wp_istore (ls' := [(0, rv E 128), (1, iv kd), (2, iv w), (3, iv a), (4, iv k), (5, iv x5), (6, iv 0)]) [1, 2, 3, 4, 5, 6, 0] C dX12_as_123 (by decide) rfl ?_
                              exact q125 0 (by rw [mayT (by omega) (by omega)]; rw [if_neg (by omega)])
                            · skip
                              refine wp_iload_n 1 C dX12_as_113 rfl rfl ?_
                              refine wp_iconst (v := 4) C dX12_as_114 rfl ?_
                              refine wp_icmp_lt (tgt := 122) (by omega) (by omega) C dX12_as_115 (by decide) (fun c_115 => ?_) (fun c_115 => ?_)
                              · skip
                                refine wp_iconst (v := 0) C dX12_as_122 rfl ?_
                                refine wp_istore (ls' := [(0, rv E 128), (1, iv kd), (2, iv w), (3, iv a), (4, iv k), (5, iv x5), (6, iv 0)]) [1, 2, 3, 4, 5, 6, 0] C dX12_as_123 (by decide) rfl ?_
                                exact q125 0 (by rw [mayT (by omega) (by omega)]; rw [if_neg (by omega)])
                              · skip
                                refine wp_iconst (v := 1) C dX12_as_118 rfl ?_
                                refine wp_goto (tgt := 123) C dX12_as_119 (by decide) ?_
                                refine wp_istore (ls' := [(0, rv E 128), (1, iv kd), (2, iv w), (3, iv a), (4, iv k), (5, iv x5), (6, iv 1)]) [1, 2, 3, 4, 5, 6, 0] C dX12_as_123 (by decide) rfl ?_
                                exact q125 1 (by rw [mayT (by omega) (by omega)]; rw [if_pos (by omega)])
                      · skip
                        refine wp_iload_n 1 C dX12_as_92 rfl rfl ?_
                        refine wp_iconst (v := 2) C dX12_as_93 rfl ?_
                        refine wp_icmp_eq (tgt := 118) (by omega) (by omega) C dX12_as_94 (by decide) (fun c_94 => ?_) (fun c_94 => ?_)
                        · skip
                          refine wp_iconst (v := 1) C dX12_as_118 rfl ?_
                          refine wp_goto (tgt := 123) C dX12_as_119 (by decide) ?_
                          refine wp_istore (ls' := [(0, rv E 128), (1, iv kd), (2, iv w), (3, iv a), (4, iv k), (5, iv x5), (6, iv 1)]) [1, 2, 3, 4, 5, 6, 0] C dX12_as_123 (by decide) rfl ?_
                          exact q125 1 (by rw [mayT (by omega) (by omega)]; rw [if_pos (by omega)])
                        · skip
                          refine wp_iload_n 2 C dX12_as_97 rfl rfl ?_
                          refine wp_iconst (v := 5) C dX12_as_98 rfl ?_
                          refine wp_icmp_ne (tgt := 107) (by omega) (by omega) C dX12_as_99 (by decide) (fun c_99 => ?_) (fun c_99 => ?_)
                          · skip
                            refine wp_iload_n 2 C dX12_as_107 rfl rfl ?_
                            refine wp_bipush (v := 6) C dX12_as_108 rfl ?_
                            refine wp_icmp_ne (tgt := 122) (by omega) (by omega) C dX12_as_110 (by decide) (fun c_110 => ?_) (fun c_110 => ?_)
                            · skip
                              refine wp_iconst (v := 0) C dX12_as_122 rfl ?_
                              refine wp_istore (ls' := [(0, rv E 128), (1, iv kd), (2, iv w), (3, iv a), (4, iv k), (5, iv x5), (6, iv 0)]) [1, 2, 3, 4, 5, 6, 0] C dX12_as_123 (by decide) rfl ?_
                              exact q125 0 (by rw [mayT (by omega) (by omega)]; rw [if_neg (by omega)])
                            · skip
                              refine wp_iload_n 1 C dX12_as_113 rfl rfl ?_
                              refine wp_iconst (v := 4) C dX12_as_114 rfl ?_
                              refine wp_icmp_lt (tgt := 122) (by omega) (by omega) C dX12_as_115 (by decide) (fun c_115 => ?_) (fun c_115 => ?_)
                              · skip
                                refine wp_iconst (v := 0) C dX12_as_122 rfl ?_
                                refine wp_istore (ls' := [(0, rv E 128), (1, iv kd), (2, iv w), (3, iv a), (4, iv k), (5, iv x5), (6, iv 0)]) [1, 2, 3, 4, 5, 6, 0] C dX12_as_123 (by decide) rfl ?_
                                exact q125 0 (by rw [mayT (by omega) (by omega)]; rw [if_neg (by omega)])
                              · skip
                                refine wp_iconst (v := 1) C dX12_as_118 rfl ?_
                                refine wp_goto (tgt := 123) C dX12_as_119 (by decide) ?_
                                refine wp_istore (ls' := [(0, rv E 128), (1, iv kd), (2, iv w), (3, iv a), (4, iv k), (5, iv x5), (6, iv 1)]) [1, 2, 3, 4, 5, 6, 0] C dX12_as_123 (by decide) rfl ?_
                                exact q125 1 (by rw [mayT (by omega) (by omega)]; rw [if_pos (by omega)])
                          · skip
                            refine wp_iload_n 1 C dX12_as_102 rfl rfl ?_
                            refine wp_iconst (v := 3) C dX12_as_103 rfl ?_
                            refine wp_icmp_eq (tgt := 118) (by omega) (by omega) C dX12_as_104 (by decide) (fun c_104 => ?_) (fun c_104 => ?_)
                            · skip
                              refine wp_iconst (v := 1) C dX12_as_118 rfl ?_
                              refine wp_goto (tgt := 123) C dX12_as_119 (by decide) ?_
                              refine wp_istore (ls' := [(0, rv E 128), (1, iv kd), (2, iv w), (3, iv a), (4, iv k), (5, iv x5), (6, iv 1)]) [1, 2, 3, 4, 5, 6, 0] C dX12_as_123 (by decide) rfl ?_
                              exact q125 1 (by rw [mayT (by omega) (by omega)]; rw [if_pos (by omega)])
                            · skip
                              refine wp_iload_n 2 C dX12_as_107 rfl rfl ?_
                              refine wp_bipush (v := 6) C dX12_as_108 rfl ?_
                              refine wp_icmp_ne (tgt := 122) (by omega) (by omega) C dX12_as_110 (by decide) (fun c_110 => ?_) (fun c_110 => ?_)
                              · skip
                                refine wp_iconst (v := 0) C dX12_as_122 rfl ?_
                                refine wp_istore (ls' := [(0, rv E 128), (1, iv kd), (2, iv w), (3, iv a), (4, iv k), (5, iv x5), (6, iv 0)]) [1, 2, 3, 4, 5, 6, 0] C dX12_as_123 (by decide) rfl ?_
                                exact q125 0 (by rw [mayT (by omega) (by omega)]; rw [if_neg (by omega)])
                              · skip
                                refine wp_iload_n 1 C dX12_as_113 rfl rfl ?_
                                refine wp_iconst (v := 4) C dX12_as_114 rfl ?_
                                refine wp_icmp_lt (tgt := 122) (by omega) (by omega) C dX12_as_115 (by decide) (fun c_115 => ?_) (fun c_115 => ?_)
                                · skip
                                  refine wp_iconst (v := 0) C dX12_as_122 rfl ?_
                                  refine wp_istore (ls' := [(0, rv E 128), (1, iv kd), (2, iv w), (3, iv a), (4, iv k), (5, iv x5), (6, iv 0)]) [1, 2, 3, 4, 5, 6, 0] C dX12_as_123 (by decide) rfl ?_
                                  exact q125 0 (by rw [mayT (by omega) (by omega)]; rw [if_neg (by omega)])
                                · skip
                                  refine wp_iconst (v := 1) C dX12_as_118 rfl ?_
                                  refine wp_goto (tgt := 123) C dX12_as_119 (by decide) ?_
                                  refine wp_istore (ls' := [(0, rv E 128), (1, iv kd), (2, iv w), (3, iv a), (4, iv k), (5, iv x5), (6, iv 1)]) [1, 2, 3, 4, 5, 6, 0] C dX12_as_123 (by decide) rfl ?_
                                  exact q125 1 (by rw [mayT (by omega) (by omega)]; rw [if_pos (by omega)])
              · skip
                refine wp_iload_n 2 C dX12_as_67 rfl rfl ?_
                refine wp_iconst (v := 2) C dX12_as_68 rfl ?_
                refine wp_icmp_ne (tgt := 77) (by omega) (by omega) C dX12_as_69 (by decide) (fun c_69 => ?_) (fun c_69 => ?_)
                · skip
                  refine wp_iload_n 2 C dX12_as_77 rfl rfl ?_
                  refine wp_iconst (v := 3) C dX12_as_78 rfl ?_
                  refine wp_icmp_ne (tgt := 87) (by omega) (by omega) C dX12_as_79 (by decide) (fun c_79 => ?_) (fun c_79 => ?_)
                  · skip
                    refine wp_iload_n 2 C dX12_as_87 rfl rfl ?_
                    refine wp_iconst (v := 4) C dX12_as_88 rfl ?_
                    refine wp_icmp_ne (tgt := 97) (by omega) (by omega) C dX12_as_89 (by decide) (fun c_89 => ?_) (fun c_89 => ?_)
                    · skip
                      refine wp_iload_n 2 C dX12_as_97 rfl rfl ?_
                      refine wp_iconst (v := 5) C dX12_as_98 rfl ?_
                      refine wp_icmp_ne (tgt := 107) (by omega) (by omega) C dX12_as_99 (by decide) (fun c_99 => ?_) (fun c_99 => ?_)
                      · skip
                        refine wp_iload_n 2 C dX12_as_107 rfl rfl ?_
                        refine wp_bipush (v := 6) C dX12_as_108 rfl ?_
                        refine wp_icmp_ne (tgt := 122) (by omega) (by omega) C dX12_as_110 (by decide) (fun c_110 => ?_) (fun c_110 => ?_)
                        · skip
                          refine wp_iconst (v := 0) C dX12_as_122 rfl ?_
                          refine wp_istore (ls' := [(0, rv E 128), (1, iv kd), (2, iv w), (3, iv a), (4, iv k), (5, iv x5), (6, iv 0)]) [1, 2, 3, 4, 5, 6, 0] C dX12_as_123 (by decide) rfl ?_
                          exact q125 0 (by rw [mayT (by omega) (by omega)]; rw [if_neg (by omega)])
                        · skip
                          refine wp_iload_n 1 C dX12_as_113 rfl rfl ?_
                          refine wp_iconst (v := 4) C dX12_as_114 rfl ?_
                          refine wp_icmp_lt (tgt := 122) (by omega) (by omega) C dX12_as_115 (by decide) (fun c_115 => ?_) (fun c_115 => ?_)
                          · skip
                            refine wp_iconst (v := 0) C dX12_as_122 rfl ?_
                            refine wp_istore (ls' := [(0, rv E 128), (1, iv kd), (2, iv w), (3, iv a), (4, iv k), (5, iv x5), (6, iv 0)]) [1, 2, 3, 4, 5, 6, 0] C dX12_as_123 (by decide) rfl ?_
                            exact q125 0 (by rw [mayT (by omega) (by omega)]; rw [if_neg (by omega)])
                          · skip
                            refine wp_iconst (v := 1) C dX12_as_118 rfl ?_
                            refine wp_goto (tgt := 123) C dX12_as_119 (by decide) ?_
                            refine wp_istore (ls' := [(0, rv E 128), (1, iv kd), (2, iv w), (3, iv a), (4, iv k), (5, iv x5), (6, iv 1)]) [1, 2, 3, 4, 5, 6, 0] C dX12_as_123 (by decide) rfl ?_
                            exact q125 1 (by rw [mayT (by omega) (by omega)]; rw [if_pos (by omega)])
                      · skip
                        refine wp_iload_n 1 C dX12_as_102 rfl rfl ?_
                        refine wp_iconst (v := 3) C dX12_as_103 rfl ?_
                        refine wp_icmp_eq (tgt := 118) (by omega) (by omega) C dX12_as_104 (by decide) (fun c_104 => ?_) (fun c_104 => ?_)
                        · skip
                          refine wp_iconst (v := 1) C dX12_as_118 rfl ?_
                          refine wp_goto (tgt := 123) C dX12_as_119 (by decide) ?_
                          refine wp_istore (ls' := [(0, rv E 128), (1, iv kd), (2, iv w), (3, iv a), (4, iv k), (5, iv x5), (6, iv 1)]) [1, 2, 3, 4, 5, 6, 0] C dX12_as_123 (by decide) rfl ?_
                          exact q125 1 (by rw [mayT (by omega) (by omega)]; rw [if_pos (by omega)])
                        · skip
                          refine wp_iload_n 2 C dX12_as_107 rfl rfl ?_
                          refine wp_bipush (v := 6) C dX12_as_108 rfl ?_
                          refine wp_icmp_ne (tgt := 122) (by omega) (by omega) C dX12_as_110 (by decide) (fun c_110 => ?_) (fun c_110 => ?_)
                          · skip
                            refine wp_iconst (v := 0) C dX12_as_122 rfl ?_
                            refine wp_istore (ls' := [(0, rv E 128), (1, iv kd), (2, iv w), (3, iv a), (4, iv k), (5, iv x5), (6, iv 0)]) [1, 2, 3, 4, 5, 6, 0] C dX12_as_123 (by decide) rfl ?_
                            exact q125 0 (by rw [mayT (by omega) (by omega)]; rw [if_neg (by omega)])
                          · skip
                            refine wp_iload_n 1 C dX12_as_113 rfl rfl ?_
                            refine wp_iconst (v := 4) C dX12_as_114 rfl ?_
                            refine wp_icmp_lt (tgt := 122) (by omega) (by omega) C dX12_as_115 (by decide) (fun c_115 => ?_) (fun c_115 => ?_)
                            · skip
                              refine wp_iconst (v := 0) C dX12_as_122 rfl ?_
                              refine wp_istore (ls' := [(0, rv E 128), (1, iv kd), (2, iv w), (3, iv a), (4, iv k), (5, iv x5), (6, iv 0)]) [1, 2, 3, 4, 5, 6, 0] C dX12_as_123 (by decide) rfl ?_
                              exact q125 0 (by rw [mayT (by omega) (by omega)]; rw [if_neg (by omega)])
                            · skip
                              refine wp_iconst (v := 1) C dX12_as_118 rfl ?_
                              refine wp_goto (tgt := 123) C dX12_as_119 (by decide) ?_
                              refine wp_istore (ls' := [(0, rv E 128), (1, iv kd), (2, iv w), (3, iv a), (4, iv k), (5, iv x5), (6, iv 1)]) [1, 2, 3, 4, 5, 6, 0] C dX12_as_123 (by decide) rfl ?_
                              exact q125 1 (by rw [mayT (by omega) (by omega)]; rw [if_pos (by omega)])
                    · skip
                      refine wp_iload_n 1 C dX12_as_92 rfl rfl ?_
                      refine wp_iconst (v := 2) C dX12_as_93 rfl ?_
                      refine wp_icmp_eq (tgt := 118) (by omega) (by omega) C dX12_as_94 (by decide) (fun c_94 => ?_) (fun c_94 => ?_)
                      · skip
                        refine wp_iconst (v := 1) C dX12_as_118 rfl ?_
                        refine wp_goto (tgt := 123) C dX12_as_119 (by decide) ?_
                        refine wp_istore (ls' := [(0, rv E 128), (1, iv kd), (2, iv w), (3, iv a), (4, iv k), (5, iv x5), (6, iv 1)]) [1, 2, 3, 4, 5, 6, 0] C dX12_as_123 (by decide) rfl ?_
                        exact q125 1 (by rw [mayT (by omega) (by omega)]; rw [if_pos (by omega)])
                      · skip
                        refine wp_iload_n 2 C dX12_as_97 rfl rfl ?_
                        refine wp_iconst (v := 5) C dX12_as_98 rfl ?_
                        refine wp_icmp_ne (tgt := 107) (by omega) (by omega) C dX12_as_99 (by decide) (fun c_99 => ?_) (fun c_99 => ?_)
                        · skip
                          refine wp_iload_n 2 C dX12_as_107 rfl rfl ?_
                          refine wp_bipush (v := 6) C dX12_as_108 rfl ?_
                          refine wp_icmp_ne (tgt := 122) (by omega) (by omega) C dX12_as_110 (by decide) (fun c_110 => ?_) (fun c_110 => ?_)
                          · skip
                            refine wp_iconst (v := 0) C dX12_as_122 rfl ?_
                            refine wp_istore (ls' := [(0, rv E 128), (1, iv kd), (2, iv w), (3, iv a), (4, iv k), (5, iv x5), (6, iv 0)]) [1, 2, 3, 4, 5, 6, 0] C dX12_as_123 (by decide) rfl ?_
                            exact q125 0 (by rw [mayT (by omega) (by omega)]; rw [if_neg (by omega)])
                          · skip
                            refine wp_iload_n 1 C dX12_as_113 rfl rfl ?_
                            refine wp_iconst (v := 4) C dX12_as_114 rfl ?_
                            refine wp_icmp_lt (tgt := 122) (by omega) (by omega) C dX12_as_115 (by decide) (fun c_115 => ?_) (fun c_115 => ?_)
                            · skip
                              refine wp_iconst (v := 0) C dX12_as_122 rfl ?_
                              refine wp_istore (ls' := [(0, rv E 128), (1, iv kd), (2, iv w), (3, iv a), (4, iv k), (5, iv x5), (6, iv 0)]) [1, 2, 3, 4, 5, 6, 0] C dX12_as_123 (by decide) rfl ?_
                              exact q125 0 (by rw [mayT (by omega) (by omega)]; rw [if_neg (by omega)])
                            · skip
                              refine wp_iconst (v := 1) C dX12_as_118 rfl ?_
                              refine wp_goto (tgt := 123) C dX12_as_119 (by decide) ?_
                              refine wp_istore (ls' := [(0, rv E 128), (1, iv kd), (2, iv w), (3, iv a), (4, iv k), (5, iv x5), (6, iv 1)]) [1, 2, 3, 4, 5, 6, 0] C dX12_as_123 (by decide) rfl ?_
                              exact q125 1 (by rw [mayT (by omega) (by omega)]; rw [if_pos (by omega)])
                        · skip
                          refine wp_iload_n 1 C dX12_as_102 rfl rfl ?_
                          refine wp_iconst (v := 3) C dX12_as_103 rfl ?_
                          refine wp_icmp_eq (tgt := 118) (by omega) (by omega) C dX12_as_104 (by decide) (fun c_104 => ?_) (fun c_104 => ?_)
                          · skip
                            refine wp_iconst (v := 1) C dX12_as_118 rfl ?_
                            refine wp_goto (tgt := 123) C dX12_as_119 (by decide) ?_
                            refine wp_istore (ls' := [(0, rv E 128), (1, iv kd), (2, iv w), (3, iv a), (4, iv k), (5, iv x5), (6, iv 1)]) [1, 2, 3, 4, 5, 6, 0] C dX12_as_123 (by decide) rfl ?_
                            exact q125 1 (by rw [mayT (by omega) (by omega)]; rw [if_pos (by omega)])
                          · skip
                            refine wp_iload_n 2 C dX12_as_107 rfl rfl ?_
                            refine wp_bipush (v := 6) C dX12_as_108 rfl ?_
                            refine wp_icmp_ne (tgt := 122) (by omega) (by omega) C dX12_as_110 (by decide) (fun c_110 => ?_) (fun c_110 => ?_)
                            · skip
                              refine wp_iconst (v := 0) C dX12_as_122 rfl ?_
                              refine wp_istore (ls' := [(0, rv E 128), (1, iv kd), (2, iv w), (3, iv a), (4, iv k), (5, iv x5), (6, iv 0)]) [1, 2, 3, 4, 5, 6, 0] C dX12_as_123 (by decide) rfl ?_
                              exact q125 0 (by rw [mayT (by omega) (by omega)]; rw [if_neg (by omega)])
                            · skip
                              refine wp_iload_n 1 C dX12_as_113 rfl rfl ?_
                              refine wp_iconst (v := 4) C dX12_as_114 rfl ?_
                              refine wp_icmp_lt (tgt := 122) (by omega) (by omega) C dX12_as_115 (by decide) (fun c_115 => ?_) (fun c_115 => ?_)
                              · skip
                                refine wp_iconst (v := 0) C dX12_as_122 rfl ?_
                                refine wp_istore (ls' := [(0, rv E 128), (1, iv kd), (2, iv w), (3, iv a), (4, iv k), (5, iv x5), (6, iv 0)]) [1, 2, 3, 4, 5, 6, 0] C dX12_as_123 (by decide) rfl ?_
                                exact q125 0 (by rw [mayT (by omega) (by omega)]; rw [if_neg (by omega)])
                              · skip
                                refine wp_iconst (v := 1) C dX12_as_118 rfl ?_
                                refine wp_goto (tgt := 123) C dX12_as_119 (by decide) ?_
                                refine wp_istore (ls' := [(0, rv E 128), (1, iv kd), (2, iv w), (3, iv a), (4, iv k), (5, iv x5), (6, iv 1)]) [1, 2, 3, 4, 5, 6, 0] C dX12_as_123 (by decide) rfl ?_
                                exact q125 1 (by rw [mayT (by omega) (by omega)]; rw [if_pos (by omega)])
                  · skip
                    refine wp_iload 5 C dX12_as_82 rfl ?_
                    refine wp_if_ne (tgt := 118) (by omega) C dX12_as_84 (by decide) (fun c_84 => ?_) (fun c_84 => ?_)
                    · skip
                      refine wp_iconst (v := 1) C dX12_as_118 rfl ?_
                      refine wp_goto (tgt := 123) C dX12_as_119 (by decide) ?_
                      refine wp_istore (ls' := [(0, rv E 128), (1, iv kd), (2, iv w), (3, iv a), (4, iv k), (5, iv x5), (6, iv 1)]) [1, 2, 3, 4, 5, 6, 0] C dX12_as_123 (by decide) rfl ?_
                      exact q125 1 (by rw [mayT (by omega) (by omega)]; rw [if_pos (by omega)])
                    · skip
                      refine wp_iload_n 2 C dX12_as_87 rfl rfl ?_
                      refine wp_iconst (v := 4) C dX12_as_88 rfl ?_
                      refine wp_icmp_ne (tgt := 97) (by omega) (by omega) C dX12_as_89 (by decide) (fun c_89 => ?_) (fun c_89 => ?_)
                      · skip
                        refine wp_iload_n 2 C dX12_as_97 rfl rfl ?_
                        refine wp_iconst (v := 5) C dX12_as_98 rfl ?_
                        refine wp_icmp_ne (tgt := 107) (by omega) (by omega) C dX12_as_99 (by decide) (fun c_99 => ?_) (fun c_99 => ?_)
                        · skip
                          refine wp_iload_n 2 C dX12_as_107 rfl rfl ?_
                          refine wp_bipush (v := 6) C dX12_as_108 rfl ?_
                          refine wp_icmp_ne (tgt := 122) (by omega) (by omega) C dX12_as_110 (by decide) (fun c_110 => ?_) (fun c_110 => ?_)
                          · skip
                            refine wp_iconst (v := 0) C dX12_as_122 rfl ?_
                            refine wp_istore (ls' := [(0, rv E 128), (1, iv kd), (2, iv w), (3, iv a), (4, iv k), (5, iv x5), (6, iv 0)]) [1, 2, 3, 4, 5, 6, 0] C dX12_as_123 (by decide) rfl ?_
                            exact q125 0 (by rw [mayT (by omega) (by omega)]; rw [if_neg (by omega)])
                          · skip
                            refine wp_iload_n 1 C dX12_as_113 rfl rfl ?_
                            refine wp_iconst (v := 4) C dX12_as_114 rfl ?_
                            refine wp_icmp_lt (tgt := 122) (by omega) (by omega) C dX12_as_115 (by decide) (fun c_115 => ?_) (fun c_115 => ?_)
                            · skip
                              refine wp_iconst (v := 0) C dX12_as_122 rfl ?_
                              refine wp_istore (ls' := [(0, rv E 128), (1, iv kd), (2, iv w), (3, iv a), (4, iv k), (5, iv x5), (6, iv 0)]) [1, 2, 3, 4, 5, 6, 0] C dX12_as_123 (by decide) rfl ?_
                              exact q125 0 (by rw [mayT (by omega) (by omega)]; rw [if_neg (by omega)])
                            · skip
                              refine wp_iconst (v := 1) C dX12_as_118 rfl ?_
                              refine wp_goto (tgt := 123) C dX12_as_119 (by decide) ?_
                              refine wp_istore (ls' := [(0, rv E 128), (1, iv kd), (2, iv w), (3, iv a), (4, iv k), (5, iv x5), (6, iv 1)]) [1, 2, 3, 4, 5, 6, 0] C dX12_as_123 (by decide) rfl ?_
                              exact q125 1 (by rw [mayT (by omega) (by omega)]; rw [if_pos (by omega)])
                        · skip
                          refine wp_iload_n 1 C dX12_as_102 rfl rfl ?_
                          refine wp_iconst (v := 3) C dX12_as_103 rfl ?_
                          refine wp_icmp_eq (tgt := 118) (by omega) (by omega) C dX12_as_104 (by decide) (fun c_104 => ?_) (fun c_104 => ?_)
                          · skip
                            refine wp_iconst (v := 1) C dX12_as_118 rfl ?_
                            refine wp_goto (tgt := 123) C dX12_as_119 (by decide) ?_
                            refine wp_istore (ls' := [(0, rv E 128), (1, iv kd), (2, iv w), (3, iv a), (4, iv k), (5, iv x5), (6, iv 1)]) [1, 2, 3, 4, 5, 6, 0] C dX12_as_123 (by decide) rfl ?_
                            exact q125 1 (by rw [mayT (by omega) (by omega)]; rw [if_pos (by omega)])
                          · skip
                            refine wp_iload_n 2 C dX12_as_107 rfl rfl ?_
                            refine wp_bipush (v := 6) C dX12_as_108 rfl ?_
                            refine wp_icmp_ne (tgt := 122) (by omega) (by omega) C dX12_as_110 (by decide) (fun c_110 => ?_) (fun c_110 => ?_)
                            · skip
                              refine wp_iconst (v := 0) C dX12_as_122 rfl ?_
                              refine wp_istore (ls' := [(0, rv E 128), (1, iv kd), (2, iv w), (3, iv a), (4, iv k), (5, iv x5), (6, iv 0)]) [1, 2, 3, 4, 5, 6, 0] C dX12_as_123 (by decide) rfl ?_
                              exact q125 0 (by rw [mayT (by omega) (by omega)]; rw [if_neg (by omega)])
                            · skip
                              refine wp_iload_n 1 C dX12_as_113 rfl rfl ?_
                              refine wp_iconst (v := 4) C dX12_as_114 rfl ?_
                              refine wp_icmp_lt (tgt := 122) (by omega) (by omega) C dX12_as_115 (by decide) (fun c_115 => ?_) (fun c_115 => ?_)
                              · skip
                                refine wp_iconst (v := 0) C dX12_as_122 rfl ?_
                                refine wp_istore (ls' := [(0, rv E 128), (1, iv kd), (2, iv w), (3, iv a), (4, iv k), (5, iv x5), (6, iv 0)]) [1, 2, 3, 4, 5, 6, 0] C dX12_as_123 (by decide) rfl ?_
                                exact q125 0 (by rw [mayT (by omega) (by omega)]; rw [if_neg (by omega)])
                              · skip
                                refine wp_iconst (v := 1) C dX12_as_118 rfl ?_
                                refine wp_goto (tgt := 123) C dX12_as_119 (by decide) ?_
                                refine wp_istore (ls' := [(0, rv E 128), (1, iv kd), (2, iv w), (3, iv a), (4, iv k), (5, iv x5), (6, iv 1)]) [1, 2, 3, 4, 5, 6, 0] C dX12_as_123 (by decide) rfl ?_
                                exact q125 1 (by rw [mayT (by omega) (by omega)]; rw [if_pos (by omega)])
                      · skip
                        refine wp_iload_n 1 C dX12_as_92 rfl rfl ?_
                        refine wp_iconst (v := 2) C dX12_as_93 rfl ?_
                        refine wp_icmp_eq (tgt := 118) (by omega) (by omega) C dX12_as_94 (by decide) (fun c_94 => ?_) (fun c_94 => ?_)
                        · skip
                          refine wp_iconst (v := 1) C dX12_as_118 rfl ?_
                          refine wp_goto (tgt := 123) C dX12_as_119 (by decide) ?_
                          refine wp_istore (ls' := [(0, rv E 128), (1, iv kd), (2, iv w), (3, iv a), (4, iv k), (5, iv x5), (6, iv 1)]) [1, 2, 3, 4, 5, 6, 0] C dX12_as_123 (by decide) rfl ?_
                          exact q125 1 (by rw [mayT (by omega) (by omega)]; rw [if_pos (by omega)])
                        · skip
                          refine wp_iload_n 2 C dX12_as_97 rfl rfl ?_
                          refine wp_iconst (v := 5) C dX12_as_98 rfl ?_
                          refine wp_icmp_ne (tgt := 107) (by omega) (by omega) C dX12_as_99 (by decide) (fun c_99 => ?_) (fun c_99 => ?_)
                          · skip
                            refine wp_iload_n 2 C dX12_as_107 rfl rfl ?_
                            refine wp_bipush (v := 6) C dX12_as_108 rfl ?_
                            refine wp_icmp_ne (tgt := 122) (by omega) (by omega) C dX12_as_110 (by decide) (fun c_110 => ?_) (fun c_110 => ?_)
                            · skip
                              refine wp_iconst (v := 0) C dX12_as_122 rfl ?_
                              refine wp_istore (ls' := [(0, rv E 128), (1, iv kd), (2, iv w), (3, iv a), (4, iv k), (5, iv x5), (6, iv 0)]) [1, 2, 3, 4, 5, 6, 0] C dX12_as_123 (by decide) rfl ?_
                              exact q125 0 (by rw [mayT (by omega) (by omega)]; rw [if_neg (by omega)])
                            · skip
                              refine wp_iload_n 1 C dX12_as_113 rfl rfl ?_
                              refine wp_iconst (v := 4) C dX12_as_114 rfl ?_
                              refine wp_icmp_lt (tgt := 122) (by omega) (by omega) C dX12_as_115 (by decide) (fun c_115 => ?_) (fun c_115 => ?_)
                              · skip
                                refine wp_iconst (v := 0) C dX12_as_122 rfl ?_
                                refine wp_istore (ls' := [(0, rv E 128), (1, iv kd), (2, iv w), (3, iv a), (4, iv k), (5, iv x5), (6, iv 0)]) [1, 2, 3, 4, 5, 6, 0] C dX12_as_123 (by decide) rfl ?_
                                exact q125 0 (by rw [mayT (by omega) (by omega)]; rw [if_neg (by omega)])
                              · skip
                                refine wp_iconst (v := 1) C dX12_as_118 rfl ?_
                                refine wp_goto (tgt := 123) C dX12_as_119 (by decide) ?_
                                refine wp_istore (ls' := [(0, rv E 128), (1, iv kd), (2, iv w), (3, iv a), (4, iv k), (5, iv x5), (6, iv 1)]) [1, 2, 3, 4, 5, 6, 0] C dX12_as_123 (by decide) rfl ?_
                                exact q125 1 (by rw [mayT (by omega) (by omega)]; rw [if_pos (by omega)])
                          · skip
                            refine wp_iload_n 1 C dX12_as_102 rfl rfl ?_
                            refine wp_iconst (v := 3) C dX12_as_103 rfl ?_
                            refine wp_icmp_eq (tgt := 118) (by omega) (by omega) C dX12_as_104 (by decide) (fun c_104 => ?_) (fun c_104 => ?_)
                            · skip
                              refine wp_iconst (v := 1) C dX12_as_118 rfl ?_
                              refine wp_goto (tgt := 123) C dX12_as_119 (by decide) ?_
                              refine wp_istore (ls' := [(0, rv E 128), (1, iv kd), (2, iv w), (3, iv a), (4, iv k), (5, iv x5), (6, iv 1)]) [1, 2, 3, 4, 5, 6, 0] C dX12_as_123 (by decide) rfl ?_
                              exact q125 1 (by rw [mayT (by omega) (by omega)]; rw [if_pos (by omega)])
                            · skip
                              refine wp_iload_n 2 C dX12_as_107 rfl rfl ?_
                              refine wp_bipush (v := 6) C dX12_as_108 rfl ?_
                              refine wp_icmp_ne (tgt := 122) (by omega) (by omega) C dX12_as_110 (by decide) (fun c_110 => ?_) (fun c_110 => ?_)
                              · skip
                                refine wp_iconst (v := 0) C dX12_as_122 rfl ?_
                                refine wp_istore (ls' := [(0, rv E 128), (1, iv kd), (2, iv w), (3, iv a), (4, iv k), (5, iv x5), (6, iv 0)]) [1, 2, 3, 4, 5, 6, 0] C dX12_as_123 (by decide) rfl ?_
                                exact q125 0 (by rw [mayT (by omega) (by omega)]; rw [if_neg (by omega)])
                              · skip
                                refine wp_iload_n 1 C dX12_as_113 rfl rfl ?_
                                refine wp_iconst (v := 4) C dX12_as_114 rfl ?_
                                refine wp_icmp_lt (tgt := 122) (by omega) (by omega) C dX12_as_115 (by decide) (fun c_115 => ?_) (fun c_115 => ?_)
                                · skip
                                  refine wp_iconst (v := 0) C dX12_as_122 rfl ?_
                                  refine wp_istore (ls' := [(0, rv E 128), (1, iv kd), (2, iv w), (3, iv a), (4, iv k), (5, iv x5), (6, iv 0)]) [1, 2, 3, 4, 5, 6, 0] C dX12_as_123 (by decide) rfl ?_
                                  exact q125 0 (by rw [mayT (by omega) (by omega)]; rw [if_neg (by omega)])
                                · skip
                                  refine wp_iconst (v := 1) C dX12_as_118 rfl ?_
                                  refine wp_goto (tgt := 123) C dX12_as_119 (by decide) ?_
                                  refine wp_istore (ls' := [(0, rv E 128), (1, iv kd), (2, iv w), (3, iv a), (4, iv k), (5, iv x5), (6, iv 1)]) [1, 2, 3, 4, 5, 6, 0] C dX12_as_123 (by decide) rfl ?_
                                  exact q125 1 (by rw [mayT (by omega) (by omega)]; rw [if_pos (by omega)])
                · skip
                  refine wp_iload 5 C dX12_as_72 rfl ?_
                  refine wp_if_eq (tgt := 118) (by omega) C dX12_as_74 (by decide) (fun c_74 => ?_) (fun c_74 => ?_)
                  · skip
                    refine wp_iconst (v := 1) C dX12_as_118 rfl ?_
                    refine wp_goto (tgt := 123) C dX12_as_119 (by decide) ?_
                    refine wp_istore (ls' := [(0, rv E 128), (1, iv kd), (2, iv w), (3, iv a), (4, iv k), (5, iv x5), (6, iv 1)]) [1, 2, 3, 4, 5, 6, 0] C dX12_as_123 (by decide) rfl ?_
                    exact q125 1 (by rw [mayT (by omega) (by omega)]; rw [if_pos (by omega)])
                  · skip
                    refine wp_iload_n 2 C dX12_as_77 rfl rfl ?_
                    refine wp_iconst (v := 3) C dX12_as_78 rfl ?_
                    refine wp_icmp_ne (tgt := 87) (by omega) (by omega) C dX12_as_79 (by decide) (fun c_79 => ?_) (fun c_79 => ?_)
                    · skip
                      refine wp_iload_n 2 C dX12_as_87 rfl rfl ?_
                      refine wp_iconst (v := 4) C dX12_as_88 rfl ?_
                      refine wp_icmp_ne (tgt := 97) (by omega) (by omega) C dX12_as_89 (by decide) (fun c_89 => ?_) (fun c_89 => ?_)
                      · skip
                        refine wp_iload_n 2 C dX12_as_97 rfl rfl ?_
                        refine wp_iconst (v := 5) C dX12_as_98 rfl ?_
                        refine wp_icmp_ne (tgt := 107) (by omega) (by omega) C dX12_as_99 (by decide) (fun c_99 => ?_) (fun c_99 => ?_)
                        · skip
                          refine wp_iload_n 2 C dX12_as_107 rfl rfl ?_
                          refine wp_bipush (v := 6) C dX12_as_108 rfl ?_
                          refine wp_icmp_ne (tgt := 122) (by omega) (by omega) C dX12_as_110 (by decide) (fun c_110 => ?_) (fun c_110 => ?_)
                          · skip
                            refine wp_iconst (v := 0) C dX12_as_122 rfl ?_
                            refine wp_istore (ls' := [(0, rv E 128), (1, iv kd), (2, iv w), (3, iv a), (4, iv k), (5, iv x5), (6, iv 0)]) [1, 2, 3, 4, 5, 6, 0] C dX12_as_123 (by decide) rfl ?_
                            exact q125 0 (by rw [mayT (by omega) (by omega)]; rw [if_neg (by omega)])
                          · skip
                            refine wp_iload_n 1 C dX12_as_113 rfl rfl ?_
                            refine wp_iconst (v := 4) C dX12_as_114 rfl ?_
                            refine wp_icmp_lt (tgt := 122) (by omega) (by omega) C dX12_as_115 (by decide) (fun c_115 => ?_) (fun c_115 => ?_)
                            · skip
                              refine wp_iconst (v := 0) C dX12_as_122 rfl ?_
                              refine wp_istore (ls' := [(0, rv E 128), (1, iv kd), (2, iv w), (3, iv a), (4, iv k), (5, iv x5), (6, iv 0)]) [1, 2, 3, 4, 5, 6, 0] C dX12_as_123 (by decide) rfl ?_
                              exact q125 0 (by rw [mayT (by omega) (by omega)]; rw [if_neg (by omega)])
                            · skip
                              refine wp_iconst (v := 1) C dX12_as_118 rfl ?_
                              refine wp_goto (tgt := 123) C dX12_as_119 (by decide) ?_
                              refine wp_istore (ls' := [(0, rv E 128), (1, iv kd), (2, iv w), (3, iv a), (4, iv k), (5, iv x5), (6, iv 1)]) [1, 2, 3, 4, 5, 6, 0] C dX12_as_123 (by decide) rfl ?_
                              exact q125 1 (by rw [mayT (by omega) (by omega)]; rw [if_pos (by omega)])
                        · skip
                          refine wp_iload_n 1 C dX12_as_102 rfl rfl ?_
                          refine wp_iconst (v := 3) C dX12_as_103 rfl ?_
                          refine wp_icmp_eq (tgt := 118) (by omega) (by omega) C dX12_as_104 (by decide) (fun c_104 => ?_) (fun c_104 => ?_)
                          · skip
                            refine wp_iconst (v := 1) C dX12_as_118 rfl ?_
                            refine wp_goto (tgt := 123) C dX12_as_119 (by decide) ?_
                            refine wp_istore (ls' := [(0, rv E 128), (1, iv kd), (2, iv w), (3, iv a), (4, iv k), (5, iv x5), (6, iv 1)]) [1, 2, 3, 4, 5, 6, 0] C dX12_as_123 (by decide) rfl ?_
                            exact q125 1 (by rw [mayT (by omega) (by omega)]; rw [if_pos (by omega)])
                          · skip
                            refine wp_iload_n 2 C dX12_as_107 rfl rfl ?_
                            refine wp_bipush (v := 6) C dX12_as_108 rfl ?_
                            refine wp_icmp_ne (tgt := 122) (by omega) (by omega) C dX12_as_110 (by decide) (fun c_110 => ?_) (fun c_110 => ?_)
                            · skip
                              refine wp_iconst (v := 0) C dX12_as_122 rfl ?_
                              refine wp_istore (ls' := [(0, rv E 128), (1, iv kd), (2, iv w), (3, iv a), (4, iv k), (5, iv x5), (6, iv 0)]) [1, 2, 3, 4, 5, 6, 0] C dX12_as_123 (by decide) rfl ?_
                              exact q125 0 (by rw [mayT (by omega) (by omega)]; rw [if_neg (by omega)])
                            · skip
                              refine wp_iload_n 1 C dX12_as_113 rfl rfl ?_
                              refine wp_iconst (v := 4) C dX12_as_114 rfl ?_
                              refine wp_icmp_lt (tgt := 122) (by omega) (by omega) C dX12_as_115 (by decide) (fun c_115 => ?_) (fun c_115 => ?_)
                              · skip
                                refine wp_iconst (v := 0) C dX12_as_122 rfl ?_
                                refine wp_istore (ls' := [(0, rv E 128), (1, iv kd), (2, iv w), (3, iv a), (4, iv k), (5, iv x5), (6, iv 0)]) [1, 2, 3, 4, 5, 6, 0] C dX12_as_123 (by decide) rfl ?_
                                exact q125 0 (by rw [mayT (by omega) (by omega)]; rw [if_neg (by omega)])
                              · skip
                                refine wp_iconst (v := 1) C dX12_as_118 rfl ?_
                                refine wp_goto (tgt := 123) C dX12_as_119 (by decide) ?_
                                refine wp_istore (ls' := [(0, rv E 128), (1, iv kd), (2, iv w), (3, iv a), (4, iv k), (5, iv x5), (6, iv 1)]) [1, 2, 3, 4, 5, 6, 0] C dX12_as_123 (by decide) rfl ?_
                                exact q125 1 (by rw [mayT (by omega) (by omega)]; rw [if_pos (by omega)])
                      · skip
                        refine wp_iload_n 1 C dX12_as_92 rfl rfl ?_
                        refine wp_iconst (v := 2) C dX12_as_93 rfl ?_
                        refine wp_icmp_eq (tgt := 118) (by omega) (by omega) C dX12_as_94 (by decide) (fun c_94 => ?_) (fun c_94 => ?_)
                        · skip
                          refine wp_iconst (v := 1) C dX12_as_118 rfl ?_
                          refine wp_goto (tgt := 123) C dX12_as_119 (by decide) ?_
                          refine wp_istore (ls' := [(0, rv E 128), (1, iv kd), (2, iv w), (3, iv a), (4, iv k), (5, iv x5), (6, iv 1)]) [1, 2, 3, 4, 5, 6, 0] C dX12_as_123 (by decide) rfl ?_
                          exact q125 1 (by rw [mayT (by omega) (by omega)]; rw [if_pos (by omega)])
                        · skip
                          refine wp_iload_n 2 C dX12_as_97 rfl rfl ?_
                          refine wp_iconst (v := 5) C dX12_as_98 rfl ?_
                          refine wp_icmp_ne (tgt := 107) (by omega) (by omega) C dX12_as_99 (by decide) (fun c_99 => ?_) (fun c_99 => ?_)
                          · skip
                            refine wp_iload_n 2 C dX12_as_107 rfl rfl ?_
                            refine wp_bipush (v := 6) C dX12_as_108 rfl ?_
                            refine wp_icmp_ne (tgt := 122) (by omega) (by omega) C dX12_as_110 (by decide) (fun c_110 => ?_) (fun c_110 => ?_)
                            · skip
                              refine wp_iconst (v := 0) C dX12_as_122 rfl ?_
                              refine wp_istore (ls' := [(0, rv E 128), (1, iv kd), (2, iv w), (3, iv a), (4, iv k), (5, iv x5), (6, iv 0)]) [1, 2, 3, 4, 5, 6, 0] C dX12_as_123 (by decide) rfl ?_
                              exact q125 0 (by rw [mayT (by omega) (by omega)]; rw [if_neg (by omega)])
                            · skip
                              refine wp_iload_n 1 C dX12_as_113 rfl rfl ?_
                              refine wp_iconst (v := 4) C dX12_as_114 rfl ?_
                              refine wp_icmp_lt (tgt := 122) (by omega) (by omega) C dX12_as_115 (by decide) (fun c_115 => ?_) (fun c_115 => ?_)
                              · skip
                                refine wp_iconst (v := 0) C dX12_as_122 rfl ?_
                                refine wp_istore (ls' := [(0, rv E 128), (1, iv kd), (2, iv w), (3, iv a), (4, iv k), (5, iv x5), (6, iv 0)]) [1, 2, 3, 4, 5, 6, 0] C dX12_as_123 (by decide) rfl ?_
                                exact q125 0 (by rw [mayT (by omega) (by omega)]; rw [if_neg (by omega)])
                              · skip
                                refine wp_iconst (v := 1) C dX12_as_118 rfl ?_
                                refine wp_goto (tgt := 123) C dX12_as_119 (by decide) ?_
                                refine wp_istore (ls' := [(0, rv E 128), (1, iv kd), (2, iv w), (3, iv a), (4, iv k), (5, iv x5), (6, iv 1)]) [1, 2, 3, 4, 5, 6, 0] C dX12_as_123 (by decide) rfl ?_
                                exact q125 1 (by rw [mayT (by omega) (by omega)]; rw [if_pos (by omega)])
                          · skip
                            refine wp_iload_n 1 C dX12_as_102 rfl rfl ?_
                            refine wp_iconst (v := 3) C dX12_as_103 rfl ?_
                            refine wp_icmp_eq (tgt := 118) (by omega) (by omega) C dX12_as_104 (by decide) (fun c_104 => ?_) (fun c_104 => ?_)
                            · skip
                              refine wp_iconst (v := 1) C dX12_as_118 rfl ?_
                              refine wp_goto (tgt := 123) C dX12_as_119 (by decide) ?_
                              refine wp_istore (ls' := [(0, rv E 128), (1, iv kd), (2, iv w), (3, iv a), (4, iv k), (5, iv x5), (6, iv 1)]) [1, 2, 3, 4, 5, 6, 0] C dX12_as_123 (by decide) rfl ?_
                              exact q125 1 (by rw [mayT (by omega) (by omega)]; rw [if_pos (by omega)])
                            · skip
                              refine wp_iload_n 2 C dX12_as_107 rfl rfl ?_
                              refine wp_bipush (v := 6) C dX12_as_108 rfl ?_
                              refine wp_icmp_ne (tgt := 122) (by omega) (by omega) C dX12_as_110 (by decide) (fun c_110 => ?_) (fun c_110 => ?_)
                              · skip
                                refine wp_iconst (v := 0) C dX12_as_122 rfl ?_
                                refine wp_istore (ls' := [(0, rv E 128), (1, iv kd), (2, iv w), (3, iv a), (4, iv k), (5, iv x5), (6, iv 0)]) [1, 2, 3, 4, 5, 6, 0] C dX12_as_123 (by decide) rfl ?_
                                exact q125 0 (by rw [mayT (by omega) (by omega)]; rw [if_neg (by omega)])
                              · skip
                                refine wp_iload_n 1 C dX12_as_113 rfl rfl ?_
                                refine wp_iconst (v := 4) C dX12_as_114 rfl ?_
                                refine wp_icmp_lt (tgt := 122) (by omega) (by omega) C dX12_as_115 (by decide) (fun c_115 => ?_) (fun c_115 => ?_)
                                · skip
                                  refine wp_iconst (v := 0) C dX12_as_122 rfl ?_
                                  refine wp_istore (ls' := [(0, rv E 128), (1, iv kd), (2, iv w), (3, iv a), (4, iv k), (5, iv x5), (6, iv 0)]) [1, 2, 3, 4, 5, 6, 0] C dX12_as_123 (by decide) rfl ?_
                                  exact q125 0 (by rw [mayT (by omega) (by omega)]; rw [if_neg (by omega)])
                                · skip
                                  refine wp_iconst (v := 1) C dX12_as_118 rfl ?_
                                  refine wp_goto (tgt := 123) C dX12_as_119 (by decide) ?_
                                  refine wp_istore (ls' := [(0, rv E 128), (1, iv kd), (2, iv w), (3, iv a), (4, iv k), (5, iv x5), (6, iv 1)]) [1, 2, 3, 4, 5, 6, 0] C dX12_as_123 (by decide) rfl ?_
                                  exact q125 1 (by rw [mayT (by omega) (by omega)]; rw [if_pos (by omega)])
                    · skip
                      refine wp_iload 5 C dX12_as_82 rfl ?_
                      refine wp_if_ne (tgt := 118) (by omega) C dX12_as_84 (by decide) (fun c_84 => ?_) (fun c_84 => ?_)
                      · skip
                        refine wp_iconst (v := 1) C dX12_as_118 rfl ?_
                        refine wp_goto (tgt := 123) C dX12_as_119 (by decide) ?_
                        refine wp_istore (ls' := [(0, rv E 128), (1, iv kd), (2, iv w), (3, iv a), (4, iv k), (5, iv x5), (6, iv 1)]) [1, 2, 3, 4, 5, 6, 0] C dX12_as_123 (by decide) rfl ?_
                        exact q125 1 (by rw [mayT (by omega) (by omega)]; rw [if_pos (by omega)])
                      · skip
                        refine wp_iload_n 2 C dX12_as_87 rfl rfl ?_
                        refine wp_iconst (v := 4) C dX12_as_88 rfl ?_
                        refine wp_icmp_ne (tgt := 97) (by omega) (by omega) C dX12_as_89 (by decide) (fun c_89 => ?_) (fun c_89 => ?_)
                        · skip
                          refine wp_iload_n 2 C dX12_as_97 rfl rfl ?_
                          refine wp_iconst (v := 5) C dX12_as_98 rfl ?_
                          refine wp_icmp_ne (tgt := 107) (by omega) (by omega) C dX12_as_99 (by decide) (fun c_99 => ?_) (fun c_99 => ?_)
                          · skip
                            refine wp_iload_n 2 C dX12_as_107 rfl rfl ?_
                            refine wp_bipush (v := 6) C dX12_as_108 rfl ?_
                            refine wp_icmp_ne (tgt := 122) (by omega) (by omega) C dX12_as_110 (by decide) (fun c_110 => ?_) (fun c_110 => ?_)
                            · skip
                              refine wp_iconst (v := 0) C dX12_as_122 rfl ?_
                              refine wp_istore (ls' := [(0, rv E 128), (1, iv kd), (2, iv w), (3, iv a), (4, iv k), (5, iv x5), (6, iv 0)]) [1, 2, 3, 4, 5, 6, 0] C dX12_as_123 (by decide) rfl ?_
                              exact q125 0 (by rw [mayT (by omega) (by omega)]; rw [if_neg (by omega)])
                            · skip
                              refine wp_iload_n 1 C dX12_as_113 rfl rfl ?_
                              refine wp_iconst (v := 4) C dX12_as_114 rfl ?_
                              refine wp_icmp_lt (tgt := 122) (by omega) (by omega) C dX12_as_115 (by decide) (fun c_115 => ?_) (fun c_115 => ?_)
                              · skip
                                refine wp_iconst (v := 0) C dX12_as_122 rfl ?_
                                refine wp_istore (ls' := [(0, rv E 128), (1, iv kd), (2, iv w), (3, iv a), (4, iv k), (5, iv x5), (6, iv 0)]) [1, 2, 3, 4, 5, 6, 0] C dX12_as_123 (by decide) rfl ?_
                                exact q125 0 (by rw [mayT (by omega) (by omega)]; rw [if_neg (by omega)])
                              · skip
                                refine wp_iconst (v := 1) C dX12_as_118 rfl ?_
                                refine wp_goto (tgt := 123) C dX12_as_119 (by decide) ?_
                                refine wp_istore (ls' := [(0, rv E 128), (1, iv kd), (2, iv w), (3, iv a), (4, iv k), (5, iv x5), (6, iv 1)]) [1, 2, 3, 4, 5, 6, 0] C dX12_as_123 (by decide) rfl ?_
                                exact q125 1 (by rw [mayT (by omega) (by omega)]; rw [if_pos (by omega)])
                          · skip
                            refine wp_iload_n 1 C dX12_as_102 rfl rfl ?_
                            refine wp_iconst (v := 3) C dX12_as_103 rfl ?_
                            refine wp_icmp_eq (tgt := 118) (by omega) (by omega) C dX12_as_104 (by decide) (fun c_104 => ?_) (fun c_104 => ?_)
                            · skip
                              refine wp_iconst (v := 1) C dX12_as_118 rfl ?_
                              refine wp_goto (tgt := 123) C dX12_as_119 (by decide) ?_
                              refine wp_istore (ls' := [(0, rv E 128), (1, iv kd), (2, iv w), (3, iv a), (4, iv k), (5, iv x5), (6, iv 1)]) [1, 2, 3, 4, 5, 6, 0] C dX12_as_123 (by decide) rfl ?_
                              exact q125 1 (by rw [mayT (by omega) (by omega)]; rw [if_pos (by omega)])
                            · skip
                              refine wp_iload_n 2 C dX12_as_107 rfl rfl ?_
                              refine wp_bipush (v := 6) C dX12_as_108 rfl ?_
                              refine wp_icmp_ne (tgt := 122) (by omega) (by omega) C dX12_as_110 (by decide) (fun c_110 => ?_) (fun c_110 => ?_)
                              · skip
                                refine wp_iconst (v := 0) C dX12_as_122 rfl ?_
                                refine wp_istore (ls' := [(0, rv E 128), (1, iv kd), (2, iv w), (3, iv a), (4, iv k), (5, iv x5), (6, iv 0)]) [1, 2, 3, 4, 5, 6, 0] C dX12_as_123 (by decide) rfl ?_
                                exact q125 0 (by rw [mayT (by omega) (by omega)]; rw [if_neg (by omega)])
                              · skip
                                refine wp_iload_n 1 C dX12_as_113 rfl rfl ?_
                                refine wp_iconst (v := 4) C dX12_as_114 rfl ?_
                                refine wp_icmp_lt (tgt := 122) (by omega) (by omega) C dX12_as_115 (by decide) (fun c_115 => ?_) (fun c_115 => ?_)
                                · skip
                                  refine wp_iconst (v := 0) C dX12_as_122 rfl ?_
                                  refine wp_istore (ls' := [(0, rv E 128), (1, iv kd), (2, iv w), (3, iv a), (4, iv k), (5, iv x5), (6, iv 0)]) [1, 2, 3, 4, 5, 6, 0] C dX12_as_123 (by decide) rfl ?_
                                  exact q125 0 (by rw [mayT (by omega) (by omega)]; rw [if_neg (by omega)])
                                · skip
                                  refine wp_iconst (v := 1) C dX12_as_118 rfl ?_
                                  refine wp_goto (tgt := 123) C dX12_as_119 (by decide) ?_
                                  refine wp_istore (ls' := [(0, rv E 128), (1, iv kd), (2, iv w), (3, iv a), (4, iv k), (5, iv x5), (6, iv 1)]) [1, 2, 3, 4, 5, 6, 0] C dX12_as_123 (by decide) rfl ?_
                                  exact q125 1 (by rw [mayT (by omega) (by omega)]; rw [if_pos (by omega)])
                        · skip
                          refine wp_iload_n 1 C dX12_as_92 rfl rfl ?_
                          refine wp_iconst (v := 2) C dX12_as_93 rfl ?_
                          refine wp_icmp_eq (tgt := 118) (by omega) (by omega) C dX12_as_94 (by decide) (fun c_94 => ?_) (fun c_94 => ?_)
                          · skip
                            refine wp_iconst (v := 1) C dX12_as_118 rfl ?_
                            refine wp_goto (tgt := 123) C dX12_as_119 (by decide) ?_
                            refine wp_istore (ls' := [(0, rv E 128), (1, iv kd), (2, iv w), (3, iv a), (4, iv k), (5, iv x5), (6, iv 1)]) [1, 2, 3, 4, 5, 6, 0] C dX12_as_123 (by decide) rfl ?_
                            exact q125 1 (by rw [mayT (by omega) (by omega)]; rw [if_pos (by omega)])
                          · skip
                            refine wp_iload_n 2 C dX12_as_97 rfl rfl ?_
                            refine wp_iconst (v := 5) C dX12_as_98 rfl ?_
                            refine wp_icmp_ne (tgt := 107) (by omega) (by omega) C dX12_as_99 (by decide) (fun c_99 => ?_) (fun c_99 => ?_)
                            · skip
                              refine wp_iload_n 2 C dX12_as_107 rfl rfl ?_
                              refine wp_bipush (v := 6) C dX12_as_108 rfl ?_
                              refine wp_icmp_ne (tgt := 122) (by omega) (by omega) C dX12_as_110 (by decide) (fun c_110 => ?_) (fun c_110 => ?_)
                              · skip
                                refine wp_iconst (v := 0) C dX12_as_122 rfl ?_
                                refine wp_istore (ls' := [(0, rv E 128), (1, iv kd), (2, iv w), (3, iv a), (4, iv k), (5, iv x5), (6, iv 0)]) [1, 2, 3, 4, 5, 6, 0] C dX12_as_123 (by decide) rfl ?_
                                exact q125 0 (by rw [mayT (by omega) (by omega)]; rw [if_neg (by omega)])
                              · skip
                                refine wp_iload_n 1 C dX12_as_113 rfl rfl ?_
                                refine wp_iconst (v := 4) C dX12_as_114 rfl ?_
                                refine wp_icmp_lt (tgt := 122) (by omega) (by omega) C dX12_as_115 (by decide) (fun c_115 => ?_) (fun c_115 => ?_)
                                · skip
                                  refine wp_iconst (v := 0) C dX12_as_122 rfl ?_
                                  refine wp_istore (ls' := [(0, rv E 128), (1, iv kd), (2, iv w), (3, iv a), (4, iv k), (5, iv x5), (6, iv 0)]) [1, 2, 3, 4, 5, 6, 0] C dX12_as_123 (by decide) rfl ?_
                                  exact q125 0 (by rw [mayT (by omega) (by omega)]; rw [if_neg (by omega)])
                                · skip
                                  refine wp_iconst (v := 1) C dX12_as_118 rfl ?_
                                  refine wp_goto (tgt := 123) C dX12_as_119 (by decide) ?_
                                  refine wp_istore (ls' := [(0, rv E 128), (1, iv kd), (2, iv w), (3, iv a), (4, iv k), (5, iv x5), (6, iv 1)]) [1, 2, 3, 4, 5, 6, 0] C dX12_as_123 (by decide) rfl ?_
                                  exact q125 1 (by rw [mayT (by omega) (by omega)]; rw [if_pos (by omega)])
                            · skip
                              refine wp_iload_n 1 C dX12_as_102 rfl rfl ?_
                              refine wp_iconst (v := 3) C dX12_as_103 rfl ?_
                              refine wp_icmp_eq (tgt := 118) (by omega) (by omega) C dX12_as_104 (by decide) (fun c_104 => ?_) (fun c_104 => ?_)
                              · skip
                                refine wp_iconst (v := 1) C dX12_as_118 rfl ?_
                                refine wp_goto (tgt := 123) C dX12_as_119 (by decide) ?_
                                refine wp_istore (ls' := [(0, rv E 128), (1, iv kd), (2, iv w), (3, iv a), (4, iv k), (5, iv x5), (6, iv 1)]) [1, 2, 3, 4, 5, 6, 0] C dX12_as_123 (by decide) rfl ?_
                                exact q125 1 (by rw [mayT (by omega) (by omega)]; rw [if_pos (by omega)])
                              · skip
                                refine wp_iload_n 2 C dX12_as_107 rfl rfl ?_
                                refine wp_bipush (v := 6) C dX12_as_108 rfl ?_
                                refine wp_icmp_ne (tgt := 122) (by omega) (by omega) C dX12_as_110 (by decide) (fun c_110 => ?_) (fun c_110 => ?_)
                                · skip
                                  refine wp_iconst (v := 0) C dX12_as_122 rfl ?_
                                  refine wp_istore (ls' := [(0, rv E 128), (1, iv kd), (2, iv w), (3, iv a), (4, iv k), (5, iv x5), (6, iv 0)]) [1, 2, 3, 4, 5, 6, 0] C dX12_as_123 (by decide) rfl ?_
                                  exact q125 0 (by rw [mayT (by omega) (by omega)]; rw [if_neg (by omega)])
                                · skip
                                  refine wp_iload_n 1 C dX12_as_113 rfl rfl ?_
                                  refine wp_iconst (v := 4) C dX12_as_114 rfl ?_
                                  refine wp_icmp_lt (tgt := 122) (by omega) (by omega) C dX12_as_115 (by decide) (fun c_115 => ?_) (fun c_115 => ?_)
                                  · skip
                                    refine wp_iconst (v := 0) C dX12_as_122 rfl ?_
                                    refine wp_istore (ls' := [(0, rv E 128), (1, iv kd), (2, iv w), (3, iv a), (4, iv k), (5, iv x5), (6, iv 0)]) [1, 2, 3, 4, 5, 6, 0] C dX12_as_123 (by decide) rfl ?_
                                    exact q125 0 (by rw [mayT (by omega) (by omega)]; rw [if_neg (by omega)])
                                  · skip
                                    refine wp_iconst (v := 1) C dX12_as_118 rfl ?_
                                    refine wp_goto (tgt := 123) C dX12_as_119 (by decide) ?_
                                    refine wp_istore (ls' := [(0, rv E 128), (1, iv kd), (2, iv w), (3, iv a), (4, iv k), (5, iv x5), (6, iv 1)]) [1, 2, 3, 4, 5, 6, 0] C dX12_as_123 (by decide) rfl ?_
                                    exact q125 1 (by rw [mayT (by omega) (by omega)]; rw [if_pos (by omega)])
          refine wp_iload_n 1 C dX12_as_41 rfl rfl ?_
          refine wp_iconst (v := 1) C dX12_as_42 rfl ?_
          refine wp_icmp_eq (tgt := 51) (by omega) (by omega) C dX12_as_43 (by decide) (fun c_43 => ?_) (fun c_43 => ?_)
          · skip
            refine wp_iconst (v := 1) C dX12_as_51 rfl ?_
            refine wp_goto (tgt := 56) C dX12_as_52 (by decide) ?_
            refine wp_istore (ls' := [(0, rv E 128), (1, iv kd), (2, iv w), (3, iv a), (4, iv k), (5, iv 1)]) [1, 2, 3, 4, 5, 0] C dX12_as_56 (by decide) rfl ?_
            exact q58 1 (by omega)
          · skip
            refine wp_iload_n 1 C dX12_as_46 rfl rfl ?_
            refine wp_iconst (v := 2) C dX12_as_47 rfl ?_
            refine wp_icmp_ne (tgt := 55) (by omega) (by omega) C dX12_as_48 (by decide) (fun c_48 => ?_) (fun c_48 => ?_)
            · skip
              refine wp_iconst (v := 0) C dX12_as_55 rfl ?_
              refine wp_istore (ls' := [(0, rv E 128), (1, iv kd), (2, iv w), (3, iv a), (4, iv k), (5, iv 0)]) [1, 2, 3, 4, 5, 0] C dX12_as_56 (by decide) rfl ?_
              exact q58 0 (by omega)
            · skip
              refine wp_iconst (v := 1) C dX12_as_51 rfl ?_
              refine wp_goto (tgt := 56) C dX12_as_52 (by decide) ?_
              refine wp_istore (ls' := [(0, rv E 128), (1, iv kd), (2, iv w), (3, iv a), (4, iv k), (5, iv 1)]) [1, 2, 3, 4, 5, 0] C dX12_as_56 (by decide) rfl ?_
              exact q58 1 (by omega)
        · skip
          refine wp_bipush (v := (-3)) C dX12_as_38 rfl ?_
          refine wp_iret C dX12_as_40 ?_
          exact ret_iv (by rw [if_neg (not_not_intro ⟨c_4, c_12⟩), if_pos (fun z => c_35 z.2)])
    · skip
      refine wp_bipush (v := (-2)) C dX12_as_15 rfl ?_
      refine wp_iret C dX12_as_17 ?_
      exact ret_iv (by rw [if_pos (fun z => c_12 z.2)])

theorem tm_trn {z p : Int} (h : 0 ≤ z ∧ z < p) : Int.tmod (p - z) p = trn (p - z) p := by
  rw [Int.tmod_eq_emod_of_nonneg (by omega)]
  unfold trn
  split
  · rw [show z = 0 by omega, Int.sub_zero, Int.emod_self, Int.sub_self]
  · exact Int.emod_eq_of_lt (by omega) (by omega)
set_option maxRecDepth 100000 in
set_option maxHeartbeats 4000000 in
theorem m_mends (E : En) (h : Hp) (n : Nat) (p : Int) (N Sc Cl Cs : Nat → Int) (M0 : MH h n p N Sc Cl Cs) (a : Int) (ha : -2147483648 ≤ a ∧ a ≤ 2147483647) : Ct 4 yX12_mends cX12_mends 2 (some .int) E [rv E 128, iv a] h (Ret (iv (if ¬ (0 ≤ a ∧ a < 2 ^ n) then -2 else trn (p - sumB N a n % p) p)) h) := by
  obtain ⟨m0, m1, m2, m3, mN, mS, mC, mK⟩ := id M0
  refine ct_intro (by decide) (Nat.le_of_ble_eq_true rfl) (fun G C => ?_)
  show Wp G E 2 (Ret (iv (if ¬ (0 ≤ a ∧ a < 2 ^ n) then -2 else trn (p - sumB N a n % p) p)) h) 0 [(0, rv E 128), (1, iv a)] [] h
  refine wp_aloadR_n 0 C dX12_mends_0 rfl rfl ?_
  refine wp_iload_n 1 C dX12_mends_1 rfl rfl ?_
  refine wp_callVp (rest := []) (c_isLot E h n p N Sc Cl Cs M0 a (by omega)) svX12_170 sh_128 (by decide) rfl rfl (Nat.le_of_ble_eq_true rfl) C dX12_mends_2 ?_
  refine wp_ifb_eq (tgt := 27) C dX12_mends_5 (by decide) (fun c_5 => ?_) (fun c_5 => ?_)
  · skip
    refine wp_bipush (v := (-2)) C dX12_mends_27 rfl ?_
    refine wp_iret C dX12_mends_29 ?_
    exact ret_iv (by rw [if_pos c_5])
  · skip
    have hl9 := lotn m1 c_5
    have hm9 := mod_r (sumB N a n) m3
    refine wp_aloadR_n 0 C dX12_mends_8 rfl rfl ?_
    refine wp_callVp (rest := []) (c_parts E h n p N Sc Cl Cs M0) svX12_157 sh_128 (by decide) rfl rfl (Nat.le_of_ble_eq_true rfl) C dX12_mends_9 ?_
    refine wp_aloadR_n 0 C dX12_mends_12 rfl rfl ?_
    refine wp_iload_n 1 C dX12_mends_13 rfl rfl ?_
    refine wp_iconst (v := 0) C dX12_mends_14 rfl ?_
    refine wp_callVp (rest := [iv p]) (c_restOfLot0 E h n p N Sc Cl Cs M0 a (by omega)) svX12_173 sh_128 (by decide) rfl rfl (Nat.le_of_ble_eq_true rfl) C dX12_mends_15 ?_
    refine wp_isub C dX12_mends_18 ?_
    refine wp_aloadR_n 0 C dX12_mends_19 rfl rfl ?_
    refine wp_callVp (rest := [iv (p - (sumB N a n % p))]) (c_parts E h n p N Sc Cl Cs M0) svX12_157 sh_128 (by decide) rfl rfl (Nat.le_of_ble_eq_true rfl) C dX12_mends_20 ?_
    refine wp_irem (by omega) (by omega) C dX12_mends_23 ?_
    refine wp_goto (tgt := 29) C dX12_mends_24 (by decide) ?_
    refine wp_iret C dX12_mends_29 ?_
    exact ret_iv (by rw [if_neg (not_not_intro c_5)]; exact tm_trn hm9)

set_option maxRecDepth 100000 in
set_option maxHeartbeats 4000000 in
theorem m_rest (E : En) (h : Hp) (n : Nat) (p : Int) (N Sc Cl Cs : Nat → Int) (M0 : MH h n p N Sc Cl Cs) (a w : Int) (ha : -2147483648 ≤ a ∧ a ≤ 2147483647) (hw : -2147483648 ≤ w ∧ w ≤ 2147483647) : Ct 3 yX12_rest cX12_rest 3 (some .int) E [rv E 128, iv a, iv w] h (Ret (iv (if ¬ (0 ≤ a ∧ a < 2 ^ n) then -2 else if w = 0 then sumB N a n % p else if w = 1 then sumB Sc a n % p else if w = 2 then cntB a 20 else -3)) h) := by
  obtain ⟨m0, m1, m2, m3, mN, mS, mC, mK⟩ := id M0
  refine ct_intro (by decide) (Nat.le_of_ble_eq_true rfl) (fun G C => ?_)
  show Wp G E 3 (Ret (iv (if ¬ (0 ≤ a ∧ a < 2 ^ n) then -2 else if w = 0 then sumB N a n % p else if w = 1 then sumB Sc a n % p else if w = 2 then cntB a 20 else -3)) h) 0 [(0, rv E 128), (1, iv a), (2, iv w)] [] h
  refine wp_aloadR_n 0 C dX12_rest_0 rfl rfl ?_
  refine wp_iload_n 1 C dX12_rest_1 rfl rfl ?_
  refine wp_callVp (rest := []) (c_isLot E h n p N Sc Cl Cs M0 a (by omega)) svX12_170 sh_128 (by decide) rfl rfl (Nat.le_of_ble_eq_true rfl) C dX12_rest_2 ?_
  refine wp_ifb_ne (tgt := 11) C dX12_rest_5 (by decide) (fun c_5 => ?_) (fun c_5 => ?_)
  · skip
    have hl9 := lotn m1 c_5
    refine wp_iload_n 2 C dX12_rest_11 rfl rfl ?_
    refine wp_if_eq (tgt := 20) (by omega) C dX12_rest_12 (by decide) (fun c_12 => ?_) (fun c_12 => ?_)
    · skip
      refine wp_aloadR_n 0 C dX12_rest_20 rfl rfl ?_
      refine wp_iload_n 1 C dX12_rest_21 rfl rfl ?_
      refine wp_iload_n 2 C dX12_rest_22 rfl rfl ?_
      refine wp_iconst (v := 1) C dX12_rest_23 rfl ?_
      refine wp_icmp_ne (tgt := 31) (by omega) (by omega) C dX12_rest_24 (by decide) (fun c_24 => ?_) (fun c_24 => ?_)
      · skip
        refine wp_iconst (v := 0) C dX12_rest_31 rfl ?_
        refine wp_callVp (rest := []) (c_restOfLot0 E h n p N Sc Cl Cs M0 a (by omega)) svX12_173 sh_128 (by decide) rfl rfl (Nat.le_of_ble_eq_true rfl) C dX12_rest_32 ?_
        refine wp_goto (tgt := 52) C dX12_rest_35 (by decide) ?_
        refine wp_iret C dX12_rest_52 ?_
        exact ret_iv (by rw [if_neg (not_not_intro c_5)]; rw [if_pos (by omega)])
      · skip
        exact absurd c_24 (by omega)
    · skip
      refine wp_iload_n 2 C dX12_rest_15 rfl rfl ?_
      refine wp_iconst (v := 1) C dX12_rest_16 rfl ?_
      refine wp_icmp_ne (tgt := 38) (by omega) (by omega) C dX12_rest_17 (by decide) (fun c_17 => ?_) (fun c_17 => ?_)
      · skip
        refine wp_iload_n 2 C dX12_rest_38 rfl rfl ?_
        refine wp_iconst (v := 2) C dX12_rest_39 rfl ?_
        refine wp_icmp_ne (tgt := 50) (by omega) (by omega) C dX12_rest_40 (by decide) (fun c_40 => ?_) (fun c_40 => ?_)
        · skip
          refine wp_bipush (v := (-3)) C dX12_rest_50 rfl ?_
          refine wp_iret C dX12_rest_52 ?_
          exact ret_iv (by rw [if_neg (not_not_intro c_5)]; rw [if_neg (by omega), if_neg (by omega), if_neg (by omega)])
        · skip
          refine wp_iload_n 1 C dX12_rest_43 rfl rfl ?_
          refine wp_callSp (rest := []) (c_bits E h a (by omega)) ssX12_177 (by decide) rfl rfl (Nat.le_of_ble_eq_true rfl) C dX12_rest_44 ?_
          refine wp_goto (tgt := 52) C dX12_rest_47 (by decide) ?_
          refine wp_iret C dX12_rest_52 ?_
          exact ret_iv (by rw [if_neg (not_not_intro c_5)]; rw [if_neg (by omega), if_neg (by omega), if_pos (by omega)])
      · skip
        refine wp_aloadR_n 0 C dX12_rest_20 rfl rfl ?_
        refine wp_iload_n 1 C dX12_rest_21 rfl rfl ?_
        refine wp_iload_n 2 C dX12_rest_22 rfl rfl ?_
        refine wp_iconst (v := 1) C dX12_rest_23 rfl ?_
        refine wp_icmp_ne (tgt := 31) (by omega) (by omega) C dX12_rest_24 (by decide) (fun c_24 => ?_) (fun c_24 => ?_)
        · skip
          exact absurd c_17 c_24
        · skip
          refine wp_iconst (v := 1) C dX12_rest_27 rfl ?_
          refine wp_goto (tgt := 32) C dX12_rest_28 (by decide) ?_
          refine wp_callVp (rest := []) (c_restOfLot1 E h n p N Sc Cl Cs M0 a (by omega)) svX12_173 sh_128 (by decide) rfl rfl (Nat.le_of_ble_eq_true rfl) C dX12_rest_32 ?_
          refine wp_goto (tgt := 52) C dX12_rest_35 (by decide) ?_
          refine wp_iret C dX12_rest_52 ?_
          exact ret_iv (by rw [if_neg (not_not_intro c_5)]; rw [if_neg (by omega), if_pos (by omega)])
  · skip
    refine wp_bipush (v := (-2)) C dX12_rest_8 rfl ?_
    refine wp_iret C dX12_rest_10 ?_
    exact ret_iv (by rw [if_pos c_5])

set_option maxRecDepth 100000 in
set_option maxHeartbeats 4000000 in
theorem m_heap (E : En) (h : Hp) (n : Nat) (p : Int) (N Sc Cl Cs : Nat → Int) (M0 : MH h n p N Sc Cl Cs) (i w : Int) (hi : -2147483648 ≤ i ∧ i ≤ 2147483647) (hw : -2147483648 ≤ w ∧ w ≤ 2147483647) : Ct 3 yX12_heap cX12_heap 3 (some .long) E [rv E 128, iv i, iv w] h (Ret (jv (if ¬ (0 ≤ i ∧ i < n) then -2 else if w = 0 then N i.toNat else if w = 1 then Sc i.toNat else if w = 2 then Cl i.toNat else if w = 3 then Cs i.toNat else if w = 4 then N i.toNat % p else if w = 5 then Sc i.toNat % p else -3)) h) := by
  obtain ⟨m0, m1, m2, m3, mN, mS, mC, mK⟩ := id M0
  refine ct_intro (by decide) (Nat.le_of_ble_eq_true rfl) (fun G C => ?_)
  show Wp G E 3 (Ret (jv (if ¬ (0 ≤ i ∧ i < n) then -2 else if w = 0 then N i.toNat else if w = 1 then Sc i.toNat else if w = 2 then Cl i.toNat else if w = 3 then Cs i.toNat else if w = 4 then N i.toNat % p else if w = 5 then Sc i.toNat % p else -3)) h) 0 [(0, rv E 128), (1, iv i), (2, iv w)] [] h
  refine wp_iload_n 1 C dX12_heap_0 rfl rfl ?_
  refine wp_i2l (by omega) C dX12_heap_1 ?_
  refine wp_lconst (v := 0) C dX12_heap_2 rfl ?_
  refine wp_aloadR_n 0 C dX12_heap_3 rfl rfl ?_
  refine wp_callVp (rest := [jv 0, jv i]) (c_heaps E h n p N Sc Cl Cs M0) svX12_141 sh_128 (by decide) rfl rfl (Nat.le_of_ble_eq_true rfl) C dX12_heap_4 ?_
  refine wp_iconst (v := 1) C dX12_heap_7 rfl ?_
  refine wp_isub C dX12_heap_8 ?_
  refine wp_i2l (by omega) C dX12_heap_9 ?_
  refine wp_callSp (rest := []) (c_in E h i 0 ((n : Int) - 1) (by omega) (by omega) (by omega)) ssX12_69 (by decide) rfl rfl (Nat.le_of_ble_eq_true rfl) C dX12_heap_10 ?_
  refine wp_ifb_ne (tgt := 20) C dX12_heap_13 (by decide) (fun c_13 => ?_) (fun c_13 => ?_)
  · skip
    have k1 := mN i.toNat (by omega)
    have k2 := mS i.toNat (by omega)
    have k3 := mC i.toNat (by omega)
    have k4 := mK i.toNat (by omega)
    have hm2 := mod_r (N i.toNat) m3
    have hm3 := mod_r (Sc i.toNat) m3
    refine wp_iload_n 2 C dX12_heap_20 rfl rfl ?_
    by_cases c_21_0 : w = 0
    · refine wp_tswIn (tgt := 60) (by omega) C dX12_heap_21 (by omega) (by omega) (by rw [c_21_0]; rfl) (by decide) ?_
      refine wp_aloadR_n 0 C dX12_heap_60 rfl rfl ?_
      refine wp_getR flX12_7 sh_128 rfl C dX12_heap_61 ?_
      refine wp_iload_n 1 C dX12_heap_64 rfl rfl ?_
      refine wp_lald sh_129 (by omega) C dX12_heap_65 ?_
      refine wp_lret C dX12_heap_66 ?_
      exact ret_jv (by rw [if_neg (by omega)]; subst c_21_0; exact k1.1)
    by_cases c_21_1 : w = 1
    · refine wp_tswIn (tgt := 67) (by omega) C dX12_heap_21 (by omega) (by omega) (by rw [c_21_1]; rfl) (by decide) ?_
      refine wp_aloadR_n 0 C dX12_heap_67 rfl rfl ?_
      refine wp_getR flX12_13 sh_128 rfl C dX12_heap_68 ?_
      refine wp_iconst (v := 3) C dX12_heap_71 rfl ?_
      refine wp_iload_n 1 C dX12_heap_72 rfl rfl ?_
      refine wp_imul C dX12_heap_73 ?_
      refine wp_iload_n 2 C dX12_heap_74 rfl rfl ?_
      refine wp_iadd C dX12_heap_75 ?_
      refine wp_iconst (v := 1) C dX12_heap_76 rfl ?_
      refine wp_isub C dX12_heap_77 ?_
      refine wp_iald sh_130 (by omega) C dX12_heap_78 ?_
      refine wp_top (show _ = Sc i.toNat by rw [show (3 * i + w - 1).toNat = 3 * i.toNat by omega]; exact k2.1) ?_
      refine wp_i2l (by omega) C dX12_heap_79 ?_
      refine wp_lret C dX12_heap_80 ?_
      exact ret_jv (by rw [if_neg (by omega)]; subst c_21_1; rfl)
    by_cases c_21_2 : w = 2
    · refine wp_tswIn (tgt := 67) (by omega) C dX12_heap_21 (by omega) (by omega) (by rw [c_21_2]; rfl) (by decide) ?_
      refine wp_aloadR_n 0 C dX12_heap_67 rfl rfl ?_
      refine wp_getR flX12_13 sh_128 rfl C dX12_heap_68 ?_
      refine wp_iconst (v := 3) C dX12_heap_71 rfl ?_
      refine wp_iload_n 1 C dX12_heap_72 rfl rfl ?_
      refine wp_imul C dX12_heap_73 ?_
      refine wp_iload_n 2 C dX12_heap_74 rfl rfl ?_
      refine wp_iadd C dX12_heap_75 ?_
      refine wp_iconst (v := 1) C dX12_heap_76 rfl ?_
      refine wp_isub C dX12_heap_77 ?_
      refine wp_iald sh_130 (by omega) C dX12_heap_78 ?_
      refine wp_top (show _ = Cl i.toNat by rw [show (3 * i + w - 1).toNat = 3 * i.toNat + 1 by omega]; exact k3.1) ?_
      refine wp_i2l (by omega) C dX12_heap_79 ?_
      refine wp_lret C dX12_heap_80 ?_
      exact ret_jv (by rw [if_neg (by omega)]; subst c_21_2; rfl)
    by_cases c_21_3 : w = 3
    · refine wp_tswIn (tgt := 67) (by omega) C dX12_heap_21 (by omega) (by omega) (by rw [c_21_3]; rfl) (by decide) ?_
      refine wp_aloadR_n 0 C dX12_heap_67 rfl rfl ?_
      refine wp_getR flX12_13 sh_128 rfl C dX12_heap_68 ?_
      refine wp_iconst (v := 3) C dX12_heap_71 rfl ?_
      refine wp_iload_n 1 C dX12_heap_72 rfl rfl ?_
      refine wp_imul C dX12_heap_73 ?_
      refine wp_iload_n 2 C dX12_heap_74 rfl rfl ?_
      refine wp_iadd C dX12_heap_75 ?_
      refine wp_iconst (v := 1) C dX12_heap_76 rfl ?_
      refine wp_isub C dX12_heap_77 ?_
      refine wp_iald sh_130 (by omega) C dX12_heap_78 ?_
      refine wp_top (show _ = Cs i.toNat by rw [show (3 * i + w - 1).toNat = 3 * i.toNat + 2 by omega]; exact k4.1) ?_
      refine wp_i2l (by omega) C dX12_heap_79 ?_
      refine wp_lret C dX12_heap_80 ?_
      exact ret_jv (by rw [if_neg (by omega)]; subst c_21_3; rfl)
    by_cases c_21_4 : w = 4
    · refine wp_tswIn (tgt := 81) (by omega) C dX12_heap_21 (by omega) (by omega) (by rw [c_21_4]; rfl) (by decide) ?_
      refine wp_aloadR_n 0 C dX12_heap_81 rfl rfl ?_
      refine wp_iload_n 1 C dX12_heap_82 rfl rfl ?_
      refine wp_callVp (rest := []) (c_mrestOf E h n p N Sc Cl Cs M0 i (by omega)) svX12_162 sh_128 (by decide) rfl rfl (Nat.le_of_ble_eq_true rfl) C dX12_heap_83 ?_
      refine wp_i2l (by omega) C dX12_heap_86 ?_
      refine wp_lret C dX12_heap_87 ?_
      exact ret_jv (by rw [if_neg (by omega)]; subst c_21_4; rfl)
    by_cases c_21_5 : w = 5
    · refine wp_tswIn (tgt := 88) (by omega) C dX12_heap_21 (by omega) (by omega) (by rw [c_21_5]; rfl) (by decide) ?_
      refine wp_aloadR_n 0 C dX12_heap_88 rfl rfl ?_
      refine wp_getR flX12_13 sh_128 rfl C dX12_heap_89 ?_
      refine wp_iconst (v := 3) C dX12_heap_92 rfl ?_
      refine wp_iload_n 1 C dX12_heap_93 rfl rfl ?_
      refine wp_imul C dX12_heap_94 ?_
      refine wp_iconst (v := 0) C dX12_heap_95 rfl ?_
      refine wp_iadd C dX12_heap_96 ?_
      refine wp_iald sh_130 (by omega) C dX12_heap_97 ?_
      refine wp_top (show _ = Sc i.toNat by rw [show (3 * i + 0).toNat = 3 * i.toNat by omega]; exact k2.1) ?_
      refine wp_aloadR_n 0 C dX12_heap_98 rfl rfl ?_
      refine wp_callVp (rest := [iv (Sc i.toNat)]) (c_parts E h n p N Sc Cl Cs M0) svX12_157 sh_128 (by decide) rfl rfl (Nat.le_of_ble_eq_true rfl) C dX12_heap_99 ?_
      refine wp_irem (by omega) (by omega) C dX12_heap_102 ?_
      refine wp_top (Int.tmod_eq_emod_of_nonneg k2.2.1) ?_
      refine wp_i2l (by omega) C dX12_heap_103 ?_
      refine wp_lret C dX12_heap_104 ?_
      exact ret_jv (by rw [if_neg (by omega)]; subst c_21_5; rfl)
    refine wp_tswOut (tgt := 105) (by omega) C dX12_heap_21 (by omega) (by decide) ?_
    refine wp_ldc2 (v := (-3)) C (mT (i := 1058) (by decide +kernel) rfl) dX12_heap_105 ?_
    refine wp_lret C dX12_heap_108 ?_
    exact ret_jv (by rw [if_neg (by omega)]; rw [if_neg (by omega), if_neg (by omega), if_neg (by omega), if_neg (by omega), if_neg (by omega), if_neg (by omega)])
  · skip
    refine wp_ldc2 (v := (-2)) C (mT (i := 1049) (by decide +kernel) rfl) dX12_heap_16 ?_
    refine wp_lret C dX12_heap_19 ?_
    exact ret_jv (by rw [if_pos (by omega)])

set_option maxRecDepth 100000 in
set_option maxHeartbeats 4000000 in
theorem m_count (E : En) (h : Hp) (n : Nat) (p : Int) (N Sc Cl Cs : Nat → Int) (M0 : MH h n p N Sc Cl Cs) (w : Int) (hw : -2147483648 ≤ w ∧ w ≤ 2147483647) : Ct 1 yX12_count cX12_count 2 (some .int) E [rv E 128, iv w] h (Ret (iv (if w = 0 then (n : Int) else if w = 1 then p else if w = 2 then h 128 6 else if w = 3 then h 131 2 else -3)) h) := by
  obtain ⟨m0, m1, m2, m3, mN, mS, mC, mK⟩ := id M0
  refine ct_intro (by decide) (Nat.le_of_ble_eq_true rfl) (fun G C => ?_)
  show Wp G E 2 (Ret (iv (if w = 0 then (n : Int) else if w = 1 then p else if w = 2 then h 128 6 else if w = 3 then h 131 2 else -3)) h) 0 [(0, rv E 128), (1, iv w)] [] h
  refine wp_iload_n 1 C dX12_count_0 rfl rfl ?_
  refine wp_if_ne (tgt := 11) (by omega) C dX12_count_1 (by decide) (fun c_1 => ?_) (fun c_1 => ?_)
  · skip
    refine wp_iload_n 1 C dX12_count_11 rfl rfl ?_
    refine wp_iconst (v := 1) C dX12_count_12 rfl ?_
    refine wp_icmp_ne (tgt := 23) (by omega) (by omega) C dX12_count_13 (by decide) (fun c_13 => ?_) (fun c_13 => ?_)
    · skip
      refine wp_iload_n 1 C dX12_count_23 rfl rfl ?_
      refine wp_iconst (v := 2) C dX12_count_24 rfl ?_
      refine wp_icmp_ne (tgt := 35) (by omega) (by omega) C dX12_count_25 (by decide) (fun c_25 => ?_) (fun c_25 => ?_)
      · skip
        refine wp_iload_n 1 C dX12_count_35 rfl rfl ?_
        refine wp_iconst (v := 3) C dX12_count_36 rfl ?_
        refine wp_icmp_ne (tgt := 49) (by omega) (by omega) C dX12_count_37 (by decide) (fun c_37 => ?_) (fun c_37 => ?_)
        · skip
          refine wp_bipush (v := (-3)) C dX12_count_49 rfl ?_
          refine wp_iret C dX12_count_51 ?_
          exact ret_iv (by rw [if_neg (by omega), if_neg (by omega), if_neg (by omega), if_neg (by omega)])
        · skip
          refine wp_aloadR_n 0 C dX12_count_40 rfl rfl ?_
          refine wp_getR flX12_17 sh_128 rfl C dX12_count_41 ?_
          refine wp_iconst (v := 2) C dX12_count_44 rfl ?_
          refine wp_iald sh_131 (by omega) C dX12_count_45 ?_
          refine wp_top (show _ = h 131 2 from rfl) ?_
          refine wp_goto (tgt := 51) C dX12_count_46 (by decide) ?_
          refine wp_iret C dX12_count_51 ?_
          exact ret_iv (by rw [if_neg (by omega), if_neg (by omega), if_neg (by omega), if_pos (by omega)])
      · skip
        refine wp_aloadR_n 0 C dX12_count_28 rfl rfl ?_
        refine wp_getI flX12_73 sh_128 rfl C dX12_count_29 ?_
        refine wp_goto (tgt := 51) C dX12_count_32 (by decide) ?_
        refine wp_iret C dX12_count_51 ?_
        exact ret_iv (by rw [if_neg (by omega), if_neg (by omega), if_pos (by omega)])
    · skip
      refine wp_aloadR_n 0 C dX12_count_16 rfl rfl ?_
      refine wp_callVp (rest := []) (c_parts E h n p N Sc Cl Cs M0) svX12_157 sh_128 (by decide) rfl rfl (Nat.le_of_ble_eq_true rfl) C dX12_count_17 ?_
      refine wp_goto (tgt := 51) C dX12_count_20 (by decide) ?_
      refine wp_iret C dX12_count_51 ?_
      exact ret_iv (by rw [if_neg (by omega), if_pos (by omega)])
  · skip
    refine wp_aloadR_n 0 C dX12_count_4 rfl rfl ?_
    refine wp_callVp (rest := []) (c_heaps E h n p N Sc Cl Cs M0) svX12_141 sh_128 (by decide) rfl rfl (Nat.le_of_ble_eq_true rfl) C dX12_count_5 ?_
    refine wp_goto (tgt := 51) C dX12_count_8 (by decide) ?_
    refine wp_iret C dX12_count_51 ?_
    exact ret_iv (by rw [if_pos (by omega)])

set_option maxRecDepth 100000 in
set_option maxHeartbeats 4000000 in
theorem m_erase (E : En) (h : Hp)  : Ct 0 yX12_erase cX12_erase 2 (some .int) E [rv E 128] h (Upd (some (iv (h 128 6))) (upd2 h 128 6 0)) := by
  refine ct_intro (by decide) (Nat.le_of_ble_eq_true rfl) (fun G C => ?_)
  show Wp G E 2 (Upd (some (iv (h 128 6))) (upd2 h 128 6 0)) 0 [(0, rv E 128)] [] h
  refine wp_aloadR_n 0 C dX12_erase_0 rfl rfl ?_
  refine wp_getI flX12_73 sh_128 rfl C dX12_erase_1 ?_
  refine wp_nm (fun v1 e_v1 => ?_)
  refine wp_istore_n (ls' := [(0, rv E 128), (1, iv v1)]) [1, 0] C dX12_erase_4 rfl (by decide) rfl ?_
  refine wp_aloadR_n 0 C dX12_erase_5 rfl rfl ?_
  refine wp_iconst (v := 0) C dX12_erase_6 rfl ?_
  refine wp_putI fpX12_73 sh_128 rfl C dX12_erase_7 ?_
  obtain ⟨H2, e_H2⟩ : ∃ z : Hp, z = upd2 h 128 6 0 := ⟨_, rfl⟩
  refine wp_heq e_H2 ?_
  refine wp_iload_n 1 C dX12_erase_10 rfl rfl ?_
  refine wp_iret C dX12_erase_11 ?_
  exact upd_i (by omega) (by subst_vars; rfl)

set_option maxRecDepth 100000 in
set_option maxHeartbeats 4000000 in
theorem m_burn (E : En) (h : Hp)  : Ct 0 yX12_burn cX12_burn 2 (some .int) E [rv E 128] h (Upd (some (iv (h 131 2))) (upd2 h 131 2 0)) := by
  refine ct_intro (by decide) (Nat.le_of_ble_eq_true rfl) (fun G C => ?_)
  show Wp G E 2 (Upd (some (iv (h 131 2))) (upd2 h 131 2 0)) 0 [(0, rv E 128)] [] h
  refine wp_aloadR_n 0 C dX12_burn_0 rfl rfl ?_
  refine wp_getR flX12_17 sh_128 rfl C dX12_burn_1 ?_
  refine wp_iconst (v := 2) C dX12_burn_4 rfl ?_
  refine wp_iald sh_131 (by omega) C dX12_burn_5 ?_
  refine wp_top (show _ = h 131 2 from rfl) ?_
  refine wp_nm (fun v1 e_v1 => ?_)
  refine wp_istore_n (ls' := [(0, rv E 128), (1, iv v1)]) [1, 0] C dX12_burn_6 rfl (by decide) rfl ?_
  refine wp_aloadR_n 0 C dX12_burn_7 rfl rfl ?_
  refine wp_getR flX12_17 sh_128 rfl C dX12_burn_8 ?_
  refine wp_iconst (v := 2) C dX12_burn_11 rfl ?_
  refine wp_iconst (v := 0) C dX12_burn_12 rfl ?_
  refine wp_iast sh_131 (by omega) C dX12_burn_13 ?_
  obtain ⟨H2, e_H2⟩ : ∃ z : Hp, z = upd2 h 131 2 0 := ⟨_, rfl⟩
  refine wp_heq e_H2 ?_
  refine wp_iload_n 1 C dX12_burn_14 rfl rfl ?_
  refine wp_iret C dX12_burn_15 ?_
  exact upd_i (by omega) (by subst_vars; rfl)

def menterH (h : Hp) (lot : Int) : Hp := upd2 (upd2 h 132 (h 131 2).toNat lot) 131 2 (h 131 2 + 1)
set_option maxRecDepth 100000 in
set_option maxHeartbeats 4000000 in
theorem m_sale (E : En) (h : Hp) (n : Nat) (p : Int) (N Sc Cl Cs : Nat → Int) (M0 : MH h n p N Sc Cl Cs) (a : Int) (hb : 0 ≤ h 131 2 ∧ h 131 2 ≤ 12) (ha : -2147483648 ≤ a ∧ a ≤ 2147483647) : Ct 2 yX12_sale cX12_sale 2 (some .int) E [rv E 128, iv a] h (Upd (some (iv (if ¬ (0 ≤ a ∧ a < 2 ^ n) then -2 else if h 131 2 < 12 then h 131 2 + 1 else -5))) (if ¬ (0 ≤ a ∧ a < 2 ^ n) then h else if h 131 2 < 12 then menterH h a else h)) := by
  obtain ⟨m0, m1, m2, m3, mN, mS, mC, mK⟩ := id M0
  refine ct_intro (by decide) (Nat.le_of_ble_eq_true rfl) (fun G C => ?_)
  show Wp G E 2 (Upd (some (iv (if ¬ (0 ≤ a ∧ a < 2 ^ n) then -2 else if h 131 2 < 12 then h 131 2 + 1 else -5))) (if ¬ (0 ≤ a ∧ a < 2 ^ n) then h else if h 131 2 < 12 then menterH h a else h)) 0 [(0, rv E 128), (1, iv a)] [] h
  refine wp_aloadR_n 0 C dX12_sale_0 rfl rfl ?_
  refine wp_iload_n 1 C dX12_sale_1 rfl rfl ?_
  refine wp_callVp (rest := []) (c_isLot E h n p N Sc Cl Cs M0 a (by omega)) svX12_170 sh_128 (by decide) rfl rfl (Nat.le_of_ble_eq_true rfl) C dX12_sale_2 ?_
  refine wp_ifb_ne (tgt := 11) C dX12_sale_5 (by decide) (fun c_5 => ?_) (fun c_5 => ?_)
  · skip
    refine wp_aloadR_n 0 C dX12_sale_11 rfl rfl ?_
    refine wp_getR flX12_17 sh_128 rfl C dX12_sale_12 ?_
    refine wp_iconst (v := 2) C dX12_sale_15 rfl ?_
    refine wp_iald sh_131 (by omega) C dX12_sale_16 ?_
    refine wp_top (show _ = h 131 2 from rfl) ?_
    refine wp_bipush (v := 12) C dX12_sale_17 rfl ?_
    refine wp_icmp_ne (tgt := 25) (by omega) (by omega) C dX12_sale_19 (by decide) (fun c_19 => ?_) (fun c_19 => ?_)
    · skip
      refine wp_aloadR_n 0 C dX12_sale_25 rfl rfl ?_
      refine wp_getR flX12_20 sh_128 rfl C dX12_sale_26 ?_
      refine wp_aloadR_n 0 C dX12_sale_29 rfl rfl ?_
      refine wp_getR flX12_17 sh_128 rfl C dX12_sale_30 ?_
      refine wp_iconst (v := 2) C dX12_sale_33 rfl ?_
      refine wp_iald sh_131 (by omega) C dX12_sale_34 ?_
      refine wp_top (show _ = h 131 2 from rfl) ?_
      refine wp_iload_n 1 C dX12_sale_35 rfl rfl ?_
      refine wp_iast sh_132 (by omega) C dX12_sale_36 ?_
      obtain ⟨H1, e_H1⟩ : ∃ z : Hp, z = upd2 h 132 (h 131 2).toNat a := ⟨_, rfl⟩
      refine wp_heq e_H1 ?_
      refine wp_aloadR_n 0 C dX12_sale_37 rfl rfl ?_
      refine wp_getR flX12_17 sh_128 rfl C dX12_sale_38 ?_
      refine wp_iconst (v := 2) C dX12_sale_41 rfl ?_
      refine wp_dup2 rfl rfl C dX12_sale_42 ?_
      refine wp_iald sh_131 (by omega) C dX12_sale_43 ?_
      refine wp_top (show _ = H1 131 2 from rfl) ?_
      refine wp_top (rdu_ne e_H1 (by decide)) ?_
      refine wp_iconst (v := 1) C dX12_sale_44 rfl ?_
      refine wp_iadd C dX12_sale_45 ?_
      refine wp_iast sh_131 (by omega) C dX12_sale_46 ?_
      obtain ⟨H2, e_H2⟩ : ∃ z : Hp, z = upd2 H1 131 2 ((h 131 2) + 1) := ⟨_, rfl⟩
      refine wp_heq e_H2 ?_
      refine wp_aloadR_n 0 C dX12_sale_47 rfl rfl ?_
      refine wp_getR flX12_17 sh_128 rfl C dX12_sale_48 ?_
      refine wp_iconst (v := 2) C dX12_sale_51 rfl ?_
      refine wp_iald sh_131 (by omega) C dX12_sale_52 ?_
      refine wp_top (show _ = H2 131 2 from rfl) ?_
      refine wp_top (rdu_eq e_H2) ?_
      refine wp_iret C dX12_sale_53 ?_
      exact upd_i (by rw [if_neg (not_not_intro c_5), if_pos (by omega)]) (by rw [if_neg (not_not_intro c_5), if_pos (by omega)]; subst_vars; simp [menterH, upd2])
    · skip
      refine wp_bipush (v := (-5)) C dX12_sale_22 rfl ?_
      refine wp_iret C dX12_sale_24 ?_
      exact upd_i (by rw [if_neg (not_not_intro c_5), if_neg (by omega)]) (by rw [if_neg (not_not_intro c_5), if_neg (by omega)])
  · skip
    refine wp_bipush (v := (-2)) C dX12_sale_8 rfl ?_
    refine wp_iret C dX12_sale_10 ?_
    exact upd_i (by rw [if_pos c_5]) (by rw [if_pos c_5])


/-! ===== the reference: turns ===== -/
theorem wk_le {n c t : Nat} (h : wkC n c t) : t ≤ n := by
  have h1 := h.1
  have h2 : cntB (tkN c 1 n : Int) n + cntB (tkN c 2 n : Int) n ≤ n := by
    have key : ∀ m : Nat, m ≤ n → cntB (tkN c 1 n : Int) m + cntB (tkN c 2 n : Int) m ≤ m := fun m => by
      induction m with
      | zero => intro _; exact Int.le_refl 0
      | succ m ih =>
        intro hm
        have := ih (by omega)
        unfold cntB at this ⊢
        rw [sumB_nat, sumB_nat]
        have d := tk_dj (c := c) (n := n) m
        cases q1 : (tkN c 1 n).testBit m <;> cases q2 : (tkN c 2 n).testBit m <;> simp [q1, q2] at d ⊢ <;> omega
    exact key n (Nat.le_refl n)
  omega
set_option maxRecDepth 100000 in
set_option maxHeartbeats 4000000 in
theorem c_unitOf (E : En) (h : Hp) (i : Int) (hi : 0 ≤ i ∧ i ≤ 8) : Ct 0 yX12_unitOf cX12_unitOf 3 (some .int) E [iv i] h (Ret (iv ((3 ^ i.toNat : Nat) : Int)) h) := by
  refine ct_intro (by decide) (Nat.le_of_ble_eq_true rfl) (fun G C => ?_)
  show Wp G E 3 (Ret (iv ((3 ^ i.toNat : Nat) : Int)) h) 0 [(0, iv i)] [] h
  refine wp_iconst (v := 1) C dX12_unitOf_0 rfl ?_
  refine wp_istore_n (ls' := [(0, iv i), (1, iv 1)]) [1, 0] C dX12_unitOf_1 rfl (by decide) rfl ?_
  refine wp_iconst (v := 0) C dX12_unitOf_2 rfl ?_
  refine wp_istore_n (ls' := [(0, iv i), (1, iv 1), (2, iv 0)]) [1, 2, 0] C dX12_unitOf_3 rfl (by decide) rfl ?_
  have q40 : ∀ n9 : Nat, ∀ (x1 : Int) (x2 : Int), (0 ≤ x2 ∧ x2 ≤ i) → (x1 = ((3 ^ x2.toNat : Nat) : Int)) → (i - x2).toNat < n9 → Wp G E 3 (Ret (iv ((3 ^ i.toNat : Nat) : Int)) h) 4 [(0, iv i), (1, iv x1), (2, iv x2)] [] h := by
    intro n9
    induction n9 with
    | zero => intro x1 x2 h2 h1 hm9; exact absurd hm9 (Nat.not_lt_zero _)
    | succ n9 ih9 =>
      intro x1 x2 h2 h1 hm9
      have ih9_4 := ih9
      refine wp_iload_n 2 C dX12_unitOf_4 rfl rfl ?_
      refine wp_iload_n 0 C dX12_unitOf_5 rfl rfl ?_
      refine wp_icmp_ge (tgt := 19) (by omega) (by omega) C dX12_unitOf_6 (by decide) (fun c_6 => ?_) (fun c_6 => ?_)
      · skip
        refine wp_iload_n 1 C dX12_unitOf_19 rfl rfl ?_
        refine wp_iret C dX12_unitOf_20 ?_
        exact ret_iv (by rw [h1, show x2 = i by omega])
      · skip
        refine wp_iload_n 1 C dX12_unitOf_9 rfl rfl ?_
        refine wp_iconst (v := 3) C dX12_unitOf_10 rfl ?_
        refine wp_imul C dX12_unitOf_11 ?_
        refine wp_nm (fun v1 e_v1 => ?_)
        refine wp_istore_n (ls' := [(0, iv i), (1, iv v1), (2, iv x2)]) [1, 0, 2] C dX12_unitOf_12 rfl (by decide) rfl ?_
        obtain ⟨v2, e_v2⟩ : ∃ z : Int, z = x2 + (1) := ⟨_, rfl⟩
        refine wp_iinc (j := 2) (y := v2) (ls' := [(0, iv i), (1, iv v1), (2, iv v2)]) [1, 2, 0] C dX12_unitOf_13 rfl e_v2 (by decide) rfl ?_
        refine wp_goto (tgt := 4) C dX12_unitOf_16 (by decide) ?_
        exact ih9_4 v1 v2 (by omega) (by rw [e_v1, e_v2, show (x2 + 1).toNat = x2.toNat + 1 by omega, Nat.pow_succ, h1]; omega) (by omega)
  have q4 : ∀ (x1 : Int) (x2 : Int), (0 ≤ x2 ∧ x2 ≤ i) → (x1 = ((3 ^ x2.toNat : Nat) : Int)) → Wp G E 3 (Ret (iv ((3 ^ i.toNat : Nat) : Int)) h) 4 [(0, iv i), (1, iv x1), (2, iv x2)] [] h := fun x1 x2 h2 h1 => q40 _ x1 x2 h2 h1 (Nat.lt_succ_self _)
  exact q4 1 0 (by omega) (rfl)

set_option maxRecDepth 100000 in
set_option maxHeartbeats 4000000 in
theorem c_takenBy (E : En) (h : Hp) (n : Nat) (p : Int) (N Sc Cl Cs : Nat → Int) (M0 : MH h n p N Sc Cl Cs) (hn8 : n ≤ 8) (c w : Nat) (ci wi : Int) (hci : ci = (c : Int)) (hwi : wi = (w : Int)) (hc : c ≤ 6561) (hw : w ≤ 2) : Ct 1 yX12_takenBy cX12_takenBy 6 (some .int) E [rv E 128, iv ci, iv wi] h (Ret (iv (tkN c w n : Int)) h) := by
  obtain ⟨m0, m1, m2, m3, mN, mS, mC, mK⟩ := id M0
  refine ct_intro (by decide) (Nat.le_of_ble_eq_true rfl) (fun G C => ?_)
  show Wp G E 6 (Ret (iv (tkN c w n : Int)) h) 0 [(0, rv E 128), (1, iv ci), (2, iv wi)] [] h
  refine wp_iconst (v := 0) C dX12_takenBy_0 rfl ?_
  refine wp_istore_n (ls' := [(0, rv E 128), (1, iv ci), (2, iv wi), (3, iv 0)]) [1, 2, 3, 0] C dX12_takenBy_1 rfl (by decide) rfl ?_
  refine wp_iload_n 1 C dX12_takenBy_2 rfl rfl ?_
  refine wp_istore (ls' := [(0, rv E 128), (1, iv ci), (2, iv wi), (3, iv 0), (4, iv ci)]) [1, 2, 3, 4, 0] C dX12_takenBy_3 (by decide) rfl ?_
  refine wp_iconst (v := 0) C dX12_takenBy_5 rfl ?_
  refine wp_istore (ls' := [(0, rv E 128), (1, iv ci), (2, iv wi), (3, iv 0), (4, iv ci), (5, iv 0)]) [1, 2, 3, 4, 5, 0] C dX12_takenBy_6 (by decide) rfl ?_
  have q80 : ∀ n9 : Nat, ∀ (x3 : Int) (x4 : Int) (x5 : Int), (0 ≤ x5 ∧ x5 ≤ n) → (x3 = (tkN c w x5.toNat : Int)) → (x4 = ((c / 3 ^ x5.toNat : Nat) : Int)) → ((n : Int) - x5).toNat < n9 → Wp G E 6 (Ret (iv (tkN c w n : Int)) h) 8 [(0, rv E 128), (1, iv ci), (2, iv wi), (3, iv x3), (4, iv x4), (5, iv x5)] [] h := by
    intro n9
    induction n9 with
    | zero => intro x3 x4 x5 h5 h3 h4 hm9; exact absurd hm9 (Nat.not_lt_zero _)
    | succ n9 ih9 =>
      intro x3 x4 x5 h5 h3 h4 hm9
      have ih9_8 := ih9
      have hq0 : 0 ≤ x4 ∧ x4 ≤ 6561 := by rw [h4]; exact ⟨Int.natCast_nonneg _, Int.ofNat_le.mpr (Nat.le_trans (Nat.div_le_self _ _) hc)⟩
      have hl9 := p8 (n := x5.toNat) (by omega) (tkN_lt (c := c) (w := w))
      refine wp_iload 5 C dX12_takenBy_8 rfl ?_
      refine wp_aloadR_n 0 C dX12_takenBy_10 rfl rfl ?_
      refine wp_callVp (rest := [iv x5]) (c_heaps E h n p N Sc Cl Cs M0) svX12_141 sh_128 (by decide) rfl rfl (Nat.le_of_ble_eq_true rfl) C dX12_takenBy_11 ?_
      refine wp_icmp_ge (tgt := 48) (by omega) (by omega) C dX12_takenBy_14 (by decide) (fun c_14 => ?_) (fun c_14 => ?_)
      · skip
        refine wp_iload_n 3 C dX12_takenBy_48 rfl rfl ?_
        refine wp_iret C dX12_takenBy_49 ?_
        exact ret_iv (by rw [h3, show x5.toNat = n by omega])
      · skip
        refine wp_iload_n 3 C dX12_takenBy_17 rfl rfl ?_
        refine wp_iload 4 C dX12_takenBy_18 rfl ?_
        refine wp_iconst (v := 3) C dX12_takenBy_20 rfl ?_
        refine wp_irem (by omega) (by omega) C dX12_takenBy_21 ?_
        refine wp_top (show _ = x4 % 3 by rw [Int.tmod_eq_emod_of_nonneg (by omega)]) ?_
        refine wp_iload_n 2 C dX12_takenBy_22 rfl rfl ?_
        refine wp_icmp_ne (tgt := 33) (by omega) (by omega) C dX12_takenBy_23 (by decide) (fun c_23 => ?_) (fun c_23 => ?_)
        · skip
          refine wp_iconst (v := 0) C dX12_takenBy_33 rfl ?_
          refine wp_ior C dX12_takenBy_34 ?_
          refine wp_nm (fun v1 e_v1 => ?_)
          refine wp_istore_n (ls' := [(0, rv E 128), (1, iv ci), (2, iv wi), (3, iv v1), (4, iv x4), (5, iv x5)]) [1, 2, 3, 0, 4, 5] C dX12_takenBy_35 rfl (by decide) rfl ?_
          refine wp_iload 4 C dX12_takenBy_36 rfl ?_
          refine wp_iconst (v := 3) C dX12_takenBy_38 rfl ?_
          refine wp_idiv (by omega) (by omega) C dX12_takenBy_39 ?_
          refine wp_top (show _ = x4 / 3 by rw [Int.tdiv_eq_ediv_of_nonneg (by omega)]) ?_
          refine wp_nm (fun y4 e_y4 => ?_)
          refine wp_istore (ls' := [(0, rv E 128), (1, iv ci), (2, iv wi), (3, iv v1), (4, iv y4), (5, iv x5)]) [1, 2, 3, 4, 0, 5] C dX12_takenBy_40 (by decide) rfl ?_
          obtain ⟨v2, e_v2⟩ : ∃ z : Int, z = x5 + (1) := ⟨_, rfl⟩
          refine wp_iinc (j := 5) (y := v2) (ls' := [(0, rv E 128), (1, iv ci), (2, iv wi), (3, iv v1), (4, iv y4), (5, iv v2)]) [1, 2, 3, 4, 5, 0] C dX12_takenBy_42 rfl e_v2 (by decide) rfl ?_
          refine wp_goto (tgt := 8) C dX12_takenBy_45 (by decide) ?_
          exact ih9_8 v1 y4 v2 (by omega) (by rw [e_v1, e_v2, show (x5 + 1).toNat = x5.toNat + 1 by omega, tkN, if_neg (by omega), h3]; exact tk_or0 (by omega)) (by rw [e_y4, e_v2, show (x5 + 1).toNat = x5.toNat + 1 by omega, Nat.pow_succ, ← Nat.div_div_eq_div_mul, h4]; omega) (by omega)
        · skip
          refine wp_iconst (v := 1) C dX12_takenBy_26 rfl ?_
          refine wp_iload 5 C dX12_takenBy_27 rfl ?_
          refine wp_ishl (by omega) C dX12_takenBy_29 ?_
          refine wp_goto (tgt := 34) C dX12_takenBy_30 (by decide) ?_
          refine wp_ior C dX12_takenBy_34 ?_
          refine wp_nm (fun v3 e_v3 => ?_)
          refine wp_istore_n (ls' := [(0, rv E 128), (1, iv ci), (2, iv wi), (3, iv v3), (4, iv x4), (5, iv x5)]) [1, 2, 3, 0, 4, 5] C dX12_takenBy_35 rfl (by decide) rfl ?_
          refine wp_iload 4 C dX12_takenBy_36 rfl ?_
          refine wp_iconst (v := 3) C dX12_takenBy_38 rfl ?_
          refine wp_idiv (by omega) (by omega) C dX12_takenBy_39 ?_
          refine wp_top (show _ = x4 / 3 by rw [Int.tdiv_eq_ediv_of_nonneg (by omega)]) ?_
          refine wp_nm (fun y4 e_y4 => ?_)
          refine wp_istore (ls' := [(0, rv E 128), (1, iv ci), (2, iv wi), (3, iv v3), (4, iv y4), (5, iv x5)]) [1, 2, 3, 4, 0, 5] C dX12_takenBy_40 (by decide) rfl ?_
          obtain ⟨v4, e_v4⟩ : ∃ z : Int, z = x5 + (1) := ⟨_, rfl⟩
          refine wp_iinc (j := 5) (y := v4) (ls' := [(0, rv E 128), (1, iv ci), (2, iv wi), (3, iv v3), (4, iv y4), (5, iv v4)]) [1, 2, 3, 4, 5, 0] C dX12_takenBy_42 rfl e_v4 (by decide) rfl ?_
          refine wp_goto (tgt := 8) C dX12_takenBy_45 (by decide) ?_
          exact ih9_8 v3 y4 v4 (by omega) (by rw [e_v3, e_v4, show (x5 + 1).toNat = x5.toNat + 1 by omega, tkN, if_pos (by omega), h3]; exact bOr_p (by omega) (by omega)) (by rw [e_y4, e_v4, show (x5 + 1).toNat = x5.toNat + 1 by omega, Nat.pow_succ, ← Nat.div_div_eq_div_mul, h4]; omega) (by omega)
  have q8 : ∀ (x3 : Int) (x4 : Int) (x5 : Int), (0 ≤ x5 ∧ x5 ≤ n) → (x3 = (tkN c w x5.toNat : Int)) → (x4 = ((c / 3 ^ x5.toNat : Nat) : Int)) → Wp G E 6 (Ret (iv (tkN c w n : Int)) h) 8 [(0, rv E 128), (1, iv ci), (2, iv wi), (3, iv x3), (4, iv x4), (5, iv x5)] [] h := fun x3 x4 x5 h5 h3 h4 => q80 _ x3 x4 x5 h5 h3 h4 (Nat.lt_succ_self _)
  exact q8 0 ci 0 (by omega) (rfl) (by rw [show Int.toNat 0 = 0 from rfl, Nat.pow_zero, Nat.div_one]; exact hci)

set_option maxRecDepth 100000 in
set_option maxHeartbeats 4000000 in
theorem c_hasLot (E : En) (h : Hp) (n : Nat) (p : Int) (N Sc Cl Cs : Nat → Int) (M0 : MH h n p N Sc Cl Cs) (hn8 : n ≤ 8) (k : Int) (hk : 1 ≤ k ∧ k ≤ 20) (S : Nat) (si : Int) (hsi : si = (S : Int)) (hS : S < 2 ^ n) : Ct 4 yX12_hasLot cX12_hasLot 5 (some .boolean) E [rv E 128, iv si, iv k] h (Ret (iv (bi ((tenT N p n k) S = true))) h) := by
  obtain ⟨m0, m1, m2, m3, mN, mS, mC, mK⟩ := id M0
  have hS8 := p8 hn8 hS
  refine ct_intro (by decide) (Nat.le_of_ble_eq_true rfl) (fun G C => ?_)
  show Wp G E 5 (Ret (iv (bi ((tenT N p n k) S = true))) h) 0 [(0, rv E 128), (1, iv si), (2, iv k)] [] h
  refine wp_iconst (v := 0) C dX12_hasLot_0 rfl ?_
  refine wp_istore_n (ls' := [(0, rv E 128), (1, iv si), (2, iv k), (3, iv 0)]) [1, 2, 3, 0] C dX12_hasLot_1 rfl (by decide) rfl ?_
  refine wp_iload_n 1 C dX12_hasLot_2 rfl rfl ?_
  refine wp_istore (ls' := [(0, rv E 128), (1, iv si), (2, iv k), (3, iv 0), (4, iv si)]) [1, 2, 3, 4, 0] C dX12_hasLot_3 (by decide) rfl ?_
  have q50 : ∀ n9 : Nat, ∀ (x3 : Int) (x4 : Int), (x3 = 0 ∨ x3 = 1) → (0 ≤ x4 ∧ x4 ≤ (S : Int) ∧ sb x4.toNat S) → (x3 = 1 → tenIn N p n k S) → (∀ L, sb L S → x4.toNat < L → teB N p n k L → x3 = 1) → x4.toNat < n9 → Wp G E 5 (Ret (iv (bi ((tenT N p n k) S = true))) h) 5 [(0, rv E 128), (1, iv si), (2, iv k), (3, iv x3), (4, iv x4)] [] h := by
    intro n9
    induction n9 with
    | zero => intro x3 x4 h3 h4 ha hb hm9; exact absurd hm9 (Nat.not_lt_zero _)
    | succ n9 ih9 =>
      intro x3 x4 h3 h4 ha hb hm9
      have ih9_5 := ih9
      have hx4 : ((x4.toNat : Nat) : Int) = x4 := by omega
      refine wp_iload 4 C dX12_hasLot_5 rfl ?_
      refine wp_if_le (tgt := 33) (by omega) C dX12_hasLot_7 (by decide) (fun c_7 => ?_) (fun c_7 => ?_)
      · skip
        refine wp_iload_n 3 C dX12_hasLot_33 rfl rfl ?_
        refine wp_zret (h3) C dX12_hasLot_34 ?_
        exact ret_iv (bi_of h3 ⟨fun z => tenT_iff.mpr (ha z), fun z => by obtain ⟨L, l1, l2⟩ := tenT_iff.mp z; exact hb L l1 (by have := te_ne hk.1 l2; omega) l2⟩)
      · skip
        refine wp_iload_n 3 C dX12_hasLot_10 rfl rfl ?_
        refine wp_if_ne (tgt := 33) (by omega) C dX12_hasLot_11 (by decide) (fun c_11 => ?_) (fun c_11 => ?_)
        · skip
          refine wp_iload_n 3 C dX12_hasLot_33 rfl rfl ?_
          refine wp_zret (h3) C dX12_hasLot_34 ?_
          exact ret_iv (bi_of h3 ⟨fun z => tenT_iff.mpr (ha z), fun _ => by omega⟩)
        · skip
          have hcn : cntB x4 20 = cntB ((x4.toNat : Nat) : Int) n := by rw [← cntB_hi (S := x4.toNat) (n := n) (by omega) (by omega), hx4]
          have hte : (cntB x4 20 = k ∧ sumB N x4 n % p = 0) ↔ teB N p n k x4.toNat := by
            show _ ↔ (cntB ((x4.toNat : Nat) : Int) n = k ∧ sumB N ((x4.toNat : Nat) : Int) n % p = 0)
            rw [hcn, hx4]
          refine wp_aloadR_n 0 C dX12_hasLot_14 rfl rfl ?_
          refine wp_iload 4 C dX12_hasLot_15 rfl ?_
          refine wp_iload_n 2 C dX12_hasLot_17 rfl rfl ?_
          refine wp_callVp (rest := []) (c_isTen E h n p N Sc Cl Cs M0 x4 k (by omega) (by omega)) svX12_185 sh_128 (by decide) rfl rfl (Nat.le_of_ble_eq_true rfl) C dX12_hasLot_18 ?_
          refine wp_nm (fun v3 e_v3 => ?_)
          refine wp_istore_n (ls' := [(0, rv E 128), (1, iv si), (2, iv k), (3, iv v3), (4, iv x4)]) [1, 2, 3, 0, 4] C dX12_hasLot_21 rfl (by decide) rfl ?_
          refine wp_iload 4 C dX12_hasLot_22 rfl ?_
          refine wp_iconst (v := 1) C dX12_hasLot_24 rfl ?_
          refine wp_isub C dX12_hasLot_25 ?_
          refine wp_iload_n 1 C dX12_hasLot_26 rfl rfl ?_
          refine wp_iand C dX12_hasLot_27 ?_
          refine wp_top (show _ = (((x4.toNat - 1) &&& S : Nat) : Int) by rw [← and_n (by omega) (by omega), hsi, show ((x4.toNat - 1 : Nat) : Int) = x4 - 1 by omega]) ?_
          refine wp_nm (fun y4 e_y4 => ?_)
          refine wp_istore (ls' := [(0, rv E 128), (1, iv si), (2, iv k), (3, iv v3), (4, iv y4)]) [1, 2, 3, 4, 0] C dX12_hasLot_28 (by decide) rfl ?_
          refine wp_goto (tgt := 5) C dX12_hasLot_30 (by decide) ?_
          exact ih9_5 v3 y4 (by rw [e_v3]; exact bi_01) (by rw [e_y4]; have := nx_lt (L := x4.toNat) (S := S) (by omega); exact ⟨by omega, by omega, by rw [Int.toNat_natCast]; exact nx_sb⟩) (fun z => by rw [e_v3] at z; exact ⟨x4.toNat, h4.2.2, hte.mp (bi_1.mp z)⟩) (fun L hL h9 hq => by rw [e_y4, Int.toNat_natCast] at h9; rcases (show L = x4.toNat ∨ x4.toNat < L ∨ L < x4.toNat by omega) with q | q | q; rw [q] at hq; rw [e_v3]; exact bi_t (hte.mpr hq); have := hb L hL q hq; omega; have := nx_max x4.toNat S L h4.2.2 hL q; omega) (by rw [e_y4, Int.toNat_natCast]; have := nx_lt (L := x4.toNat) (S := S) (by omega); omega)
  have q5 : ∀ (x3 : Int) (x4 : Int), (x3 = 0 ∨ x3 = 1) → (0 ≤ x4 ∧ x4 ≤ (S : Int) ∧ sb x4.toNat S) → (x3 = 1 → tenIn N p n k S) → (∀ L, sb L S → x4.toNat < L → teB N p n k L → x3 = 1) → Wp G E 5 (Ret (iv (bi ((tenT N p n k) S = true))) h) 5 [(0, rv E 128), (1, iv si), (2, iv k), (3, iv x3), (4, iv x4)] [] h := fun x3 x4 h3 h4 ha hb => q50 _ x3 x4 h3 h4 ha hb (Nat.lt_succ_self _)
  exact q5 0 si (by omega) (⟨by omega, by omega, by rw [hsi, Int.toNat_natCast]; exact sb_refl S⟩) (fun z => absurd z (by decide)) (fun L hL z => absurd (sb_le hL) (by omega))

set_option maxRecDepth 100000 in
set_option maxHeartbeats 4000000 in
theorem c_mbestOf (E : En) (h : Hp) (n : Nat) (p : Int) (N Sc Cl Cs : Nat → Int) (M0 : MH h n p N Sc Cl Cs) (hn8 : n ≤ 8) (T : Nat → Bool) (c t : Nat) (ci ti : Int) (hci : ci = (c : Int)) (hti : ti = (t : Int)) (hc : c < 3 ^ n) (hwk : wkC n c t) (ht : t < n) (hW : ∀ c9, c9 < 3 ^ n → wkC n c9 (t + 1) → h 145 c9 = wvC T n c9 (t + 1)) : Ct 1 yX12_bestOf cX12_bestOf 7 (some .int) E [rv E 128, iv ci, iv ti] h (Ret (iv (vlT T n (n - t) (owC n c t) (otC n c t))) h) := by
  obtain ⟨m0, m1, m2, m3, mN, mS, mC, mK⟩ := id M0
  have h3n := t8 hn8
  refine ct_intro (by decide) (Nat.le_of_ble_eq_true rfl) (fun G C => ?_)
  show Wp G E 7 (Ret (iv (vlT T n (n - t) (owC n c t) (otC n c t))) h) 0 [(0, rv E 128), (1, iv ci), (2, iv ti)] [] h
  refine wp_iconst (v := 1) C dX12_bestOf_0 rfl ?_
  refine wp_iload_n 2 C dX12_bestOf_1 rfl rfl ?_
  refine wp_iconst (v := 2) C dX12_bestOf_2 rfl ?_
  refine wp_irem (by omega) (by omega) C dX12_bestOf_3 ?_
  refine wp_top (show _ = ti % 2 by rw [Int.tmod_eq_emod_of_nonneg (by omega)]) ?_
  refine wp_iadd C dX12_bestOf_4 ?_
  refine wp_nm (fun w3 e_w3 => ?_)
  refine wp_istore_n (ls' := [(0, rv E 128), (1, iv ci), (2, iv ti), (3, iv w3)]) [1, 2, 3, 0] C dX12_bestOf_5 rfl (by decide) rfl ?_
  refine wp_iconst (v := (-1)) C dX12_bestOf_6 rfl ?_
  refine wp_istore (ls' := [(0, rv E 128), (1, iv ci), (2, iv ti), (3, iv w3), (4, iv (-1))]) [1, 2, 3, 4, 0] C dX12_bestOf_7 (by decide) rfl ?_
  refine wp_iconst (v := 0) C dX12_bestOf_9 rfl ?_
  refine wp_istore (ls' := [(0, rv E 128), (1, iv ci), (2, iv ti), (3, iv w3), (4, iv (-1)), (5, iv 0)]) [1, 2, 3, 4, 5, 0] C dX12_bestOf_10 (by decide) rfl ?_
  have q120 : ∀ n9 : Nat, ∀ (x4 : Int) (x5 : Int), (0 ≤ x5 ∧ x5 ≤ n) → (x4 = bestT (gT T n (n - t - 1) (owC n c t) (otC n c t)) ((owC n c t) ||| (otC n c t)) x5.toNat) → ((n : Int) - x5).toNat < n9 → Wp G E 7 (Ret (iv (vlT T n (n - t) (owC n c t) (otC n c t))) h) 12 [(0, rv E 128), (1, iv ci), (2, iv ti), (3, iv w3), (4, iv x4), (5, iv x5)] [] h := by
    intro n9
    induction n9 with
    | zero => intro x4 x5 h5 h4 hm9; exact absurd hm9 (Nat.not_lt_zero _)
    | succ n9 ih9 =>
      intro x4 x5 h5 h4 hm9
      have ih9_12 := ih9
      have h4r := bestT_r (U := owC n c t ||| otC n c t) (g := gT T n (n - t - 1) (owC n c t) (otC n c t)) gT_r x5.toNat
      have hpu : 0 < 3 ^ x5.toNat := Nat.pow_pos (by decide)
      have hpu2 : 3 ^ x5.toNat ≤ 6561 := t8 (by omega)
      have hq0 : 0 ≤ ((c / 3 ^ x5.toNat : Nat) : Int) ∧ ((c / 3 ^ x5.toNat : Nat) : Int) ≤ 6561 := ⟨Int.natCast_nonneg _, Int.ofNat_le.mpr (Nat.le_trans (Nat.div_le_self _ _) (show c ≤ 6561 by omega))⟩
      refine wp_iload 5 C dX12_bestOf_12 rfl ?_
      refine wp_aloadR_n 0 C dX12_bestOf_14 rfl rfl ?_
      refine wp_callVp (rest := [iv x5]) (c_heaps E h n p N Sc Cl Cs M0) svX12_141 sh_128 (by decide) rfl rfl (Nat.le_of_ble_eq_true rfl) C dX12_bestOf_15 ?_
      refine wp_icmp_ge (tgt := 72) (by omega) (by omega) C dX12_bestOf_18 (by decide) (fun c_18 => ?_) (fun c_18 => ?_)
      · skip
        refine wp_iload 4 C dX12_bestOf_72 rfl ?_
        refine wp_iret C dX12_bestOf_74 ?_
        exact ret_iv (by rw [h4, show x5.toNat = n by omega, show n - t = (n - t - 1) + 1 by omega, vlT_succ]; rfl)
      · skip
        refine wp_iload_n 1 C dX12_bestOf_21 rfl rfl ?_
        refine wp_iload 5 C dX12_bestOf_22 rfl ?_
        refine wp_callSp (rest := [iv ci]) (c_unitOf E h x5 (by omega)) ssX12_274 (by decide) rfl rfl (Nat.le_of_ble_eq_true rfl) C dX12_bestOf_24 ?_
        refine wp_idiv (by omega) (by omega) C dX12_bestOf_27 ?_
        refine wp_top (show _ = ((c / 3 ^ x5.toNat : Nat) : Int) by rw [Int.tdiv_eq_ediv_of_nonneg (by omega), hci]; rfl) ?_
        refine wp_iconst (v := 3) C dX12_bestOf_28 rfl ?_
        refine wp_irem (by omega) (by omega) C dX12_bestOf_29 ?_
        refine wp_top (show _ = ((c / 3 ^ x5.toNat % 3 : Nat) : Int) by rw [Int.tmod_eq_emod_of_nonneg (by omega)]; rfl) ?_
        refine wp_if_ne (tgt := 66) (by omega) C dX12_bestOf_30 (by decide) (fun c_30 => ?_) (fun c_30 => ?_)
        · skip
          have hnf : (owC n c t ||| otC n c t).testBit x5.toNat = true := by
            cases q : (owC n c t ||| otC n c t).testBit x5.toNat with
            | true => rfl
            | false => have := (free_iff (show x5.toNat < n by omega)).mp q; omega
          obtain ⟨v1, e_v1⟩ : ∃ z : Int, z = x5 + (1) := ⟨_, rfl⟩
          refine wp_iinc (j := 5) (y := v1) (ls' := [(0, rv E 128), (1, iv ci), (2, iv ti), (3, iv w3), (4, iv x4), (5, iv v1)]) [1, 2, 3, 4, 5, 0] C dX12_bestOf_66 rfl e_v1 (by decide) rfl ?_
          refine wp_goto (tgt := 12) C dX12_bestOf_69 (by decide) ?_
          exact ih9_12 x4 v1 (by omega) (by rw [e_v1, show (x5 + 1).toNat = x5.toNat + 1 by omega, bestT, if_pos hnf]; exact h4) (by omega)
        · skip
          have hnx := wv_next (T := T) hc (show x5.toNat < n by omega) (by omega) hwk
          have hfr : ¬ (owC n c t ||| otC n c t).testBit x5.toNat = true := by rw [(free_iff (by omega)).mpr (show c / 3 ^ x5.toNat % 3 = 0 by omega)]; decide
          have hgr := gT_r (T := T) (n := n) (f := n - t - 1) (own := owC n c t) (oth := otC n c t) x5.toNat
          have hwr := wv_r (T := T) (n := n) (c := (c + (1 + t % 2) * 3 ^ x5.toNat)) (t := t + 1)
          refine wp_aloadR_n 0 C dX12_bestOf_33 rfl rfl ?_
          refine wp_getR flX12_61 sh_128 rfl C dX12_bestOf_34 ?_
          refine wp_iload_n 1 C dX12_bestOf_37 rfl rfl ?_
          refine wp_iload_n 3 C dX12_bestOf_38 rfl rfl ?_
          refine wp_iload 5 C dX12_bestOf_39 rfl ?_
          refine wp_callSp (rest := [iv w3, iv ci, rv E 145]) (c_unitOf E h x5 (by omega)) ssX12_274 (by decide) rfl rfl (Nat.le_of_ble_eq_true rfl) C dX12_bestOf_41 ?_
          refine wp_imul C dX12_bestOf_44 ?_
          refine wp_iadd C dX12_bestOf_45 ?_
          refine wp_top (show _ = (((c + (1 + t % 2) * 3 ^ x5.toNat) : Nat) : Int) by rw [e_w3, hci, hti, Int.natCast_add, Int.natCast_mul, Int.natCast_add, Int.natCast_emod]; rfl) ?_
          refine wp_iald sh_145 (by omega) C dX12_bestOf_46 ?_
          refine wp_top (show _ = wvC T n (c + (1 + t % 2) * 3 ^ x5.toNat) (t + 1) by rw [Int.toNat_natCast]; exact hW _ hnx.1 hnx.2.1) ?_
          refine wp_ineg C dX12_bestOf_47 ?_
          refine wp_top (show _ = gT T n (n - t - 1) (owC n c t) (otC n c t) x5.toNat by exact hnx.2.2) ?_
          refine wp_nm (fun w6 e_w6 => ?_)
          refine wp_istore (ls' := [(0, rv E 128), (1, iv ci), (2, iv ti), (3, iv w3), (4, iv x4), (5, iv x5), (6, iv w6)]) [1, 2, 3, 4, 5, 6, 0] C dX12_bestOf_48 (by decide) rfl ?_
          refine wp_iload 6 C dX12_bestOf_50 rfl ?_
          refine wp_iload 4 C dX12_bestOf_52 rfl ?_
          refine wp_icmp_le (tgt := 62) (by omega) (by omega) C dX12_bestOf_54 (by decide) (fun c_54 => ?_) (fun c_54 => ?_)
          · skip
            refine wp_iload 4 C dX12_bestOf_62 rfl ?_
            refine wp_istore (ls' := [(0, rv E 128), (1, iv ci), (2, iv ti), (3, iv w3), (4, iv x4), (5, iv x5), (6, iv w6)]) [1, 2, 3, 4, 0, 5, 6] C dX12_bestOf_64 (by decide) rfl ?_
            obtain ⟨v2, e_v2⟩ : ∃ z : Int, z = x5 + (1) := ⟨_, rfl⟩
            refine wp_iinc (j := 5) (y := v2) (ls' := [(0, rv E 128), (1, iv ci), (2, iv ti), (3, iv w3), (4, iv x4), (5, iv v2), (6, iv w6)]) [1, 2, 3, 4, 5, 0, 6] C dX12_bestOf_66 rfl e_v2 (by decide) rfl ?_
            refine wp_goto (tgt := 12) C dX12_bestOf_69 (by decide) ?_
            refine wp_loc [0, 1, 2, 3, 4, 5] rfl ?_
            exact ih9_12 x4 v2 (by omega) (by rw [e_v2, show (x5 + 1).toNat = x5.toNat + 1 by omega, bestT, if_neg hfr, ← h4, ← e_w6]; omega) (by omega)
          · skip
            refine wp_iload 6 C dX12_bestOf_57 rfl ?_
            refine wp_goto (tgt := 64) C dX12_bestOf_59 (by decide) ?_
            refine wp_istore (ls' := [(0, rv E 128), (1, iv ci), (2, iv ti), (3, iv w3), (4, iv w6), (5, iv x5), (6, iv w6)]) [1, 2, 3, 4, 0, 5, 6] C dX12_bestOf_64 (by decide) rfl ?_
            obtain ⟨v3, e_v3⟩ : ∃ z : Int, z = x5 + (1) := ⟨_, rfl⟩
            refine wp_iinc (j := 5) (y := v3) (ls' := [(0, rv E 128), (1, iv ci), (2, iv ti), (3, iv w3), (4, iv w6), (5, iv v3), (6, iv w6)]) [1, 2, 3, 4, 5, 0, 6] C dX12_bestOf_66 rfl e_v3 (by decide) rfl ?_
            refine wp_goto (tgt := 12) C dX12_bestOf_69 (by decide) ?_
            refine wp_loc [0, 1, 2, 3, 4, 5] rfl ?_
            exact ih9_12 w6 v3 (by omega) (by rw [e_v3, show (x5 + 1).toNat = x5.toNat + 1 by omega, bestT, if_neg hfr, ← h4, ← e_w6]; omega) (by omega)
  have q12 : ∀ (x4 : Int) (x5 : Int), (0 ≤ x5 ∧ x5 ≤ n) → (x4 = bestT (gT T n (n - t - 1) (owC n c t) (otC n c t)) ((owC n c t) ||| (otC n c t)) x5.toNat) → Wp G E 7 (Ret (iv (vlT T n (n - t) (owC n c t) (otC n c t))) h) 12 [(0, rv E 128), (1, iv ci), (2, iv ti), (3, iv w3), (4, iv x4), (5, iv x5)] [] h := fun x4 x5 h5 h4 => q120 _ x4 x5 h5 h4 (Nat.lt_succ_self _)
  exact q12 (-1) 0 (by omega) (rfl)

set_option maxRecDepth 100000 in
set_option maxHeartbeats 4000000 in
theorem c_layWorths (E : En) (h : Hp) (n : Nat) (p : Int) (N Sc Cl Cs : Nat → Int) (M0 : MH h n p N Sc Cl Cs) (hn8 : n ≤ 8) (k : Int) (hk : 1 ≤ k ∧ k ≤ 20) : Ct 5 yX12_layWorths cX12_layWorths 8 none E [rv E 128, iv k] h (fun v hx => v = none ∧ (∀ c t, c < 3 ^ n → wkC n c t → hx 145 c = wvC (tenT N p n k) n c t) ∧ (∀ a b, a ≠ 145 → a ≠ 146 → hx a b = h a b)) := by
  obtain ⟨m0, m1, m2, m3, mN, mS, mC, mK⟩ := id M0
  have Mx := M0
  have hP0 : 0 < 2 ^ n := Nat.pow_pos (by decide)
  have hP8 : 2 ^ n ≤ 256 := Nat.pow_le_pow_right (n := 2) (by decide) hn8
  have hpc : ((2 ^ n : Nat) : Int) = 2 ^ n := p2_cast n
  have h3n := t8 hn8
  have hp3 : 0 < 3 ^ n := Nat.pow_pos (by decide)
  refine ct_intro (by decide) (Nat.le_of_ble_eq_true rfl) (fun G C => ?_)
  show Wp G E 8 (fun v hx => v = none ∧ (∀ c t, c < 3 ^ n → wkC n c t → hx 145 c = wvC (tenT N p n k) n c t) ∧ (∀ a b, a ≠ 145 → a ≠ 146 → hx a b = h a b)) 0 [(0, rv E 128), (1, iv k)] [] h
  refine wp_aloadR_n 0 C dX12_layWorths_0 rfl rfl ?_
  refine wp_callVp (rest := []) (c_heaps E h n p N Sc Cl Cs Mx) svX12_141 sh_128 (by decide) rfl rfl (Nat.le_of_ble_eq_true rfl) C dX12_layWorths_1 ?_
  refine wp_istore_n (ls' := [(0, rv E 128), (1, iv k), (2, iv (n : Int))]) [1, 2, 0] C dX12_layWorths_4 rfl (by decide) rfl ?_
  refine wp_iconst (v := 0) C dX12_layWorths_5 rfl ?_
  refine wp_istore_n (ls' := [(0, rv E 128), (1, iv k), (2, iv (n : Int)), (3, iv 0)]) [1, 2, 3, 0] C dX12_layWorths_6 rfl (by decide) rfl ?_
  have q70 : ∀ n9 : Nat, ∀ (x3 : Int) (hx : Hp), (0 ≤ x3 ∧ x3 ≤ ((2 ^ n : Nat) : Int)) → (∀ S, S < x3.toNat → (hx 146 S = 0 ∨ hx 146 S = 1) ∧ (hx 146 S = 1 ↔ (tenT N p n k) S = true)) → (∀ a b, a ≠ 145 → a ≠ 146 → hx a b = h a b) → (((2 ^ n : Nat) : Int) - x3).toNat < n9 → Wp G E 8 (fun v hx => v = none ∧ (∀ c t, c < 3 ^ n → wkC n c t → hx 145 c = wvC (tenT N p n k) n c t) ∧ (∀ a b, a ≠ 145 → a ≠ 146 → hx a b = h a b)) 7 [(0, rv E 128), (1, iv k), (2, iv (n : Int)), (3, iv x3)] [] hx := by
    intro n9
    induction n9 with
    | zero => intro x3 hx h3 hw hf hm9; exact absurd hm9 (Nat.not_lt_zero _)
    | succ n9 ih9 =>
      intro x3 hx h3 hw hf hm9
      have ih9_7 := ih9
      have Mx : MH hx n p N Sc Cl Cs := M0.of (fun b => ⟨hf _ _ (by decide) (by decide), hf _ _ (by decide) (by decide), hf _ _ (by decide) (by decide)⟩)
      refine wp_iload_n 3 C dX12_layWorths_7 rfl rfl ?_
      refine wp_iconst (v := 1) C dX12_layWorths_8 rfl ?_
      refine wp_iload_n 2 C dX12_layWorths_9 rfl rfl ?_
      refine wp_ishl (by omega) C dX12_layWorths_10 ?_
      refine wp_top (show _ = ((2 ^ n : Nat) : Int) by rw [Int.toNat_natCast, Int.one_mul, hpc]) ?_
      refine wp_icmp_ge (tgt := 32) (by omega) (by omega) C dX12_layWorths_11 (by decide) (fun c_11 => ?_) (fun c_11 => ?_)
      · skip
        refine wp_iload_n 2 C dX12_layWorths_32 rfl rfl ?_
        refine wp_istore_n (ls' := [(0, rv E 128), (1, iv k), (2, iv (n : Int)), (3, iv (n : Int))]) [1, 2, 3, 0] C dX12_layWorths_33 rfl (by decide) rfl ?_
        have q340 : ∀ n9 : Nat, ∀ (x3 : Int) (hy : Hp), (-1 ≤ x3 ∧ x3 ≤ n) → (∀ c t : Nat, c < 3 ^ n → wkC n c t → x3 < t → hy 145 c = wvC (tenT N p n k) n c t) → (∀ S, S < 2 ^ n → (hy 146 S = 0 ∨ hy 146 S = 1) ∧ (hy 146 S = 1 ↔ (tenT N p n k) S = true)) → (∀ a b, a ≠ 145 → a ≠ 146 → hy a b = h a b) → (x3 + 1).toNat < n9 → Wp G E 8 (fun v hx => v = none ∧ (∀ c t, c < 3 ^ n → wkC n c t → hx 145 c = wvC (tenT N p n k) n c t) ∧ (∀ a b, a ≠ 145 → a ≠ 146 → hx a b = h a b)) 34 [(0, rv E 128), (1, iv k), (2, iv (n : Int)), (3, iv x3)] [] hy := by
          intro n9
          induction n9 with
          | zero => intro x3 hy h3 hW hw2 hf2 hm9; exact absurd hm9 (Nat.not_lt_zero _)
          | succ n9 ih9 =>
            intro x3 hy h3 hW hw2 hf2 hm9
            have ih9_34 := ih9
            refine wp_iload_n 3 C dX12_layWorths_34 rfl rfl ?_
            refine wp_if_lt (tgt := 168) (by omega) C dX12_layWorths_35 (by decide) (fun c_35 => ?_) (fun c_35 => ?_)
            · skip
              refine wp_vret C dX12_layWorths_168 ?_
              exact ⟨rfl, fun c t hc hw9 => hW c t hc hw9 (by omega), hf2⟩
            · skip
              refine wp_iconst (v := 0) C dX12_layWorths_38 rfl ?_
              refine wp_istore (ls' := [(0, rv E 128), (1, iv k), (2, iv (n : Int)), (3, iv x3), (4, iv 0)]) [1, 2, 3, 4, 0] C dX12_layWorths_39 (by decide) rfl ?_
              have q410 : ∀ n9 : Nat, ∀ (x4 : Int) (hz : Hp), (0 ≤ x4 ∧ x4 ≤ ((3 ^ n : Nat) : Int)) → (∀ c t : Nat, c < 3 ^ n → wkC n c t → (x3 < t ∨ ((t : Int) = x3 ∧ c < x4.toNat)) → hz 145 c = wvC (tenT N p n k) n c t) → (∀ S, S < 2 ^ n → (hz 146 S = 0 ∨ hz 146 S = 1) ∧ (hz 146 S = 1 ↔ (tenT N p n k) S = true)) → (∀ a b, a ≠ 145 → a ≠ 146 → hz a b = h a b) → (((3 ^ n : Nat) : Int) - x4).toNat < n9 → Wp G E 8 (fun v hx => v = none ∧ (∀ c t, c < 3 ^ n → wkC n c t → hx 145 c = wvC (tenT N p n k) n c t) ∧ (∀ a b, a ≠ 145 → a ≠ 146 → hx a b = h a b)) 41 [(0, rv E 128), (1, iv k), (2, iv (n : Int)), (3, iv x3), (4, iv x4)] [] hz := by
                intro n9
                induction n9 with
                | zero => intro x4 hz h4 hW2 hw3 hf3 hm9; exact absurd hm9 (Nat.not_lt_zero _)
                | succ n9 ih9 =>
                  intro x4 hz h4 hW2 hw3 hf3 hm9
                  have ih9_41 := ih9
                  have Mx : MH hz n p N Sc Cl Cs := M0.of (fun b => ⟨hf3 _ _ (by decide) (by decide), hf3 _ _ (by decide) (by decide), hf3 _ _ (by decide) (by decide)⟩)
                  refine wp_iload 4 C dX12_layWorths_41 rfl ?_
                  refine wp_iload_n 2 C dX12_layWorths_43 rfl rfl ?_
                  refine wp_callSp (rest := [iv x4]) (c_unitOf E hz (n : Int) (by omega)) ssX12_274 (by decide) rfl rfl (Nat.le_of_ble_eq_true rfl) C dX12_layWorths_44 ?_
                  refine wp_top (show _ = ((3 ^ n : Nat) : Int) by rw [Int.toNat_natCast]) ?_
                  refine wp_icmp_ge (tgt := 162) (by omega) (by omega) C dX12_layWorths_47 (by decide) (fun c_47 => ?_) (fun c_47 => ?_)
                  · skip
                    obtain ⟨v1, e_v1⟩ : ∃ z : Int, z = x3 + (-1) := ⟨_, rfl⟩
                    refine wp_iinc (j := 3) (y := v1) (ls' := [(0, rv E 128), (1, iv k), (2, iv (n : Int)), (3, iv v1), (4, iv x4)]) [1, 2, 3, 0, 4] C dX12_layWorths_162 rfl e_v1 (by decide) rfl ?_
                    refine wp_goto (tgt := 34) C dX12_layWorths_165 (by decide) ?_
                    refine wp_loc [0, 1, 2, 3] rfl ?_
                    exact ih9_34 v1 hz (by omega) (fun c t hc hw9 h9 => hW2 c t hc hw9 (by omega)) (hw3) (hf3) (by omega)
                  · skip
                    refine wp_aloadR_n 0 C dX12_layWorths_50 rfl rfl ?_
                    refine wp_iload 4 C dX12_layWorths_51 rfl ?_
                    refine wp_iconst (v := 1) C dX12_layWorths_53 rfl ?_
                    refine wp_callVp (rest := []) (c_takenBy E hz n p N Sc Cl Cs Mx hn8 x4.toNat 1 x4 1 (by omega) rfl (by omega) (by decide)) svX12_277 sh_128 (by decide) rfl rfl (Nat.le_of_ble_eq_true rfl) C dX12_layWorths_54 ?_
                    refine wp_nm (fun w5 e_w5 => ?_)
                    refine wp_istore (ls' := [(0, rv E 128), (1, iv k), (2, iv (n : Int)), (3, iv x3), (4, iv x4), (5, iv w5)]) [1, 2, 3, 4, 5, 0] C dX12_layWorths_57 (by decide) rfl ?_
                    refine wp_aloadR_n 0 C dX12_layWorths_59 rfl rfl ?_
                    refine wp_iload 4 C dX12_layWorths_60 rfl ?_
                    refine wp_iconst (v := 2) C dX12_layWorths_62 rfl ?_
                    refine wp_callVp (rest := []) (c_takenBy E hz n p N Sc Cl Cs Mx hn8 x4.toNat 2 x4 2 (by omega) rfl (by omega) (by decide)) svX12_277 sh_128 (by decide) rfl rfl (Nat.le_of_ble_eq_true rfl) C dX12_layWorths_63 ?_
                    refine wp_nm (fun w6 e_w6 => ?_)
                    refine wp_istore (ls' := [(0, rv E 128), (1, iv k), (2, iv (n : Int)), (3, iv x3), (4, iv x4), (5, iv w5), (6, iv w6)]) [1, 2, 3, 4, 5, 6, 0] C dX12_layWorths_66 (by decide) rfl ?_
                    have hl5 := p8 hn8 (tkN_lt (c := x4.toNat) (w := 1))
                    have hl6 := p8 hn8 (tkN_lt (c := x4.toNat) (w := 2))
                    have hc5 : cntB w5 20 = cntB (tkN x4.toNat 1 n : Int) n := by rw [e_w5]; exact cntB_hi tkN_lt (by omega)
                    have hc6 : cntB w6 20 = cntB (tkN x4.toNat 2 n : Int) n := by rw [e_w6]; exact cntB_hi tkN_lt (by omega)
                    have hr5 := cntB_r w5 20
                    have hr6 := cntB_r w6 20
                    refine wp_iload 5 C dX12_layWorths_68 rfl ?_
                    refine wp_callSp (rest := []) (c_bits E hz w5 (by omega)) ssX12_177 (by decide) rfl rfl (Nat.le_of_ble_eq_true rfl) C dX12_layWorths_70 ?_
                    refine wp_iload 6 C dX12_layWorths_73 rfl ?_
                    refine wp_callSp (rest := [iv (cntB w5 20)]) (c_bits E hz w6 (by omega)) ssX12_177 (by decide) rfl rfl (Nat.le_of_ble_eq_true rfl) C dX12_layWorths_75 ?_
                    refine wp_iadd C dX12_layWorths_78 ?_
                    refine wp_iload_n 3 C dX12_layWorths_79 rfl rfl ?_
                    refine wp_icmp_ne (tgt := 156) (by omega) (by omega) C dX12_layWorths_80 (by decide) (fun c_80 => ?_) (fun c_80 => ?_)
                    · skip
                      obtain ⟨v2, e_v2⟩ : ∃ z : Int, z = x4 + (1) := ⟨_, rfl⟩
                      refine wp_iinc (j := 4) (y := v2) (ls' := [(0, rv E 128), (1, iv k), (2, iv (n : Int)), (3, iv x3), (4, iv v2), (5, iv w5), (6, iv w6)]) [1, 2, 3, 4, 0, 5, 6] C dX12_layWorths_156 rfl e_v2 (by decide) rfl ?_
                      refine wp_goto (tgt := 41) C dX12_layWorths_159 (by decide) ?_
                      refine wp_loc [0, 1, 2, 3, 4] rfl ?_
                      exact ih9_41 v2 hz (by omega) (fun c t hc hw9 h9 => hW2 c t hc hw9 (by rcases h9 with z | ⟨z1, z2⟩; exact Or.inl z; rcases (show c = x4.toNat ∨ c < x4.toNat by omega) with q | q; (have g1 := hw9.1; have g2 := hw9.2; rw [q] at g1 g2; exact absurd (show cntB w5 20 + cntB w6 20 = x3 by omega) c_80); exact Or.inr ⟨z1, q⟩)) (by omega) (by omega) (by omega)
                    · skip
                      refine wp_iload 5 C dX12_layWorths_83 rfl ?_
                      refine wp_callSp (rest := []) (c_bits E hz w5 (by omega)) ssX12_177 (by decide) rfl rfl (Nat.le_of_ble_eq_true rfl) C dX12_layWorths_85 ?_
                      refine wp_iload 6 C dX12_layWorths_88 rfl ?_
                      refine wp_callSp (rest := [iv (cntB w5 20)]) (c_bits E hz w6 (by omega)) ssX12_177 (by decide) rfl rfl (Nat.le_of_ble_eq_true rfl) C dX12_layWorths_90 ?_
                      refine wp_isub C dX12_layWorths_93 ?_
                      refine wp_iload_n 3 C dX12_layWorths_94 rfl rfl ?_
                      refine wp_iconst (v := 2) C dX12_layWorths_95 rfl ?_
                      refine wp_irem (by omega) (by omega) C dX12_layWorths_96 ?_
                      refine wp_top (show _ = x3 % 2 by rw [Int.tmod_eq_emod_of_nonneg (by omega)]) ?_
                      refine wp_icmp_ne (tgt := 156) (by omega) (by omega) C dX12_layWorths_97 (by decide) (fun c_97 => ?_) (fun c_97 => ?_)
                      · skip
                        obtain ⟨v3, e_v3⟩ : ∃ z : Int, z = x4 + (1) := ⟨_, rfl⟩
                        refine wp_iinc (j := 4) (y := v3) (ls' := [(0, rv E 128), (1, iv k), (2, iv (n : Int)), (3, iv x3), (4, iv v3), (5, iv w5), (6, iv w6)]) [1, 2, 3, 4, 0, 5, 6] C dX12_layWorths_156 rfl e_v3 (by decide) rfl ?_
                        refine wp_goto (tgt := 41) C dX12_layWorths_159 (by decide) ?_
                        refine wp_loc [0, 1, 2, 3, 4] rfl ?_
                        exact ih9_41 v3 hz (by omega) (fun c t hc hw9 h9 => hW2 c t hc hw9 (by rcases h9 with z | ⟨z1, z2⟩; exact Or.inl z; rcases (show c = x4.toNat ∨ c < x4.toNat by omega) with q | q; (have g1 := hw9.1; have g2 := hw9.2; rw [q] at g1 g2; exact absurd (show cntB w5 20 - cntB w6 20 = x3 % 2 by omega) c_97); exact Or.inr ⟨z1, q⟩)) (by omega) (by omega) (by omega)
                      · skip
                        have hwk : wkC n x4.toNat x3.toNat := ⟨by omega, by omega⟩
                        have q113 : ∀ (x7 : Int), (x7 = (otC n x4.toNat x3.toNat : Int)) → Wp G E 8 (fun v hx => v = none ∧ (∀ c t, c < 3 ^ n → wkC n c t → hx 145 c = wvC (tenT N p n k) n c t) ∧ (∀ a b, a ≠ 145 → a ≠ 146 → hx a b = h a b)) 113 [(0, rv E 128), (1, iv k), (2, iv (n : Int)), (3, iv x3), (4, iv x4), (5, iv w5), (6, iv w6)] [iv x7] hz := by
                          intro x7 h7
                          have hol : otC n x4.toNat x3.toNat < 2 ^ n := by unfold otC; split <;> exact tkN_lt
                          have hwl := hw3 _ hol
                          have hx7 : x7.toNat = otC n x4.toNat x3.toNat := by omega
                          rw [← hx7] at hwl
                          have hwl1 := hwl.1
                          refine wp_istore (ls' := [(0, rv E 128), (1, iv k), (2, iv (n : Int)), (3, iv x3), (4, iv x4), (5, iv w5), (6, iv w6), (7, iv x7)]) [1, 2, 3, 4, 5, 6, 7, 0] C dX12_layWorths_113 (by decide) rfl ?_
                          have q155 : ∀ (x : Int), (x = wvC (tenT N p n k) n x4.toNat x3.toNat) → Wp G E 8 (fun v hx => v = none ∧ (∀ c t, c < 3 ^ n → wkC n c t → hx 145 c = wvC (tenT N p n k) n c t) ∧ (∀ a b, a ≠ 145 → a ≠ 146 → hx a b = h a b)) 155 [(0, rv E 128), (1, iv k), (2, iv (n : Int)), (3, iv x3), (4, iv x4), (5, iv w5), (6, iv w6), (7, iv x7)] [iv x, iv x4, rv E 145] hz := by
                            intro x hv
                            refine wp_iast sh_145 (by omega) C dX12_layWorths_155 ?_
                            obtain ⟨H4, e_H4⟩ : ∃ z : Hp, z = upd2 hz 145 x4.toNat x := ⟨_, rfl⟩
                            refine wp_heq e_H4 ?_
                            obtain ⟨v5, e_v5⟩ : ∃ z : Int, z = x4 + (1) := ⟨_, rfl⟩
                            refine wp_iinc (j := 4) (y := v5) (ls' := [(0, rv E 128), (1, iv k), (2, iv (n : Int)), (3, iv x3), (4, iv v5), (5, iv w5), (6, iv w6), (7, iv x7)]) [1, 2, 3, 4, 0, 5, 6, 7] C dX12_layWorths_156 rfl e_v5 (by decide) rfl ?_
                            refine wp_goto (tgt := 41) C dX12_layWorths_159 (by decide) ?_
                            refine wp_loc [0, 1, 2, 3, 4] rfl ?_
                            exact ih9_41 v5 H4 (by omega) (fun c t hc hw9 h9 => by rw [e_H4]; unfold upd2; by_cases q : c = x4.toNat; rw [if_pos ⟨rfl, q⟩, hv, q]; rw [q] at hw9; rw [wk_t hwk hw9]; rw [if_neg (fun z => q z.2)]; exact hW2 c t hc hw9 (by omega)) (fun S hS => by rw [e_H4]; unfold upd2; rw [if_neg (fun z => absurd z.1 (by decide))]; exact hw3 S hS) (fun a b h1 h2 => by rw [e_H4]; unfold upd2; rw [if_neg (fun z => h1 z.1)]; exact hf3 a b h1 h2) (by omega)
                          refine wp_aloadR_n 0 C dX12_layWorths_115 rfl rfl ?_
                          refine wp_getR flX12_61 sh_128 rfl C dX12_layWorths_116 ?_
                          refine wp_iload 4 C dX12_layWorths_119 rfl ?_
                          refine wp_iload_n 3 C dX12_layWorths_121 rfl rfl ?_
                          refine wp_if_le (tgt := 139) (by omega) C dX12_layWorths_122 (by decide) (fun c_122 => ?_) (fun c_122 => ?_)
                          · skip
                            refine wp_iload_n 3 C dX12_layWorths_139 rfl rfl ?_
                            refine wp_iload_n 2 C dX12_layWorths_140 rfl rfl ?_
                            refine wp_icmp_ne (tgt := 148) (by omega) (by omega) C dX12_layWorths_141 (by decide) (fun c_141 => ?_) (fun c_141 => ?_)
                            · skip
                              refine wp_aloadR_n 0 C dX12_layWorths_148 rfl rfl ?_
                              refine wp_iload 4 C dX12_layWorths_149 rfl ?_
                              refine wp_iload_n 3 C dX12_layWorths_151 rfl rfl ?_
                              refine wp_callVp (rest := [iv x4, rv E 145]) (c_mbestOf E hz n p N Sc Cl Cs Mx hn8 (tenT N p n k) x4.toNat x3.toNat x4 x3 (by omega) (by omega) (by omega) hwk (by omega) (fun c9 h9 w9 => hW2 c9 _ h9 w9 (by omega))) svX12_280 sh_128 (by decide) rfl rfl (Nat.le_of_ble_eq_true rfl) C dX12_layWorths_152 ?_
                              exact q155 (vlT (tenT N p n k) n (n - x3.toNat) (owC n x4.toNat x3.toNat) (otC n x4.toNat x3.toNat)) (by unfold wvC; rw [if_neg (fun z => absurd z.1 (by omega))])
                            · skip
                              refine wp_iconst (v := 0) C dX12_layWorths_144 rfl ?_
                              refine wp_goto (tgt := 155) C dX12_layWorths_145 (by decide) ?_
                              exact q155 0 (by unfold wvC; rw [if_neg (fun z => absurd z.1 (by omega)), show n - x3.toNat = 0 by omega]; rfl)
                          · skip
                            refine wp_aloadR_n 0 C dX12_layWorths_125 rfl rfl ?_
                            refine wp_getR flX12_64 sh_128 rfl C dX12_layWorths_126 ?_
                            refine wp_iload 7 C dX12_layWorths_129 rfl ?_
                            refine wp_zald sh_146 (by omega) C dX12_layWorths_131 ?_
                            refine wp_if_eq (tgt := 139) (by omega) C dX12_layWorths_132 (by decide) (fun c_132 => ?_) (fun c_132 => ?_)
                            · skip
                              refine wp_iload_n 3 C dX12_layWorths_139 rfl rfl ?_
                              refine wp_iload_n 2 C dX12_layWorths_140 rfl rfl ?_
                              refine wp_icmp_ne (tgt := 148) (by omega) (by omega) C dX12_layWorths_141 (by decide) (fun c_141 => ?_) (fun c_141 => ?_)
                              · skip
                                refine wp_aloadR_n 0 C dX12_layWorths_148 rfl rfl ?_
                                refine wp_iload 4 C dX12_layWorths_149 rfl ?_
                                refine wp_iload_n 3 C dX12_layWorths_151 rfl rfl ?_
                                refine wp_callVp (rest := [iv x4, rv E 145]) (c_mbestOf E hz n p N Sc Cl Cs Mx hn8 (tenT N p n k) x4.toNat x3.toNat x4 x3 (by omega) (by omega) (by omega) hwk (by omega) (fun c9 h9 w9 => hW2 c9 _ h9 w9 (by omega))) svX12_280 sh_128 (by decide) rfl rfl (Nat.le_of_ble_eq_true rfl) C dX12_layWorths_152 ?_
                                exact q155 (vlT (tenT N p n k) n (n - x3.toNat) (owC n x4.toNat x3.toNat) (otC n x4.toNat x3.toNat)) (by unfold wvC; rw [if_neg (fun z => absurd (hwl.2.mpr (by rw [hx7]; exact z.2)) (by omega))])
                              · skip
                                refine wp_iconst (v := 0) C dX12_layWorths_144 rfl ?_
                                refine wp_goto (tgt := 155) C dX12_layWorths_145 (by decide) ?_
                                exact q155 0 (by unfold wvC; rw [if_neg (fun z => absurd (hwl.2.mpr (by rw [hx7]; exact z.2)) (by omega)), show n - x3.toNat = 0 by omega]; rfl)
                            · skip
                              refine wp_iconst (v := (-1)) C dX12_layWorths_135 rfl ?_
                              refine wp_goto (tgt := 155) C dX12_layWorths_136 (by decide) ?_
                              exact q155 (-1) (by unfold wvC; rw [if_pos ⟨by omega, by rw [← hx7]; exact hwl.2.mp (by omega)⟩])
                        refine wp_iload_n 3 C dX12_layWorths_100 rfl rfl ?_
                        refine wp_iconst (v := 2) C dX12_layWorths_101 rfl ?_
                        refine wp_irem (by omega) (by omega) C dX12_layWorths_102 ?_
                        refine wp_top (show _ = x3 % 2 by rw [Int.tmod_eq_emod_of_nonneg (by omega)]) ?_
                        refine wp_if_ne (tgt := 111) (by omega) C dX12_layWorths_103 (by decide) (fun c_103 => ?_) (fun c_103 => ?_)
                        · skip
                          refine wp_iload 5 C dX12_layWorths_111 rfl ?_
                          exact q113 w5 (by unfold otC; rw [if_neg (by omega)]; exact e_w5)
                        · skip
                          refine wp_iload 6 C dX12_layWorths_106 rfl ?_
                          refine wp_goto (tgt := 113) C dX12_layWorths_108 (by decide) ?_
                          exact q113 w6 (by unfold otC; rw [if_pos (by omega)]; exact e_w6)
              have q41 : ∀ (x4 : Int) (hz : Hp), (0 ≤ x4 ∧ x4 ≤ ((3 ^ n : Nat) : Int)) → (∀ c t : Nat, c < 3 ^ n → wkC n c t → (x3 < t ∨ ((t : Int) = x3 ∧ c < x4.toNat)) → hz 145 c = wvC (tenT N p n k) n c t) → (∀ S, S < 2 ^ n → (hz 146 S = 0 ∨ hz 146 S = 1) ∧ (hz 146 S = 1 ↔ (tenT N p n k) S = true)) → (∀ a b, a ≠ 145 → a ≠ 146 → hz a b = h a b) → Wp G E 8 (fun v hx => v = none ∧ (∀ c t, c < 3 ^ n → wkC n c t → hx 145 c = wvC (tenT N p n k) n c t) ∧ (∀ a b, a ≠ 145 → a ≠ 146 → hx a b = h a b)) 41 [(0, rv E 128), (1, iv k), (2, iv (n : Int)), (3, iv x3), (4, iv x4)] [] hz := fun x4 hz h4 hW2 hw3 hf3 => q410 _ x4 hz h4 hW2 hw3 hf3 (Nat.lt_succ_self _)
              exact q41 0 hy (by omega) (fun c t hc hw9 h9 => hW c t hc hw9 (by omega)) (hw2) (hf2)
        have q34 : ∀ (x3 : Int) (hy : Hp), (-1 ≤ x3 ∧ x3 ≤ n) → (∀ c t : Nat, c < 3 ^ n → wkC n c t → x3 < t → hy 145 c = wvC (tenT N p n k) n c t) → (∀ S, S < 2 ^ n → (hy 146 S = 0 ∨ hy 146 S = 1) ∧ (hy 146 S = 1 ↔ (tenT N p n k) S = true)) → (∀ a b, a ≠ 145 → a ≠ 146 → hy a b = h a b) → Wp G E 8 (fun v hx => v = none ∧ (∀ c t, c < 3 ^ n → wkC n c t → hx 145 c = wvC (tenT N p n k) n c t) ∧ (∀ a b, a ≠ 145 → a ≠ 146 → hx a b = h a b)) 34 [(0, rv E 128), (1, iv k), (2, iv (n : Int)), (3, iv x3)] [] hy := fun x3 hy h3 hW hw2 hf2 => q340 _ x3 hy h3 hW hw2 hf2 (Nat.lt_succ_self _)
        exact q34 (n : Int) hx (by omega) (fun c t hc hw9 h9 => absurd (wk_le hw9) (by omega)) (fun S hS => hw S (by omega)) (hf)
      · skip
        refine wp_aloadR_n 0 C dX12_layWorths_14 rfl rfl ?_
        refine wp_getR flX12_64 sh_128 rfl C dX12_layWorths_15 ?_
        refine wp_iload_n 3 C dX12_layWorths_18 rfl rfl ?_
        refine wp_aloadR_n 0 C dX12_layWorths_19 rfl rfl ?_
        refine wp_iload_n 3 C dX12_layWorths_20 rfl rfl ?_
        refine wp_iload_n 1 C dX12_layWorths_21 rfl rfl ?_
        refine wp_callVp (rest := [iv x3, rv E 146]) (c_hasLot E hx n p N Sc Cl Cs Mx hn8 k hk x3.toNat x3 (by omega) (by omega)) svX12_271 sh_128 (by decide) rfl rfl (Nat.le_of_ble_eq_true rfl) C dX12_layWorths_22 ?_
        refine wp_zast sh_146 (by omega) (by first | exact bi_01 | omega) C dX12_layWorths_25 ?_
        obtain ⟨H6, e_H6⟩ : ∃ z : Hp, z = upd2 hx 146 x3.toNat (bi ((tenT N p n k) x3.toNat = true)) := ⟨_, rfl⟩
        refine wp_heq e_H6 ?_
        obtain ⟨v7, e_v7⟩ : ∃ z : Int, z = x3 + (1) := ⟨_, rfl⟩
        refine wp_iinc (j := 3) (y := v7) (ls' := [(0, rv E 128), (1, iv k), (2, iv (n : Int)), (3, iv v7)]) [1, 2, 3, 0] C dX12_layWorths_26 rfl e_v7 (by decide) rfl ?_
        refine wp_goto (tgt := 7) C dX12_layWorths_29 (by decide) ?_
        exact ih9_7 v7 H6 (by omega) (fun S hS => by rw [e_H6]; unfold upd2; by_cases w : S = x3.toNat; rw [if_pos ⟨rfl, w⟩, w]; exact ⟨bi_01, bi_1⟩; rw [if_neg (fun z => w z.2)]; exact hw S (by omega)) (fun a b h1 h2 => by rw [e_H6]; unfold upd2; rw [if_neg (fun z => h2 z.1)]; exact hf a b h1 h2) (by omega)
  have q7 : ∀ (x3 : Int) (hx : Hp), (0 ≤ x3 ∧ x3 ≤ ((2 ^ n : Nat) : Int)) → (∀ S, S < x3.toNat → (hx 146 S = 0 ∨ hx 146 S = 1) ∧ (hx 146 S = 1 ↔ (tenT N p n k) S = true)) → (∀ a b, a ≠ 145 → a ≠ 146 → hx a b = h a b) → Wp G E 8 (fun v hx => v = none ∧ (∀ c t, c < 3 ^ n → wkC n c t → hx 145 c = wvC (tenT N p n k) n c t) ∧ (∀ a b, a ≠ 145 → a ≠ 146 → hx a b = h a b)) 7 [(0, rv E 128), (1, iv k), (2, iv (n : Int)), (3, iv x3)] [] hx := fun x3 hx h3 hw hf => q70 _ x3 hx h3 hw hf (Nat.lt_succ_self _)
  exact q7 0 h (by omega) (fun S hS => absurd hS (by omega)) (fun a b _ _ => rfl)

set_option maxRecDepth 100000 in
set_option maxHeartbeats 4000000 in
theorem m_turns (E : En) (h : Hp) (n : Nat) (p : Int) (N Sc Cl Cs : Nat → Int) (M0 : MH h n p N Sc Cl Cs) (k w : Int) (hk : -2147483648 ≤ k ∧ k ≤ 2147483647) (hw : -2147483648 ≤ w ∧ w ≤ 2147483647) : Ct 6 yX12_turns cX12_turns 4 (some .int) E [rv E 128, iv k, iv w] h (fun v hx => v = some (iv (turS N p n k w)) ∧ (∀ a b, a ≠ 145 → a ≠ 146 → hx a b = h a b)) := by
  obtain ⟨m0, m1, m2, m3, mN, mS, mC, mK⟩ := id M0
  have Mx := M0
  refine ct_intro (by decide) (Nat.le_of_ble_eq_true rfl) (fun G C => ?_)
  show Wp G E 4 (fun v hx => v = some (iv (turS N p n k w)) ∧ (∀ a b, a ≠ 145 → a ≠ 146 → hx a b = h a b)) 0 [(0, rv E 128), (1, iv k), (2, iv w)] [] h
  refine wp_iload_n 1 C dX12_turns_0 rfl rfl ?_
  refine wp_callSp (rest := []) (c_misSize E h k (by omega)) ssX12_198 (by decide) rfl rfl (Nat.le_of_ble_eq_true rfl) C dX12_turns_1 ?_
  refine wp_ifb_eq (tgt := 17) C dX12_turns_4 (by decide) (fun c_4 => ?_) (fun c_4 => ?_)
  · skip
    refine wp_bipush (v := (-3)) C dX12_turns_17 rfl ?_
    refine wp_iret C dX12_turns_19 ?_
    exact ⟨by unfold turS; rw [if_pos (by omega)], fun _ _ _ _ => rfl⟩
  · skip
    refine wp_iload_n 2 C dX12_turns_7 rfl rfl ?_
    refine wp_i2l (by omega) C dX12_turns_8 ?_
    refine wp_lconst (v := 0) C dX12_turns_9 rfl ?_
    refine wp_lconst (v := 1) C dX12_turns_10 rfl ?_
    refine wp_callSp (rest := []) (c_in E h w 0 1 (by omega) (by omega) (by omega)) ssX12_69 (by decide) rfl rfl (Nat.le_of_ble_eq_true rfl) C dX12_turns_11 ?_
    refine wp_ifb_ne (tgt := 20) C dX12_turns_14 (by decide) (fun c_14 => ?_) (fun c_14 => ?_)
    · skip
      refine wp_aloadR_n 0 C dX12_turns_20 rfl rfl ?_
      refine wp_callVp (rest := []) (c_heaps E h n p N Sc Cl Cs Mx) svX12_141 sh_128 (by decide) rfl rfl (Nat.le_of_ble_eq_true rfl) C dX12_turns_21 ?_
      refine wp_bipush (v := 8) C dX12_turns_24 rfl ?_
      refine wp_icmp_le (tgt := 32) (by omega) (by omega) C dX12_turns_26 (by decide) (fun c_26 => ?_) (fun c_26 => ?_)
      · skip
        refine wp_aloadR_n 0 C dX12_turns_32 rfl rfl ?_
        refine wp_iload_n 1 C dX12_turns_33 rfl rfl ?_
        refine wp_callV (rest := []) (c_layWorths E h n p N Sc Cl Cs M0 (by omega) k (by omega)) svX12_283 sh_128 (by decide) rfl rfl (Nat.le_of_ble_eq_true rfl) C dX12_turns_34 (fun r0 hx pf => ?_)
        obtain ⟨rfl, hW, hf⟩ := pf
        have Mx : MH hx n p N Sc Cl Cs := M0.of (fun b => ⟨hf _ _ (by decide) (by decide), hf _ _ (by decide) (by decide), hf _ _ (by decide) (by decide)⟩)
        have h00 : hx 145 0 = vlT (tenT N p n k) n n 0 0 := by rw [hW 0 0 (Nat.pow_pos (by decide)) wk_0, wv_0]
        have hvr := vlT_r (T := (tenT N p n k)) (n := n) n 0 0
        refine wp_iload_n 2 C dX12_turns_37 rfl rfl ?_
        refine wp_if_ne (tgt := 50) (by omega) C dX12_turns_38 (by decide) (fun c_38 => ?_) (fun c_38 => ?_)
        · skip
          refine wp_iconst (v := 0) C dX12_turns_50 rfl ?_
          refine wp_istore_n (ls' := [(0, rv E 128), (1, iv k), (2, iv w), (3, iv 0)]) [1, 2, 3, 0] C dX12_turns_51 rfl (by decide) rfl ?_
          have q520 : ∀ n9 : Nat, ∀ (x3 : Int), (0 ≤ x3 ∧ x3 ≤ n) → (∀ j, j < x3.toNat → decide (gT (tenT N p n k) n (n - 1) 0 0 j = vlT (tenT N p n k) n n 0 0) = false) → ((n : Int) - x3).toNat < n9 → Wp G E 4 (fun v hx => v = some (iv (turS N p n k w)) ∧ (∀ a b, a ≠ 145 → a ≠ 146 → hx a b = h a b)) 52 [(0, rv E 128), (1, iv k), (2, iv w), (3, iv x3)] [] hx := by
            intro n9
            induction n9 with
            | zero => intro x3 h3 hno hm9; exact absurd hm9 (Nat.not_lt_zero _)
            | succ n9 ih9 =>
              intro x3 h3 hno hm9
              have ih9_52 := ih9
              refine wp_iload_n 3 C dX12_turns_52 rfl rfl ?_
              refine wp_aloadR_n 0 C dX12_turns_53 rfl rfl ?_
              refine wp_callVp (rest := [iv x3]) (c_heaps E hx n p N Sc Cl Cs Mx) svX12_141 sh_128 (by decide) rfl rfl (Nat.le_of_ble_eq_true rfl) C dX12_turns_54 ?_
              refine wp_icmp_ge (tgt := 87) (by omega) (by omega) C dX12_turns_57 (by decide) (fun c_57 => ?_) (fun c_57 => ?_)
              · skip
                refine wp_iconst (v := (-1)) C dX12_turns_87 rfl ?_
                refine wp_iret C dX12_turns_88 ?_
                exact ⟨by unfold turS; rw [if_neg (by omega), if_neg (by omega), if_neg (by omega), firstI_none (fun j hj => hno j (by omega))], hf⟩
              · skip
                have h1n := wv_1 (T := (tenT N p n k)) (show x3.toNat < n by omega)
                have h1w := hW _ _ h1n.1 h1n.2.1
                have h8n := t8 (n := n) (by omega)
                have hpu : 0 < 3 ^ x3.toNat := Nat.pow_pos (by decide)
                have hgr := gT_r (T := (tenT N p n k)) (n := n) (f := n - 1) (own := 0) (oth := 0) x3.toNat
                refine wp_aloadR_n 0 C dX12_turns_60 rfl rfl ?_
                refine wp_getR flX12_61 sh_128 rfl C dX12_turns_61 ?_
                refine wp_iload_n 3 C dX12_turns_64 rfl rfl ?_
                refine wp_callSp (rest := [rv E 145]) (c_unitOf E hx x3 (by omega)) ssX12_274 (by decide) rfl rfl (Nat.le_of_ble_eq_true rfl) C dX12_turns_65 ?_
                refine wp_iald sh_145 (by omega) C dX12_turns_68 ?_
                refine wp_top (show _ = hx 145 (3 ^ x3.toNat) by rw [Int.toNat_natCast]) ?_
                refine wp_ineg C dX12_turns_69 ?_
                refine wp_top (show _ = gT (tenT N p n k) n (n - 1) 0 0 x3.toNat by rw [h1w]; exact h1n.2.2) ?_
                refine wp_aloadR_n 0 C dX12_turns_70 rfl rfl ?_
                refine wp_getR flX12_61 sh_128 rfl C dX12_turns_71 ?_
                refine wp_iconst (v := 0) C dX12_turns_74 rfl ?_
                refine wp_iald sh_145 (by omega) C dX12_turns_75 ?_
                refine wp_top (show _ = hx 145 0 from rfl) ?_
                refine wp_icmp_ne (tgt := 81) (by omega) (by omega) C dX12_turns_76 (by decide) (fun c_76 => ?_) (fun c_76 => ?_)
                · skip
                  obtain ⟨v1, e_v1⟩ : ∃ z : Int, z = x3 + (1) := ⟨_, rfl⟩
                  refine wp_iinc (j := 3) (y := v1) (ls' := [(0, rv E 128), (1, iv k), (2, iv w), (3, iv v1)]) [1, 2, 3, 0] C dX12_turns_81 rfl e_v1 (by decide) rfl ?_
                  refine wp_goto (tgt := 52) C dX12_turns_84 (by decide) ?_
                  exact ih9_52 v1 (by omega) (fun j hj => by rw [e_v1, show (x3 + 1).toNat = x3.toNat + 1 by omega] at hj; rcases (show j < x3.toNat ∨ j = x3.toNat by omega) with q | rfl; exact hno j q; exact decide_eq_false (by rw [← h00]; exact c_76)) (by omega)
                · skip
                  refine wp_iload_n 3 C dX12_turns_79 rfl rfl ?_
                  refine wp_iret C dX12_turns_80 ?_
                  exact ⟨by unfold turS; rw [if_neg (by omega), if_neg (by omega), if_neg (by omega), firstI_some (i := x3.toNat) (by omega) (decide_eq_true (by rw [← h00]; exact c_76)) hno, show ((x3.toNat : Nat) : Int) = x3 by omega], hf⟩
          have q52 : ∀ (x3 : Int), (0 ≤ x3 ∧ x3 ≤ n) → (∀ j, j < x3.toNat → decide (gT (tenT N p n k) n (n - 1) 0 0 j = vlT (tenT N p n k) n n 0 0) = false) → Wp G E 4 (fun v hx => v = some (iv (turS N p n k w)) ∧ (∀ a b, a ≠ 145 → a ≠ 146 → hx a b = h a b)) 52 [(0, rv E 128), (1, iv k), (2, iv w), (3, iv x3)] [] hx := fun x3 h3 hno => q520 _ x3 h3 hno (Nat.lt_succ_self _)
          exact q52 0 (by omega) (fun j hj => absurd hj (by omega))
        · skip
          refine wp_aloadR_n 0 C dX12_turns_41 rfl rfl ?_
          refine wp_getR flX12_61 sh_128 rfl C dX12_turns_42 ?_
          refine wp_iconst (v := 0) C dX12_turns_45 rfl ?_
          refine wp_iald sh_145 (by omega) C dX12_turns_46 ?_
          refine wp_top (show _ = hx 145 0 from rfl) ?_
          refine wp_iconst (v := 1) C dX12_turns_47 rfl ?_
          refine wp_iadd C dX12_turns_48 ?_
          refine wp_iret C dX12_turns_49 ?_
          exact ⟨by unfold turS; rw [if_neg (by omega), if_neg (by omega), if_pos (by omega), h00], hf⟩
      · skip
        refine wp_bipush (v := (-4)) C dX12_turns_29 rfl ?_
        refine wp_iret C dX12_turns_31 ?_
        exact ⟨by unfold turS; rw [if_neg (by omega), if_pos (by omega)], fun _ _ _ _ => rfl⟩
    · skip
      refine wp_bipush (v := (-3)) C dX12_turns_17 rfl ?_
      refine wp_iret C dX12_turns_19 ?_
      exact ⟨by unfold turS; rw [if_pos (by omega)], fun _ _ _ _ => rfl⟩


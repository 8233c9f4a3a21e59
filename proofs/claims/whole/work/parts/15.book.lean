/-! ===== Book; EvenTen: write, erase, heap, rest, mends, swap, sale, burn, keep, back, count ===== -/
def enterH (h : Hp) (lot : Int) : Hp := upd2 (upd2 h 22 (h 21 1).toNat lot) 21 1 (h 21 1 + 1)
set_option maxRecDepth 100000 in
set_option maxHeartbeats 4000000 in
theorem c_enter (E : En) (h : Hp) (lot : Int) (hb : 0 ≤ h 21 1 ∧ h 21 1 ≤ 12) : Ct 0 yX1_enter cX1_enter 2 (some .boolean) E [rv E 21, iv lot] h (Upd (some (iv (bi (h 21 1 < 12)))) (if h 21 1 < 12 then enterH h lot else h)) := by
  refine ct_intro (by decide) (Nat.le_of_ble_eq_true rfl) (fun G C => ?_)
  show Wp G E 2 (Upd (some (iv (bi (h 21 1 < 12)))) (if h 21 1 < 12 then enterH h lot else h)) 0 [(0, rv E 21), (1, iv lot)] [] h
  refine wp_aloadR_n 0 C dX1_enter_0 rfl rfl ?_
  refine wp_getI flX1_15 sh_21 rfl C dX1_enter_1 ?_
  refine wp_bipush (v := 12) C dX1_enter_4 rfl ?_
  refine wp_icmp_lt (tgt := 11) (by omega) (by omega) C dX1_enter_6 (by decide) (fun c_6 => ?_) (fun c_6 => ?_)
  · skip
    refine wp_aloadR_n 0 C dX1_enter_11 rfl rfl ?_
    refine wp_getR flX1_9 sh_21 rfl C dX1_enter_12 ?_
    refine wp_aloadR_n 0 C dX1_enter_15 rfl rfl ?_
    refine wp_getI flX1_15 sh_21 rfl C dX1_enter_16 ?_
    refine wp_iload_n 1 C dX1_enter_19 rfl rfl ?_
    refine wp_iast sh_22 (by omega) C dX1_enter_20 ?_
    obtain ⟨H1, e_H1⟩ : ∃ z : Hp, z = upd2 h 22 (h 21 1).toNat lot := ⟨_, rfl⟩
    refine wp_heq e_H1 ?_
    refine wp_aloadR_n 0 C dX1_enter_21 rfl rfl ?_
    refine wp_dup rfl C dX1_enter_22 ?_
    refine wp_getI flX1_15 sh_21 rfl C dX1_enter_23 ?_
    refine wp_top (rdu_ne e_H1 (by decide)) ?_
    refine wp_iconst (v := 1) C dX1_enter_26 rfl ?_
    refine wp_iadd C dX1_enter_27 ?_
    refine wp_putI fpX1_15 sh_21 rfl C dX1_enter_28 ?_
    obtain ⟨H2, e_H2⟩ : ∃ z : Hp, z = upd2 H1 21 1 ((h 21 1) + 1) := ⟨_, rfl⟩
    refine wp_heq e_H2 ?_
    refine wp_iconst (v := 1) C dX1_enter_31 rfl ?_
    refine wp_zret (by first | exact bi_01 | omega) C dX1_enter_32 ?_
    exact upd_i (bi_t (by omega)).symm (by rw [if_pos (by omega)]; subst_vars; simp [enterH, upd2])
  · skip
    refine wp_iconst (v := 0) C dX1_enter_9 rfl ?_
    refine wp_zret (by first | exact bi_01 | omega) C dX1_enter_10 ?_
    exact upd_i (bi_f (by omega)).symm (by rw [if_neg (by omega)])

def saveH (h : Hp) (k : Int) : Hp := upd2 (cpH h 22 (24 + k.toNat) 0 0 (h 21 1)) 26 k.toNat (h 21 1)
set_option maxRecDepth 100000 in
set_option maxHeartbeats 4000000 in
theorem c_save (E : En) (h : Hp) (k : Int) (hk : 0 ≤ k ∧ k ≤ 1) (hb : 0 ≤ h 21 1 ∧ h 21 1 ≤ 12) : Ct 1 yX1_save cX1_save 2 none E [rv E 21, iv k] h (Upd none (saveH h k)) := by
  refine ct_intro (by decide) (Nat.le_of_ble_eq_true rfl) (fun G C => ?_)
  show Wp G E 2 (Upd none (saveH h k)) 0 [(0, rv E 21), (1, iv k)] [] h
  refine wp_aloadR_n 0 C dX1_save_0 rfl rfl ?_
  refine wp_getR flX1_9 sh_21 rfl C dX1_save_1 ?_
  refine wp_iconst (v := 0) C dX1_save_4 rfl ?_
  refine wp_aloadR_n 0 C dX1_save_5 rfl rfl ?_
  refine wp_getR flX1_21 sh_21 rfl C dX1_save_6 ?_
  refine wp_iload_n 1 C dX1_save_9 rfl rfl ?_
  refine wp_aald sh_23 (Or.inl ⟨rfl, rfl, rfl⟩) (by omega) C dX1_save_10 ?_
  refine wp_iconst (v := 0) C dX1_save_11 rfl ?_
  refine wp_aloadR_n 0 C dX1_save_12 rfl rfl ?_
  refine wp_getI flX1_15 sh_21 rfl C dX1_save_13 ?_
  refine wp_copyI cwX1_27 sh_22 (shr_24 (by omega)) (by omega) (Nat.le_of_ble_eq_true rfl) (by decide) C dX1_save_16 ?_
  obtain ⟨H1, e_H1⟩ : ∃ z : Hp, z = cpH h 22 (24 + k.toNat) 0 0 (h 21 1) := ⟨_, rfl⟩
  refine wp_heq e_H1 ?_
  refine wp_aloadR_n 0 C dX1_save_19 rfl rfl ?_
  refine wp_getR flX1_24 sh_21 rfl C dX1_save_20 ?_
  refine wp_iload_n 1 C dX1_save_23 rfl rfl ?_
  refine wp_aloadR_n 0 C dX1_save_24 rfl rfl ?_
  refine wp_getI flX1_15 sh_21 rfl C dX1_save_25 ?_
  refine wp_top (rdc_ne e_H1 (by omega)) ?_
  refine wp_iast sh_26 (by omega) C dX1_save_28 ?_
  obtain ⟨H2, e_H2⟩ : ∃ z : Hp, z = upd2 H1 26 k.toNat (h 21 1) := ⟨_, rfl⟩
  refine wp_heq e_H2 ?_
  refine wp_vret C dX1_save_29 ?_
  exact upd_e (by subst_vars; rfl)

def restoreH (h : Hp) (k : Int) : Hp := cpH (upd2 h 21 1 (h 26 k.toNat)) (24 + k.toNat) 22 0 0 (h 26 k.toNat)
set_option maxRecDepth 100000 in
set_option maxHeartbeats 4000000 in
theorem c_restore (E : En) (h : Hp) (k : Int) (hk : 0 ≤ k ∧ k ≤ 1) (hs : -1 ≤ h 26 k.toNat ∧ h 26 k.toNat ≤ 12) : Ct 1 yX1_restore cX1_restore 2 (some .boolean) E [rv E 21, iv k] h (Upd (some (iv (bi (h 26 k.toNat ≠ -1)))) (if h 26 k.toNat ≠ -1 then restoreH h k else h)) := by
  refine ct_intro (by decide) (Nat.le_of_ble_eq_true rfl) (fun G C => ?_)
  show Wp G E 2 (Upd (some (iv (bi (h 26 k.toNat ≠ -1)))) (if h 26 k.toNat ≠ -1 then restoreH h k else h)) 0 [(0, rv E 21), (1, iv k)] [] h
  refine wp_aloadR_n 0 C dX1_restore_0 rfl rfl ?_
  refine wp_getR flX1_24 sh_21 rfl C dX1_restore_1 ?_
  refine wp_iload_n 1 C dX1_restore_4 rfl rfl ?_
  refine wp_iald sh_26 (by omega) C dX1_restore_5 ?_
  refine wp_iconst (v := (-1)) C dX1_restore_6 rfl ?_
  refine wp_icmp_ne (tgt := 12) (by omega) (by omega) C dX1_restore_7 (by decide) (fun c_7 => ?_) (fun c_7 => ?_)
  · skip
    refine wp_aloadR_n 0 C dX1_restore_12 rfl rfl ?_
    refine wp_aloadR_n 0 C dX1_restore_13 rfl rfl ?_
    refine wp_getR flX1_24 sh_21 rfl C dX1_restore_14 ?_
    refine wp_iload_n 1 C dX1_restore_17 rfl rfl ?_
    refine wp_iald sh_26 (by omega) C dX1_restore_18 ?_
    refine wp_putI fpX1_15 sh_21 rfl C dX1_restore_19 ?_
    obtain ⟨H1, e_H1⟩ : ∃ z : Hp, z = upd2 h 21 1 (h 26 k.toNat) := ⟨_, rfl⟩
    refine wp_heq e_H1 ?_
    refine wp_aloadR_n 0 C dX1_restore_22 rfl rfl ?_
    refine wp_getR flX1_21 sh_21 rfl C dX1_restore_23 ?_
    refine wp_iload_n 1 C dX1_restore_26 rfl rfl ?_
    refine wp_aald sh_23 (Or.inl ⟨rfl, rfl, rfl⟩) (by omega) C dX1_restore_27 ?_
    refine wp_iconst (v := 0) C dX1_restore_28 rfl ?_
    refine wp_aloadR_n 0 C dX1_restore_29 rfl rfl ?_
    refine wp_getR flX1_9 sh_21 rfl C dX1_restore_30 ?_
    refine wp_iconst (v := 0) C dX1_restore_33 rfl ?_
    refine wp_aloadR_n 0 C dX1_restore_34 rfl rfl ?_
    refine wp_getI flX1_15 sh_21 rfl C dX1_restore_35 ?_
    refine wp_top (rdu_eq e_H1) ?_
    refine wp_copyI cwX1_27 (shr_24 (by omega)) sh_22 (by omega) (Nat.le_of_ble_eq_true rfl) (by decide) C dX1_restore_38 ?_
    obtain ⟨H2, e_H2⟩ : ∃ z : Hp, z = cpH H1 (24 + k.toNat) 22 0 0 (h 26 k.toNat) := ⟨_, rfl⟩
    refine wp_heq e_H2 ?_
    refine wp_iconst (v := 1) C dX1_restore_41 rfl ?_
    refine wp_zret (by first | exact bi_01 | omega) C dX1_restore_42 ?_
    exact upd_i (bi_t (by omega)).symm (by rw [if_pos (by omega)]; subst_vars; rfl)
  · skip
    refine wp_iconst (v := 0) C dX1_restore_10 rfl ?_
    refine wp_zret (by first | exact bi_01 | omega) C dX1_restore_11 ?_
    exact upd_i (bi_f (by omega)).symm (by rw [if_neg (by omega)])

set_option maxRecDepth 100000 in
set_option maxHeartbeats 4000000 in
theorem c_forget (E : En) (h : Hp)  : Ct 1 yX1_forget cX1_forget 1 none E [rv E 21] h (Upd none (fillH (upd2 h 21 1 0) 26 0 2 (-1))) := by
  refine ct_intro (by decide) (Nat.le_of_ble_eq_true rfl) (fun G C => ?_)
  show Wp G E 1 (Upd none (fillH (upd2 h 21 1 0) 26 0 2 (-1))) 0 [(0, rv E 21)] [] h
  refine wp_aloadR_n 0 C dX1_forget_0 rfl rfl ?_
  refine wp_iconst (v := 0) C dX1_forget_1 rfl ?_
  refine wp_putI fpX1_15 sh_21 rfl C dX1_forget_2 ?_
  obtain ⟨H1, e_H1⟩ : ∃ z : Hp, z = upd2 h 21 1 0 := ⟨_, rfl⟩
  refine wp_heq e_H1 ?_
  refine wp_aloadR_n 0 C dX1_forget_5 rfl rfl ?_
  refine wp_getR flX1_24 sh_21 rfl C dX1_forget_6 ?_
  refine wp_iconst (v := (-1)) C dX1_forget_9 rfl ?_
  refine wp_callSu (rest := []) (c_fillI E H1 26 2 sh_26 (-1)) ssX1_33 (by decide) rfl rfl (Nat.le_of_ble_eq_true rfl) C dX1_forget_10 ?_
  show Wp G E 1 (Upd none (fillH (upd2 h 21 1 0) 26 0 2 (-1))) 13 [(0, rv E 21)] [] (fillH H1 26 0 2 (-1))
  obtain ⟨H2, e_H2⟩ : ∃ z : Hp, z = fillH H1 26 0 2 (-1) := ⟨_, rfl⟩
  refine wp_heq e_H2 ?_
  refine wp_vret C dX1_forget_13 ?_
  exact upd_e (by subst_vars; rfl)

set_option maxRecDepth 100000 in
set_option maxHeartbeats 4000000 in
theorem x_write (E : En) (h : Hp) (b n : Int) (hb : -9223372036854775808 ≤ b ∧ b ≤ 9223372036854775807) (hn : -2147483648 ≤ n ∧ n ≤ 2147483647) (hl : 0 ≤ h 6 1 ∧ h 6 1 ≤ 200) : Ct 2 yX11_write cX11_write 4 (some .int) E [rv E 0, jv b, iv n] h (Upd (some (iv (if ¬ (1 ≤ n ∧ n ≤ 8) then -3 else if h 6 1 + n ≤ 200 then h 6 1 + n else -5))) (if ¬ (1 ≤ n ∧ n ≤ 8) then h else if h 6 1 + n ≤ 200 then putH h b n else h)) := by
  refine ct_intro (by decide) (Nat.le_of_ble_eq_true rfl) (fun G C => ?_)
  show Wp G E 4 (Upd (some (iv (if ¬ (1 ≤ n ∧ n ≤ 8) then -3 else if h 6 1 + n ≤ 200 then h 6 1 + n else -5))) (if ¬ (1 ≤ n ∧ n ≤ 8) then h else if h 6 1 + n ≤ 200 then putH h b n else h)) 0 [(0, rv E 0), (1, jv b), (3, iv n)] [] h
  refine wp_iload_n 2 C dX11_write_0 rfl rfl ?_
  refine wp_iconst (v := 1) C dX11_write_1 rfl ?_
  refine wp_bipush (v := 8) C dX11_write_2 rfl ?_
  refine wp_callSp (rest := []) (c_within E h n 1 8 (by omega) (by omega) (by omega)) ssX11_92 (by decide) rfl rfl (Nat.le_of_ble_eq_true rfl) C dX11_write_4 ?_
  refine wp_ifb_ne (tgt := 13) C dX11_write_7 (by decide) (fun c_7 => ?_) (fun c_7 => ?_)
  · skip
    refine wp_aloadR_n 0 C dX11_write_13 rfl rfl ?_
    refine wp_getR flX11_19 sh_0 rfl C dX11_write_14 ?_
    refine wp_lload_n 1 C dX11_write_17 rfl rfl ?_
    refine wp_iload_n 2 C dX11_write_18 rfl rfl ?_
    refine wp_callVu (rest := []) (c_put E h b n hb (by omega) (by omega)) svX11_96 sh_6 (by decide) rfl rfl (Nat.le_of_ble_eq_true rfl) C dX11_write_19 ?_
    show Wp G E 4 (Upd (some (iv (if ¬ (1 ≤ n ∧ n ≤ 8) then -3 else if h 6 1 + n ≤ 200 then h 6 1 + n else -5))) (if ¬ (1 ≤ n ∧ n ≤ 8) then h else if h 6 1 + n ≤ 200 then putH h b n else h)) 22 [(0, rv E 0), (1, jv b), (3, iv n)] [iv (bi (h 6 1 + n ≤ 200))] (if h 6 1 + n ≤ 200 then putH h b n else h)
    obtain ⟨H1, e_H1⟩ : ∃ z : Hp, z = if h 6 1 + n ≤ 200 then putH h b n else h := ⟨_, rfl⟩
    refine wp_heq e_H1 ?_
    refine wp_ifb_eq (tgt := 35) C dX11_write_22 (by decide) (fun c_22 => ?_) (fun c_22 => ?_)
    · skip
      refine wp_bipush (v := (-5)) C dX11_write_35 rfl ?_
      refine wp_iret C dX11_write_37 ?_
      exact upd_i (by rw [if_neg (by omega), if_neg (by omega)]) (by rw [if_neg (by omega)]; exact e_H1)
    · skip
      refine wp_aloadR_n 0 C dX11_write_25 rfl rfl ?_
      refine wp_getR flX11_19 sh_0 rfl C dX11_write_26 ?_
      refine wp_getI flX11_100 sh_6 rfl C dX11_write_29 ?_
      refine wp_goto (tgt := 37) C dX11_write_32 (by decide) ?_
      refine wp_iret C dX11_write_37 ?_
      exact upd_i (by rw [if_neg (by omega), if_pos (by omega)]; rw [if_pos (by omega)] at e_H1; rw [e_H1]; simp [putH, upd2]) (by rw [if_neg (by omega)]; exact e_H1)
  · skip
    refine wp_bipush (v := (-3)) C dX11_write_10 rfl ?_
    refine wp_iret C dX11_write_12 ?_
    exact upd_i (by rw [if_pos (by omega)]) (by rw [if_pos (by omega)])

set_option maxRecDepth 100000 in
set_option maxHeartbeats 4000000 in
theorem x_erase (E : En) (h : Hp)  : Ct 0 yX11_erase cX11_erase 2 (some .int) E [rv E 0] h (Upd (some (iv (h 6 1))) (upd2 h 6 1 0)) := by
  refine ct_intro (by decide) (Nat.le_of_ble_eq_true rfl) (fun G C => ?_)
  show Wp G E 2 (Upd (some (iv (h 6 1))) (upd2 h 6 1 0)) 0 [(0, rv E 0)] [] h
  refine wp_aloadR_n 0 C dX11_erase_0 rfl rfl ?_
  refine wp_getR flX11_19 sh_0 rfl C dX11_erase_1 ?_
  refine wp_getI flX11_100 sh_6 rfl C dX11_erase_4 ?_
  refine wp_nm (fun v1 e_v1 => ?_)
  refine wp_istore_n (ls' := [(0, rv E 0), (1, iv v1)]) [1, 0] C dX11_erase_7 rfl (by decide) rfl ?_
  refine wp_aloadR_n 0 C dX11_erase_8 rfl rfl ?_
  refine wp_getR flX11_19 sh_0 rfl C dX11_erase_9 ?_
  refine wp_iconst (v := 0) C dX11_erase_12 rfl ?_
  refine wp_putI fpX11_100 sh_6 rfl C dX11_erase_13 ?_
  obtain ⟨H2, e_H2⟩ : ∃ z : Hp, z = upd2 h 6 1 0 := ⟨_, rfl⟩
  refine wp_heq e_H2 ?_
  refine wp_iload_n 1 C dX11_erase_16 rfl rfl ?_
  refine wp_iret C dX11_erase_17 ?_
  exact upd_i (by omega) (by subst_vars; rfl)

set_option maxRecDepth 100000 in
set_option maxHeartbeats 4000000 in
theorem x_burn (E : En) (h : Hp)  : Ct 0 yX11_burn cX11_burn 2 (some .int) E [rv E 0] h (Upd (some (iv (h 21 1))) (upd2 h 21 1 0)) := by
  refine ct_intro (by decide) (Nat.le_of_ble_eq_true rfl) (fun G C => ?_)
  show Wp G E 2 (Upd (some (iv (h 21 1))) (upd2 h 21 1 0)) 0 [(0, rv E 0)] [] h
  refine wp_aloadR_n 0 C dX11_burn_0 rfl rfl ?_
  refine wp_getR flX11_35 sh_0 rfl C dX11_burn_1 ?_
  refine wp_getI flX11_237 sh_21 rfl C dX11_burn_4 ?_
  refine wp_nm (fun v1 e_v1 => ?_)
  refine wp_istore_n (ls' := [(0, rv E 0), (1, iv v1)]) [1, 0] C dX11_burn_7 rfl (by decide) rfl ?_
  refine wp_aloadR_n 0 C dX11_burn_8 rfl rfl ?_
  refine wp_getR flX11_35 sh_0 rfl C dX11_burn_9 ?_
  refine wp_iconst (v := 0) C dX11_burn_12 rfl ?_
  refine wp_putI fpX11_237 sh_21 rfl C dX11_burn_13 ?_
  obtain ⟨H2, e_H2⟩ : ∃ z : Hp, z = upd2 h 21 1 0 := ⟨_, rfl⟩
  refine wp_heq e_H2 ?_
  refine wp_iload_n 1 C dX11_burn_16 rfl rfl ?_
  refine wp_iret C dX11_burn_17 ?_
  exact upd_i (by omega) (by subst_vars; rfl)

set_option maxRecDepth 100000 in
set_option maxHeartbeats 4000000 in
theorem x_count (E : En) (h : Hp) (w : Int) (hw : -2147483648 ≤ w ∧ w ≤ 2147483647) : Ct 0 yX11_count cX11_count 2 (some .int) E [rv E 0, iv w] h (Ret (iv (if w = 0 then h 1 4 else if w = 1 then h 1 5 else if w = 2 then h 6 1 else if w = 3 then h 21 1 else -3)) h) := by
  refine ct_intro (by decide) (Nat.le_of_ble_eq_true rfl) (fun G C => ?_)
  show Wp G E 2 (Ret (iv (if w = 0 then h 1 4 else if w = 1 then h 1 5 else if w = 2 then h 6 1 else if w = 3 then h 21 1 else -3)) h) 0 [(0, rv E 0), (1, iv w)] [] h
  refine wp_iload_n 1 C dX11_count_0 rfl rfl ?_
  by_cases c_1_0 : w = 0
  · refine wp_tswIn (tgt := 32) (by omega) C dX11_count_1 (by omega) (by omega) (by rw [c_1_0]; rfl) (by decide) ?_
    refine wp_aloadR_n 0 C dX11_count_32 rfl rfl ?_
    refine wp_getR flX11_10 sh_0 rfl C dX11_count_33 ?_
    refine wp_getI flX11_104 sh_1 rfl C dX11_count_36 ?_
    refine wp_iret C dX11_count_39 ?_
    exact ret_iv (by first | (subst c_1_0; rfl) | (subst c_1_1; rfl) | (subst c_1_2; rfl) | (subst c_1_3; rfl) | (rw [if_neg (by omega), if_neg (by omega), if_neg (by omega), if_neg (by omega)]))
  by_cases c_1_1 : w = 1
  · refine wp_tswIn (tgt := 40) (by omega) C dX11_count_1 (by omega) (by omega) (by rw [c_1_1]; rfl) (by decide) ?_
    refine wp_aloadR_n 0 C dX11_count_40 rfl rfl ?_
    refine wp_getR flX11_10 sh_0 rfl C dX11_count_41 ?_
    refine wp_getI flX11_180 sh_1 rfl C dX11_count_44 ?_
    refine wp_iret C dX11_count_47 ?_
    exact ret_iv (by first | (subst c_1_0; rfl) | (subst c_1_1; rfl) | (subst c_1_2; rfl) | (subst c_1_3; rfl) | (rw [if_neg (by omega), if_neg (by omega), if_neg (by omega), if_neg (by omega)]))
  by_cases c_1_2 : w = 2
  · refine wp_tswIn (tgt := 48) (by omega) C dX11_count_1 (by omega) (by omega) (by rw [c_1_2]; rfl) (by decide) ?_
    refine wp_aloadR_n 0 C dX11_count_48 rfl rfl ?_
    refine wp_getR flX11_19 sh_0 rfl C dX11_count_49 ?_
    refine wp_getI flX11_100 sh_6 rfl C dX11_count_52 ?_
    refine wp_iret C dX11_count_55 ?_
    exact ret_iv (by first | (subst c_1_0; rfl) | (subst c_1_1; rfl) | (subst c_1_2; rfl) | (subst c_1_3; rfl) | (rw [if_neg (by omega), if_neg (by omega), if_neg (by omega), if_neg (by omega)]))
  by_cases c_1_3 : w = 3
  · refine wp_tswIn (tgt := 56) (by omega) C dX11_count_1 (by omega) (by omega) (by rw [c_1_3]; rfl) (by decide) ?_
    refine wp_aloadR_n 0 C dX11_count_56 rfl rfl ?_
    refine wp_getR flX11_35 sh_0 rfl C dX11_count_57 ?_
    refine wp_getI flX11_237 sh_21 rfl C dX11_count_60 ?_
    refine wp_iret C dX11_count_63 ?_
    exact ret_iv (by first | (subst c_1_0; rfl) | (subst c_1_1; rfl) | (subst c_1_2; rfl) | (subst c_1_3; rfl) | (rw [if_neg (by omega), if_neg (by omega), if_neg (by omega), if_neg (by omega)]))
  refine wp_tswOut (tgt := 64) (by omega) C dX11_count_1 (by omega) (by decide) ?_
  refine wp_bipush (v := (-3)) C dX11_count_64 rfl ?_
  refine wp_iret C dX11_count_66 ?_
  exact ret_iv (by first | (subst c_1_0; rfl) | (subst c_1_1; rfl) | (subst c_1_2; rfl) | (subst c_1_3; rfl) | (rw [if_neg (by omega), if_neg (by omega), if_neg (by omega), if_neg (by omega)]))

set_option maxRecDepth 100000 in
set_option maxHeartbeats 4000000 in
theorem x_sale (E : En) (h : Hp) (a : Int) (ha : -2147483648 ≤ a ∧ a ≤ 2147483647) (hz : 0 ≤ h 1 4 ∧ h 1 4 ≤ 20) (hb : 0 ≤ h 21 1 ∧ h 21 1 ≤ 12) : Ct 1 yX11_sale cX11_sale 2 (some .int) E [rv E 0, iv a] h (Upd (some (iv (if ¬ (0 ≤ a ∧ a < 2 ^ (h 1 4).toNat) then -2 else if h 21 1 < 12 then h 21 1 + 1 else -5))) (if ¬ (0 ≤ a ∧ a < 2 ^ (h 1 4).toNat) then h else if h 21 1 < 12 then enterH h a else h)) := by
  refine ct_intro (by decide) (Nat.le_of_ble_eq_true rfl) (fun G C => ?_)
  show Wp G E 2 (Upd (some (iv (if ¬ (0 ≤ a ∧ a < 2 ^ (h 1 4).toNat) then -2 else if h 21 1 < 12 then h 21 1 + 1 else -5))) (if ¬ (0 ≤ a ∧ a < 2 ^ (h 1 4).toNat) then h else if h 21 1 < 12 then enterH h a else h)) 0 [(0, rv E 0), (1, iv a)] [] h
  refine wp_aloadR_n 0 C dX11_sale_0 rfl rfl ?_
  refine wp_getR flX11_10 sh_0 rfl C dX11_sale_1 ?_
  refine wp_iload_n 1 C dX11_sale_4 rfl rfl ?_
  refine wp_callVp (rest := []) (c_know E h a (by omega) (by omega)) svX11_152 sh_1 (by decide) rfl rfl (Nat.le_of_ble_eq_true rfl) C dX11_sale_5 ?_
  refine wp_ifb_ne (tgt := 14) C dX11_sale_8 (by decide) (fun c_8 => ?_) (fun c_8 => ?_)
  · skip
    refine wp_aloadR_n 0 C dX11_sale_14 rfl rfl ?_
    refine wp_getR flX11_35 sh_0 rfl C dX11_sale_15 ?_
    refine wp_iload_n 1 C dX11_sale_18 rfl rfl ?_
    refine wp_callVu (rest := []) (c_enter E h a (by omega)) svX11_234 sh_21 (by decide) rfl rfl (Nat.le_of_ble_eq_true rfl) C dX11_sale_19 ?_
    show Wp G E 2 (Upd (some (iv (if ¬ (0 ≤ a ∧ a < 2 ^ (h 1 4).toNat) then -2 else if h 21 1 < 12 then h 21 1 + 1 else -5))) (if ¬ (0 ≤ a ∧ a < 2 ^ (h 1 4).toNat) then h else if h 21 1 < 12 then enterH h a else h)) 22 [(0, rv E 0), (1, iv a)] [iv (bi (h 21 1 < 12))] (if h 21 1 < 12 then enterH h a else h)
    obtain ⟨H1, e_H1⟩ : ∃ z : Hp, z = if h 21 1 < 12 then enterH h a else h := ⟨_, rfl⟩
    refine wp_heq e_H1 ?_
    refine wp_ifb_eq (tgt := 35) C dX11_sale_22 (by decide) (fun c_22 => ?_) (fun c_22 => ?_)
    · skip
      refine wp_bipush (v := (-5)) C dX11_sale_35 rfl ?_
      refine wp_iret C dX11_sale_37 ?_
      exact upd_i (by rw [if_neg (not_not_intro c_8), if_neg (by assumption)]) (by rw [if_neg (not_not_intro c_8)]; exact e_H1)
    · skip
      refine wp_aloadR_n 0 C dX11_sale_25 rfl rfl ?_
      refine wp_getR flX11_35 sh_0 rfl C dX11_sale_26 ?_
      refine wp_getI flX11_237 sh_21 rfl C dX11_sale_29 ?_
      refine wp_goto (tgt := 37) C dX11_sale_32 (by decide) ?_
      refine wp_iret C dX11_sale_37 ?_
      exact upd_i (by rw [if_neg (not_not_intro c_8), if_pos (by assumption)]; rw [if_pos (by assumption)] at e_H1; rw [e_H1]; simp [enterH, upd2]) (by rw [if_neg (not_not_intro c_8)]; exact e_H1)
  · skip
    refine wp_bipush (v := (-2)) C dX11_sale_11 rfl ?_
    refine wp_iret C dX11_sale_13 ?_
    exact upd_i (by rw [if_pos c_8]) (by rw [if_pos c_8])

set_option maxRecDepth 100000 in
set_option maxHeartbeats 4000000 in
theorem x_keep (E : En) (h : Hp) (k : Int) (hk : -2147483648 ≤ k ∧ k ≤ 2147483647) (hb : 0 ≤ h 21 1 ∧ h 21 1 ≤ 12) : Ct 2 yX11_keep cX11_keep 2 (some .int) E [rv E 0, iv k] h (Upd (some (iv (if ¬ (0 ≤ k ∧ k ≤ 1) then -2 else h 1 4))) (if ¬ (0 ≤ k ∧ k ≤ 1) then h else saveH h k)) := by
  refine ct_intro (by decide) (Nat.le_of_ble_eq_true rfl) (fun G C => ?_)
  show Wp G E 2 (Upd (some (iv (if ¬ (0 ≤ k ∧ k ≤ 1) then -2 else h 1 4))) (if ¬ (0 ≤ k ∧ k ≤ 1) then h else saveH h k)) 0 [(0, rv E 0), (1, iv k)] [] h
  refine wp_iload_n 1 C dX11_keep_0 rfl rfl ?_
  refine wp_iconst (v := 0) C dX11_keep_1 rfl ?_
  refine wp_iconst (v := 1) C dX11_keep_2 rfl ?_
  refine wp_callSp (rest := []) (c_within E h k 0 1 (by omega) (by omega) (by omega)) ssX11_92 (by decide) rfl rfl (Nat.le_of_ble_eq_true rfl) C dX11_keep_3 ?_
  refine wp_ifb_ne (tgt := 12) C dX11_keep_6 (by decide) (fun c_6 => ?_) (fun c_6 => ?_)
  · skip
    refine wp_aloadR_n 0 C dX11_keep_12 rfl rfl ?_
    refine wp_getR flX11_35 sh_0 rfl C dX11_keep_13 ?_
    refine wp_iload_n 1 C dX11_keep_16 rfl rfl ?_
    refine wp_callVu (rest := []) (c_save E h k (by omega) (by omega)) svX11_241 sh_21 (by decide) rfl rfl (Nat.le_of_ble_eq_true rfl) C dX11_keep_17 ?_
    show Wp G E 2 (Upd (some (iv (if ¬ (0 ≤ k ∧ k ≤ 1) then -2 else h 1 4))) (if ¬ (0 ≤ k ∧ k ≤ 1) then h else saveH h k)) 20 [(0, rv E 0), (1, iv k)] [] (saveH h k)
    obtain ⟨H1, e_H1⟩ : ∃ z : Hp, z = saveH h k := ⟨_, rfl⟩
    refine wp_heq e_H1 ?_
    refine wp_aloadR_n 0 C dX11_keep_20 rfl rfl ?_
    refine wp_getR flX11_10 sh_0 rfl C dX11_keep_21 ?_
    refine wp_getI flX11_104 sh_1 rfl C dX11_keep_24 ?_
    refine wp_iret C dX11_keep_27 ?_
    exact upd_i (by rw [if_neg (by omega)]; rw [e_H1]; simp [saveH, upd2, cpH]; intro q; omega) (by rw [if_neg (by omega)]; exact e_H1)
  · skip
    refine wp_bipush (v := (-2)) C dX11_keep_9 rfl ?_
    refine wp_iret C dX11_keep_11 ?_
    exact upd_i (by rw [if_pos (by omega)]) (by rw [if_pos (by omega)])

set_option maxRecDepth 100000 in
set_option maxHeartbeats 4000000 in
theorem x_back (E : En) (h : Hp) (k : Int) (hk : -2147483648 ≤ k ∧ k ≤ 2147483647) (hs : ∀ j, j < 2 → -1 ≤ h 26 j ∧ h 26 j ≤ 12) : Ct 2 yX11_back cX11_back 2 (some .int) E [rv E 0, iv k] h (Upd (some (iv (if ¬ (0 ≤ k ∧ k ≤ 1) then -2 else if h 26 k.toNat ≠ -1 then h 1 4 else -4))) (if ¬ (0 ≤ k ∧ k ≤ 1) then h else if h 26 k.toNat ≠ -1 then restoreH h k else h)) := by
  refine ct_intro (by decide) (Nat.le_of_ble_eq_true rfl) (fun G C => ?_)
  show Wp G E 2 (Upd (some (iv (if ¬ (0 ≤ k ∧ k ≤ 1) then -2 else if h 26 k.toNat ≠ -1 then h 1 4 else -4))) (if ¬ (0 ≤ k ∧ k ≤ 1) then h else if h 26 k.toNat ≠ -1 then restoreH h k else h)) 0 [(0, rv E 0), (1, iv k)] [] h
  refine wp_iload_n 1 C dX11_back_0 rfl rfl ?_
  refine wp_iconst (v := 0) C dX11_back_1 rfl ?_
  refine wp_iconst (v := 1) C dX11_back_2 rfl ?_
  refine wp_callSp (rest := []) (c_within E h k 0 1 (by omega) (by omega) (by omega)) ssX11_92 (by decide) rfl rfl (Nat.le_of_ble_eq_true rfl) C dX11_back_3 ?_
  refine wp_ifb_ne (tgt := 12) C dX11_back_6 (by decide) (fun c_6 => ?_) (fun c_6 => ?_)
  · skip
    refine wp_aloadR_n 0 C dX11_back_12 rfl rfl ?_
    refine wp_getR flX11_35 sh_0 rfl C dX11_back_13 ?_
    have hs9 := hs k.toNat (by omega)
    refine wp_iload_n 1 C dX11_back_16 rfl rfl ?_
    refine wp_callVu (rest := []) (c_restore E h k (by omega) (by omega)) svX11_244 sh_21 (by decide) rfl rfl (Nat.le_of_ble_eq_true rfl) C dX11_back_17 ?_
    show Wp G E 2 (Upd (some (iv (if ¬ (0 ≤ k ∧ k ≤ 1) then -2 else if h 26 k.toNat ≠ -1 then h 1 4 else -4))) (if ¬ (0 ≤ k ∧ k ≤ 1) then h else if h 26 k.toNat ≠ -1 then restoreH h k else h)) 20 [(0, rv E 0), (1, iv k)] [iv (bi (h 26 k.toNat ≠ -1))] (if h 26 k.toNat ≠ -1 then restoreH h k else h)
    obtain ⟨H1, e_H1⟩ : ∃ z : Hp, z = if h 26 k.toNat ≠ -1 then restoreH h k else h := ⟨_, rfl⟩
    refine wp_heq e_H1 ?_
    refine wp_ifb_eq (tgt := 33) C dX11_back_20 (by decide) (fun c_20 => ?_) (fun c_20 => ?_)
    · skip
      refine wp_bipush (v := (-4)) C dX11_back_33 rfl ?_
      refine wp_iret C dX11_back_35 ?_
      exact upd_i (by rw [if_neg (by omega), if_neg (by assumption)]) (by rw [if_neg (by omega)]; exact e_H1)
    · skip
      refine wp_aloadR_n 0 C dX11_back_23 rfl rfl ?_
      refine wp_getR flX11_10 sh_0 rfl C dX11_back_24 ?_
      refine wp_getI flX11_104 sh_1 rfl C dX11_back_27 ?_
      refine wp_goto (tgt := 35) C dX11_back_30 (by decide) ?_
      refine wp_iret C dX11_back_35 ?_
      exact upd_i (by rw [if_neg (by omega), if_pos (by assumption)]; rw [if_pos (by assumption)] at e_H1; rw [e_H1]; simp [restoreH, upd2, cpH]) (by rw [if_neg (by omega)]; exact e_H1)
  · skip
    refine wp_bipush (v := (-2)) C dX11_back_9 rfl ?_
    refine wp_iret C dX11_back_11 ?_
    exact upd_i (by rw [if_pos (by omega)]) (by rw [if_pos (by omega)])

set_option maxRecDepth 100000 in
set_option maxHeartbeats 4000000 in
theorem x_heap (E : En) (h : Hp) (i w : Int) (hi : -2147483648 ≤ i ∧ i ≤ 2147483647) (hw : -2147483648 ≤ w ∧ w ≤ 2147483647) (hz : 0 ≤ h 1 4 ∧ h 1 4 ≤ 20) (hp : 2 ≤ h 1 5 ∧ h 1 5 ≤ 10) (hN : ∀ i : Nat, (i : Int) < h 1 4 → 0 ≤ h 2 i ∧ h 2 i ≤ 999999999999999) (hS : ∀ i : Nat, (i : Int) < h 1 4 → 0 ≤ h 3 i ∧ h 3 i ≤ 999999999999999) : Ct 3 yX11_heap cX11_heap 3 (some .long) E [rv E 0, iv i, iv w] h (Ret (jv (if ¬ (0 ≤ i ∧ i < h 1 4) then -2 else if w = 0 then h 2 i.toNat else if w = 1 then h 3 i.toNat else if w = 2 then h 4 i.toNat else if w = 3 then h 5 i.toNat else if w = 4 then h 2 i.toNat % h 1 5 else if w = 5 then h 3 i.toNat % h 1 5 else -3)) h) := by
  refine ct_intro (by decide) (Nat.le_of_ble_eq_true rfl) (fun G C => ?_)
  show Wp G E 3 (Ret (jv (if ¬ (0 ≤ i ∧ i < h 1 4) then -2 else if w = 0 then h 2 i.toNat else if w = 1 then h 3 i.toNat else if w = 2 then h 4 i.toNat else if w = 3 then h 5 i.toNat else if w = 4 then h 2 i.toNat % h 1 5 else if w = 5 then h 3 i.toNat % h 1 5 else -3)) h) 0 [(0, rv E 0), (1, iv i), (2, iv w)] [] h
  refine wp_iload_n 1 C dX11_heap_0 rfl rfl ?_
  refine wp_iconst (v := 0) C dX11_heap_1 rfl ?_
  refine wp_aloadR_n 0 C dX11_heap_2 rfl rfl ?_
  refine wp_getR flX11_10 sh_0 rfl C dX11_heap_3 ?_
  refine wp_getI flX11_104 sh_1 rfl C dX11_heap_6 ?_
  refine wp_iconst (v := 1) C dX11_heap_9 rfl ?_
  refine wp_isub C dX11_heap_10 ?_
  refine wp_callSp (rest := []) (c_within E h i 0 ((h 1 4) - 1) (by omega) (by omega) (by omega)) ssX11_92 (by decide) rfl rfl (Nat.le_of_ble_eq_true rfl) C dX11_heap_11 ?_
  refine wp_ifb_ne (tgt := 21) C dX11_heap_14 (by decide) (fun c_14 => ?_) (fun c_14 => ?_)
  · skip
    refine wp_iload_n 2 C dX11_heap_21 rfl rfl ?_
    by_cases c_22_0 : w = 0
    · refine wp_tswIn (tgt := 60) (by omega) C dX11_heap_22 (by omega) (by omega) (by rw [c_22_0]; rfl) (by decide) ?_
      refine wp_aloadR_n 0 C dX11_heap_60 rfl rfl ?_
      refine wp_getR flX11_10 sh_0 rfl C dX11_heap_61 ?_
      refine wp_getR flX11_131 sh_1 rfl C dX11_heap_64 ?_
      refine wp_iload_n 1 C dX11_heap_67 rfl rfl ?_
      refine wp_lald sh_2 (by omega) C dX11_heap_68 ?_
      refine wp_lret C dX11_heap_69 ?_
      exact ret_jv (by rw [if_neg (by omega)]; subst c_22_0; rfl)
    by_cases c_22_1 : w = 1
    · refine wp_tswIn (tgt := 70) (by omega) C dX11_heap_22 (by omega) (by omega) (by rw [c_22_1]; rfl) (by decide) ?_
      refine wp_aloadR_n 0 C dX11_heap_70 rfl rfl ?_
      refine wp_getR flX11_10 sh_0 rfl C dX11_heap_71 ?_
      refine wp_getR flX11_135 sh_1 rfl C dX11_heap_74 ?_
      refine wp_iload_n 1 C dX11_heap_77 rfl rfl ?_
      refine wp_lald sh_3 (by omega) C dX11_heap_78 ?_
      refine wp_lret C dX11_heap_79 ?_
      exact ret_jv (by rw [if_neg (by omega)]; subst c_22_1; rfl)
    by_cases c_22_2 : w = 2
    · refine wp_tswIn (tgt := 80) (by omega) C dX11_heap_22 (by omega) (by omega) (by rw [c_22_2]; rfl) (by decide) ?_
      refine wp_aloadR_n 0 C dX11_heap_80 rfl rfl ?_
      refine wp_getR flX11_10 sh_0 rfl C dX11_heap_81 ?_
      refine wp_getR flX11_138 sh_1 rfl C dX11_heap_84 ?_
      refine wp_iload_n 1 C dX11_heap_87 rfl rfl ?_
      refine wp_lald sh_4 (by omega) C dX11_heap_88 ?_
      refine wp_lret C dX11_heap_89 ?_
      exact ret_jv (by rw [if_neg (by omega)]; subst c_22_2; rfl)
    by_cases c_22_3 : w = 3
    · refine wp_tswIn (tgt := 90) (by omega) C dX11_heap_22 (by omega) (by omega) (by rw [c_22_3]; rfl) (by decide) ?_
      refine wp_aloadR_n 0 C dX11_heap_90 rfl rfl ?_
      refine wp_getR flX11_10 sh_0 rfl C dX11_heap_91 ?_
      refine wp_getR flX11_141 sh_1 rfl C dX11_heap_94 ?_
      refine wp_iload_n 1 C dX11_heap_97 rfl rfl ?_
      refine wp_lald sh_5 (by omega) C dX11_heap_98 ?_
      refine wp_lret C dX11_heap_99 ?_
      exact ret_jv (by rw [if_neg (by omega)]; subst c_22_3; rfl)
    by_cases c_22_4 : w = 4
    · refine wp_tswIn (tgt := 100) (by omega) C dX11_heap_22 (by omega) (by omega) (by rw [c_22_4]; rfl) (by decide) ?_
      refine wp_aloadR_n 0 C dX11_heap_100 rfl rfl ?_
      refine wp_getR flX11_10 sh_0 rfl C dX11_heap_101 ?_
      refine wp_iload_n 1 C dX11_heap_104 rfl rfl ?_
      refine wp_callVp (rest := []) (c_restOfNumber E h i (by omega) (hN _ (by omega)) (by omega)) svX11_144 sh_1 (by decide) rfl rfl (Nat.le_of_ble_eq_true rfl) C dX11_heap_105 ?_
      have hm2 := mod_r (h 2 i.toNat) hp
      have hm3 := mod_r (h 3 i.toNat) hp
      refine wp_i2l (by omega) C dX11_heap_108 ?_
      refine wp_lret C dX11_heap_109 ?_
      exact ret_jv (by rw [if_neg (by omega)]; subst c_22_4; rfl)
    by_cases c_22_5 : w = 5
    · refine wp_tswIn (tgt := 110) (by omega) C dX11_heap_22 (by omega) (by omega) (by rw [c_22_5]; rfl) (by decide) ?_
      refine wp_aloadR_n 0 C dX11_heap_110 rfl rfl ?_
      refine wp_getR flX11_10 sh_0 rfl C dX11_heap_111 ?_
      refine wp_iload_n 1 C dX11_heap_114 rfl rfl ?_
      refine wp_callVp (rest := []) (c_restOfSecond E h i (by omega) (hS _ (by omega)) (by omega)) svX11_147 sh_1 (by decide) rfl rfl (Nat.le_of_ble_eq_true rfl) C dX11_heap_115 ?_
      have hm2 := mod_r (h 2 i.toNat) hp
      have hm3 := mod_r (h 3 i.toNat) hp
      refine wp_i2l (by omega) C dX11_heap_118 ?_
      refine wp_lret C dX11_heap_119 ?_
      exact ret_jv (by rw [if_neg (by omega)]; subst c_22_5; rfl)
    refine wp_tswOut (tgt := 120) (by omega) C dX11_heap_22 (by omega) (by decide) ?_
    refine wp_ldc2 (v := (-3)) C (mT (i := 544) (by decide +kernel) rfl) dX11_heap_120 ?_
    refine wp_lret C dX11_heap_123 ?_
    exact ret_jv (by rw [if_neg (by omega)]; rw [if_neg (by omega), if_neg (by omega), if_neg (by omega), if_neg (by omega), if_neg (by omega), if_neg (by omega)])
  · skip
    refine wp_ldc2 (v := (-2)) C (mT (i := 531) (by decide +kernel) rfl) dX11_heap_17 ?_
    refine wp_lret C dX11_heap_20 ?_
    exact ret_jv (by rw [if_pos (by omega)])

theorem lot_lt {a : Int} {n : Nat} (hn : n ≤ 20) (h : 0 ≤ a ∧ a < 2 ^ n) : 0 ≤ a ∧ a ≤ 1048575 := by
  have h20 : (2 : Int) ^ n ≤ 2 ^ 20 := p2_mono hn
  have e20 : (2 : Int) ^ 20 = 1048576 := by decide
  omega
set_option maxRecDepth 100000 in
set_option maxHeartbeats 4000000 in
theorem x_rest (E : En) (h : Hp) (a w : Int) (ha : -2147483648 ≤ a ∧ a ≤ 2147483647) (hw : -2147483648 ≤ w ∧ w ≤ 2147483647) (hz : 0 ≤ h 1 4 ∧ h 1 4 ≤ 20) (hp : 2 ≤ h 1 5 ∧ h 1 5 ≤ 10) (hN : ∀ i : Nat, (i : Int) < h 1 4 → 0 ≤ h 2 i ∧ h 2 i ≤ 999999999999999) (hS : ∀ i : Nat, (i : Int) < h 1 4 → 0 ≤ h 3 i ∧ h 3 i ≤ 999999999999999) : Ct 3 yX11_rest cX11_rest 3 (some .int) E [rv E 0, iv a, iv w] h (Ret (iv (if ¬ (0 ≤ a ∧ a < 2 ^ (h 1 4).toNat) then -2 else if w = 0 then sumB (h 2) a (h 1 4).toNat % h 1 5 else if w = 1 then sumB (h 3) a (h 1 4).toNat % h 1 5 else if w = 2 then cntB a 20 else -3)) h) := by
  refine ct_intro (by decide) (Nat.le_of_ble_eq_true rfl) (fun G C => ?_)
  show Wp G E 3 (Ret (iv (if ¬ (0 ≤ a ∧ a < 2 ^ (h 1 4).toNat) then -2 else if w = 0 then sumB (h 2) a (h 1 4).toNat % h 1 5 else if w = 1 then sumB (h 3) a (h 1 4).toNat % h 1 5 else if w = 2 then cntB a 20 else -3)) h) 0 [(0, rv E 0), (1, iv a), (2, iv w)] [] h
  refine wp_aloadR_n 0 C dX11_rest_0 rfl rfl ?_
  refine wp_getR flX11_10 sh_0 rfl C dX11_rest_1 ?_
  refine wp_iload_n 1 C dX11_rest_4 rfl rfl ?_
  refine wp_callVp (rest := []) (c_know E h a (by omega) (by omega)) svX11_152 sh_1 (by decide) rfl rfl (Nat.le_of_ble_eq_true rfl) C dX11_rest_5 ?_
  refine wp_ifb_ne (tgt := 14) C dX11_rest_8 (by decide) (fun c_8 => ?_) (fun c_8 => ?_)
  · skip
    have hl9 := lot_lt (by omega) c_8
    refine wp_iload_n 2 C dX11_rest_14 rfl rfl ?_
    by_cases c_15_0 : w = 0
    · refine wp_tswIn (tgt := 40) (by omega) C dX11_rest_15 (by omega) (by omega) (by rw [c_15_0]; rfl) (by decide) ?_
      refine wp_aloadR_n 0 C dX11_rest_40 rfl rfl ?_
      refine wp_getR flX11_10 sh_0 rfl C dX11_rest_41 ?_
      refine wp_iload_n 1 C dX11_rest_44 rfl rfl ?_
      refine wp_callVp (rest := []) (c_restOfNumbers E h a (by omega) (by omega) (by omega) hN) svX11_156 sh_1 (by decide) rfl rfl (Nat.le_of_ble_eq_true rfl) C dX11_rest_45 ?_
      refine wp_iret C dX11_rest_48 ?_
      exact ret_iv (by rw [if_neg (not_not_intro c_8)]; subst c_15_0; rfl)
    by_cases c_15_1 : w = 1
    · refine wp_tswIn (tgt := 49) (by omega) C dX11_rest_15 (by omega) (by omega) (by rw [c_15_1]; rfl) (by decide) ?_
      refine wp_aloadR_n 0 C dX11_rest_49 rfl rfl ?_
      refine wp_getR flX11_10 sh_0 rfl C dX11_rest_50 ?_
      refine wp_iload_n 1 C dX11_rest_53 rfl rfl ?_
      refine wp_callVp (rest := []) (c_restOfSeconds E h a (by omega) (by omega) (by omega) hS) svX11_159 sh_1 (by decide) rfl rfl (Nat.le_of_ble_eq_true rfl) C dX11_rest_54 ?_
      refine wp_iret C dX11_rest_57 ?_
      exact ret_iv (by rw [if_neg (not_not_intro c_8)]; subst c_15_1; rfl)
    by_cases c_15_2 : w = 2
    · refine wp_tswIn (tgt := 58) (by omega) C dX11_rest_15 (by omega) (by omega) (by rw [c_15_2]; rfl) (by decide) ?_
      refine wp_iload_n 1 C dX11_rest_58 rfl rfl ?_
      refine wp_callSp (rest := []) (c_bitCount E h a (by omega)) ssX11_162 (by decide) rfl rfl (Nat.le_of_ble_eq_true rfl) C dX11_rest_59 ?_
      refine wp_iret C dX11_rest_62 ?_
      exact ret_iv (by rw [if_neg (not_not_intro c_8)]; subst c_15_2; rfl)
    refine wp_tswOut (tgt := 63) (by omega) C dX11_rest_15 (by omega) (by decide) ?_
    refine wp_bipush (v := (-3)) C dX11_rest_63 rfl ?_
    refine wp_iret C dX11_rest_65 ?_
    exact ret_iv (by rw [if_neg (not_not_intro c_8)]; rw [if_neg (by omega), if_neg (by omega), if_neg (by omega)])
  · skip
    refine wp_bipush (v := (-2)) C dX11_rest_11 rfl ?_
    refine wp_iret C dX11_rest_13 ?_
    exact ret_iv (by rw [if_pos c_8])

set_option maxRecDepth 100000 in
set_option maxHeartbeats 4000000 in
theorem x_mends (E : En) (h : Hp) (a : Int) (ha : -2147483648 ≤ a ∧ a ≤ 2147483647) (hz : 0 ≤ h 1 4 ∧ h 1 4 ≤ 20) (hp : 2 ≤ h 1 5 ∧ h 1 5 ≤ 10) (hN : ∀ i : Nat, (i : Int) < h 1 4 → 0 ≤ h 2 i ∧ h 2 i ≤ 999999999999999) : Ct 3 yX11_mends cX11_mends 2 (some .int) E [rv E 0, iv a] h (Ret (iv (if ¬ (0 ≤ a ∧ a < 2 ^ (h 1 4).toNat) then -2 else trn (h 1 5 - sumB (h 2) a (h 1 4).toNat % h 1 5) (h 1 5))) h) := by
  refine ct_intro (by decide) (Nat.le_of_ble_eq_true rfl) (fun G C => ?_)
  show Wp G E 2 (Ret (iv (if ¬ (0 ≤ a ∧ a < 2 ^ (h 1 4).toNat) then -2 else trn (h 1 5 - sumB (h 2) a (h 1 4).toNat % h 1 5) (h 1 5))) h) 0 [(0, rv E 0), (1, iv a)] [] h
  refine wp_aloadR_n 0 C dX11_mends_0 rfl rfl ?_
  refine wp_getR flX11_10 sh_0 rfl C dX11_mends_1 ?_
  refine wp_iload_n 1 C dX11_mends_4 rfl rfl ?_
  refine wp_callVp (rest := []) (c_know E h a (by omega) (by omega)) svX11_152 sh_1 (by decide) rfl rfl (Nat.le_of_ble_eq_true rfl) C dX11_mends_5 ?_
  refine wp_ifb_ne (tgt := 14) C dX11_mends_8 (by decide) (fun c_8 => ?_) (fun c_8 => ?_)
  · skip
    have hl9 := lot_lt (by omega) c_8
    have hm9 := mod_r (sumB (h 2) a (h 1 4).toNat) hp
    refine wp_aloadR_n 0 C dX11_mends_14 rfl rfl ?_
    refine wp_getR flX11_10 sh_0 rfl C dX11_mends_15 ?_
    refine wp_getI flX11_180 sh_1 rfl C dX11_mends_18 ?_
    refine wp_aloadR_n 0 C dX11_mends_21 rfl rfl ?_
    refine wp_getR flX11_10 sh_0 rfl C dX11_mends_22 ?_
    refine wp_iload_n 1 C dX11_mends_25 rfl rfl ?_
    refine wp_callVp (rest := [iv (h 1 5)]) (c_restOfNumbers E h a (by omega) (by omega) (by omega) hN) svX11_156 sh_1 (by decide) rfl rfl (Nat.le_of_ble_eq_true rfl) C dX11_mends_26 ?_
    refine wp_isub C dX11_mends_29 ?_
    refine wp_aloadR_n 0 C dX11_mends_30 rfl rfl ?_
    refine wp_getR flX11_10 sh_0 rfl C dX11_mends_31 ?_
    refine wp_getI flX11_180 sh_1 rfl C dX11_mends_34 ?_
    refine wp_callSp (rest := []) (c_turned E h ((h 1 5) - (sumB (h 2) a (h 1 4).toNat % h 1 5)) (h 1 5) (by omega) (by omega)) ssX11_190 (by decide) rfl rfl (Nat.le_of_ble_eq_true rfl) C dX11_mends_37 ?_
    refine wp_iret C dX11_mends_40 ?_
    exact ret_iv (by rw [if_neg (not_not_intro c_8)])
  · skip
    refine wp_bipush (v := (-2)) C dX11_mends_11 rfl ?_
    refine wp_iret C dX11_mends_13 ?_
    exact ret_iv (by rw [if_pos c_8])

/-- the first heap of the lot for which another one brings what is missing -/
def swpP (N : Nat → Int) (p lot mi : Int) (n : Nat) : Nat → Bool := fun g => decide (lot / 2 ^ g % 2 = 1) && decide (firstI (insP N p lot (trn (N g % p + mi) p)) n ≠ -1)
def swpS (N : Nat → Int) (p lot w : Int) (n : Nat) : Int :=
  let mi := trn (p - sumB N lot n % p) p
  if mi = 0 then -1 else
  let g := firstI (swpP N p lot mi n) n
  if g = -1 then -1 else if w = 0 then g else firstI (insP N p lot (trn (N g.toNat % p + mi) p)) n
theorem firstI_r (p : Nat → Bool) (n : Nat) : -1 ≤ firstI p n ∧ firstI p n < n + 1 := by
  rcases firstI_cases p n with ⟨i, h1, h2, h3, h4⟩ | ⟨h1, h2⟩ <;> omega
set_option maxRecDepth 100000 in
set_option maxHeartbeats 4000000 in
theorem x_swap (E : En) (h : Hp) (a w : Int) (ha : -2147483648 ≤ a ∧ a ≤ 2147483647) (hw : -2147483648 ≤ w ∧ w ≤ 2147483647) (hz : 0 ≤ h 1 4 ∧ h 1 4 ≤ 20) (hp : 2 ≤ h 1 5 ∧ h 1 5 ≤ 10) (hN : ∀ i : Nat, (i : Int) < h 1 4 → 0 ≤ h 2 i ∧ h 2 i ≤ 999999999999999) : Ct 4 yX11_swap cX11_swap 6 (some .int) E [rv E 0, iv a, iv w] h (Ret (iv (if ¬ (0 ≤ a ∧ a < 2 ^ (h 1 4).toNat) then -2 else if ¬ (0 ≤ w ∧ w ≤ 1) then -3 else swpS (h 2) (h 1 5) a w (h 1 4).toNat)) h) := by
  refine ct_intro (by decide) (Nat.le_of_ble_eq_true rfl) (fun G C => ?_)
  show Wp G E 6 (Ret (iv (if ¬ (0 ≤ a ∧ a < 2 ^ (h 1 4).toNat) then -2 else if ¬ (0 ≤ w ∧ w ≤ 1) then -3 else swpS (h 2) (h 1 5) a w (h 1 4).toNat)) h) 0 [(0, rv E 0), (1, iv a), (2, iv w)] [] h
  refine wp_aloadR_n 0 C dX11_swap_0 rfl rfl ?_
  refine wp_getR flX11_10 sh_0 rfl C dX11_swap_1 ?_
  refine wp_iload_n 1 C dX11_swap_4 rfl rfl ?_
  refine wp_callVp (rest := []) (c_know E h a (by omega) (by omega)) svX11_152 sh_1 (by decide) rfl rfl (Nat.le_of_ble_eq_true rfl) C dX11_swap_5 ?_
  refine wp_ifb_ne (tgt := 14) C dX11_swap_8 (by decide) (fun c_8 => ?_) (fun c_8 => ?_)
  · skip
    have hl9 := lot_lt (by omega) c_8
    have hm9 := mod_r (sumB (h 2) a (h 1 4).toNat) hp
    have ht9 : 0 ≤ trn (h 1 5 - sumB (h 2) a (h 1 4).toNat % h 1 5) (h 1 5) ∧ trn (h 1 5 - sumB (h 2) a (h 1 4).toNat % h 1 5) (h 1 5) ≤ 10 := by unfold trn; split <;> omega
    refine wp_iload_n 2 C dX11_swap_14 rfl rfl ?_
    refine wp_iconst (v := 0) C dX11_swap_15 rfl ?_
    refine wp_iconst (v := 1) C dX11_swap_16 rfl ?_
    refine wp_callSp (rest := []) (c_within E h w 0 1 (by omega) (by omega) (by omega)) ssX11_92 (by decide) rfl rfl (Nat.le_of_ble_eq_true rfl) C dX11_swap_17 ?_
    refine wp_ifb_ne (tgt := 26) C dX11_swap_20 (by decide) (fun c_20 => ?_) (fun c_20 => ?_)
    · skip
      refine wp_aloadR_n 0 C dX11_swap_26 rfl rfl ?_
      refine wp_getR flX11_10 sh_0 rfl C dX11_swap_27 ?_
      refine wp_getI flX11_180 sh_1 rfl C dX11_swap_30 ?_
      refine wp_aloadR_n 0 C dX11_swap_33 rfl rfl ?_
      refine wp_getR flX11_10 sh_0 rfl C dX11_swap_34 ?_
      refine wp_iload_n 1 C dX11_swap_37 rfl rfl ?_
      refine wp_callVp (rest := [iv (h 1 5)]) (c_restOfNumbers E h a (by omega) (by omega) (by omega) hN) svX11_156 sh_1 (by decide) rfl rfl (Nat.le_of_ble_eq_true rfl) C dX11_swap_38 ?_
      refine wp_isub C dX11_swap_41 ?_
      refine wp_aloadR_n 0 C dX11_swap_42 rfl rfl ?_
      refine wp_getR flX11_10 sh_0 rfl C dX11_swap_43 ?_
      refine wp_getI flX11_180 sh_1 rfl C dX11_swap_46 ?_
      refine wp_callSp (rest := []) (c_turned E h ((h 1 5) - (sumB (h 2) a (h 1 4).toNat % h 1 5)) (h 1 5) (by omega) (by omega)) ssX11_190 (by decide) rfl rfl (Nat.le_of_ble_eq_true rfl) C dX11_swap_49 ?_
      refine wp_nm (fun v1 e_v1 => ?_)
      refine wp_istore_n (ls' := [(0, rv E 0), (1, iv a), (2, iv w), (3, iv v1)]) [1, 2, 3, 0] C dX11_swap_52 rfl (by decide) rfl ?_
      refine wp_iload_n 3 C dX11_swap_53 rfl rfl ?_
      refine wp_if_ne (tgt := 59) (by omega) C dX11_swap_54 (by decide) (fun c_54 => ?_) (fun c_54 => ?_)
      · skip
        refine wp_iconst (v := 0) C dX11_swap_59 rfl ?_
        refine wp_istore (ls' := [(0, rv E 0), (1, iv a), (2, iv w), (3, iv v1), (4, iv 0)]) [1, 2, 3, 4, 0] C dX11_swap_60 (by decide) rfl ?_
        have q620 : ∀ n9 : Nat, ∀ (x4 : Int), (0 ≤ x4 ∧ x4 ≤ h 1 4) → (∀ j, j < x4.toNat → swpP (h 2) (h 1 5) a v1 (h 1 4).toNat j = false) → (h 1 4 - x4).toNat < n9 → Wp G E 6 (Ret (iv (if ¬ (0 ≤ a ∧ a < 2 ^ (h 1 4).toNat) then -2 else if ¬ (0 ≤ w ∧ w ≤ 1) then -3 else swpS (h 2) (h 1 5) a w (h 1 4).toNat)) h) 62 [(0, rv E 0), (1, iv a), (2, iv w), (3, iv v1), (4, iv x4)] [] h := by
          intro n9
          induction n9 with
          | zero => intro x4 hi hs hm9; exact absurd hm9 (Nat.not_lt_zero _)
          | succ n9 ih9 =>
            intro x4 hi hs hm9
            have ih9_62 := ih9
            refine wp_iload 4 C dX11_swap_62 rfl ?_
            refine wp_aloadR_n 0 C dX11_swap_64 rfl rfl ?_
            refine wp_getR flX11_10 sh_0 rfl C dX11_swap_65 ?_
            refine wp_getI flX11_104 sh_1 rfl C dX11_swap_68 ?_
            refine wp_icmp_ge (tgt := 125) (by omega) (by omega) C dX11_swap_71 (by decide) (fun c_71 => ?_) (fun c_71 => ?_)
            · skip
              refine wp_iconst (v := (-1)) C dX11_swap_125 rfl ?_
              refine wp_iret C dX11_swap_126 ?_
              exact ret_iv (by rw [if_neg (not_not_intro c_8), if_neg (not_not_intro c_20)]; simp only [swpS]; rw [if_neg (by omega), ← e_v1, firstI_none (fun j hj => hs j (by omega)), if_pos rfl])
            · skip
              refine wp_iload_n 1 C dX11_swap_74 rfl rfl ?_
              refine wp_iload 4 C dX11_swap_75 rfl ?_
              refine wp_ishr (by omega) (by omega) C dX11_swap_77 ?_
              refine wp_iconst (v := 1) C dX11_swap_78 rfl ?_
              refine wp_iand C dX11_swap_79 ?_
              refine wp_top (bAnd_1 _) ?_
              refine wp_iconst (v := 1) C dX11_swap_80 rfl ?_
              refine wp_icmp_ne (tgt := 98) (by omega) (by omega) C dX11_swap_81 (by decide) (fun c_81 => ?_) (fun c_81 => ?_)
              · skip
                refine wp_iconst (v := (-1)) C dX11_swap_98 rfl ?_
                refine wp_istore (ls' := [(0, rv E 0), (1, iv a), (2, iv w), (3, iv v1), (4, iv x4), (5, iv (-1))]) [1, 2, 3, 4, 5, 0] C dX11_swap_99 (by decide) rfl ?_
                refine wp_iload 5 C dX11_swap_101 rfl ?_
                refine wp_iconst (v := (-1)) C dX11_swap_103 rfl ?_
                refine wp_icmp_eq (tgt := 119) (by omega) (by omega) C dX11_swap_104 (by decide) (fun c_104 => ?_) (fun c_104 => ?_)
                · skip
                  obtain ⟨v2, e_v2⟩ : ∃ z : Int, z = x4 + (1) := ⟨_, rfl⟩
                  refine wp_iinc (j := 4) (y := v2) (ls' := [(0, rv E 0), (1, iv a), (2, iv w), (3, iv v1), (4, iv v2), (5, iv (-1))]) [1, 2, 3, 4, 0, 5] C dX11_swap_119 rfl e_v2 (by decide) rfl ?_
                  refine wp_goto (tgt := 62) C dX11_swap_122 (by decide) ?_
                  refine wp_loc [0, 1, 2, 3, 4] rfl ?_
                  exact ih9_62 v2 (by omega) (fun j hj => by rcases (show j < x4.toNat ∨ j = x4.toNat by omega) with q | rfl; exact hs j q; exact by simp [swpP, show ¬ (a / 2 ^ x4.toNat % 2 = 1) by omega]) (by omega)
                · skip
                  exact absurd rfl c_104
              · skip
                refine wp_aloadR_n 0 C dX11_swap_84 rfl rfl ?_
                refine wp_getR flX11_10 sh_0 rfl C dX11_swap_85 ?_
                refine wp_iload_n 1 C dX11_swap_88 rfl rfl ?_
                refine wp_iload 4 C dX11_swap_89 rfl ?_
                refine wp_iload_n 3 C dX11_swap_91 rfl rfl ?_
                refine wp_callVp (rest := []) (c_firstInstead E h a x4 v1 (by omega) (by omega) (by omega) (by omega) (by omega) hN) svX11_193 sh_1 (by decide) rfl rfl (Nat.le_of_ble_eq_true rfl) C dX11_swap_92 ?_
                refine wp_goto (tgt := 99) C dX11_swap_95 (by decide) ?_
                have hf9 := firstI_r (insP (h 2) (h 1 5) a (trn (h 2 x4.toNat % h 1 5 + v1) (h 1 5))) (h 1 4).toNat
                refine wp_nm (fun v3 e_v3 => ?_)
                refine wp_istore (ls' := [(0, rv E 0), (1, iv a), (2, iv w), (3, iv v1), (4, iv x4), (5, iv v3)]) [1, 2, 3, 4, 5, 0] C dX11_swap_99 (by decide) rfl ?_
                refine wp_iload 5 C dX11_swap_101 rfl ?_
                refine wp_iconst (v := (-1)) C dX11_swap_103 rfl ?_
                refine wp_icmp_eq (tgt := 119) (by omega) (by omega) C dX11_swap_104 (by decide) (fun c_104 => ?_) (fun c_104 => ?_)
                · skip
                  obtain ⟨v4, e_v4⟩ : ∃ z : Int, z = x4 + (1) := ⟨_, rfl⟩
                  refine wp_iinc (j := 4) (y := v4) (ls' := [(0, rv E 0), (1, iv a), (2, iv w), (3, iv v1), (4, iv v4), (5, iv v3)]) [1, 2, 3, 4, 0, 5] C dX11_swap_119 rfl e_v4 (by decide) rfl ?_
                  refine wp_goto (tgt := 62) C dX11_swap_122 (by decide) ?_
                  refine wp_loc [0, 1, 2, 3, 4] rfl ?_
                  exact ih9_62 v4 (by omega) (fun j hj => by rcases (show j < x4.toNat ∨ j = x4.toNat by omega) with q | rfl; exact hs j q; exact by simp [swpP, ← e_v3, c_104]) (by omega)
                · skip
                  refine wp_iload_n 2 C dX11_swap_107 rfl rfl ?_
                  refine wp_if_ne (tgt := 116) (by omega) C dX11_swap_108 (by decide) (fun c_108 => ?_) (fun c_108 => ?_)
                  · skip
                    refine wp_iload 5 C dX11_swap_116 rfl ?_
                    refine wp_iret C dX11_swap_118 ?_
                    exact ret_iv (by
                            rw [if_neg (not_not_intro c_8), if_neg (not_not_intro c_20)]
                            simp only [swpS]
                            have e9 := firstI_some (p := swpP (h 2) (h 1 5) a v1 (h 1 4).toNat) (n := (h 1 4).toNat) (i := x4.toNat) (by omega) (by simp [swpP, show a / 2 ^ x4.toNat % 2 = 1 by omega, ← e_v3, c_104]) hs
                            rw [if_neg (by omega), ← e_v1, e9, if_neg (by omega)]
                            rw [if_neg (by omega), Int.toNat_natCast]; omega)
                  · skip
                    refine wp_iload 4 C dX11_swap_111 rfl ?_
                    refine wp_goto (tgt := 118) C dX11_swap_113 (by decide) ?_
                    refine wp_iret C dX11_swap_118 ?_
                    exact ret_iv (by
                            rw [if_neg (not_not_intro c_8), if_neg (not_not_intro c_20)]
                            simp only [swpS]
                            have e9 := firstI_some (p := swpP (h 2) (h 1 5) a v1 (h 1 4).toNat) (n := (h 1 4).toNat) (i := x4.toNat) (by omega) (by simp [swpP, show a / 2 ^ x4.toNat % 2 = 1 by omega, ← e_v3, c_104]) hs
                            rw [if_neg (by omega), ← e_v1, e9, if_neg (by omega)]
                            rw [if_pos (by omega)]; omega)
        have q62 : ∀ (x4 : Int), (0 ≤ x4 ∧ x4 ≤ h 1 4) → (∀ j, j < x4.toNat → swpP (h 2) (h 1 5) a v1 (h 1 4).toNat j = false) → Wp G E 6 (Ret (iv (if ¬ (0 ≤ a ∧ a < 2 ^ (h 1 4).toNat) then -2 else if ¬ (0 ≤ w ∧ w ≤ 1) then -3 else swpS (h 2) (h 1 5) a w (h 1 4).toNat)) h) 62 [(0, rv E 0), (1, iv a), (2, iv w), (3, iv v1), (4, iv x4)] [] h := fun x4 hi hs => q620 _ x4 hi hs (Nat.lt_succ_self _)
        exact q62 0 (by omega) (fun j hj => absurd hj (by omega))
      · skip
        refine wp_iconst (v := (-1)) C dX11_swap_57 rfl ?_
        refine wp_iret C dX11_swap_58 ?_
        exact ret_iv (by rw [if_neg (not_not_intro c_8), if_neg (not_not_intro c_20)]; simp only [swpS]; rw [if_pos (by omega)])
    · skip
      refine wp_bipush (v := (-3)) C dX11_swap_23 rfl ?_
      refine wp_iret C dX11_swap_25 ?_
      exact ret_iv (by rw [if_neg (not_not_intro c_8), if_pos c_20])
  · skip
    refine wp_bipush (v := (-2)) C dX11_swap_11 rfl ?_
    refine wp_iret C dX11_swap_13 ?_
    exact ret_iv (by rw [if_pos c_8])


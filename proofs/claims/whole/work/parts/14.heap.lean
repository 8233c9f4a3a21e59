/-! ===== Heaps' writes; Text; Book ===== -/
theorem rdu_ne {H h : Hp} {id j a b : Nat} {v : Int} (e : H = upd2 h id j v) (hn : a ≠ id) : H a b = h a b := by rw [e]; simp [upd2, hn]
theorem rdu_nj {H h : Hp} {id j a b : Nat} {v : Int} (e : H = upd2 h id j v) (hn : b ≠ j) : H a b = h a b := by rw [e]; simp [upd2, hn]
theorem rdu_eq {H h : Hp} {id j : Nat} {v : Int} (e : H = upd2 h id j v) : H id j = v := by rw [e]; simp [upd2]
theorem rdc_ne {H h : Hp} {s t a b : Nat} {sp dp n : Int} (e : H = cpH h s t sp dp n) (hn : a ≠ t) : H a b = h a b := by rw [e]; simp [cpH, hn]
theorem rdf_ne {H h : Hp} {t a b : Nat} {lo hi v : Int} (e : H = fillH h t lo hi v) (hn : a ≠ t) : H a b = h a b := by rw [e]; simp [fillH, hn]
def addH (h : Hp) (row : Nat) : Hp := upd2 (upd2 (upd2 (upd2 (upd2 h 2 (h 1 4).toNat (h row 0)) 4 (h 1 4).toNat (h row 1)) 3 (h 1 4).toNat (h row 2)) 5 (h 1 4).toNat (h row 3)) 1 4 (h 1 4 + 1)
def awayH (h : Hp) (i : Int) : Hp := upd2 (cpH (cpH (cpH (cpH h 2 2 (i + 1) i (h 1 4 - i - 1)) 4 4 (i + 1) i (h 1 4 - i - 1)) 3 3 (i + 1) i (h 1 4 - i - 1)) 5 5 (i + 1) i (h 1 4 - i - 1)) 1 4 (h 1 4 - 1)

theorem cwX4_55 : CW RX4 55 := ⟨mT (i := 517) (by decide +kernel) rfl, mT (i := 519) (by decide +kernel) rfl, mT (i := 518) (by decide +kernel) rfl, mT (i := 21) (by decide +kernel) rfl⟩
theorem cwX1_27 : CW RX1 27 := ⟨mT (i := 868) (by decide +kernel) rfl, mT (i := 519) (by decide +kernel) rfl, mT (i := 518) (by decide +kernel) rfl, mT (i := 21) (by decide +kernel) rfl⟩
set_option maxRecDepth 100000 in
set_option maxHeartbeats 4000000 in
theorem c_add (E : En) (h : Hp) (row : Nat) (hrow : shL[row]? = some (2, 4, 0, [])) (hr1 : row ≠ 1 ∧ row ≠ 2 ∧ row ≠ 3 ∧ row ≠ 4 ∧ row ≠ 5) (hz : 0 ≤ h 1 4 ∧ h 1 4 < 20) : Ct 0 yX4_add cX4_add 2 none E [rv E 1, rv E row] h (Upd none (addH h row)) := by
  refine ct_intro (by decide) (Nat.le_of_ble_eq_true rfl) (fun G C => ?_)
  show Wp G E 2 (Upd none (addH h row)) 0 [(0, rv E 1), (1, rv E row)] [] h
  refine wp_aloadR_n 0 C dX4_add_0 rfl rfl ?_
  refine wp_getI flX4_24 sh_1 rfl C dX4_add_1 ?_
  refine wp_bipush (v := 20) C dX4_add_4 rfl ?_
  refine wp_icmp_lt (tgt := 10) (by omega) (by omega) C dX4_add_6 (by decide) (fun c_6 => ?_) (fun c_6 => ?_)
  · skip
    refine wp_aloadR_n 0 C dX4_add_10 rfl rfl ?_
    refine wp_getR flX4_9 sh_1 rfl C dX4_add_11 ?_
    refine wp_aloadR_n 0 C dX4_add_14 rfl rfl ?_
    refine wp_getI flX4_24 sh_1 rfl C dX4_add_15 ?_
    refine wp_aloadR_n 1 C dX4_add_18 rfl rfl ?_
    refine wp_iconst (v := 0) C dX4_add_19 rfl ?_
    refine wp_lald hrow (by omega) C dX4_add_20 ?_
    refine wp_last sh_2 (by omega) C dX4_add_21 ?_
    obtain ⟨H1, e_H1⟩ : ∃ z : Hp, z = upd2 h 2 (h 1 4).toNat (h row 0) := ⟨_, rfl⟩
    refine wp_heq e_H1 ?_
    refine wp_aloadR_n 0 C dX4_add_22 rfl rfl ?_
    refine wp_getR flX4_18 sh_1 rfl C dX4_add_23 ?_
    refine wp_aloadR_n 0 C dX4_add_26 rfl rfl ?_
    refine wp_getI flX4_24 sh_1 rfl C dX4_add_27 ?_
    refine wp_top (rdu_ne e_H1 (by decide)) ?_
    refine wp_aloadR_n 1 C dX4_add_30 rfl rfl ?_
    refine wp_iconst (v := 1) C dX4_add_31 rfl ?_
    refine wp_lald hrow (by omega) C dX4_add_32 ?_
    refine wp_last sh_4 (by omega) C dX4_add_33 ?_
    obtain ⟨H2, e_H2⟩ : ∃ z : Hp, z = upd2 H1 4 (h 1 4).toNat (H1 row 1) := ⟨_, rfl⟩
    refine wp_heq e_H2 ?_
    refine wp_aloadR_n 0 C dX4_add_34 rfl rfl ?_
    refine wp_getR flX4_15 sh_1 rfl C dX4_add_35 ?_
    refine wp_aloadR_n 0 C dX4_add_38 rfl rfl ?_
    refine wp_getI flX4_24 sh_1 rfl C dX4_add_39 ?_
    refine wp_top ((rdu_ne e_H2 (by decide)).trans (rdu_ne e_H1 (by decide))) ?_
    refine wp_aloadR_n 1 C dX4_add_42 rfl rfl ?_
    refine wp_iconst (v := 2) C dX4_add_43 rfl ?_
    refine wp_lald hrow (by omega) C dX4_add_44 ?_
    refine wp_last sh_3 (by omega) C dX4_add_45 ?_
    obtain ⟨H3, e_H3⟩ : ∃ z : Hp, z = upd2 H2 3 (h 1 4).toNat (H2 row 2) := ⟨_, rfl⟩
    refine wp_heq e_H3 ?_
    refine wp_aloadR_n 0 C dX4_add_46 rfl rfl ?_
    refine wp_getR flX4_21 sh_1 rfl C dX4_add_47 ?_
    refine wp_aloadR_n 0 C dX4_add_50 rfl rfl ?_
    refine wp_getI flX4_24 sh_1 rfl C dX4_add_51 ?_
    refine wp_top ((rdu_ne e_H3 (by decide)).trans ((rdu_ne e_H2 (by decide)).trans (rdu_ne e_H1 (by decide)))) ?_
    refine wp_aloadR_n 1 C dX4_add_54 rfl rfl ?_
    refine wp_iconst (v := 3) C dX4_add_55 rfl ?_
    refine wp_lald hrow (by omega) C dX4_add_56 ?_
    refine wp_last sh_5 (by omega) C dX4_add_57 ?_
    obtain ⟨H4, e_H4⟩ : ∃ z : Hp, z = upd2 H3 5 (h 1 4).toNat (H3 row 3) := ⟨_, rfl⟩
    refine wp_heq e_H4 ?_
    refine wp_aloadR_n 0 C dX4_add_58 rfl rfl ?_
    refine wp_dup rfl C dX4_add_59 ?_
    refine wp_getI flX4_24 sh_1 rfl C dX4_add_60 ?_
    refine wp_top ((rdu_ne e_H4 (by decide)).trans ((rdu_ne e_H3 (by decide)).trans ((rdu_ne e_H2 (by decide)).trans (rdu_ne e_H1 (by decide))))) ?_
    refine wp_iconst (v := 1) C dX4_add_63 rfl ?_
    refine wp_iadd C dX4_add_64 ?_
    refine wp_putI fpX4_24 sh_1 rfl C dX4_add_65 ?_
    obtain ⟨H5, e_H5⟩ : ∃ z : Hp, z = upd2 H4 1 4 ((h 1 4) + 1) := ⟨_, rfl⟩
    refine wp_heq e_H5 ?_
    refine wp_vret C dX4_add_68 ?_
    exact upd_e (by subst_vars; simp [addH, upd2, hr1])
  · skip
    exact absurd c_6 (by omega)

set_option maxRecDepth 100000 in
set_option maxHeartbeats 4000000 in
theorem c_takeAway (E : En) (h : Hp) (i : Int) (hi : 0 ≤ i ∧ i < h 1 4) (hz : h 1 4 ≤ 20) : Ct 1 yX4_takeAway cX4_takeAway 3 none E [rv E 1, iv i] h (Upd none (awayH h i)) := by
  refine ct_intro (by decide) (Nat.le_of_ble_eq_true rfl) (fun G C => ?_)
  show Wp G E 3 (Upd none (awayH h i)) 0 [(0, rv E 1), (1, iv i)] [] h
  refine wp_iload_n 1 C dX4_takeAway_0 rfl rfl ?_
  refine wp_if_lt (tgt := 12) (by omega) C dX4_takeAway_1 (by decide) (fun c_1 => ?_) (fun c_1 => ?_)
  · skip
    exact absurd c_1 (by omega)
  · skip
    refine wp_iload_n 1 C dX4_takeAway_4 rfl rfl ?_
    refine wp_aloadR_n 0 C dX4_takeAway_5 rfl rfl ?_
    refine wp_getI flX4_24 sh_1 rfl C dX4_takeAway_6 ?_
    refine wp_icmp_lt (tgt := 13) (by omega) (by omega) C dX4_takeAway_9 (by decide) (fun c_9 => ?_) (fun c_9 => ?_)
    · skip
      refine wp_aloadR_n 0 C dX4_takeAway_13 rfl rfl ?_
      refine wp_getI flX4_24 sh_1 rfl C dX4_takeAway_14 ?_
      refine wp_iload_n 1 C dX4_takeAway_17 rfl rfl ?_
      refine wp_isub C dX4_takeAway_18 ?_
      refine wp_iconst (v := 1) C dX4_takeAway_19 rfl ?_
      refine wp_isub C dX4_takeAway_20 ?_
      refine wp_nm (fun v1 e_v1 => ?_)
      refine wp_istore_n (ls' := [(0, rv E 1), (1, iv i), (2, iv v1)]) [1, 2, 0] C dX4_takeAway_21 rfl (by decide) rfl ?_
      refine wp_aloadR_n 0 C dX4_takeAway_22 rfl rfl ?_
      refine wp_getR flX4_9 sh_1 rfl C dX4_takeAway_23 ?_
      refine wp_iload_n 1 C dX4_takeAway_26 rfl rfl ?_
      refine wp_iconst (v := 1) C dX4_takeAway_27 rfl ?_
      refine wp_iadd C dX4_takeAway_28 ?_
      refine wp_aloadR_n 0 C dX4_takeAway_29 rfl rfl ?_
      refine wp_getR flX4_9 sh_1 rfl C dX4_takeAway_30 ?_
      refine wp_iload_n 1 C dX4_takeAway_33 rfl rfl ?_
      refine wp_iload_n 2 C dX4_takeAway_34 rfl rfl ?_
      refine wp_copyL cwX4_55 sh_2 sh_2 (by omega) (Nat.le_of_ble_eq_true rfl) (by decide) C dX4_takeAway_35 ?_
      obtain ⟨H2, e_H2⟩ : ∃ z : Hp, z = cpH h 2 2 (i + 1) i v1 := ⟨_, rfl⟩
      refine wp_heq e_H2 ?_
      refine wp_aloadR_n 0 C dX4_takeAway_38 rfl rfl ?_
      refine wp_getR flX4_18 sh_1 rfl C dX4_takeAway_39 ?_
      refine wp_iload_n 1 C dX4_takeAway_42 rfl rfl ?_
      refine wp_iconst (v := 1) C dX4_takeAway_43 rfl ?_
      refine wp_iadd C dX4_takeAway_44 ?_
      refine wp_aloadR_n 0 C dX4_takeAway_45 rfl rfl ?_
      refine wp_getR flX4_18 sh_1 rfl C dX4_takeAway_46 ?_
      refine wp_iload_n 1 C dX4_takeAway_49 rfl rfl ?_
      refine wp_iload_n 2 C dX4_takeAway_50 rfl rfl ?_
      refine wp_copyL cwX4_55 sh_4 sh_4 (by omega) (Nat.le_of_ble_eq_true rfl) (by decide) C dX4_takeAway_51 ?_
      obtain ⟨H3, e_H3⟩ : ∃ z : Hp, z = cpH H2 4 4 (i + 1) i v1 := ⟨_, rfl⟩
      refine wp_heq e_H3 ?_
      refine wp_aloadR_n 0 C dX4_takeAway_54 rfl rfl ?_
      refine wp_getR flX4_15 sh_1 rfl C dX4_takeAway_55 ?_
      refine wp_iload_n 1 C dX4_takeAway_58 rfl rfl ?_
      refine wp_iconst (v := 1) C dX4_takeAway_59 rfl ?_
      refine wp_iadd C dX4_takeAway_60 ?_
      refine wp_aloadR_n 0 C dX4_takeAway_61 rfl rfl ?_
      refine wp_getR flX4_15 sh_1 rfl C dX4_takeAway_62 ?_
      refine wp_iload_n 1 C dX4_takeAway_65 rfl rfl ?_
      refine wp_iload_n 2 C dX4_takeAway_66 rfl rfl ?_
      refine wp_copyL cwX4_55 sh_3 sh_3 (by omega) (Nat.le_of_ble_eq_true rfl) (by decide) C dX4_takeAway_67 ?_
      obtain ⟨H4, e_H4⟩ : ∃ z : Hp, z = cpH H3 3 3 (i + 1) i v1 := ⟨_, rfl⟩
      refine wp_heq e_H4 ?_
      refine wp_aloadR_n 0 C dX4_takeAway_70 rfl rfl ?_
      refine wp_getR flX4_21 sh_1 rfl C dX4_takeAway_71 ?_
      refine wp_iload_n 1 C dX4_takeAway_74 rfl rfl ?_
      refine wp_iconst (v := 1) C dX4_takeAway_75 rfl ?_
      refine wp_iadd C dX4_takeAway_76 ?_
      refine wp_aloadR_n 0 C dX4_takeAway_77 rfl rfl ?_
      refine wp_getR flX4_21 sh_1 rfl C dX4_takeAway_78 ?_
      refine wp_iload_n 1 C dX4_takeAway_81 rfl rfl ?_
      refine wp_iload_n 2 C dX4_takeAway_82 rfl rfl ?_
      refine wp_copyL cwX4_55 sh_5 sh_5 (by omega) (Nat.le_of_ble_eq_true rfl) (by decide) C dX4_takeAway_83 ?_
      obtain ⟨H5, e_H5⟩ : ∃ z : Hp, z = cpH H4 5 5 (i + 1) i v1 := ⟨_, rfl⟩
      refine wp_heq e_H5 ?_
      refine wp_aloadR_n 0 C dX4_takeAway_86 rfl rfl ?_
      refine wp_dup rfl C dX4_takeAway_87 ?_
      refine wp_getI flX4_24 sh_1 rfl C dX4_takeAway_88 ?_
      refine wp_top ((rdc_ne e_H5 (by decide)).trans ((rdc_ne e_H4 (by decide)).trans ((rdc_ne e_H3 (by decide)).trans (rdc_ne e_H2 (by decide))))) ?_
      refine wp_iconst (v := 1) C dX4_takeAway_91 rfl ?_
      refine wp_isub C dX4_takeAway_92 ?_
      refine wp_putI fpX4_24 sh_1 rfl C dX4_takeAway_93 ?_
      obtain ⟨H6, e_H6⟩ : ∃ z : Hp, z = upd2 H5 1 4 ((h 1 4) - 1) := ⟨_, rfl⟩
      refine wp_heq e_H6 ?_
      refine wp_vret C dX4_takeAway_96 ?_
      exact upd_e (by subst_vars; rfl)
    · skip
      exact absurd c_9 (by omega)

def obeyH (h : Hp) (w : Int) (row : Nat) : Hp := if w = 0 then upd2 h 1 5 (h row 0) else if w = 1 then addH h row else if w = 2 then awayH h (h row 0) else upd2 h 1 4 0
set_option maxRecDepth 100000 in
set_option maxHeartbeats 4000000 in
theorem c_obey (E : En) (h : Hp) (w : Int) (row : Nat) (hrow : shL[row]? = some (2, 4, 0, [])) (hr1 : row ≠ 1 ∧ row ≠ 2 ∧ row ≠ 3 ∧ row ≠ 4 ∧ row ≠ 5) (hw : 0 ≤ w ∧ w ≤ 3) (hz : 0 ≤ h 1 4 ∧ h 1 4 ≤ 20) (ha : w = 1 → h 1 4 < 20) (hb : w = 2 → 0 ≤ h row 0 ∧ h row 0 < h 1 4) : Ct 2 yX4_obey cX4_obey 3 none E [rv E 1, iv w, rv E row] h (Upd none (obeyH h w row)) := by
  refine ct_intro (by decide) (Nat.le_of_ble_eq_true rfl) (fun G C => ?_)
  show Wp G E 3 (Upd none (obeyH h w row)) 0 [(0, rv E 1), (1, iv w), (2, rv E row)] [] h
  refine wp_iload_n 1 C dX4_obey_0 rfl rfl ?_
  by_cases c_1_0 : w = 0
  · refine wp_tswIn (tgt := 28) (by omega) C dX4_obey_1 (by omega) (by omega) (by rw [c_1_0]; rfl) (by decide) ?_
    refine wp_aloadR_n 0 C dX4_obey_28 rfl rfl ?_
    refine wp_aloadR_n 2 C dX4_obey_29 rfl rfl ?_
    refine wp_iconst (v := 0) C dX4_obey_30 rfl ?_
    refine wp_lald hrow (by omega) C dX4_obey_31 ?_
    refine wp_l2i C dX4_obey_32 ?_
    refine wp_putI fpX4_28 sh_1 rfl C dX4_obey_33 ?_
    obtain ⟨H1, e_H1⟩ : ∃ z : Hp, z = upd2 h 1 5 (h row 0) := ⟨_, rfl⟩
    refine wp_heq e_H1 ?_
    refine wp_goto (tgt := 63) C dX4_obey_36 (by decide) ?_
    refine wp_vret C dX4_obey_63 ?_
    exact upd_e (by subst_vars; first | rfl | (simp only [obeyH]; first | rfl | (rw [if_neg (by omega), if_neg (by omega), if_neg (by omega)])))
  by_cases c_1_1 : w = 1
  · refine wp_tswIn (tgt := 39) (by omega) C dX4_obey_1 (by omega) (by omega) (by rw [c_1_1]; rfl) (by decide) ?_
    refine wp_aloadR_n 0 C dX4_obey_39 rfl rfl ?_
    refine wp_aloadR_n 2 C dX4_obey_40 rfl rfl ?_
    refine wp_callVu (rest := []) (c_add E h row hrow hr1 (by omega)) svX4_47 sh_1 (by decide) rfl rfl (Nat.le_of_ble_eq_true rfl) C dX4_obey_41 ?_
    show Wp G E 3 (Upd none (obeyH h w row)) 44 [(0, rv E 1), (1, iv w), (2, rv E row)] [] (addH h row)
    obtain ⟨H2, e_H2⟩ : ∃ z : Hp, z = addH h row := ⟨_, rfl⟩
    refine wp_heq e_H2 ?_
    refine wp_goto (tgt := 63) C dX4_obey_44 (by decide) ?_
    refine wp_vret C dX4_obey_63 ?_
    exact upd_e (by subst_vars; first | rfl | (simp only [obeyH]; first | rfl | (rw [if_neg (by omega), if_neg (by omega), if_neg (by omega)])))
  by_cases c_1_2 : w = 2
  · refine wp_tswIn (tgt := 47) (by omega) C dX4_obey_1 (by omega) (by omega) (by rw [c_1_2]; rfl) (by decide) ?_
    refine wp_aloadR_n 0 C dX4_obey_47 rfl rfl ?_
    refine wp_aloadR_n 2 C dX4_obey_48 rfl rfl ?_
    refine wp_iconst (v := 0) C dX4_obey_49 rfl ?_
    refine wp_lald hrow (by omega) C dX4_obey_50 ?_
    refine wp_l2i C dX4_obey_51 ?_
    refine wp_callVu (rest := []) (c_takeAway E h (h row 0) (by omega) (by omega)) svX4_51 sh_1 (by decide) rfl rfl (Nat.le_of_ble_eq_true rfl) C dX4_obey_52 ?_
    show Wp G E 3 (Upd none (obeyH h w row)) 55 [(0, rv E 1), (1, iv w), (2, rv E row)] [] (awayH h (h row 0))
    obtain ⟨H3, e_H3⟩ : ∃ z : Hp, z = awayH h (h row 0) := ⟨_, rfl⟩
    refine wp_heq e_H3 ?_
    refine wp_goto (tgt := 63) C dX4_obey_55 (by decide) ?_
    refine wp_vret C dX4_obey_63 ?_
    exact upd_e (by subst_vars; first | rfl | (simp only [obeyH]; first | rfl | (rw [if_neg (by omega), if_neg (by omega), if_neg (by omega)])))
  refine wp_tswOut (tgt := 58) (by omega) C dX4_obey_1 (by omega) (by decide) ?_
  refine wp_aloadR_n 0 C dX4_obey_58 rfl rfl ?_
  refine wp_iconst (v := 0) C dX4_obey_59 rfl ?_
  refine wp_putI fpX4_24 sh_1 rfl C dX4_obey_60 ?_
  obtain ⟨H4, e_H4⟩ : ∃ z : Hp, z = upd2 h 1 4 0 := ⟨_, rfl⟩
  refine wp_heq e_H4 ?_
  refine wp_vret C dX4_obey_63 ?_
  exact upd_e (by subst_vars; first | rfl | (simp only [obeyH]; first | rfl | (rw [if_neg (by omega), if_neg (by omega), if_neg (by omega)])))

theorem lAnd_mask {a : Int} (n : Nat) (hn : n ≤ 62) : lAnd a (2 ^ n - 1) = a % 2 ^ n := by
  show (Int64.ofInt a &&& Int64.ofInt (2 ^ n - 1)).toBitVec.toInt = _
  have hp : (0 : Int) < 2 ^ n := Int.pow_pos (by decide)
  have hp2 : (2 : Int) ^ n ≤ 2 ^ 62 := p2_mono hn
  have hp3 : (2 : Int) ^ 62 = 4611686018427387904 := by decide
  have hp4 : (2 : Nat) ^ 62 = 4611686018427387904 := by decide
  have e5 := p2_cast n
  rw [Int64.toBitVec_and, Int64.toBitVec_ofInt, Int64.toBitVec_ofInt]
  have e : (BitVec.ofInt 64 a &&& BitVec.ofInt 64 ((2 : Int) ^ n - 1)).toNat = (a % 2 ^ n).toNat := by
    have e6 : 0 < 2 ^ n := Nat.pow_pos (by decide)
    have e7 : 2 ^ n ≤ 2 ^ 62 := Nat.pow_le_pow_right (by decide) hn
    have e4 : ((2 : Int) ^ n - 1) = ((2 ^ n - 1 : Nat) : Int) := by omega
    rw [BitVec.toNat_and, BitVec.toNat_ofInt, BitVec.toNat_ofInt, e4]
    have e3 : ((2 ^ 64 : Nat) : Int) = 18446744073709551616 := rfl
    rw [e3, Int.emod_eq_of_lt (a := ((2 ^ n - 1 : Nat) : Int)) (by omega) (by omega), Int.toNat_natCast, Nat.and_two_pow_sub_one_eq_mod]
    have h0 : 0 ≤ a % 18446744073709551616 := Int.emod_nonneg _ (by decide)
    have hd : (2 : Int) ^ n ∣ 18446744073709551616 := ⟨2 ^ (64 - n), by rw [← Int.pow_add, show n + (64 - n) = 64 by omega]; rfl⟩
    rw [← Int.emod_emod_of_dvd a hd]
    generalize a % 18446744073709551616 = z at *
    obtain ⟨k, rfl⟩ := Int.eq_ofNat_of_zero_le h0
    have e8 : (k : Int) % 2 ^ n = ((k % 2 ^ n : Nat) : Int) := by simp
    rw [e8, Int.toNat_natCast, Int.toNat_natCast]
  have h2 := Int.emod_nonneg a (b := 2 ^ n) (by omega)
  have h3 := Int.emod_lt_of_pos a hp
  rw [BitVec.toInt_eq_toNat_of_lt (by rw [e]; omega), e]
  omega
def wrH (h : Hp) (id : Nat) (len b : Int) (i : Int) : Hp := fun a k => if a = id ∧ len ≤ k ∧ (k : Int) < len + i then b / 2 ^ (8 * ((k : Int) - len)).toNat % 256 else h a k
theorem wrH_0 {h : Hp} {id : Nat} {len b : Int} : wrH h id len b 0 = h := by
  funext a k
  unfold wrH
  rw [if_neg (fun z => by omega)]
theorem wrH_step {h : Hp} {id : Nat} {len b i : Int} (h0 : 0 ≤ len) (hi : 0 ≤ i) : upd2 (wrH h id len b i) id (len + i).toNat (b / 2 ^ (8 * i).toNat % 256) = wrH h id len b (i + 1) := by
  funext a k
  unfold upd2 wrH
  by_cases e : a = id ∧ k = (len + i).toNat
  · rw [if_pos e, if_pos ⟨e.1, by omega, by omega⟩, show (k : Int) - len = i by omega]
  · rw [if_neg e]
    by_cases e2 : a = id ∧ len ≤ (k : Int) ∧ (k : Int) < len + i
    · rw [if_pos e2, if_pos ⟨e2.1, e2.2.1, by omega⟩]
    · rw [if_neg e2, if_neg (fun z => e2 ⟨z.1, z.2.1, by have : k ≠ (len + i).toNat := fun w => e ⟨z.1, w⟩; omega⟩)]
def putH (h : Hp) (b n : Int) : Hp := upd2 (wrH h 7 (h 6 1) b n) 6 1 (h 6 1 + n)
set_option maxRecDepth 100000 in
set_option maxHeartbeats 4000000 in
theorem c_put (E : En) (h : Hp) (b n : Int) (hb : -9223372036854775808 ≤ b ∧ b ≤ 9223372036854775807) (hn : 1 ≤ n ∧ n ≤ 8) (hl : 0 ≤ h 6 1 ∧ h 6 1 ≤ 200) : Ct 0 yX8_put cX8_put 5 (some .boolean) E [rv E 6, jv b, iv n] h (Upd (some (iv (bi (h 6 1 + n ≤ 200)))) (if h 6 1 + n ≤ 200 then putH h b n else h)) := by
  refine ct_intro (by decide) (Nat.le_of_ble_eq_true rfl) (fun G C => ?_)
  show Wp G E 5 (Upd (some (iv (bi (h 6 1 + n ≤ 200)))) (if h 6 1 + n ≤ 200 then putH h b n else h)) 0 [(0, rv E 6), (1, jv b), (3, iv n)] [] h
  refine wp_aloadR_n 0 C dX8_put_0 rfl rfl ?_
  refine wp_getI flX8_15 sh_6 rfl C dX8_put_1 ?_
  refine wp_iload_n 2 C dX8_put_4 rfl rfl ?_
  refine wp_iadd C dX8_put_5 ?_
  refine wp_sipush (v := 200) C dX8_put_6 rfl ?_
  refine wp_icmp_le (tgt := 14) (by omega) (by omega) C dX8_put_9 (by decide) (fun c_9 => ?_) (fun c_9 => ?_)
  · skip
    refine wp_iconst (v := 0) C dX8_put_14 rfl ?_
    refine wp_istore (ls' := [(0, rv E 6), (1, jv b), (3, iv n), (4, iv 0)]) [1, 2, 3, 0] C dX8_put_15 (by decide) rfl ?_
    have q170 : ∀ n9 : Nat, ∀ (x4 : Int) (hx : Hp), (0 ≤ x4 ∧ x4 ≤ n) → (hx = wrH h 7 (h 6 1) b x4) → (n - x4).toNat < n9 → Wp G E 5 (Upd (some (iv (bi (h 6 1 + n ≤ 200)))) (if h 6 1 + n ≤ 200 then putH h b n else h)) 17 [(0, rv E 6), (1, jv b), (3, iv n), (4, iv x4)] [] hx := by
      intro n9
      induction n9 with
      | zero => intro x4 hx hi hh hm9; exact absurd hm9 (Nat.not_lt_zero _)
      | succ n9 ih9 =>
        intro x4 hx hi hh hm9
        have ih9_17 := ih9
        have hl6 : hx 6 1 = h 6 1 := by rw [hh]; simp [wrH]
        refine wp_iload 3 C dX8_put_17 rfl ?_
        refine wp_iload_n 2 C dX8_put_19 rfl rfl ?_
        refine wp_icmp_ge (tgt := 53) (by omega) (by omega) C dX8_put_20 (by decide) (fun c_20 => ?_) (fun c_20 => ?_)
        · skip
          refine wp_aloadR_n 0 C dX8_put_53 rfl rfl ?_
          refine wp_dup rfl C dX8_put_54 ?_
          refine wp_getI flX8_15 sh_6 rfl C dX8_put_55 ?_
          refine wp_iload_n 2 C dX8_put_58 rfl rfl ?_
          refine wp_iadd C dX8_put_59 ?_
          refine wp_putI fpX8_15 sh_6 rfl C dX8_put_60 ?_
          obtain ⟨H1, e_H1⟩ : ∃ z : Hp, z = upd2 hx 6 1 ((hx 6 1) + n) := ⟨_, rfl⟩
          refine wp_heq e_H1 ?_
          refine wp_iconst (v := 1) C dX8_put_63 rfl ?_
          refine wp_zret (by first | exact bi_01 | omega) C dX8_put_64 ?_
          exact upd_i (bi_t (by omega)).symm (by rw [if_pos (by omega)]; subst_vars; simp only [hl6]; rw [show x4 = n by omega]; rfl)
        · skip
          refine wp_aloadR_n 0 C dX8_put_23 rfl rfl ?_
          refine wp_getR flX8_9 sh_6 rfl C dX8_put_24 ?_
          refine wp_aloadR_n 0 C dX8_put_27 rfl rfl ?_
          refine wp_getI flX8_15 sh_6 rfl C dX8_put_28 ?_
          refine wp_iload 3 C dX8_put_31 rfl ?_
          refine wp_iadd C dX8_put_33 ?_
          refine wp_lload_n 1 C dX8_put_34 rfl rfl ?_
          refine wp_bipush (v := 8) C dX8_put_35 rfl ?_
          refine wp_iload 3 C dX8_put_37 rfl ?_
          refine wp_imul C dX8_put_39 ?_
          refine wp_lshr (by omega) (by omega) C dX8_put_40 ?_
          refine wp_ldc2 (v := 255) C (mT (i := 324) (by decide +kernel) rfl) dX8_put_41 ?_
          refine wp_land C dX8_put_44 ?_
          refine wp_topl (show _ = _ % 256 from lAnd_mask (n := 8) (by decide)) ?_
          refine wp_l2i C dX8_put_45 ?_
          refine wp_iast sh_7 (by omega) C dX8_put_46 ?_
          obtain ⟨H2, e_H2⟩ : ∃ z : Hp, z = upd2 hx 7 ((hx 6 1) + x4).toNat ((b / 2 ^ (8 * x4).toNat) % 256) := ⟨_, rfl⟩
          refine wp_heq e_H2 ?_
          obtain ⟨v3, e_v3⟩ : ∃ z : Int, z = x4 + (1) := ⟨_, rfl⟩
          refine wp_iinc (j := 3) (y := v3) (ls' := [(0, rv E 6), (1, jv b), (3, iv n), (4, iv v3)]) [1, 2, 3, 0] C dX8_put_47 rfl e_v3 (by decide) rfl ?_
          refine wp_goto (tgt := 17) C dX8_put_50 (by decide) ?_
          exact ih9_17 v3 H2 (by omega) (by rw [e_H2, e_v3, hl6, hh, ← wrH_step (by omega) (by omega)]) (by omega)
    have q17 : ∀ (x4 : Int) (hx : Hp), (0 ≤ x4 ∧ x4 ≤ n) → (hx = wrH h 7 (h 6 1) b x4) → Wp G E 5 (Upd (some (iv (bi (h 6 1 + n ≤ 200)))) (if h 6 1 + n ≤ 200 then putH h b n else h)) 17 [(0, rv E 6), (1, jv b), (3, iv n), (4, iv x4)] [] hx := fun x4 hx hi hh => q170 _ x4 hx hi hh (Nat.lt_succ_self _)
    exact q17 0 h (by omega) (wrH_0.symm)
  · skip
    refine wp_iconst (v := 0) C dX8_put_12 rfl ?_
    refine wp_zret (by first | exact bi_01 | omega) C dX8_put_13 ?_
    exact upd_i (bi_f (by omega)).symm (by rw [if_neg (by omega)])

def txt (h : Hp) (p : Int) : Int := if 0 ≤ p ∧ p < h 6 1 then h 7 p.toNat else -1
set_option maxRecDepth 100000 in
set_option maxHeartbeats 4000000 in
theorem c_at (E : En) (h : Hp) (p : Int) (hl : 0 ≤ h 6 1 ∧ h 6 1 ≤ 200) (hp : -2147483648 ≤ p ∧ p ≤ 2147483647) : Ct 0 yX8_at cX8_at 2 (some .int) E [rv E 6, iv p] h (Ret (iv (txt h p)) h) := by
  refine ct_intro (by decide) (Nat.le_of_ble_eq_true rfl) (fun G C => ?_)
  show Wp G E 2 (Ret (iv (txt h p)) h) 0 [(0, rv E 6), (1, iv p)] [] h
  refine wp_iload_n 1 C dX8_at_0 rfl rfl ?_
  refine wp_if_lt (tgt := 21) (by omega) C dX8_at_1 (by decide) (fun c_1 => ?_) (fun c_1 => ?_)
  · skip
    refine wp_iconst (v := (-1)) C dX8_at_21 rfl ?_
    refine wp_iret C dX8_at_22 ?_
    exact ret_iv (by rw [txt, if_neg (by omega)])
  · skip
    refine wp_iload_n 1 C dX8_at_4 rfl rfl ?_
    refine wp_aloadR_n 0 C dX8_at_5 rfl rfl ?_
    refine wp_getI flX8_15 sh_6 rfl C dX8_at_6 ?_
    refine wp_icmp_ge (tgt := 21) (by omega) (by omega) C dX8_at_9 (by decide) (fun c_9 => ?_) (fun c_9 => ?_)
    · skip
      refine wp_iconst (v := (-1)) C dX8_at_21 rfl ?_
      refine wp_iret C dX8_at_22 ?_
      exact ret_iv (by rw [txt, if_neg (by omega)])
    · skip
      refine wp_aloadR_n 0 C dX8_at_12 rfl rfl ?_
      refine wp_getR flX8_9 sh_6 rfl C dX8_at_13 ?_
      refine wp_iload_n 1 C dX8_at_16 rfl rfl ?_
      refine wp_iald sh_7 (by omega) C dX8_at_17 ?_
      refine wp_goto (tgt := 22) C dX8_at_18 (by decide) ?_
      refine wp_iret C dX8_at_22 ?_
      exact ret_iv (by rw [txt, if_pos (by omega)])


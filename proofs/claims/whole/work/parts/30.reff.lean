/-! ===== the reference: find ===== -/
set_option maxRecDepth 100000 in
set_option maxHeartbeats 4000000 in
theorem c_placeOf (E : En) (h : Hp) (i c r s k : Int) : Ct 0 yX12_placeOf cX12_placeOf 5 (some .int) E [iv i, iv c, iv r, iv s, iv k] h (Ret (iv (4200 * i + 200 * c + 20 * r + 2 * s + k)) h) := by
  refine ct_intro (by decide) (Nat.le_of_ble_eq_true rfl) (fun G C => ?_)
  show Wp G E 5 (Ret (iv (4200 * i + 200 * c + 20 * r + 2 * s + k)) h) 0 [(0, iv i), (1, iv c), (2, iv r), (3, iv s), (4, iv k)] [] h
  refine wp_iload_n 0 C dX12_placeOf_0 rfl rfl ?_
  refine wp_bipush (v := 21) C dX12_placeOf_1 rfl ?_
  refine wp_imul C dX12_placeOf_3 ?_
  refine wp_iload_n 1 C dX12_placeOf_4 rfl rfl ?_
  refine wp_iadd C dX12_placeOf_5 ?_
  refine wp_bipush (v := 10) C dX12_placeOf_6 rfl ?_
  refine wp_imul C dX12_placeOf_8 ?_
  refine wp_iload_n 2 C dX12_placeOf_9 rfl rfl ?_
  refine wp_iadd C dX12_placeOf_10 ?_
  refine wp_bipush (v := 10) C dX12_placeOf_11 rfl ?_
  refine wp_imul C dX12_placeOf_13 ?_
  refine wp_iload_n 3 C dX12_placeOf_14 rfl rfl ?_
  refine wp_iadd C dX12_placeOf_15 ?_
  refine wp_iconst (v := 2) C dX12_placeOf_16 rfl ?_
  refine wp_imul C dX12_placeOf_17 ?_
  refine wp_iload 4 C dX12_placeOf_18 rfl ?_
  refine wp_iadd C dX12_placeOf_20 ?_
  refine wp_iret C dX12_placeOf_21 ?_
  exact ret_iv (by first | rfl | omega)

set_option maxRecDepth 100000 in
set_option maxHeartbeats 4000000 in
theorem c_behind (E : En) (h : Hp) (n : Nat) (p : Int) (N Sc Cl Cs : Nat → Int) (M0 : MH h n p N Sc Cl Cs) (kd i c r se co : Int) (hkd : 0 ≤ kd ∧ kd ≤ 7) (hi : 0 ≤ i ∧ i < n) (hc : 0 ≤ c ∧ c ≤ 20) (hr : 0 ≤ r ∧ r < p) (hse : 0 ≤ se ∧ se < p) (hco : co = 0 ∨ co = 1) : Ct 2 yX12_behind cX12_behind 11 (some .int) E [rv E 128, iv kd, iv i, iv c, iv r, iv se, iv co] h (Ret (iv (if c = 0 then -1 else 4200 * (i + 1) + 200 * (c - 1) + 20 * sbm r (N i.toNat % p) p + 2 * (if kd = 3 then sbm se (Sc i.toNat % p) p else 0) + (if co = 1 ∧ Cl i.toNat = kd - 4 then 0 else co))) h) := by
  obtain ⟨m0, m1, m2, m3, mN, mS, mC, mK⟩ := id M0
  have hmn := mod_r (N i.toNat) m3
  have hms := mod_r (Sc i.toNat) m3
  have kS := mS i.toNat (by omega)
  have kC := mC i.toNat (by omega)
  refine ct_intro (by decide) (Nat.le_of_ble_eq_true rfl) (fun G C => ?_)
  show Wp G E 11 (Ret (iv (if c = 0 then -1 else 4200 * (i + 1) + 200 * (c - 1) + 20 * sbm r (N i.toNat % p) p + 2 * (if kd = 3 then sbm se (Sc i.toNat % p) p else 0) + (if co = 1 ∧ Cl i.toNat = kd - 4 then 0 else co))) h) 0 [(0, rv E 128), (1, iv kd), (2, iv i), (3, iv c), (4, iv r), (5, iv se), (6, iv co)] [] h
  refine wp_iload_n 3 C dX12_behind_0 rfl rfl ?_
  refine wp_if_ne (tgt := 6) (by omega) C dX12_behind_1 (by decide) (fun c_1 => ?_) (fun c_1 => ?_)
  · skip
    refine wp_aloadR_n 0 C dX12_behind_6 rfl rfl ?_
    refine wp_callVp (rest := []) (c_parts E h n p N Sc Cl Cs M0) svX12_157 sh_128 (by decide) rfl rfl (Nat.le_of_ble_eq_true rfl) C dX12_behind_7 ?_
    refine wp_istore (ls' := [(0, rv E 128), (1, iv kd), (2, iv i), (3, iv c), (4, iv r), (5, iv se), (6, iv co), (7, iv p)]) [1, 2, 3, 4, 5, 6, 7, 0] C dX12_behind_10 (by decide) rfl ?_
    refine wp_iload 4 C dX12_behind_12 rfl ?_
    refine wp_iload 7 C dX12_behind_14 rfl ?_
    refine wp_iadd C dX12_behind_16 ?_
    refine wp_aloadR_n 0 C dX12_behind_17 rfl rfl ?_
    refine wp_iload_n 2 C dX12_behind_18 rfl rfl ?_
    refine wp_callVp (rest := [iv (r + p)]) (c_mrestOf E h n p N Sc Cl Cs M0 i (by omega)) svX12_162 sh_128 (by decide) rfl rfl (Nat.le_of_ble_eq_true rfl) C dX12_behind_19 ?_
    refine wp_isub C dX12_behind_22 ?_
    refine wp_iload 7 C dX12_behind_23 rfl ?_
    refine wp_irem (by omega) (by omega) C dX12_behind_25 ?_
    refine wp_top (tm_sbm hr hmn) ?_
    refine wp_nm (fun v8 e_v8 => ?_)
    refine wp_istore (ls' := [(0, rv E 128), (1, iv kd), (2, iv i), (3, iv c), (4, iv r), (5, iv se), (6, iv co), (7, iv p), (8, iv v8)]) [1, 2, 3, 4, 5, 6, 7, 8, 0] C dX12_behind_26 (by decide) rfl ?_
    refine wp_iload_n 1 C dX12_behind_28 rfl rfl ?_
    refine wp_iconst (v := 3) C dX12_behind_29 rfl ?_
    refine wp_icmp_ne (tgt := 58) (by omega) (by omega) C dX12_behind_30 (by decide) (fun c_30 => ?_) (fun c_30 => ?_)
    · skip
      refine wp_iconst (v := 0) C dX12_behind_58 rfl ?_
      refine wp_istore (ls' := [(0, rv E 128), (1, iv kd), (2, iv i), (3, iv c), (4, iv r), (5, iv se), (6, iv co), (7, iv p), (8, iv v8), (9, iv 0)]) [1, 2, 3, 4, 5, 6, 7, 8, 9, 0] C dX12_behind_59 (by decide) rfl ?_
      refine wp_iload 6 C dX12_behind_61 rfl ?_
      refine wp_iconst (v := 1) C dX12_behind_63 rfl ?_
      refine wp_icmp_ne (tgt := 87) (by omega) (by omega) C dX12_behind_64 (by decide) (fun c_64 => ?_) (fun c_64 => ?_)
      · skip
        refine wp_iload 6 C dX12_behind_87 rfl ?_
        refine wp_istore (ls' := [(0, rv E 128), (1, iv kd), (2, iv i), (3, iv c), (4, iv r), (5, iv se), (6, iv co), (7, iv p), (8, iv v8), (9, iv 0), (10, iv co)]) [1, 2, 3, 4, 5, 6, 7, 8, 9, 10, 0] C dX12_behind_89 (by decide) rfl ?_
        refine wp_iload_n 2 C dX12_behind_91 rfl rfl ?_
        refine wp_iconst (v := 1) C dX12_behind_92 rfl ?_
        refine wp_iadd C dX12_behind_93 ?_
        refine wp_iload_n 3 C dX12_behind_94 rfl rfl ?_
        refine wp_iconst (v := 1) C dX12_behind_95 rfl ?_
        refine wp_isub C dX12_behind_96 ?_
        refine wp_iload 8 C dX12_behind_97 rfl ?_
        refine wp_iload 9 C dX12_behind_99 rfl ?_
        refine wp_iload 10 C dX12_behind_101 rfl ?_
        refine wp_callSp (rest := []) (c_placeOf E h (i + 1) (c - 1) v8 0 co) ssX12_204 (by decide) rfl rfl (Nat.le_of_ble_eq_true rfl) C dX12_behind_103 ?_
        refine wp_iret C dX12_behind_106 ?_
        exact ret_iv (by rw [if_neg (by omega)]; rw [← e_v8, if_neg (by omega), if_neg (by omega)])
      · skip
        refine wp_aloadR_n 0 C dX12_behind_67 rfl rfl ?_
        refine wp_getR flX12_13 sh_128 rfl C dX12_behind_68 ?_
        refine wp_iconst (v := 3) C dX12_behind_71 rfl ?_
        refine wp_iload_n 2 C dX12_behind_72 rfl rfl ?_
        refine wp_imul C dX12_behind_73 ?_
        refine wp_iconst (v := 1) C dX12_behind_74 rfl ?_
        refine wp_iadd C dX12_behind_75 ?_
        refine wp_iald sh_130 (by omega) C dX12_behind_76 ?_
        refine wp_top (show _ = Cl i.toNat by rw [show (3 * i + 1).toNat = 3 * i.toNat + 1 by omega]; exact kC.1) ?_
        refine wp_iload_n 1 C dX12_behind_77 rfl rfl ?_
        refine wp_iconst (v := 4) C dX12_behind_78 rfl ?_
        refine wp_isub C dX12_behind_79 ?_
        refine wp_icmp_ne (tgt := 87) (by omega) (by omega) C dX12_behind_80 (by decide) (fun c_80 => ?_) (fun c_80 => ?_)
        · skip
          refine wp_iload 6 C dX12_behind_87 rfl ?_
          refine wp_istore (ls' := [(0, rv E 128), (1, iv kd), (2, iv i), (3, iv c), (4, iv r), (5, iv se), (6, iv co), (7, iv p), (8, iv v8), (9, iv 0), (10, iv co)]) [1, 2, 3, 4, 5, 6, 7, 8, 9, 10, 0] C dX12_behind_89 (by decide) rfl ?_
          refine wp_iload_n 2 C dX12_behind_91 rfl rfl ?_
          refine wp_iconst (v := 1) C dX12_behind_92 rfl ?_
          refine wp_iadd C dX12_behind_93 ?_
          refine wp_iload_n 3 C dX12_behind_94 rfl rfl ?_
          refine wp_iconst (v := 1) C dX12_behind_95 rfl ?_
          refine wp_isub C dX12_behind_96 ?_
          refine wp_iload 8 C dX12_behind_97 rfl ?_
          refine wp_iload 9 C dX12_behind_99 rfl ?_
          refine wp_iload 10 C dX12_behind_101 rfl ?_
          refine wp_callSp (rest := []) (c_placeOf E h (i + 1) (c - 1) v8 0 co) ssX12_204 (by decide) rfl rfl (Nat.le_of_ble_eq_true rfl) C dX12_behind_103 ?_
          refine wp_iret C dX12_behind_106 ?_
          exact ret_iv (by rw [if_neg (by omega)]; rw [← e_v8, if_neg (by omega), if_neg (by omega)])
        · skip
          refine wp_iconst (v := 0) C dX12_behind_83 rfl ?_
          refine wp_goto (tgt := 89) C dX12_behind_84 (by decide) ?_
          refine wp_istore (ls' := [(0, rv E 128), (1, iv kd), (2, iv i), (3, iv c), (4, iv r), (5, iv se), (6, iv co), (7, iv p), (8, iv v8), (9, iv 0), (10, iv 0)]) [1, 2, 3, 4, 5, 6, 7, 8, 9, 10, 0] C dX12_behind_89 (by decide) rfl ?_
          refine wp_iload_n 2 C dX12_behind_91 rfl rfl ?_
          refine wp_iconst (v := 1) C dX12_behind_92 rfl ?_
          refine wp_iadd C dX12_behind_93 ?_
          refine wp_iload_n 3 C dX12_behind_94 rfl rfl ?_
          refine wp_iconst (v := 1) C dX12_behind_95 rfl ?_
          refine wp_isub C dX12_behind_96 ?_
          refine wp_iload 8 C dX12_behind_97 rfl ?_
          refine wp_iload 9 C dX12_behind_99 rfl ?_
          refine wp_iload 10 C dX12_behind_101 rfl ?_
          refine wp_callSp (rest := []) (c_placeOf E h (i + 1) (c - 1) v8 0 0) ssX12_204 (by decide) rfl rfl (Nat.le_of_ble_eq_true rfl) C dX12_behind_103 ?_
          refine wp_iret C dX12_behind_106 ?_
          exact ret_iv (by rw [if_neg (by omega)]; rw [← e_v8, if_neg (by omega), if_pos (by omega)])
    · skip
      refine wp_iload 5 C dX12_behind_33 rfl ?_
      refine wp_iload 7 C dX12_behind_35 rfl ?_
      refine wp_iadd C dX12_behind_37 ?_
      refine wp_aloadR_n 0 C dX12_behind_38 rfl rfl ?_
      refine wp_getR flX12_13 sh_128 rfl C dX12_behind_39 ?_
      refine wp_iconst (v := 3) C dX12_behind_42 rfl ?_
      refine wp_iload_n 2 C dX12_behind_43 rfl rfl ?_
      refine wp_imul C dX12_behind_44 ?_
      refine wp_iconst (v := 0) C dX12_behind_45 rfl ?_
      refine wp_iadd C dX12_behind_46 ?_
      refine wp_iald sh_130 (by omega) C dX12_behind_47 ?_
      refine wp_top (show _ = Sc i.toNat by rw [show (3 * i + 0).toNat = 3 * i.toNat by omega]; exact kS.1) ?_
      refine wp_iload 7 C dX12_behind_48 rfl ?_
      refine wp_irem (by omega) (by omega) C dX12_behind_50 ?_
      refine wp_top (Int.tmod_eq_emod_of_nonneg kS.2.1) ?_
      refine wp_isub C dX12_behind_51 ?_
      refine wp_iload 7 C dX12_behind_52 rfl ?_
      refine wp_irem (by omega) (by omega) C dX12_behind_54 ?_
      refine wp_top (tm_sbm hse hms) ?_
      refine wp_goto (tgt := 59) C dX12_behind_55 (by decide) ?_
      refine wp_nm (fun v9 e_v9 => ?_)
      refine wp_istore (ls' := [(0, rv E 128), (1, iv kd), (2, iv i), (3, iv c), (4, iv r), (5, iv se), (6, iv co), (7, iv p), (8, iv v8), (9, iv v9)]) [1, 2, 3, 4, 5, 6, 7, 8, 9, 0] C dX12_behind_59 (by decide) rfl ?_
      refine wp_iload 6 C dX12_behind_61 rfl ?_
      refine wp_iconst (v := 1) C dX12_behind_63 rfl ?_
      refine wp_icmp_ne (tgt := 87) (by omega) (by omega) C dX12_behind_64 (by decide) (fun c_64 => ?_) (fun c_64 => ?_)
      · skip
        refine wp_iload 6 C dX12_behind_87 rfl ?_
        refine wp_istore (ls' := [(0, rv E 128), (1, iv kd), (2, iv i), (3, iv c), (4, iv r), (5, iv se), (6, iv co), (7, iv p), (8, iv v8), (9, iv v9), (10, iv co)]) [1, 2, 3, 4, 5, 6, 7, 8, 9, 10, 0] C dX12_behind_89 (by decide) rfl ?_
        refine wp_iload_n 2 C dX12_behind_91 rfl rfl ?_
        refine wp_iconst (v := 1) C dX12_behind_92 rfl ?_
        refine wp_iadd C dX12_behind_93 ?_
        refine wp_iload_n 3 C dX12_behind_94 rfl rfl ?_
        refine wp_iconst (v := 1) C dX12_behind_95 rfl ?_
        refine wp_isub C dX12_behind_96 ?_
        refine wp_iload 8 C dX12_behind_97 rfl ?_
        refine wp_iload 9 C dX12_behind_99 rfl ?_
        refine wp_iload 10 C dX12_behind_101 rfl ?_
        refine wp_callSp (rest := []) (c_placeOf E h (i + 1) (c - 1) v8 v9 co) ssX12_204 (by decide) rfl rfl (Nat.le_of_ble_eq_true rfl) C dX12_behind_103 ?_
        refine wp_iret C dX12_behind_106 ?_
        exact ret_iv (by rw [if_neg (by omega)]; rw [← e_v8, if_pos (by omega), if_neg (by omega), ← e_v9])
      · skip
        refine wp_aloadR_n 0 C dX12_behind_67 rfl rfl ?_
        refine wp_getR flX12_13 sh_128 rfl C dX12_behind_68 ?_
        refine wp_iconst (v := 3) C dX12_behind_71 rfl ?_
        refine wp_iload_n 2 C dX12_behind_72 rfl rfl ?_
        refine wp_imul C dX12_behind_73 ?_
        refine wp_iconst (v := 1) C dX12_behind_74 rfl ?_
        refine wp_iadd C dX12_behind_75 ?_
        refine wp_iald sh_130 (by omega) C dX12_behind_76 ?_
        refine wp_top (show _ = Cl i.toNat by rw [show (3 * i + 1).toNat = 3 * i.toNat + 1 by omega]; exact kC.1) ?_
        refine wp_iload_n 1 C dX12_behind_77 rfl rfl ?_
        refine wp_iconst (v := 4) C dX12_behind_78 rfl ?_
        refine wp_isub C dX12_behind_79 ?_
        refine wp_icmp_ne (tgt := 87) (by omega) (by omega) C dX12_behind_80 (by decide) (fun c_80 => ?_) (fun c_80 => ?_)
        · skip
          refine wp_iload 6 C dX12_behind_87 rfl ?_
          refine wp_istore (ls' := [(0, rv E 128), (1, iv kd), (2, iv i), (3, iv c), (4, iv r), (5, iv se), (6, iv co), (7, iv p), (8, iv v8), (9, iv v9), (10, iv co)]) [1, 2, 3, 4, 5, 6, 7, 8, 9, 10, 0] C dX12_behind_89 (by decide) rfl ?_
          refine wp_iload_n 2 C dX12_behind_91 rfl rfl ?_
          refine wp_iconst (v := 1) C dX12_behind_92 rfl ?_
          refine wp_iadd C dX12_behind_93 ?_
          refine wp_iload_n 3 C dX12_behind_94 rfl rfl ?_
          refine wp_iconst (v := 1) C dX12_behind_95 rfl ?_
          refine wp_isub C dX12_behind_96 ?_
          refine wp_iload 8 C dX12_behind_97 rfl ?_
          refine wp_iload 9 C dX12_behind_99 rfl ?_
          refine wp_iload 10 C dX12_behind_101 rfl ?_
          refine wp_callSp (rest := []) (c_placeOf E h (i + 1) (c - 1) v8 v9 co) ssX12_204 (by decide) rfl rfl (Nat.le_of_ble_eq_true rfl) C dX12_behind_103 ?_
          refine wp_iret C dX12_behind_106 ?_
          exact ret_iv (by rw [if_neg (by omega)]; rw [← e_v8, if_pos (by omega), if_neg (by omega), ← e_v9])
        · skip
          refine wp_iconst (v := 0) C dX12_behind_83 rfl ?_
          refine wp_goto (tgt := 89) C dX12_behind_84 (by decide) ?_
          refine wp_istore (ls' := [(0, rv E 128), (1, iv kd), (2, iv i), (3, iv c), (4, iv r), (5, iv se), (6, iv co), (7, iv p), (8, iv v8), (9, iv v9), (10, iv 0)]) [1, 2, 3, 4, 5, 6, 7, 8, 9, 10, 0] C dX12_behind_89 (by decide) rfl ?_
          refine wp_iload_n 2 C dX12_behind_91 rfl rfl ?_
          refine wp_iconst (v := 1) C dX12_behind_92 rfl ?_
          refine wp_iadd C dX12_behind_93 ?_
          refine wp_iload_n 3 C dX12_behind_94 rfl rfl ?_
          refine wp_iconst (v := 1) C dX12_behind_95 rfl ?_
          refine wp_isub C dX12_behind_96 ?_
          refine wp_iload 8 C dX12_behind_97 rfl ?_
          refine wp_iload 9 C dX12_behind_99 rfl ?_
          refine wp_iload 10 C dX12_behind_101 rfl ?_
          refine wp_callSp (rest := []) (c_placeOf E h (i + 1) (c - 1) v8 v9 0) ssX12_204 (by decide) rfl rfl (Nat.le_of_ble_eq_true rfl) C dX12_behind_103 ?_
          refine wp_iret C dX12_behind_106 ?_
          exact ret_iv (by rw [if_neg (by omega)]; rw [← e_v8, if_pos (by omega), if_pos (by omega), ← e_v9])
  · skip
    refine wp_iconst (v := (-1)) C dX12_behind_4 rfl ?_
    refine wp_iret C dX12_behind_5 ?_
    exact ret_iv (by rw [if_pos (by omega)])

def caP (N Sc Cl : Nat → Int) (p kd : Int) (n : Nat) (hx : Hp) (i c : Nat) (r se co : Int) : Prop := hx 137 (4200 * (i : Int) + 200 * (c : Int) + 20 * r + 2 * se + co).toNat = bi (cT N Sc Cl p kd (n - i) i c r se co = true)
theorem caP_ne {N Sc Cl : Nat → Int} {p kd : Int} {n : Nat} {hx H : Hp} {i c : Nat} {r se co w v : Int} (e : H = upd2 hx 137 w.toNat v) (hne : (4200 * (i : Int) + 200 * (c : Int) + 20 * r + 2 * se + co).toNat ≠ w.toNat) (q : caP N Sc Cl p kd n hx i c r se co) : caP N Sc Cl p kd n H i c r se co := by
  unfold caP at *
  rw [e]
  unfold upd2
  rw [if_neg (fun z => hne z.2)]
  exact q
theorem dec2 {w sec p : Int} (hs : 1 ≤ sec) (hw : 0 ≤ w ∧ w < p * sec) : (0 ≤ w / sec ∧ w / sec < p) ∧ (0 ≤ w % sec ∧ w % sec < sec) ∧ w = pl sec (w / sec) (w % sec) := by
  refine ⟨⟨Int.ediv_nonneg hw.1 (by omega), Int.ediv_lt_of_lt_mul (by omega) hw.2⟩, ⟨Int.emod_nonneg _ (by omega), Int.emod_lt_of_pos _ (by omega)⟩, ?_⟩
  unfold pl
  have := Int.mul_ediv_add_emod w sec
  rw [Int.mul_comm] at this
  omega
theorem caP_n {N Sc Cl : Nat → Int} {p kd : Int} {n c : Nat} {hx : Hp} {r se co : Int} (hb : ∀ b : Nat, (b : Int) < 4200 → hx 137 (4200 * n + b) = bi (b % 200 = 0 ∧ (b / 200 = 0 ∨ kd = 1))) (hc : c < 21) (hr : 0 ≤ r ∧ r ≤ 9) (hs : 0 ≤ se ∧ se ≤ 9) (hk : co = 0 ∨ co = 1) : caP N Sc Cl p kd n hx n c r se co := by
  unfold caP
  obtain ⟨w, hw⟩ : ∃ w : Nat, (w : Int) = 20 * r + 2 * se + co := ⟨(20 * r + 2 * se + co).toNat, by omega⟩
  have hwl : w < 200 := by omega
  have q := hb (200 * c + w) (by omega)
  rw [show (4200 * (n : Int) + 200 * (c : Int) + 20 * r + 2 * se + co).toNat = 4200 * n + (200 * c + w) by omega, q, Nat.sub_self]
  refine bi_c ?_
  rw [cT, Bool.and_eq_true, Bool.or_eq_true, decide_eq_true_eq, decide_eq_true_eq, decide_eq_true_eq, show (200 * c + w) % 200 = w by omega, show (200 * c + w) / 200 = c by omega]
  constructor
  · rintro ⟨h1, h2⟩
    exact ⟨by omega, h2⟩
  · rintro ⟨h1, h2⟩
    exact ⟨by omega, h2⟩
set_option maxRecDepth 100000 in
set_option maxHeartbeats 4000000 in
theorem c_layCan (E : En) (h : Hp) (n : Nat) (p : Int) (N Sc Cl Cs : Nat → Int) (M0 : MH h n p N Sc Cl Cs) (kd : Int) (hkd : 0 ≤ kd ∧ kd ≤ 7) : Ct 3 yX12_layCan cX12_layCan 10 none E [rv E 128, iv kd] h (fun r hx => r = none ∧ (∀ i c : Nat, i ≤ n → c < 21 → ∀ r se co : Int, 0 ≤ r ∧ r < p → 0 ≤ se ∧ se < (if kd = 3 then p else 1) → co = 0 ∨ co = 1 → caP N Sc Cl p kd n hx i c r se co) ∧ (∀ a b, a ≠ 137 → hx a b = h a b)) := by
  obtain ⟨m0, m1, m2, m3, mN, mS, mC, mK⟩ := id M0
  refine ct_intro (by decide) (Nat.le_of_ble_eq_true rfl) (fun G C => ?_)
  show Wp G E 10 (fun r hx => r = none ∧ (∀ i c : Nat, i ≤ n → c < 21 → ∀ r se co : Int, 0 ≤ r ∧ r < p → 0 ≤ se ∧ se < (if kd = 3 then p else 1) → co = 0 ∨ co = 1 → caP N Sc Cl p kd n hx i c r se co) ∧ (∀ a b, a ≠ 137 → hx a b = h a b)) 0 [(0, rv E 128), (1, iv kd)] [] h
  refine wp_aloadR_n 0 C dX12_layCan_0 rfl rfl ?_
  refine wp_callVp (rest := []) (c_heaps E h n p N Sc Cl Cs M0) svX12_141 sh_128 (by decide) rfl rfl (Nat.le_of_ble_eq_true rfl) C dX12_layCan_1 ?_
  refine wp_istore_n (ls' := [(0, rv E 128), (1, iv kd), (2, iv (n : Int))]) [1, 2, 0] C dX12_layCan_4 rfl (by decide) rfl ?_
  have q19 : ∀ (sec : Int), (sec = if kd = 3 then p else 1) → Wp G E 10 (fun r hx => r = none ∧ (∀ i c : Nat, i ≤ n → c < 21 → ∀ r se co : Int, 0 ≤ r ∧ r < p → 0 ≤ se ∧ se < (if kd = 3 then p else 1) → co = 0 ∨ co = 1 → caP N Sc Cl p kd n hx i c r se co) ∧ (∀ a b, a ≠ 137 → hx a b = h a b)) 19 [(0, rv E 128), (1, iv kd), (2, iv (n : Int)), (3, iv sec)] [] h := by
    intro sec hsec
    have hs1 : 1 ≤ sec ∧ sec ≤ 10 := by rw [hsec]; split <;> omega
    have hps : 1 ≤ p * sec ∧ p * sec ≤ 100 := by have h1 : p * 1 ≤ p * sec := Int.mul_le_mul_of_nonneg_left hs1.1 (by omega); have h2 : p * sec ≤ p * 10 := Int.mul_le_mul_of_nonneg_left hs1.2 (by omega); omega
    refine wp_iconst (v := 0) C dX12_layCan_19 rfl ?_
    refine wp_istore (ls' := [(0, rv E 128), (1, iv kd), (2, iv (n : Int)), (3, iv sec), (4, iv 0)]) [1, 2, 3, 4, 0] C dX12_layCan_20 (by decide) rfl ?_
    have q220 : ∀ n9 : Nat, ∀ (x4 : Int) (hx : Hp), (0 ≤ x4 ∧ x4 ≤ 21) → (∀ b : Nat, (b : Int) < 200 * x4 → hx 137 (4200 * n + b) = bi (b % 200 = 0 ∧ (b / 200 = 0 ∨ kd = 1))) → (∀ a b, a ≠ 137 → hx a b = h a b) → (21 - x4).toNat < n9 → Wp G E 10 (fun r hx => r = none ∧ (∀ i c : Nat, i ≤ n → c < 21 → ∀ r se co : Int, 0 ≤ r ∧ r < p → 0 ≤ se ∧ se < (if kd = 3 then p else 1) → co = 0 ∨ co = 1 → caP N Sc Cl p kd n hx i c r se co) ∧ (∀ a b, a ≠ 137 → hx a b = h a b)) 22 [(0, rv E 128), (1, iv kd), (2, iv (n : Int)), (3, iv sec), (4, iv x4)] [] hx := by
      intro n9
      induction n9 with
      | zero => intro x4 hx hi hb hf hm9; exact absurd hm9 (Nat.not_lt_zero _)
      | succ n9 ih9 =>
        intro x4 hx hi hb hf hm9
        have ih9_22 := ih9
        refine wp_iload 4 C dX12_layCan_22 rfl ?_
        refine wp_bipush (v := 21) C dX12_layCan_24 rfl ?_
        refine wp_icmp_ge (tgt := 91) (by omega) (by omega) C dX12_layCan_26 (by decide) (fun c_26 => ?_) (fun c_26 => ?_)
        · skip
          refine wp_iload_n 2 C dX12_layCan_91 rfl rfl ?_
          refine wp_iconst (v := 1) C dX12_layCan_92 rfl ?_
          refine wp_isub C dX12_layCan_93 ?_
          refine wp_nm (fun w4 e_w4 => ?_)
          refine wp_istore (ls' := [(0, rv E 128), (1, iv kd), (2, iv (n : Int)), (3, iv sec), (4, iv w4)]) [1, 2, 3, 4, 0] C dX12_layCan_94 (by decide) rfl ?_
          have q960 : ∀ n9 : Nat, ∀ (x4 : Int) (hx : Hp), (-1 ≤ x4 ∧ x4 < n) → (∀ i c : Nat, x4 < (i : Int) → i ≤ n → c < 21 → ∀ r se co : Int, 0 ≤ r ∧ r < p → 0 ≤ se ∧ se < sec → co = 0 ∨ co = 1 → caP N Sc Cl p kd n hx i c r se co) → (∀ a b, a ≠ 137 → hx a b = h a b) → (x4 + 1).toNat < n9 → Wp G E 10 (fun r hx => r = none ∧ (∀ i c : Nat, i ≤ n → c < 21 → ∀ r se co : Int, 0 ≤ r ∧ r < p → 0 ≤ se ∧ se < (if kd = 3 then p else 1) → co = 0 ∨ co = 1 → caP N Sc Cl p kd n hx i c r se co) ∧ (∀ a b, a ≠ 137 → hx a b = h a b)) 96 [(0, rv E 128), (1, iv kd), (2, iv (n : Int)), (3, iv sec), (4, iv x4)] [] hx := by
            intro n9
            induction n9 with
            | zero => intro x4 hx hi hw hf hm9; exact absurd hm9 (Nat.not_lt_zero _)
            | succ n9 ih9 =>
              intro x4 hx hi hw hf hm9
              have ih9_96 := ih9
              refine wp_iload 4 C dX12_layCan_96 rfl ?_
              refine wp_if_lt (tgt := 246) (by omega) C dX12_layCan_98 (by decide) (fun c_98 => ?_) (fun c_98 => ?_)
              · skip
                refine wp_vret C dX12_layCan_246 ?_
                exact ⟨rfl, fun i c h1 h2 r se co hr hs hk => hw i c (by omega) h1 h2 r se co hr (by rw [hsec]; exact hs) hk, hf⟩
              · skip
                refine wp_iconst (v := 0) C dX12_layCan_101 rfl ?_
                refine wp_istore (ls' := [(0, rv E 128), (1, iv kd), (2, iv (n : Int)), (3, iv sec), (4, iv x4), (5, iv 0)]) [1, 2, 3, 4, 5, 0] C dX12_layCan_102 (by decide) rfl ?_
                have plb : ∀ r se : Int, 0 ≤ r ∧ r < p → 0 ≤ se ∧ se < sec → pl sec r se < p * sec := fun r se hr hs => by unfold pl; have : r * sec ≤ (p - 1) * sec := Int.mul_le_mul_of_nonneg_right (by omega) (by omega); rw [Int.sub_mul] at this; omega
                have plb0 : ∀ r se : Int, 0 ≤ r ∧ r < p → 0 ≤ se ∧ se < sec → 0 ≤ pl sec r se := fun r se hr hs => by unfold pl; have : 0 ≤ r * sec := Int.mul_nonneg hr.1 (by omega); omega
                have q1040 : ∀ n9 : Nat, ∀ (x5 : Int) (hx : Hp), (0 ≤ x5 ∧ x5 ≤ 21) → (∀ i c : Nat, x4 < (i : Int) → i ≤ n → c < 21 → ∀ r se co : Int, 0 ≤ r ∧ r < p → 0 ≤ se ∧ se < sec → co = 0 ∨ co = 1 → caP N Sc Cl p kd n hx i c r se co) → (∀ c : Nat, (c : Int) < x5 → ∀ r se co : Int, 0 ≤ r ∧ r < p → 0 ≤ se ∧ se < sec → co = 0 ∨ co = 1 → caP N Sc Cl p kd n hx x4.toNat c r se co) → (∀ a b, a ≠ 137 → hx a b = h a b) → (21 - x5).toNat < n9 → Wp G E 10 (fun r hx => r = none ∧ (∀ i c : Nat, i ≤ n → c < 21 → ∀ r se co : Int, 0 ≤ r ∧ r < p → 0 ≤ se ∧ se < (if kd = 3 then p else 1) → co = 0 ∨ co = 1 → caP N Sc Cl p kd n hx i c r se co) ∧ (∀ a b, a ≠ 137 → hx a b = h a b)) 104 [(0, rv E 128), (1, iv kd), (2, iv (n : Int)), (3, iv sec), (4, iv x4), (5, iv x5)] [] hx := by
                  intro n9
                  induction n9 with
                  | zero => intro x5 hx hi5 hw hc hf hm9; exact absurd hm9 (Nat.not_lt_zero _)
                  | succ n9 ih9 =>
                    intro x5 hx hi5 hw hc hf hm9
                    have ih9_104 := ih9
                    have plb : ∀ r se : Int, 0 ≤ r ∧ r < p → 0 ≤ se ∧ se < sec → pl sec r se < p * sec := fun r se hr hs => by unfold pl; have : r * sec ≤ (p - 1) * sec := Int.mul_le_mul_of_nonneg_right (by omega) (by omega); rw [Int.sub_mul] at this; omega
                    have plb0 : ∀ r se : Int, 0 ≤ r ∧ r < p → 0 ≤ se ∧ se < sec → 0 ≤ pl sec r se := fun r se hr hs => by unfold pl; have : 0 ≤ r * sec := Int.mul_nonneg hr.1 (by omega); omega
                    refine wp_iload 5 C dX12_layCan_104 rfl ?_
                    refine wp_bipush (v := 21) C dX12_layCan_106 rfl ?_
                    refine wp_icmp_ge (tgt := 240) (by omega) (by omega) C dX12_layCan_108 (by decide) (fun c_108 => ?_) (fun c_108 => ?_)
                    · skip
                      obtain ⟨y4, e_y4⟩ : ∃ z : Int, z = x4 + (-1) := ⟨_, rfl⟩
                      refine wp_iinc (j := 4) (y := y4) (ls' := [(0, rv E 128), (1, iv kd), (2, iv (n : Int)), (3, iv sec), (4, iv y4), (5, iv x5)]) [1, 2, 3, 4, 0, 5] C dX12_layCan_240 rfl e_y4 (by decide) rfl ?_
                      refine wp_goto (tgt := 96) C dX12_layCan_243 (by decide) ?_
                      refine wp_loc [0, 1, 2, 3, 4] rfl ?_
                      exact ih9_96 y4 hx (by omega) (fun i c h1 h2 h3 r se co hr hs hk => by rcases (show x4 < (i : Int) ∨ i = x4.toNat by omega) with q | rfl; exact hw i c q h2 h3 r se co hr hs hk; exact hc c (by omega) r se co hr hs hk) (hf) (by omega)
                    · skip
                      refine wp_iconst (v := 0) C dX12_layCan_111 rfl ?_
                      refine wp_istore (ls' := [(0, rv E 128), (1, iv kd), (2, iv (n : Int)), (3, iv sec), (4, iv x4), (5, iv x5), (6, iv 0)]) [1, 2, 3, 4, 5, 6, 0] C dX12_layCan_112 (by decide) rfl ?_
                      have q1140 : ∀ n9 : Nat, ∀ (x6 : Int) (hx : Hp), (0 ≤ x6 ∧ x6 ≤ p * sec * 2) → (∀ i c : Nat, x4 < (i : Int) → i ≤ n → c < 21 → ∀ r se co : Int, 0 ≤ r ∧ r < p → 0 ≤ se ∧ se < sec → co = 0 ∨ co = 1 → caP N Sc Cl p kd n hx i c r se co) → (∀ c : Nat, (c : Int) < x5 → ∀ r se co : Int, 0 ≤ r ∧ r < p → 0 ≤ se ∧ se < sec → co = 0 ∨ co = 1 → caP N Sc Cl p kd n hx x4.toNat c r se co) → (∀ r se co : Int, 0 ≤ r ∧ r < p → 0 ≤ se ∧ se < sec → co = 0 ∨ co = 1 → 2 * pl sec r se + co < x6 → caP N Sc Cl p kd n hx x4.toNat x5.toNat r se co) → (∀ a b, a ≠ 137 → hx a b = h a b) → (p * sec * 2 - x6).toNat < n9 → Wp G E 10 (fun r hx => r = none ∧ (∀ i c : Nat, i ≤ n → c < 21 → ∀ r se co : Int, 0 ≤ r ∧ r < p → 0 ≤ se ∧ se < (if kd = 3 then p else 1) → co = 0 ∨ co = 1 → caP N Sc Cl p kd n hx i c r se co) ∧ (∀ a b, a ≠ 137 → hx a b = h a b)) 114 [(0, rv E 128), (1, iv kd), (2, iv (n : Int)), (3, iv sec), (4, iv x4), (5, iv x5), (6, iv x6)] [] hx := by
                        intro n9
                        induction n9 with
                        | zero => intro x6 hx hi6 hw hc hr0 hf hm9; exact absurd hm9 (Nat.not_lt_zero _)
                        | succ n9 ih9 =>
                          intro x6 hx hi6 hw hc hr0 hf hm9
                          have ih9_114 := ih9
                          have Mx : MH hx n p N Sc Cl Cs := M0.of (fun b => ⟨hf _ _ (by decide), hf _ _ (by decide), hf _ _ (by decide)⟩)
                          have plb : ∀ r se : Int, 0 ≤ r ∧ r < p → 0 ≤ se ∧ se < sec → pl sec r se < p * sec := fun r se hr hs => by unfold pl; have : r * sec ≤ (p - 1) * sec := Int.mul_le_mul_of_nonneg_right (by omega) (by omega); rw [Int.sub_mul] at this; omega
                          have plb0 : ∀ r se : Int, 0 ≤ r ∧ r < p → 0 ≤ se ∧ se < sec → 0 ≤ pl sec r se := fun r se hr hs => by unfold pl; have : 0 ≤ r * sec := Int.mul_nonneg hr.1 (by omega); omega
                          refine wp_iload 6 C dX12_layCan_114 rfl ?_
                          refine wp_aloadR_n 0 C dX12_layCan_116 rfl rfl ?_
                          refine wp_callVp (rest := [iv x6]) (c_parts E hx n p N Sc Cl Cs Mx) svX12_157 sh_128 (by decide) rfl rfl (Nat.le_of_ble_eq_true rfl) C dX12_layCan_117 ?_
                          refine wp_iload_n 3 C dX12_layCan_120 rfl rfl ?_
                          refine wp_imul C dX12_layCan_121 ?_
                          refine wp_iconst (v := 2) C dX12_layCan_122 rfl ?_
                          refine wp_imul C dX12_layCan_123 ?_
                          refine wp_icmp_ge (tgt := 234) (by omega) (by omega) C dX12_layCan_124 (by decide) (fun c_124 => ?_) (fun c_124 => ?_)
                          · skip
                            obtain ⟨y5, e_y5⟩ : ∃ z : Int, z = x5 + (1) := ⟨_, rfl⟩
                            refine wp_iinc (j := 5) (y := y5) (ls' := [(0, rv E 128), (1, iv kd), (2, iv (n : Int)), (3, iv sec), (4, iv x4), (5, iv y5), (6, iv x6)]) [1, 2, 3, 4, 5, 0, 6] C dX12_layCan_234 rfl e_y5 (by decide) rfl ?_
                            refine wp_goto (tgt := 104) C dX12_layCan_237 (by decide) ?_
                            have plb : ∀ r se : Int, 0 ≤ r ∧ r < p → 0 ≤ se ∧ se < sec → pl sec r se < p * sec := fun r se hr hs => by unfold pl; have : r * sec ≤ (p - 1) * sec := Int.mul_le_mul_of_nonneg_right (by omega) (by omega); rw [Int.sub_mul] at this; omega
                            have plb0 : ∀ r se : Int, 0 ≤ r ∧ r < p → 0 ≤ se ∧ se < sec → 0 ≤ pl sec r se := fun r se hr hs => by unfold pl; have : 0 ≤ r * sec := Int.mul_nonneg hr.1 (by omega); omega
                            refine wp_loc [0, 1, 2, 3, 4, 5] rfl ?_
                            exact ih9_104 y5 hx (by omega) (hw) (fun c h1 r se co hr hs hk => by rcases (show (c : Int) < x5 ∨ c = x5.toNat by omega) with q | rfl; exact hc c q r se co hr hs hk; exact hr0 r se co hr hs hk (by have := plb r se hr hs; omega)) (hf) (by omega)
                          · skip
                            obtain ⟨w2, e_w2⟩ : ∃ z : Int, z = x6 / 2 := ⟨_, rfl⟩
                            obtain ⟨cq, e_cq⟩ : ∃ z : Int, z = x6 % 2 := ⟨_, rfl⟩
                            have hx6 : x6 = 2 * w2 + cq ∧ (cq = 0 ∨ cq = 1) := by omega
                            have hd2 := dec2 (w := w2) (sec := sec) (p := p) hs1.1 (by omega)
                            refine wp_iload 6 C dX12_layCan_127 rfl ?_
                            refine wp_iconst (v := 2) C dX12_layCan_129 rfl ?_
                            refine wp_idiv (by omega) (by omega) C dX12_layCan_130 ?_
                            refine wp_top (show _ = w2 by rw [Int.tdiv_eq_ediv_of_nonneg hi6.1]; exact e_w2.symm) ?_
                            refine wp_iload_n 3 C dX12_layCan_131 rfl rfl ?_
                            refine wp_idiv (by omega) (by omega) C dX12_layCan_132 ?_
                            refine wp_top (Int.tdiv_eq_ediv_of_nonneg (by omega)) ?_
                            refine wp_nm (fun v7 e_v7 => ?_)
                            refine wp_istore (ls' := [(0, rv E 128), (1, iv kd), (2, iv (n : Int)), (3, iv sec), (4, iv x4), (5, iv x5), (6, iv x6), (7, iv v7)]) [1, 2, 3, 4, 5, 6, 7, 0] C dX12_layCan_133 (by decide) rfl ?_
                            refine wp_iload 6 C dX12_layCan_135 rfl ?_
                            refine wp_iconst (v := 2) C dX12_layCan_137 rfl ?_
                            refine wp_idiv (by omega) (by omega) C dX12_layCan_138 ?_
                            refine wp_top (show _ = w2 by rw [Int.tdiv_eq_ediv_of_nonneg hi6.1]; exact e_w2.symm) ?_
                            refine wp_iload_n 3 C dX12_layCan_139 rfl rfl ?_
                            refine wp_irem (by omega) (by omega) C dX12_layCan_140 ?_
                            refine wp_top (Int.tmod_eq_emod_of_nonneg (by omega)) ?_
                            refine wp_nm (fun v8 e_v8 => ?_)
                            refine wp_istore (ls' := [(0, rv E 128), (1, iv kd), (2, iv (n : Int)), (3, iv sec), (4, iv x4), (5, iv x5), (6, iv x6), (7, iv v7), (8, iv v8)]) [1, 2, 3, 4, 5, 6, 7, 8, 0] C dX12_layCan_141 (by decide) rfl ?_
                            rw [← e_v7, ← e_v8] at hd2
                            obtain ⟨d7, d8, dw⟩ := hd2
                            have d8p : v8 < p := Int.lt_of_lt_of_le d8.2 (by rw [hsec]; split <;> omega)
                            refine wp_aloadR_n 0 C dX12_layCan_143 rfl rfl ?_
                            refine wp_iload_n 1 C dX12_layCan_144 rfl rfl ?_
                            refine wp_iload 4 C dX12_layCan_145 rfl ?_
                            refine wp_iload 5 C dX12_layCan_147 rfl ?_
                            refine wp_iload 7 C dX12_layCan_149 rfl ?_
                            refine wp_iload 8 C dX12_layCan_151 rfl ?_
                            refine wp_iload 6 C dX12_layCan_153 rfl ?_
                            refine wp_iconst (v := 2) C dX12_layCan_155 rfl ?_
                            refine wp_irem (by omega) (by omega) C dX12_layCan_156 ?_
                            refine wp_top (show _ = cq by rw [Int.tmod_eq_emod_of_nonneg hi6.1]; exact e_cq.symm) ?_
                            refine wp_callVp (rest := []) (c_behind E hx n p N Sc Cl Cs Mx kd x4 x5 v7 v8 cq (by omega) (by omega) (by omega) (by omega) (by omega) (by omega)) svX12_208 sh_128 (by decide) rfl rfl (Nat.le_of_ble_eq_true rfl) C dX12_layCan_157 ?_
                            refine wp_nm (fun by9 e_by9 => ?_)
                            refine wp_istore (ls' := [(0, rv E 128), (1, iv kd), (2, iv (n : Int)), (3, iv sec), (4, iv x4), (5, iv x5), (6, iv x6), (7, iv v7), (8, iv v8), (9, iv by9)]) [1, 2, 3, 4, 5, 6, 7, 8, 9, 0] C dX12_layCan_160 (by decide) rfl ?_
                            obtain ⟨t1, e_t1⟩ : ∃ z : Int, z = sbm v7 (N x4.toNat % p) p := ⟨_, rfl⟩
                            obtain ⟨t2, e_t2⟩ : ∃ z : Int, z = (if kd = 3 then sbm v8 (Sc x4.toNat % p) p else 0) := ⟨_, rfl⟩
                            obtain ⟨t3, e_t3⟩ : ∃ z : Int, z = (if cq = 1 ∧ Cl x4.toNat = kd - 4 then 0 else cq) := ⟨_, rfl⟩
                            have ht1 : 0 ≤ t1 ∧ t1 < p := by rw [e_t1]; exact sbm_r d7 (mod_r _ m3)
                            have ht2 : 0 ≤ t2 ∧ t2 < sec := by rw [e_t2, hsec]; split; exact sbm_r (by omega) (mod_r _ m3); omega
                            have ht3 : t3 = 0 ∨ t3 = 1 := by rw [e_t3]; split; exact Or.inl rfl; omega
                            rw [← e_t1, ← e_t2, ← e_t3] at e_by9
                            have hb0 : x5 = 0 → by9 = -1 := fun z => by rw [e_by9, if_pos z]
                            have hb1 : x5 ≠ 0 → by9 = 4200 * (x4 + 1) + 200 * (x5 - 1) + 20 * t1 + 2 * t2 + t3 := fun z => by rw [e_by9, if_neg z]
                            have hst : cT N Sc Cl p kd (n - x4.toNat) x4.toNat x5.toNat v7 v8 cq = true ↔ cT N Sc Cl p kd (n - (x4.toNat + 1)) (x4.toNat + 1) x5.toNat v7 v8 cq = true ∨ (x5 ≠ 0 ∧ cT N Sc Cl p kd (n - (x4.toNat + 1)) (x4.toNat + 1) (x5.toNat - 1) t1 t2 t3 = true) := by
                              rw [show n - x4.toNat = (n - (x4.toNat + 1)) + 1 by omega, cT, Bool.or_eq_true, Bool.and_eq_true, decide_eq_true_eq, ← e_t1, ← e_t2, ← e_t3]
                              constructor
                              · rintro (q | q)
                                · exact Or.inl q
                                · exact Or.inr ⟨by omega, q.2⟩
                              · rintro (q | q)
                                · exact Or.inl q
                                · exact Or.inr ⟨by omega, q.2⟩
                            have plu : ∀ r se co : Int, 0 ≤ r ∧ r < p → 0 ≤ se ∧ se < sec → co = 0 ∨ co = 1 → 2 * pl sec r se + co = x6 → r = v7 ∧ se = v8 ∧ co = cq := fun r se co hr hs hk h1 => by have h2 := pl_inj hs d8 (show pl sec r se = pl sec v7 v8 by omega); exact ⟨h2.1, h2.2, by omega⟩
                            have plq : ∀ r se co : Int, 0 ≤ r ∧ r < p → 0 ≤ se ∧ se < sec → co = 0 ∨ co = 1 → (4200 * ((x4.toNat : Nat) : Int) + 200 * ((x5.toNat : Nat) : Int) + 20 * r + 2 * se + co).toNat = (4200 * x4 + 200 * x5 + 20 * v7 + 2 * v8 + cq).toNat → 2 * pl sec r se + co = x6 := fun r se co hr hs hk h1 => by have h3 : r = v7 ∧ se = v8 ∧ co = cq := (by omega); rw [h3.1, h3.2.1, h3.2.2]; omega
                            refine wp_aloadR_n 0 C dX12_layCan_162 rfl rfl ?_
                            refine wp_getR flX12_37 sh_128 rfl C dX12_layCan_163 ?_
                            refine wp_iload 4 C dX12_layCan_166 rfl ?_
                            refine wp_iload 5 C dX12_layCan_168 rfl ?_
                            refine wp_iload 7 C dX12_layCan_170 rfl ?_
                            refine wp_iload 8 C dX12_layCan_172 rfl ?_
                            refine wp_iload 6 C dX12_layCan_174 rfl ?_
                            refine wp_iconst (v := 2) C dX12_layCan_176 rfl ?_
                            refine wp_irem (by omega) (by omega) C dX12_layCan_177 ?_
                            refine wp_top (show _ = cq by rw [Int.tmod_eq_emod_of_nonneg hi6.1]; exact e_cq.symm) ?_
                            refine wp_callSp (rest := [rv E 137]) (c_placeOf E hx x4 x5 v7 v8 cq) ssX12_204 (by decide) rfl rfl (Nat.le_of_ble_eq_true rfl) C dX12_layCan_178 ?_
                            refine wp_aloadR_n 0 C dX12_layCan_181 rfl rfl ?_
                            refine wp_getR flX12_37 sh_128 rfl C dX12_layCan_182 ?_
                            refine wp_iload 4 C dX12_layCan_185 rfl ?_
                            refine wp_iconst (v := 1) C dX12_layCan_187 rfl ?_
                            refine wp_iadd C dX12_layCan_188 ?_
                            refine wp_iload 5 C dX12_layCan_189 rfl ?_
                            refine wp_iload 7 C dX12_layCan_191 rfl ?_
                            refine wp_iload 8 C dX12_layCan_193 rfl ?_
                            refine wp_iload 6 C dX12_layCan_195 rfl ?_
                            refine wp_iconst (v := 2) C dX12_layCan_197 rfl ?_
                            refine wp_irem (by omega) (by omega) C dX12_layCan_198 ?_
                            refine wp_top (show _ = cq by rw [Int.tmod_eq_emod_of_nonneg hi6.1]; exact e_cq.symm) ?_
                            refine wp_callSp (rest := [rv E 137, iv (4200 * x4 + 200 * x5 + 20 * v7 + 2 * v8 + cq), rv E 137]) (c_placeOf E hx (x4 + 1) x5 v7 v8 cq) ssX12_204 (by decide) rfl rfl (Nat.le_of_ble_eq_true rfl) C dX12_layCan_199 ?_
                            refine wp_zald sh_137 (by omega) C dX12_layCan_202 ?_
                            refine wp_top (show _ = bi (cT N Sc Cl p kd (n - (x4.toNat + 1)) (x4.toNat + 1) x5.toNat v7 v8 cq = true) by have q := hw (x4.toNat + 1) x5.toNat (by omega) (by omega) (by omega) v7 v8 cq d7 d8 hx6.2; unfold caP at q; rw [← q]; congr 1; omega) ?_
                            refine wp_ifb_ne (tgt := 222) C dX12_layCan_203 (by decide) (fun c_203 => ?_) (fun c_203 => ?_)
                            · skip
                              refine wp_iconst (v := 1) C dX12_layCan_222 rfl ?_
                              refine wp_goto (tgt := 227) C dX12_layCan_223 (by decide) ?_
                              refine wp_zast sh_137 (by omega) (by first | exact bi_01 | omega) C dX12_layCan_227 ?_
                              obtain ⟨H1, e_H1⟩ : ∃ z : Hp, z = upd2 hx 137 (4200 * x4 + 200 * x5 + 20 * v7 + 2 * v8 + cq).toNat 1 := ⟨_, rfl⟩
                              refine wp_heq e_H1 ?_
                              obtain ⟨y6, e_y6⟩ : ∃ z : Int, z = x6 + (1) := ⟨_, rfl⟩
                              refine wp_iinc (j := 6) (y := y6) (ls' := [(0, rv E 128), (1, iv kd), (2, iv (n : Int)), (3, iv sec), (4, iv x4), (5, iv x5), (6, iv y6), (7, iv v7), (8, iv v8), (9, iv by9)]) [1, 2, 3, 4, 5, 6, 0, 7, 8, 9] C dX12_layCan_228 rfl e_y6 (by decide) rfl ?_
                              refine wp_goto (tgt := 114) C dX12_layCan_231 (by decide) ?_
                              refine wp_loc [0, 1, 2, 3, 4, 5, 6] rfl ?_
                              exact ih9_114 y6 H1 (by omega) (fun i c h1 h2 h3 r se co hr hs hk => caP_ne e_H1 (by omega) (hw i c h1 h2 h3 r se co hr hs hk)) (fun c h1 r se co hr hs hk => caP_ne e_H1 (by omega) (hc c h1 r se co hr hs hk)) (fun r se co hr hs hk h1 => by by_cases q : 2 * pl sec r se + co < x6; exact caP_ne e_H1 (fun z => by have hq := plq r se co hr hs hk z; omega) (hr0 r se co hr hs hk q); have e9 : r = v7 ∧ se = v8 ∧ co = cq := plu r se co hr hs hk (by omega); obtain ⟨rfl, rfl, rfl⟩ := e9; unfold caP; rw [show (4200 * ((x4.toNat : Nat) : Int) + 200 * ((x5.toNat : Nat) : Int) + 20 * r + 2 * se + co).toNat = (4200 * x4 + 200 * x5 + 20 * r + 2 * se + co).toNat by congr 1; omega, rdu_eq e_H1]; exact (bi_t (hst.mpr (Or.inl c_203))).symm) (fun a b hab => by rw [e_H1]; unfold upd2; rw [if_neg (fun z => hab z.1)]; exact hf a b hab) (by omega)
                            · skip
                              refine wp_iload 9 C dX12_layCan_206 rfl ?_
                              refine wp_iconst (v := (-1)) C dX12_layCan_208 rfl ?_
                              refine wp_icmp_eq (tgt := 226) (by omega) (by omega) C dX12_layCan_209 (by decide) (fun c_209 => ?_) (fun c_209 => ?_)
                              · skip
                                refine wp_iconst (v := 0) C dX12_layCan_226 rfl ?_
                                refine wp_zast sh_137 (by omega) (by first | exact bi_01 | omega) C dX12_layCan_227 ?_
                                obtain ⟨H2, e_H2⟩ : ∃ z : Hp, z = upd2 hx 137 (4200 * x4 + 200 * x5 + 20 * v7 + 2 * v8 + cq).toNat 0 := ⟨_, rfl⟩
                                refine wp_heq e_H2 ?_
                                obtain ⟨y6, e_y6⟩ : ∃ z : Int, z = x6 + (1) := ⟨_, rfl⟩
                                refine wp_iinc (j := 6) (y := y6) (ls' := [(0, rv E 128), (1, iv kd), (2, iv (n : Int)), (3, iv sec), (4, iv x4), (5, iv x5), (6, iv y6), (7, iv v7), (8, iv v8), (9, iv by9)]) [1, 2, 3, 4, 5, 6, 0, 7, 8, 9] C dX12_layCan_228 rfl e_y6 (by decide) rfl ?_
                                refine wp_goto (tgt := 114) C dX12_layCan_231 (by decide) ?_
                                refine wp_loc [0, 1, 2, 3, 4, 5, 6] rfl ?_
                                exact ih9_114 y6 H2 (by omega) (fun i c h1 h2 h3 r se co hr hs hk => caP_ne e_H2 (by omega) (hw i c h1 h2 h3 r se co hr hs hk)) (fun c h1 r se co hr hs hk => caP_ne e_H2 (by omega) (hc c h1 r se co hr hs hk)) (fun r se co hr hs hk h1 => by by_cases q : 2 * pl sec r se + co < x6; exact caP_ne e_H2 (fun z => by have hq := plq r se co hr hs hk z; omega) (hr0 r se co hr hs hk q); have e9 : r = v7 ∧ se = v8 ∧ co = cq := plu r se co hr hs hk (by omega); obtain ⟨rfl, rfl, rfl⟩ := e9; unfold caP; rw [show (4200 * ((x4.toNat : Nat) : Int) + 200 * ((x5.toNat : Nat) : Int) + 20 * r + 2 * se + co).toNat = (4200 * x4 + 200 * x5 + 20 * r + 2 * se + co).toNat by congr 1; omega, rdu_eq e_H2]; exact (bi_f (fun z => (hst.mp z).elim c_203 (fun w => w.1 (by omega)))).symm) (fun a b hab => by rw [e_H2]; unfold upd2; rw [if_neg (fun z => hab z.1)]; exact hf a b hab) (by omega)
                              · skip
                                refine wp_aloadR_n 0 C dX12_layCan_212 rfl rfl ?_
                                refine wp_getR flX12_37 sh_128 rfl C dX12_layCan_213 ?_
                                refine wp_iload 9 C dX12_layCan_216 rfl ?_
                                refine wp_zald sh_137 (by omega) C dX12_layCan_218 ?_
                                refine wp_top (show _ = bi (cT N Sc Cl p kd (n - (x4.toNat + 1)) (x4.toNat + 1) (x5.toNat - 1) t1 t2 t3 = true) by have q := hw (x4.toNat + 1) (x5.toNat - 1) (by omega) (by omega) (by omega) t1 t2 t3 ht1 ht2 ht3; unfold caP at q; rw [← q]; congr 1; omega) ?_
                                refine wp_ifb_eq (tgt := 226) C dX12_layCan_219 (by decide) (fun c_219 => ?_) (fun c_219 => ?_)
                                · skip
                                  refine wp_iconst (v := 0) C dX12_layCan_226 rfl ?_
                                  refine wp_zast sh_137 (by omega) (by first | exact bi_01 | omega) C dX12_layCan_227 ?_
                                  obtain ⟨H3, e_H3⟩ : ∃ z : Hp, z = upd2 hx 137 (4200 * x4 + 200 * x5 + 20 * v7 + 2 * v8 + cq).toNat 0 := ⟨_, rfl⟩
                                  refine wp_heq e_H3 ?_
                                  obtain ⟨y6, e_y6⟩ : ∃ z : Int, z = x6 + (1) := ⟨_, rfl⟩
                                  refine wp_iinc (j := 6) (y := y6) (ls' := [(0, rv E 128), (1, iv kd), (2, iv (n : Int)), (3, iv sec), (4, iv x4), (5, iv x5), (6, iv y6), (7, iv v7), (8, iv v8), (9, iv by9)]) [1, 2, 3, 4, 5, 6, 0, 7, 8, 9] C dX12_layCan_228 rfl e_y6 (by decide) rfl ?_
                                  refine wp_goto (tgt := 114) C dX12_layCan_231 (by decide) ?_
                                  refine wp_loc [0, 1, 2, 3, 4, 5, 6] rfl ?_
                                  exact ih9_114 y6 H3 (by omega) (fun i c h1 h2 h3 r se co hr hs hk => caP_ne e_H3 (by omega) (hw i c h1 h2 h3 r se co hr hs hk)) (fun c h1 r se co hr hs hk => caP_ne e_H3 (by omega) (hc c h1 r se co hr hs hk)) (fun r se co hr hs hk h1 => by by_cases q : 2 * pl sec r se + co < x6; exact caP_ne e_H3 (fun z => by have hq := plq r se co hr hs hk z; omega) (hr0 r se co hr hs hk q); have e9 : r = v7 ∧ se = v8 ∧ co = cq := plu r se co hr hs hk (by omega); obtain ⟨rfl, rfl, rfl⟩ := e9; unfold caP; rw [show (4200 * ((x4.toNat : Nat) : Int) + 200 * ((x5.toNat : Nat) : Int) + 20 * r + 2 * se + co).toNat = (4200 * x4 + 200 * x5 + 20 * r + 2 * se + co).toNat by congr 1; omega, rdu_eq e_H3]; exact (bi_f (fun z => (hst.mp z).elim c_203 (fun w => c_219 w.2))).symm) (fun a b hab => by rw [e_H3]; unfold upd2; rw [if_neg (fun z => hab z.1)]; exact hf a b hab) (by omega)
                                · skip
                                  refine wp_iconst (v := 1) C dX12_layCan_222 rfl ?_
                                  refine wp_goto (tgt := 227) C dX12_layCan_223 (by decide) ?_
                                  refine wp_zast sh_137 (by omega) (by first | exact bi_01 | omega) C dX12_layCan_227 ?_
                                  obtain ⟨H4, e_H4⟩ : ∃ z : Hp, z = upd2 hx 137 (4200 * x4 + 200 * x5 + 20 * v7 + 2 * v8 + cq).toNat 1 := ⟨_, rfl⟩
                                  refine wp_heq e_H4 ?_
                                  obtain ⟨y6, e_y6⟩ : ∃ z : Int, z = x6 + (1) := ⟨_, rfl⟩
                                  refine wp_iinc (j := 6) (y := y6) (ls' := [(0, rv E 128), (1, iv kd), (2, iv (n : Int)), (3, iv sec), (4, iv x4), (5, iv x5), (6, iv y6), (7, iv v7), (8, iv v8), (9, iv by9)]) [1, 2, 3, 4, 5, 6, 0, 7, 8, 9] C dX12_layCan_228 rfl e_y6 (by decide) rfl ?_
                                  refine wp_goto (tgt := 114) C dX12_layCan_231 (by decide) ?_
                                  refine wp_loc [0, 1, 2, 3, 4, 5, 6] rfl ?_
                                  exact ih9_114 y6 H4 (by omega) (fun i c h1 h2 h3 r se co hr hs hk => caP_ne e_H4 (by omega) (hw i c h1 h2 h3 r se co hr hs hk)) (fun c h1 r se co hr hs hk => caP_ne e_H4 (by omega) (hc c h1 r se co hr hs hk)) (fun r se co hr hs hk h1 => by by_cases q : 2 * pl sec r se + co < x6; exact caP_ne e_H4 (fun z => by have hq := plq r se co hr hs hk z; omega) (hr0 r se co hr hs hk q); have e9 : r = v7 ∧ se = v8 ∧ co = cq := plu r se co hr hs hk (by omega); obtain ⟨rfl, rfl, rfl⟩ := e9; unfold caP; rw [show (4200 * ((x4.toNat : Nat) : Int) + 200 * ((x5.toNat : Nat) : Int) + 20 * r + 2 * se + co).toNat = (4200 * x4 + 200 * x5 + 20 * r + 2 * se + co).toNat by congr 1; omega, rdu_eq e_H4]; exact (bi_t (hst.mpr (Or.inr ⟨by omega, c_219⟩))).symm) (fun a b hab => by rw [e_H4]; unfold upd2; rw [if_neg (fun z => hab z.1)]; exact hf a b hab) (by omega)
                      have q114 : ∀ (x6 : Int) (hx : Hp), (0 ≤ x6 ∧ x6 ≤ p * sec * 2) → (∀ i c : Nat, x4 < (i : Int) → i ≤ n → c < 21 → ∀ r se co : Int, 0 ≤ r ∧ r < p → 0 ≤ se ∧ se < sec → co = 0 ∨ co = 1 → caP N Sc Cl p kd n hx i c r se co) → (∀ c : Nat, (c : Int) < x5 → ∀ r se co : Int, 0 ≤ r ∧ r < p → 0 ≤ se ∧ se < sec → co = 0 ∨ co = 1 → caP N Sc Cl p kd n hx x4.toNat c r se co) → (∀ r se co : Int, 0 ≤ r ∧ r < p → 0 ≤ se ∧ se < sec → co = 0 ∨ co = 1 → 2 * pl sec r se + co < x6 → caP N Sc Cl p kd n hx x4.toNat x5.toNat r se co) → (∀ a b, a ≠ 137 → hx a b = h a b) → Wp G E 10 (fun r hx => r = none ∧ (∀ i c : Nat, i ≤ n → c < 21 → ∀ r se co : Int, 0 ≤ r ∧ r < p → 0 ≤ se ∧ se < (if kd = 3 then p else 1) → co = 0 ∨ co = 1 → caP N Sc Cl p kd n hx i c r se co) ∧ (∀ a b, a ≠ 137 → hx a b = h a b)) 114 [(0, rv E 128), (1, iv kd), (2, iv (n : Int)), (3, iv sec), (4, iv x4), (5, iv x5), (6, iv x6)] [] hx := fun x6 hx hi6 hw hc hr0 hf => q1140 _ x6 hx hi6 hw hc hr0 hf (Nat.lt_succ_self _)
                      exact q114 0 hx (by omega) (hw) (hc) (fun r se co hr hs hk h1 => absurd h1 (by have := plb0 r se hr hs; omega)) (hf)
                have q104 : ∀ (x5 : Int) (hx : Hp), (0 ≤ x5 ∧ x5 ≤ 21) → (∀ i c : Nat, x4 < (i : Int) → i ≤ n → c < 21 → ∀ r se co : Int, 0 ≤ r ∧ r < p → 0 ≤ se ∧ se < sec → co = 0 ∨ co = 1 → caP N Sc Cl p kd n hx i c r se co) → (∀ c : Nat, (c : Int) < x5 → ∀ r se co : Int, 0 ≤ r ∧ r < p → 0 ≤ se ∧ se < sec → co = 0 ∨ co = 1 → caP N Sc Cl p kd n hx x4.toNat c r se co) → (∀ a b, a ≠ 137 → hx a b = h a b) → Wp G E 10 (fun r hx => r = none ∧ (∀ i c : Nat, i ≤ n → c < 21 → ∀ r se co : Int, 0 ≤ r ∧ r < p → 0 ≤ se ∧ se < (if kd = 3 then p else 1) → co = 0 ∨ co = 1 → caP N Sc Cl p kd n hx i c r se co) ∧ (∀ a b, a ≠ 137 → hx a b = h a b)) 104 [(0, rv E 128), (1, iv kd), (2, iv (n : Int)), (3, iv sec), (4, iv x4), (5, iv x5)] [] hx := fun x5 hx hi5 hw hc hf => q1040 _ x5 hx hi5 hw hc hf (Nat.lt_succ_self _)
                exact q104 0 hx (by omega) (hw) (fun c hc => absurd hc (by omega)) (hf)
          have q96 : ∀ (x4 : Int) (hx : Hp), (-1 ≤ x4 ∧ x4 < n) → (∀ i c : Nat, x4 < (i : Int) → i ≤ n → c < 21 → ∀ r se co : Int, 0 ≤ r ∧ r < p → 0 ≤ se ∧ se < sec → co = 0 ∨ co = 1 → caP N Sc Cl p kd n hx i c r se co) → (∀ a b, a ≠ 137 → hx a b = h a b) → Wp G E 10 (fun r hx => r = none ∧ (∀ i c : Nat, i ≤ n → c < 21 → ∀ r se co : Int, 0 ≤ r ∧ r < p → 0 ≤ se ∧ se < (if kd = 3 then p else 1) → co = 0 ∨ co = 1 → caP N Sc Cl p kd n hx i c r se co) ∧ (∀ a b, a ≠ 137 → hx a b = h a b)) 96 [(0, rv E 128), (1, iv kd), (2, iv (n : Int)), (3, iv sec), (4, iv x4)] [] hx := fun x4 hx hi hw hf => q960 _ x4 hx hi hw hf (Nat.lt_succ_self _)
          exact q96 w4 hx (by omega) (fun i c h1 h2 h3 r se co hr hs hk => by rw [show i = n by omega]; exact caP_n (fun b hb9 => hb b (by omega)) h3 (by omega) (by omega) hk) (hf)
        · skip
          refine wp_iconst (v := 0) C dX12_layCan_29 rfl ?_
          refine wp_istore (ls' := [(0, rv E 128), (1, iv kd), (2, iv (n : Int)), (3, iv sec), (4, iv x4), (5, iv 0)]) [1, 2, 3, 4, 5, 0] C dX12_layCan_30 (by decide) rfl ?_
          have q320 : ∀ n9 : Nat, ∀ (x5 : Int) (hx : Hp), (0 ≤ x5 ∧ x5 ≤ 200) → (∀ b : Nat, (b : Int) < 200 * x4 + x5 → hx 137 (4200 * n + b) = bi (b % 200 = 0 ∧ (b / 200 = 0 ∨ kd = 1))) → (∀ a b, a ≠ 137 → hx a b = h a b) → (200 - x5).toNat < n9 → Wp G E 10 (fun r hx => r = none ∧ (∀ i c : Nat, i ≤ n → c < 21 → ∀ r se co : Int, 0 ≤ r ∧ r < p → 0 ≤ se ∧ se < (if kd = 3 then p else 1) → co = 0 ∨ co = 1 → caP N Sc Cl p kd n hx i c r se co) ∧ (∀ a b, a ≠ 137 → hx a b = h a b)) 32 [(0, rv E 128), (1, iv kd), (2, iv (n : Int)), (3, iv sec), (4, iv x4), (5, iv x5)] [] hx := by
            intro n9
            induction n9 with
            | zero => intro x5 hx hi5 hb hf hm9; exact absurd hm9 (Nat.not_lt_zero _)
            | succ n9 ih9 =>
              intro x5 hx hi5 hb hf hm9
              have ih9_32 := ih9
              refine wp_iload 5 C dX12_layCan_32 rfl ?_
              refine wp_sipush (v := 200) C dX12_layCan_34 rfl ?_
              refine wp_icmp_ge (tgt := 85) (by omega) (by omega) C dX12_layCan_37 (by decide) (fun c_37 => ?_) (fun c_37 => ?_)
              · skip
                obtain ⟨z4, e_z4⟩ : ∃ z : Int, z = x4 + (1) := ⟨_, rfl⟩
                refine wp_iinc (j := 4) (y := z4) (ls' := [(0, rv E 128), (1, iv kd), (2, iv (n : Int)), (3, iv sec), (4, iv z4), (5, iv x5)]) [1, 2, 3, 4, 0, 5] C dX12_layCan_85 rfl e_z4 (by decide) rfl ?_
                refine wp_goto (tgt := 22) C dX12_layCan_88 (by decide) ?_
                refine wp_loc [0, 1, 2, 3, 4] rfl ?_
                exact ih9_22 z4 hx (by omega) (fun b hb9 => hb b (by omega)) (hf) (by omega)
              · skip
                refine wp_aloadR_n 0 C dX12_layCan_40 rfl rfl ?_
                refine wp_getR flX12_37 sh_128 rfl C dX12_layCan_41 ?_
                refine wp_sipush (v := 200) C dX12_layCan_44 rfl ?_
                refine wp_bipush (v := 21) C dX12_layCan_47 rfl ?_
                refine wp_iload_n 2 C dX12_layCan_49 rfl rfl ?_
                refine wp_imul C dX12_layCan_50 ?_
                refine wp_iload 4 C dX12_layCan_51 rfl ?_
                refine wp_iadd C dX12_layCan_53 ?_
                refine wp_imul C dX12_layCan_54 ?_
                refine wp_iload 5 C dX12_layCan_55 rfl ?_
                refine wp_iadd C dX12_layCan_57 ?_
                refine wp_iload 5 C dX12_layCan_58 rfl ?_
                refine wp_if_ne (tgt := 77) (by omega) C dX12_layCan_60 (by decide) (fun c_60 => ?_) (fun c_60 => ?_)
                · skip
                  refine wp_iconst (v := 0) C dX12_layCan_77 rfl ?_
                  refine wp_zast sh_137 (by omega) (by first | exact bi_01 | omega) C dX12_layCan_78 ?_
                  obtain ⟨H5, e_H5⟩ : ∃ z : Hp, z = upd2 hx 137 ((200 * ((21 * (n : Int)) + x4)) + x5).toNat 0 := ⟨_, rfl⟩
                  refine wp_heq e_H5 ?_
                  obtain ⟨z5, e_z5⟩ : ∃ z : Int, z = x5 + (1) := ⟨_, rfl⟩
                  refine wp_iinc (j := 5) (y := z5) (ls' := [(0, rv E 128), (1, iv kd), (2, iv (n : Int)), (3, iv sec), (4, iv x4), (5, iv z5)]) [1, 2, 3, 4, 5, 0] C dX12_layCan_79 rfl e_z5 (by decide) rfl ?_
                  refine wp_goto (tgt := 32) C dX12_layCan_82 (by decide) ?_
                  exact ih9_32 z5 H5 (by omega) (fun b hb9 => by rw [e_H5]; unfold upd2; by_cases q : (b : Int) = 200 * x4 + x5; rw [if_pos (by omega), bi_f (by omega)]; rw [if_neg (fun z => q (by omega))]; exact hb b (by omega)) (fun a b hab => by rw [e_H5]; unfold upd2; rw [if_neg (fun z => hab z.1)]; exact hf a b hab) (by omega)
                · skip
                  refine wp_iload 4 C dX12_layCan_63 rfl ?_
                  refine wp_if_eq (tgt := 73) (by omega) C dX12_layCan_65 (by decide) (fun c_65 => ?_) (fun c_65 => ?_)
                  · skip
                    refine wp_iconst (v := 1) C dX12_layCan_73 rfl ?_
                    refine wp_goto (tgt := 78) C dX12_layCan_74 (by decide) ?_
                    refine wp_zast sh_137 (by omega) (by first | exact bi_01 | omega) C dX12_layCan_78 ?_
                    obtain ⟨H6, e_H6⟩ : ∃ z : Hp, z = upd2 hx 137 ((200 * ((21 * (n : Int)) + x4)) + x5).toNat 1 := ⟨_, rfl⟩
                    refine wp_heq e_H6 ?_
                    obtain ⟨z5, e_z5⟩ : ∃ z : Int, z = x5 + (1) := ⟨_, rfl⟩
                    refine wp_iinc (j := 5) (y := z5) (ls' := [(0, rv E 128), (1, iv kd), (2, iv (n : Int)), (3, iv sec), (4, iv x4), (5, iv z5)]) [1, 2, 3, 4, 5, 0] C dX12_layCan_79 rfl e_z5 (by decide) rfl ?_
                    refine wp_goto (tgt := 32) C dX12_layCan_82 (by decide) ?_
                    exact ih9_32 z5 H6 (by omega) (fun b hb9 => by rw [e_H6]; unfold upd2; by_cases q : (b : Int) = 200 * x4 + x5; rw [if_pos (by omega), bi_t (by omega)]; rw [if_neg (fun z => q (by omega))]; exact hb b (by omega)) (fun a b hab => by rw [e_H6]; unfold upd2; rw [if_neg (fun z => hab z.1)]; exact hf a b hab) (by omega)
                  · skip
                    refine wp_iload_n 1 C dX12_layCan_68 rfl rfl ?_
                    refine wp_iconst (v := 1) C dX12_layCan_69 rfl ?_
                    refine wp_icmp_ne (tgt := 77) (by omega) (by omega) C dX12_layCan_70 (by decide) (fun c_70 => ?_) (fun c_70 => ?_)
                    · skip
                      refine wp_iconst (v := 0) C dX12_layCan_77 rfl ?_
                      refine wp_zast sh_137 (by omega) (by first | exact bi_01 | omega) C dX12_layCan_78 ?_
                      obtain ⟨H7, e_H7⟩ : ∃ z : Hp, z = upd2 hx 137 ((200 * ((21 * (n : Int)) + x4)) + x5).toNat 0 := ⟨_, rfl⟩
                      refine wp_heq e_H7 ?_
                      obtain ⟨z5, e_z5⟩ : ∃ z : Int, z = x5 + (1) := ⟨_, rfl⟩
                      refine wp_iinc (j := 5) (y := z5) (ls' := [(0, rv E 128), (1, iv kd), (2, iv (n : Int)), (3, iv sec), (4, iv x4), (5, iv z5)]) [1, 2, 3, 4, 5, 0] C dX12_layCan_79 rfl e_z5 (by decide) rfl ?_
                      refine wp_goto (tgt := 32) C dX12_layCan_82 (by decide) ?_
                      exact ih9_32 z5 H7 (by omega) (fun b hb9 => by rw [e_H7]; unfold upd2; by_cases q : (b : Int) = 200 * x4 + x5; rw [if_pos (by omega), bi_f (by omega)]; rw [if_neg (fun z => q (by omega))]; exact hb b (by omega)) (fun a b hab => by rw [e_H7]; unfold upd2; rw [if_neg (fun z => hab z.1)]; exact hf a b hab) (by omega)
                    · skip
                      refine wp_iconst (v := 1) C dX12_layCan_73 rfl ?_
                      refine wp_goto (tgt := 78) C dX12_layCan_74 (by decide) ?_
                      refine wp_zast sh_137 (by omega) (by first | exact bi_01 | omega) C dX12_layCan_78 ?_
                      obtain ⟨H8, e_H8⟩ : ∃ z : Hp, z = upd2 hx 137 ((200 * ((21 * (n : Int)) + x4)) + x5).toNat 1 := ⟨_, rfl⟩
                      refine wp_heq e_H8 ?_
                      obtain ⟨z5, e_z5⟩ : ∃ z : Int, z = x5 + (1) := ⟨_, rfl⟩
                      refine wp_iinc (j := 5) (y := z5) (ls' := [(0, rv E 128), (1, iv kd), (2, iv (n : Int)), (3, iv sec), (4, iv x4), (5, iv z5)]) [1, 2, 3, 4, 5, 0] C dX12_layCan_79 rfl e_z5 (by decide) rfl ?_
                      refine wp_goto (tgt := 32) C dX12_layCan_82 (by decide) ?_
                      exact ih9_32 z5 H8 (by omega) (fun b hb9 => by rw [e_H8]; unfold upd2; by_cases q : (b : Int) = 200 * x4 + x5; rw [if_pos (by omega), bi_t (by omega)]; rw [if_neg (fun z => q (by omega))]; exact hb b (by omega)) (fun a b hab => by rw [e_H8]; unfold upd2; rw [if_neg (fun z => hab z.1)]; exact hf a b hab) (by omega)
          have q32 : ∀ (x5 : Int) (hx : Hp), (0 ≤ x5 ∧ x5 ≤ 200) → (∀ b : Nat, (b : Int) < 200 * x4 + x5 → hx 137 (4200 * n + b) = bi (b % 200 = 0 ∧ (b / 200 = 0 ∨ kd = 1))) → (∀ a b, a ≠ 137 → hx a b = h a b) → Wp G E 10 (fun r hx => r = none ∧ (∀ i c : Nat, i ≤ n → c < 21 → ∀ r se co : Int, 0 ≤ r ∧ r < p → 0 ≤ se ∧ se < (if kd = 3 then p else 1) → co = 0 ∨ co = 1 → caP N Sc Cl p kd n hx i c r se co) ∧ (∀ a b, a ≠ 137 → hx a b = h a b)) 32 [(0, rv E 128), (1, iv kd), (2, iv (n : Int)), (3, iv sec), (4, iv x4), (5, iv x5)] [] hx := fun x5 hx hi5 hb hf => q320 _ x5 hx hi5 hb hf (Nat.lt_succ_self _)
          exact q32 0 hx (by omega) (fun b hb9 => hb b (by omega)) (hf)
    have q22 : ∀ (x4 : Int) (hx : Hp), (0 ≤ x4 ∧ x4 ≤ 21) → (∀ b : Nat, (b : Int) < 200 * x4 → hx 137 (4200 * n + b) = bi (b % 200 = 0 ∧ (b / 200 = 0 ∨ kd = 1))) → (∀ a b, a ≠ 137 → hx a b = h a b) → Wp G E 10 (fun r hx => r = none ∧ (∀ i c : Nat, i ≤ n → c < 21 → ∀ r se co : Int, 0 ≤ r ∧ r < p → 0 ≤ se ∧ se < (if kd = 3 then p else 1) → co = 0 ∨ co = 1 → caP N Sc Cl p kd n hx i c r se co) ∧ (∀ a b, a ≠ 137 → hx a b = h a b)) 22 [(0, rv E 128), (1, iv kd), (2, iv (n : Int)), (3, iv sec), (4, iv x4)] [] hx := fun x4 hx hi hb hf => q220 _ x4 hx hi hb hf (Nat.lt_succ_self _)
    exact q22 0 h (by omega) (fun b hb => absurd hb (by omega)) (fun a b _ => rfl)
  refine wp_iload_n 1 C dX12_layCan_5 rfl rfl ?_
  refine wp_iconst (v := 3) C dX12_layCan_6 rfl ?_
  refine wp_icmp_ne (tgt := 17) (by omega) (by omega) C dX12_layCan_7 (by decide) (fun c_7 => ?_) (fun c_7 => ?_)
  · skip
    refine wp_iconst (v := 1) C dX12_layCan_17 rfl ?_
    refine wp_istore_n (ls' := [(0, rv E 128), (1, iv kd), (2, iv (n : Int)), (3, iv 1)]) [1, 2, 3, 0] C dX12_layCan_18 rfl (by decide) rfl ?_
    exact q19 1 (by rw [if_neg (by omega)])
  · skip
    refine wp_aloadR_n 0 C dX12_layCan_10 rfl rfl ?_
    refine wp_callVp (rest := []) (c_parts E h n p N Sc Cl Cs M0) svX12_157 sh_128 (by decide) rfl rfl (Nat.le_of_ble_eq_true rfl) C dX12_layCan_11 ?_
    refine wp_goto (tgt := 18) C dX12_layCan_14 (by decide) ?_
    refine wp_istore_n (ls' := [(0, rv E 128), (1, iv kd), (2, iv (n : Int)), (3, iv p)]) [1, 2, 3, 0] C dX12_layCan_18 rfl (by decide) rfl ?_
    exact q19 p (by rw [if_pos (by omega)])


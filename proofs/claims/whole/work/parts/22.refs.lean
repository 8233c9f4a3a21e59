/-! ===== the reference: write, swap, judge, images ===== -/
theorem upd2_self {h : Hp} {a b : Nat} {v : Int} (e : h a b = v) : upd2 h a b v = h := by
  funext x y
  unfold upd2
  split
  · rename_i q; rw [q.1, q.2, e]
  · rfl
theorem upd2_upd2 {h : Hp} {a b : Nat} {v w : Int} : upd2 (upd2 h a b v) a b w = upd2 h a b w := by
  funext x y
  unfold upd2
  split <;> simp_all
theorem upd2_swap {h : Hp} {a b c d : Nat} {v w : Int} (hn : a ≠ c) : upd2 (upd2 h a b v) c d w = upd2 (upd2 h c d w) a b v := by
  funext x y
  unfold upd2
  by_cases q : x = a ∧ y = b
  · simp only [if_pos q, if_neg (show ¬ (x = c ∧ y = d) by omega)]
  · simp only [if_neg q]
set_option maxRecDepth 100000 in
set_option maxHeartbeats 4000000 in
theorem m_write (E : En) (h : Hp) (b n : Int) (hb : -9223372036854775808 ≤ b ∧ b ≤ 9223372036854775807) (hn : -2147483648 ≤ n ∧ n ≤ 2147483647) (hl : 0 ≤ h 128 6 ∧ h 128 6 ≤ 200) : Ct 1 yX12_write cX12_write 5 (some .int) E [rv E 128, jv b, iv n] h (fun r hx => r = some (iv (if ¬ (1 ≤ n ∧ n ≤ 8) then -3 else if h 128 6 + n ≤ 200 then h 128 6 + n else -5)) ∧ hx = (if ¬ (1 ≤ n ∧ n ≤ 8) then h else if h 128 6 + n ≤ 200 then upd2 (wrH h 134 (h 128 6) b n) 128 6 (h 128 6 + n) else h)) := by
  refine ct_intro (by decide) (Nat.le_of_ble_eq_true rfl) (fun G C => ?_)
  show Wp G E 5 (fun r hx => r = some (iv (if ¬ (1 ≤ n ∧ n ≤ 8) then -3 else if h 128 6 + n ≤ 200 then h 128 6 + n else -5)) ∧ hx = (if ¬ (1 ≤ n ∧ n ≤ 8) then h else if h 128 6 + n ≤ 200 then upd2 (wrH h 134 (h 128 6) b n) 128 6 (h 128 6 + n) else h)) 0 [(0, rv E 128), (1, jv b), (3, iv n)] [] h
  refine wp_iload_n 2 C dX12_write_0 rfl rfl ?_
  refine wp_i2l (by omega) C dX12_write_1 ?_
  refine wp_lconst (v := 1) C dX12_write_2 rfl ?_
  refine wp_ldc2 (v := 8) C (mT (i := 965) (by decide +kernel) rfl) dX12_write_3 ?_
  refine wp_callSp (rest := []) (c_in E h n 1 8 (by omega) (by omega) (by omega)) ssX12_69 (by decide) rfl rfl (Nat.le_of_ble_eq_true rfl) C dX12_write_6 ?_
  refine wp_ifb_ne (tgt := 15) C dX12_write_9 (by decide) (fun c_9 => ?_) (fun c_9 => ?_)
  · skip
    refine wp_aloadR_n 0 C dX12_write_15 rfl rfl ?_
    refine wp_getI flX12_73 sh_128 rfl C dX12_write_16 ?_
    refine wp_iload_n 2 C dX12_write_19 rfl rfl ?_
    refine wp_iadd C dX12_write_20 ?_
    refine wp_sipush (v := 200) C dX12_write_21 rfl ?_
    refine wp_icmp_le (tgt := 30) (by omega) (by omega) C dX12_write_24 (by decide) (fun c_24 => ?_) (fun c_24 => ?_)
    · skip
      refine wp_iconst (v := 0) C dX12_write_30 rfl ?_
      refine wp_istore (ls' := [(0, rv E 128), (1, jv b), (3, iv n), (4, iv 0)]) [1, 2, 3, 0] C dX12_write_31 (by decide) rfl ?_
      have q330 : ∀ n9 : Nat, ∀ (x4 : Int) (hx : Hp), (0 ≤ x4 ∧ x4 ≤ n) → (hx = upd2 (wrH h 134 (h 128 6) b x4) 128 6 (h 128 6 + x4)) → (n - x4).toNat < n9 → Wp G E 5 (fun r hx => r = some (iv (if ¬ (1 ≤ n ∧ n ≤ 8) then -3 else if h 128 6 + n ≤ 200 then h 128 6 + n else -5)) ∧ hx = (if ¬ (1 ≤ n ∧ n ≤ 8) then h else if h 128 6 + n ≤ 200 then upd2 (wrH h 134 (h 128 6) b n) 128 6 (h 128 6 + n) else h)) 33 [(0, rv E 128), (1, jv b), (3, iv n), (4, iv x4)] [] hx := by
        intro n9
        induction n9 with
        | zero => intro x4 hx hi hh hm9; exact absurd hm9 (Nat.not_lt_zero _)
        | succ n9 ih9 =>
          intro x4 hx hi hh hm9
          have ih9_33 := ih9
          have hl6 : hx 128 6 = h 128 6 + x4 := by rw [hh]; simp [upd2]
          refine wp_iload 3 C dX12_write_33 rfl ?_
          refine wp_iload_n 2 C dX12_write_35 rfl rfl ?_
          refine wp_icmp_ge (tgt := 76) (by omega) (by omega) C dX12_write_36 (by decide) (fun c_36 => ?_) (fun c_36 => ?_)
          · skip
            refine wp_aloadR_n 0 C dX12_write_76 rfl rfl ?_
            refine wp_getI flX12_73 sh_128 rfl C dX12_write_77 ?_
            refine wp_iret C dX12_write_80 ?_
            exact ⟨by rw [if_neg (not_not_intro c_9), if_pos (by omega), hl6, show x4 = n by omega], by rw [if_neg (not_not_intro c_9), if_pos (by omega), hh, show x4 = n by omega]⟩
          · skip
            refine wp_aloadR_n 0 C dX12_write_39 rfl rfl ?_
            refine wp_getR flX12_27 sh_128 rfl C dX12_write_40 ?_
            refine wp_aloadR_n 0 C dX12_write_43 rfl rfl ?_
            refine wp_getI flX12_73 sh_128 rfl C dX12_write_44 ?_
            refine wp_lload_n 1 C dX12_write_47 rfl rfl ?_
            refine wp_bipush (v := 8) C dX12_write_48 rfl ?_
            refine wp_iload 3 C dX12_write_50 rfl ?_
            refine wp_imul C dX12_write_52 ?_
            refine wp_lshr (by omega) (by omega) C dX12_write_53 ?_
            refine wp_ldc2 (v := 255) C (mT (i := 969) (by decide +kernel) rfl) dX12_write_54 ?_
            refine wp_land C dX12_write_57 ?_
            refine wp_topl (show _ = _ % 256 from lAnd_mask (n := 8) (by decide)) ?_
            refine wp_l2i C dX12_write_58 ?_
            refine wp_iast sh_134 (by omega) C dX12_write_59 ?_
            obtain ⟨H1, e_H1⟩ : ∃ z : Hp, z = upd2 hx 134 (hx 128 6).toNat ((b / 2 ^ (8 * x4).toNat) % 256) := ⟨_, rfl⟩
            refine wp_heq e_H1 ?_
            refine wp_aloadR_n 0 C dX12_write_60 rfl rfl ?_
            refine wp_dup rfl C dX12_write_61 ?_
            refine wp_getI flX12_73 sh_128 rfl C dX12_write_62 ?_
            refine wp_top (rdu_ne e_H1 (by decide)) ?_
            refine wp_iconst (v := 1) C dX12_write_65 rfl ?_
            refine wp_iadd C dX12_write_66 ?_
            refine wp_putI fpX12_73 sh_128 rfl C dX12_write_67 ?_
            obtain ⟨H2, e_H2⟩ : ∃ z : Hp, z = upd2 H1 128 6 ((hx 128 6) + 1) := ⟨_, rfl⟩
            refine wp_heq e_H2 ?_
            obtain ⟨v3, e_v3⟩ : ∃ z : Int, z = x4 + (1) := ⟨_, rfl⟩
            refine wp_iinc (j := 3) (y := v3) (ls' := [(0, rv E 128), (1, jv b), (3, iv n), (4, iv v3)]) [1, 2, 3, 0] C dX12_write_70 rfl e_v3 (by decide) rfl ?_
            refine wp_goto (tgt := 33) C dX12_write_73 (by decide) ?_
            exact ih9_33 v3 H2 (by omega) (by rw [e_H2, hl6, e_H1, hl6, hh, e_v3, upd2_swap (by decide), upd2_upd2, upd2_swap (by decide)]; rw [wrH_step (by omega) (by omega), Int.add_assoc]) (by omega)
      have q33 : ∀ (x4 : Int) (hx : Hp), (0 ≤ x4 ∧ x4 ≤ n) → (hx = upd2 (wrH h 134 (h 128 6) b x4) 128 6 (h 128 6 + x4)) → Wp G E 5 (fun r hx => r = some (iv (if ¬ (1 ≤ n ∧ n ≤ 8) then -3 else if h 128 6 + n ≤ 200 then h 128 6 + n else -5)) ∧ hx = (if ¬ (1 ≤ n ∧ n ≤ 8) then h else if h 128 6 + n ≤ 200 then upd2 (wrH h 134 (h 128 6) b n) 128 6 (h 128 6 + n) else h)) 33 [(0, rv E 128), (1, jv b), (3, iv n), (4, iv x4)] [] hx := fun x4 hx hi hh => q330 _ x4 hx hi hh (Nat.lt_succ_self _)
      exact q33 0 h (by omega) ((by rw [wrH_0, Int.add_zero, upd2_self rfl]))
    · skip
      refine wp_bipush (v := (-5)) C dX12_write_27 rfl ?_
      refine wp_iret C dX12_write_29 ?_
      exact ⟨by rw [if_neg (not_not_intro c_9), if_neg (by omega)], by rw [if_neg (not_not_intro c_9), if_neg (by omega)]⟩
  · skip
    refine wp_bipush (v := (-3)) C dX12_write_12 rfl ?_
    refine wp_iret C dX12_write_14 ?_
    exact ⟨by rw [if_pos c_9], by rw [if_pos c_9]⟩

def swc (N : Nat → Int) (p lot mi : Int) (n a b : Nat) : Bool := decide (a < n) && decide (b < n) && decide (lot / 2 ^ a % 2 = 1) && insP N p lot (trn (N a % p + mi) p) b
theorem swc_eq {N : Nat → Int} {p lot mi : Int} {n a b : Nat} : swc N p lot mi n a b = true ↔ a < n ∧ b < n ∧ lot / 2 ^ a % 2 = 1 ∧ insP N p lot (trn (N a % p + mi) p) b = true := by
  unfold swc
  simp only [Bool.and_eq_true, decide_eq_true_eq, and_assoc]
theorem swp_some {N : Nat → Int} {p lot mi : Int} {n a b : Nat} (hc : swc N p lot mi n a b = true) (hn : n ≤ 20) (hb : ∀ j, j < 20 * a + b → swc N p lot mi n (j / 20) (j % 20) = false) : firstI (swpP N p lot mi n) n = a ∧ firstI (insP N p lot (trn (N a % p + mi) p)) n = b := by
  obtain ⟨h1, h2, h3, h4⟩ := swc_eq.mp hc
  have hi : firstI (insP N p lot (trn (N a % p + mi) p)) n = b := by
    refine firstI_some h2 h4 (fun j hj => ?_)
    have := hb (20 * a + j) (by omega)
    rw [show (20 * a + j) / 20 = a by omega, show (20 * a + j) % 20 = j by omega] at this
    cases e : insP N p lot (trn (N a % p + mi) p) j with
    | false => rfl
    | true => rw [swc_eq.mpr ⟨h1, by omega, h3, e⟩] at this; cases this
  refine ⟨firstI_some h1 ?_ (fun g hg => ?_), hi⟩
  · unfold swpP
    rw [hi, decide_eq_true h3, decide_eq_true (by omega)]
    rfl
  · cases e : swpP N p lot mi n g with
    | false => rfl
    | true =>
      unfold swpP at e
      simp only [Bool.and_eq_true, decide_eq_true_eq] at e
      rcases firstI_cases (insP N p lot (trn (N g % p + mi) p)) n with ⟨i, i1, i2, i3, i4⟩ | ⟨i1, i2⟩
      · have := hb (20 * g + i) (by omega)
        rw [show (20 * g + i) / 20 = g by omega, show (20 * g + i) % 20 = i by omega, swc_eq.mpr ⟨by omega, i1, e.1, i2⟩] at this
        cases this
      · exact absurd i2 e.2
theorem swp_none {N : Nat → Int} {p lot mi : Int} {n : Nat} (hn : n ≤ 20) (hb : ∀ j, j < 400 → swc N p lot mi n (j / 20) (j % 20) = false) : firstI (swpP N p lot mi n) n = -1 := by
  refine firstI_none (fun g hg => ?_)
  cases e : swpP N p lot mi n g with
  | false => rfl
  | true =>
    unfold swpP at e
    simp only [Bool.and_eq_true, decide_eq_true_eq] at e
    rcases firstI_cases (insP N p lot (trn (N g % p + mi) p)) n with ⟨i, i1, i2, i3, i4⟩ | ⟨i1, i2⟩
    · have := hb (20 * g + i) (by omega)
      rw [show (20 * g + i) / 20 = g by omega, show (20 * g + i) % 20 = i by omega, swc_eq.mpr ⟨by omega, i1, e.1, i2⟩] at this
      cases this
    · exact absurd i2 e.2
theorem swt {r a b p : Int} (hp : 2 ≤ p) (hr : 0 < r ∧ r < p) (ha : 0 ≤ a ∧ a < p) (hb : 0 ≤ b ∧ b < p) : Int.tmod (r + b + p - a) p = 0 ↔ b = trn (a + trn (p - r) p) p := by
  rw [Int.tmod_eq_emod_of_nonneg (by omega)]
  have e : trn (p - r) p = p - r := by unfold trn; rw [if_neg (by omega)]
  rw [e]
  constructor
  · intro h
    obtain ⟨k, hk⟩ := Int.dvd_of_emod_eq_zero h
    have hk1 : k = 1 ∨ k = 2 := by
      have h1 : 0 < p * k := by omega
      have h2 : p * k < p * 3 := by omega
      have h3 : 0 < k := by
        apply Int.lt_of_not_ge
        intro hc
        have : p * k ≤ p * 0 := Int.mul_le_mul_of_nonneg_left hc (by omega)
        omega
      have h4 : k < 3 := Int.lt_of_mul_lt_mul_left h2 (by omega)
      omega
    unfold trn
    rcases hk1 with rfl | rfl
    · rw [if_pos (by omega)]; omega
    · rw [if_neg (by omega)]; omega
  · intro h
    unfold trn at h
    split at h
    · rw [show r + b + p - a = p * 1 by omega]; exact Int.mul_emod_right p 1
    · rw [show r + b + p - a = p * 2 by omega]; exact Int.mul_emod_right p 2
set_option maxRecDepth 100000 in
set_option maxHeartbeats 4000000 in
theorem m_swap (E : En) (h : Hp) (n : Nat) (p : Int) (N Sc Cl Cs : Nat → Int) (M0 : MH h n p N Sc Cl Cs) (a w : Int) (ha : -2147483648 ≤ a ∧ a ≤ 2147483647) (hw : -2147483648 ≤ w ∧ w ≤ 2147483647) : Ct 4 yX12_swap cX12_swap 7 (some .int) E [rv E 128, iv a, iv w] h (Ret (iv (if ¬ (0 ≤ a ∧ a < 2 ^ n) then -2 else if ¬ (0 ≤ w ∧ w ≤ 1) then -3 else swpS N p a w n)) h) := by
  obtain ⟨m0, m1, m2, m3, mN, mS, mC, mK⟩ := id M0
  refine ct_intro (by decide) (Nat.le_of_ble_eq_true rfl) (fun G C => ?_)
  show Wp G E 7 (Ret (iv (if ¬ (0 ≤ a ∧ a < 2 ^ n) then -2 else if ¬ (0 ≤ w ∧ w ≤ 1) then -3 else swpS N p a w n)) h) 0 [(0, rv E 128), (1, iv a), (2, iv w)] [] h
  refine wp_aloadR_n 0 C dX12_swap_0 rfl rfl ?_
  refine wp_iload_n 1 C dX12_swap_1 rfl rfl ?_
  refine wp_callVp (rest := []) (c_isLot E h n p N Sc Cl Cs M0 a (by omega)) svX12_170 sh_128 (by decide) rfl rfl (Nat.le_of_ble_eq_true rfl) C dX12_swap_2 ?_
  refine wp_ifb_ne (tgt := 11) C dX12_swap_5 (by decide) (fun c_5 => ?_) (fun c_5 => ?_)
  · skip
    have hl9 := lotn m1 c_5
    have hm9 := mod_r (sumB N a n) m3
    refine wp_iload_n 2 C dX12_swap_11 rfl rfl ?_
    refine wp_i2l (by omega) C dX12_swap_12 ?_
    refine wp_lconst (v := 0) C dX12_swap_13 rfl ?_
    refine wp_lconst (v := 1) C dX12_swap_14 rfl ?_
    refine wp_callSp (rest := []) (c_in E h w 0 1 (by omega) (by omega) (by omega)) ssX12_69 (by decide) rfl rfl (Nat.le_of_ble_eq_true rfl) C dX12_swap_15 ?_
    refine wp_ifb_ne (tgt := 24) C dX12_swap_18 (by decide) (fun c_18 => ?_) (fun c_18 => ?_)
    · skip
      refine wp_aloadR_n 0 C dX12_swap_24 rfl rfl ?_
      refine wp_iload_n 1 C dX12_swap_25 rfl rfl ?_
      refine wp_iconst (v := 0) C dX12_swap_26 rfl ?_
      refine wp_callVp (rest := []) (c_restOfLot0 E h n p N Sc Cl Cs M0 a (by omega)) svX12_173 sh_128 (by decide) rfl rfl (Nat.le_of_ble_eq_true rfl) C dX12_swap_27 ?_
      refine wp_nm (fun v1 e_v1 => ?_)
      refine wp_istore_n (ls' := [(0, rv E 128), (1, iv a), (2, iv w), (3, iv v1)]) [1, 2, 3, 0] C dX12_swap_30 rfl (by decide) rfl ?_
      refine wp_iconst (v := 0) C dX12_swap_31 rfl ?_
      refine wp_istore (ls' := [(0, rv E 128), (1, iv a), (2, iv w), (3, iv v1), (4, iv 0)]) [1, 2, 3, 4, 0] C dX12_swap_32 (by decide) rfl ?_
      have ht9 : trn (p - sumB N a n % p) p = if v1 = 0 then 0 else p - v1 := by rw [← e_v1]; unfold trn; split <;> split <;> omega
      have q340 : ∀ n9 : Nat, ∀ (x4 : Int), (0 ≤ x4 ∧ x4 ≤ 400) → (∀ j, j < x4.toNat → swc N p a (trn (p - sumB N a n % p) p) n (j / 20) (j % 20) = false) → (400 - x4).toNat < n9 → Wp G E 7 (Ret (iv (if ¬ (0 ≤ a ∧ a < 2 ^ n) then -2 else if ¬ (0 ≤ w ∧ w ≤ 1) then -3 else swpS N p a w n)) h) 34 [(0, rv E 128), (1, iv a), (2, iv w), (3, iv v1), (4, iv x4)] [] h := by
        intro n9
        induction n9 with
        | zero => intro x4 hi hs hm9; exact absurd hm9 (Nat.not_lt_zero _)
        | succ n9 ih9 =>
          intro x4 hi hs hm9
          have ih9_34 := ih9
          have ht9 : trn (p - sumB N a n % p) p = if v1 = 0 then 0 else p - v1 := by rw [← e_v1]; unfold trn; split <;> split <;> omega
          refine wp_iload 4 C dX12_swap_34 rfl ?_
          refine wp_sipush (v := 400) C dX12_swap_36 rfl ?_
          refine wp_icmp_ge (tgt := 142) (by omega) (by omega) C dX12_swap_39 (by decide) (fun c_39 => ?_) (fun c_39 => ?_)
          · skip
            refine wp_iconst (v := (-1)) C dX12_swap_142 rfl ?_
            refine wp_iret C dX12_swap_143 ?_
            exact ret_iv (by
                    rw [if_neg (not_not_intro c_5), if_neg (not_not_intro c_18)]
                    simp only [swpS]
                    by_cases q0 : trn (p - sumB N a n % p) p = 0
                    · rw [if_pos q0]
                    · rw [if_neg q0, swp_none m1 (fun j hj => hs j (by omega)), if_pos rfl])
          · skip
            refine wp_iload_n 3 C dX12_swap_42 rfl rfl ?_
            refine wp_if_le (tgt := 142) (by omega) C dX12_swap_43 (by decide) (fun c_43 => ?_) (fun c_43 => ?_)
            · skip
              refine wp_iconst (v := (-1)) C dX12_swap_142 rfl ?_
              refine wp_iret C dX12_swap_143 ?_
              exact ret_iv (by
                      rw [if_neg (not_not_intro c_5), if_neg (not_not_intro c_18)]
                      simp only [swpS]
                      rw [if_pos (by rw [ht9, if_pos (by omega)])])
            · skip
              refine wp_iload 4 C dX12_swap_46 rfl ?_
              refine wp_bipush (v := 20) C dX12_swap_48 rfl ?_
              refine wp_idiv (by omega) (by omega) C dX12_swap_50 ?_
              refine wp_nm (fun v_a e_v_a => ?_)
              refine wp_istore (ls' := [(0, rv E 128), (1, iv a), (2, iv w), (3, iv v1), (4, iv x4), (5, iv v_a)]) [1, 2, 3, 4, 5, 0] C dX12_swap_51 (by decide) rfl ?_
              have e5 : v_a = x4 / 20 := by rw [e_v_a, Int.tdiv_eq_ediv_of_nonneg (by omega)]
              refine wp_iload 4 C dX12_swap_53 rfl ?_
              refine wp_bipush (v := 20) C dX12_swap_55 rfl ?_
              refine wp_irem (by omega) (by omega) C dX12_swap_57 ?_
              refine wp_nm (fun v_b e_v_b => ?_)
              refine wp_istore (ls' := [(0, rv E 128), (1, iv a), (2, iv w), (3, iv v1), (4, iv x4), (5, iv v_a), (6, iv v_b)]) [1, 2, 3, 4, 5, 6, 0] C dX12_swap_58 (by decide) rfl ?_
              have e6 : v_b = x4 % 20 := by rw [e_v_b, Int.tmod_eq_emod_of_nonneg (by omega)]
              refine wp_iload 5 C dX12_swap_60 rfl ?_
              refine wp_aloadR_n 0 C dX12_swap_62 rfl rfl ?_
              refine wp_callVp (rest := [iv v_a]) (c_heaps E h n p N Sc Cl Cs M0) svX12_141 sh_128 (by decide) rfl rfl (Nat.le_of_ble_eq_true rfl) C dX12_swap_63 ?_
              refine wp_icmp_ge (tgt := 136) (by omega) (by omega) C dX12_swap_66 (by decide) (fun c_66 => ?_) (fun c_66 => ?_)
              · skip
                obtain ⟨v2, e_v2⟩ : ∃ z : Int, z = x4 + (1) := ⟨_, rfl⟩
                refine wp_iinc (j := 4) (y := v2) (ls' := [(0, rv E 128), (1, iv a), (2, iv w), (3, iv v1), (4, iv v2), (5, iv v_a), (6, iv v_b)]) [1, 2, 3, 4, 0, 5, 6] C dX12_swap_136 rfl e_v2 (by decide) rfl ?_
                refine wp_goto (tgt := 34) C dX12_swap_139 (by decide) ?_
                have ht9 : trn (p - sumB N a n % p) p = if v1 = 0 then 0 else p - v1 := by rw [← e_v1]; unfold trn; split <;> split <;> omega
                refine wp_loc [0, 1, 2, 3, 4] rfl ?_
                exact ih9_34 v2 (by omega) (fun j hj => by rcases (show j < x4.toNat ∨ j = x4.toNat by omega) with q | rfl; exact hs j q; simp [swc, show ¬ (x4.toNat / 20 < n) by omega]) (by omega)
              · skip
                refine wp_iload 6 C dX12_swap_69 rfl ?_
                refine wp_aloadR_n 0 C dX12_swap_71 rfl rfl ?_
                refine wp_callVp (rest := [iv v_b]) (c_heaps E h n p N Sc Cl Cs M0) svX12_141 sh_128 (by decide) rfl rfl (Nat.le_of_ble_eq_true rfl) C dX12_swap_72 ?_
                refine wp_icmp_ge (tgt := 136) (by omega) (by omega) C dX12_swap_75 (by decide) (fun c_75 => ?_) (fun c_75 => ?_)
                · skip
                  obtain ⟨v3, e_v3⟩ : ∃ z : Int, z = x4 + (1) := ⟨_, rfl⟩
                  refine wp_iinc (j := 4) (y := v3) (ls' := [(0, rv E 128), (1, iv a), (2, iv w), (3, iv v1), (4, iv v3), (5, iv v_a), (6, iv v_b)]) [1, 2, 3, 4, 0, 5, 6] C dX12_swap_136 rfl e_v3 (by decide) rfl ?_
                  refine wp_goto (tgt := 34) C dX12_swap_139 (by decide) ?_
                  have ht9 : trn (p - sumB N a n % p) p = if v1 = 0 then 0 else p - v1 := by rw [← e_v1]; unfold trn; split <;> split <;> omega
                  refine wp_loc [0, 1, 2, 3, 4] rfl ?_
                  exact ih9_34 v3 (by omega) (fun j hj => by rcases (show j < x4.toNat ∨ j = x4.toNat by omega) with q | rfl; exact hs j q; simp [swc, show ¬ (x4.toNat % 20 < n) by omega]) (by omega)
                · skip
                  refine wp_iload_n 1 C dX12_swap_78 rfl rfl ?_
                  refine wp_iload 5 C dX12_swap_79 rfl ?_
                  refine wp_callSp (rest := []) (c_has E h a v_a (by omega) (by omega)) ssX12_167 (by decide) rfl rfl (Nat.le_of_ble_eq_true rfl) C dX12_swap_81 ?_
                  refine wp_ifb_eq (tgt := 136) C dX12_swap_84 (by decide) (fun c_84 => ?_) (fun c_84 => ?_)
                  · skip
                    obtain ⟨v4, e_v4⟩ : ∃ z : Int, z = x4 + (1) := ⟨_, rfl⟩
                    refine wp_iinc (j := 4) (y := v4) (ls' := [(0, rv E 128), (1, iv a), (2, iv w), (3, iv v1), (4, iv v4), (5, iv v_a), (6, iv v_b)]) [1, 2, 3, 4, 0, 5, 6] C dX12_swap_136 rfl e_v4 (by decide) rfl ?_
                    refine wp_goto (tgt := 34) C dX12_swap_139 (by decide) ?_
                    have ht9 : trn (p - sumB N a n % p) p = if v1 = 0 then 0 else p - v1 := by rw [← e_v1]; unfold trn; split <;> split <;> omega
                    refine wp_loc [0, 1, 2, 3, 4] rfl ?_
                    exact ih9_34 v4 (by omega) (fun j hj => by rcases (show j < x4.toNat ∨ j = x4.toNat by omega) with q | rfl; exact hs j q; rw [show v_a.toNat = x4.toNat / 20 by omega] at c_84; simp [swc, c_84]) (by omega)
                  · skip
                    refine wp_iload_n 1 C dX12_swap_87 rfl rfl ?_
                    refine wp_iload 6 C dX12_swap_88 rfl ?_
                    refine wp_callSp (rest := []) (c_has E h a v_b (by omega) (by omega)) ssX12_167 (by decide) rfl rfl (Nat.le_of_ble_eq_true rfl) C dX12_swap_90 ?_
                    refine wp_ifb_ne (tgt := 136) C dX12_swap_93 (by decide) (fun c_93 => ?_) (fun c_93 => ?_)
                    · skip
                      obtain ⟨v5, e_v5⟩ : ∃ z : Int, z = x4 + (1) := ⟨_, rfl⟩
                      refine wp_iinc (j := 4) (y := v5) (ls' := [(0, rv E 128), (1, iv a), (2, iv w), (3, iv v1), (4, iv v5), (5, iv v_a), (6, iv v_b)]) [1, 2, 3, 4, 0, 5, 6] C dX12_swap_136 rfl e_v5 (by decide) rfl ?_
                      refine wp_goto (tgt := 34) C dX12_swap_139 (by decide) ?_
                      have ht9 : trn (p - sumB N a n % p) p = if v1 = 0 then 0 else p - v1 := by rw [← e_v1]; unfold trn; split <;> split <;> omega
                      refine wp_loc [0, 1, 2, 3, 4] rfl ?_
                      exact ih9_34 v5 (by omega) (fun j hj => by rcases (show j < x4.toNat ∨ j = x4.toNat by omega) with q | rfl; exact hs j q; rw [show v_b.toNat = x4.toNat % 20 by omega] at c_93; simp [swc, insP, c_93]) (by omega)
                    · skip
                      have hna := mod_r (N v_a.toNat) m3
                      have hnb := mod_r (N v_b.toNat) m3
                      refine wp_iload_n 3 C dX12_swap_96 rfl rfl ?_
                      refine wp_aloadR_n 0 C dX12_swap_97 rfl rfl ?_
                      refine wp_iload 6 C dX12_swap_98 rfl ?_
                      refine wp_callVp (rest := [iv v1]) (c_mrestOf E h n p N Sc Cl Cs M0 v_b (by omega)) svX12_162 sh_128 (by decide) rfl rfl (Nat.le_of_ble_eq_true rfl) C dX12_swap_100 ?_
                      refine wp_iadd C dX12_swap_103 ?_
                      refine wp_aloadR_n 0 C dX12_swap_104 rfl rfl ?_
                      refine wp_callVp (rest := [iv (v1 + (N v_b.toNat % p))]) (c_parts E h n p N Sc Cl Cs M0) svX12_157 sh_128 (by decide) rfl rfl (Nat.le_of_ble_eq_true rfl) C dX12_swap_105 ?_
                      refine wp_iadd C dX12_swap_108 ?_
                      refine wp_aloadR_n 0 C dX12_swap_109 rfl rfl ?_
                      refine wp_iload 5 C dX12_swap_110 rfl ?_
                      refine wp_callVp (rest := [iv ((v1 + (N v_b.toNat % p)) + p)]) (c_mrestOf E h n p N Sc Cl Cs M0 v_a (by omega)) svX12_162 sh_128 (by decide) rfl rfl (Nat.le_of_ble_eq_true rfl) C dX12_swap_112 ?_
                      refine wp_isub C dX12_swap_115 ?_
                      refine wp_aloadR_n 0 C dX12_swap_116 rfl rfl ?_
                      refine wp_callVp (rest := [iv (((v1 + (N v_b.toNat % p)) + p) - (N v_a.toNat % p))]) (c_parts E h n p N Sc Cl Cs M0) svX12_157 sh_128 (by decide) rfl rfl (Nat.le_of_ble_eq_true rfl) C dX12_swap_117 ?_
                      refine wp_irem (by omega) (by omega) C dX12_swap_120 ?_
                      have hsw := swt (p := p) (r := v1) (a := N v_a.toNat % p) (b := N v_b.toNat % p) (by omega) (by omega) hna hnb
                      have htm : -2147483648 ≤ Int.tmod (v1 + N v_b.toNat % p + p - N v_a.toNat % p) p ∧ Int.tmod (v1 + N v_b.toNat % p + p - N v_a.toNat % p) p ≤ 2147483647 := by rw [Int.tmod_eq_emod_of_nonneg (by omega)]; have := mod_r (v1 + N v_b.toNat % p + p - N v_a.toNat % p) m3; omega
                      rw [e_v1] at hsw
                      refine wp_if_ne (tgt := 136) (by omega) C dX12_swap_121 (by decide) (fun c_121 => ?_) (fun c_121 => ?_)
                      · skip
                        obtain ⟨v6, e_v6⟩ : ∃ z : Int, z = x4 + (1) := ⟨_, rfl⟩
                        refine wp_iinc (j := 4) (y := v6) (ls' := [(0, rv E 128), (1, iv a), (2, iv w), (3, iv v1), (4, iv v6), (5, iv v_a), (6, iv v_b)]) [1, 2, 3, 4, 0, 5, 6] C dX12_swap_136 rfl e_v6 (by decide) rfl ?_
                        refine wp_goto (tgt := 34) C dX12_swap_139 (by decide) ?_
                        have ht9 : trn (p - sumB N a n % p) p = if v1 = 0 then 0 else p - v1 := by rw [← e_v1]; unfold trn; split <;> split <;> omega
                        refine wp_loc [0, 1, 2, 3, 4] rfl ?_
                        exact ih9_34 v6 (by omega) (fun j hj => by rcases (show j < x4.toNat ∨ j = x4.toNat by omega) with q | rfl; exact hs j q; rw [show v_a.toNat = x4.toNat / 20 by omega, show v_b.toNat = x4.toNat % 20 by omega] at hsw c_121; simp only [swc, insP]; rw [e_v1] at c_121; simp [show ¬ (N (x4.toNat % 20) % p = trn (N (x4.toNat / 20) % p + trn (p - sumB N a n % p) p) p) from fun z => c_121 (hsw.mpr z)]) (by omega)
                      · skip
                        refine wp_iload_n 2 C dX12_swap_124 rfl rfl ?_
                        refine wp_if_ne (tgt := 133) (by omega) C dX12_swap_125 (by decide) (fun c_125 => ?_) (fun c_125 => ?_)
                        · skip
                          refine wp_iload 6 C dX12_swap_133 rfl ?_
                          refine wp_iret C dX12_swap_135 ?_
                          exact ret_iv (by
                                  rw [if_neg (not_not_intro c_5), if_neg (not_not_intro c_18)]
                                  have ea : v_a.toNat = x4.toNat / 20 := by omega
                                  have eb : v_b.toNat = x4.toNat % 20 := by omega
                                  rw [ea, eb] at hsw c_121
                                  rw [ea] at c_84
                                  rw [eb] at c_93
                                  rw [e_v1] at c_121
                                  have q9 : swc N p a (trn (p - sumB N a n % p) p) n (x4.toNat / 20) (x4.toNat % 20) = true := swc_eq.mpr ⟨by omega, by omega, c_84, by simp [insP, hsw.mp c_121, show a / 2 ^ (x4.toNat % 20) % 2 = 0 by omega]⟩
                                  obtain ⟨q1, q2⟩ := swp_some q9 m1 (fun j hj => hs j (by omega))
                                  simp only [swpS]
                                  rw [q1, if_neg (by rw [ht9, if_neg (by omega)]; omega), if_neg (by omega)]
                                  rw [if_neg (by omega), Int.toNat_natCast, q2]; omega)
                        · skip
                          refine wp_iload 5 C dX12_swap_128 rfl ?_
                          refine wp_goto (tgt := 135) C dX12_swap_130 (by decide) ?_
                          refine wp_iret C dX12_swap_135 ?_
                          exact ret_iv (by
                                  rw [if_neg (not_not_intro c_5), if_neg (not_not_intro c_18)]
                                  have ea : v_a.toNat = x4.toNat / 20 := by omega
                                  have eb : v_b.toNat = x4.toNat % 20 := by omega
                                  rw [ea, eb] at hsw c_121
                                  rw [ea] at c_84
                                  rw [eb] at c_93
                                  rw [e_v1] at c_121
                                  have q9 : swc N p a (trn (p - sumB N a n % p) p) n (x4.toNat / 20) (x4.toNat % 20) = true := swc_eq.mpr ⟨by omega, by omega, c_84, by simp [insP, hsw.mp c_121, show a / 2 ^ (x4.toNat % 20) % 2 = 0 by omega]⟩
                                  obtain ⟨q1, q2⟩ := swp_some q9 m1 (fun j hj => hs j (by omega))
                                  simp only [swpS]
                                  rw [q1, if_neg (by rw [ht9, if_neg (by omega)]; omega), if_neg (by omega)]
                                  rw [if_pos (by omega)]; omega)
      have q34 : ∀ (x4 : Int), (0 ≤ x4 ∧ x4 ≤ 400) → (∀ j, j < x4.toNat → swc N p a (trn (p - sumB N a n % p) p) n (j / 20) (j % 20) = false) → Wp G E 7 (Ret (iv (if ¬ (0 ≤ a ∧ a < 2 ^ n) then -2 else if ¬ (0 ≤ w ∧ w ≤ 1) then -3 else swpS N p a w n)) h) 34 [(0, rv E 128), (1, iv a), (2, iv w), (3, iv v1), (4, iv x4)] [] h := fun x4 hi hs => q340 _ x4 hi hs (Nat.lt_succ_self _)
      exact q34 0 (by omega) (fun j hj => absurd hj (by omega))
    · skip
      refine wp_bipush (v := (-3)) C dX12_swap_21 rfl ?_
      refine wp_iret C dX12_swap_23 ?_
      exact ret_iv (by rw [if_neg (not_not_intro c_5), if_pos c_18])
  · skip
    refine wp_bipush (v := (-2)) C dX12_swap_8 rfl ?_
    refine wp_iret C dX12_swap_10 ?_
    exact ret_iv (by rw [if_pos c_5])

theorem fit_ten {N Sc Cl : Nat → Int} {p : Int} {n : Nat} {l k : Int} : fitB N Sc Cl p n 0 l k = true ↔ (cntB l 20 = k ∧ sumB N l n % p = 0) := by
  unfold fitB
  rw [if_pos rfl]
  simp only [Bool.and_eq_true, decide_eq_true_eq]
  exact And.comm
set_option maxRecDepth 100000 in
set_option maxHeartbeats 4000000 in
theorem m_judge (E : En) (h : Hp) (n : Nat) (p : Int) (N Sc Cl Cs : Nat → Int) (M0 : MH h n p N Sc Cl Cs) (k : Int) (hk : -2147483648 ≤ k ∧ k ≤ 2147483647) (hb : 0 ≤ h 131 2 ∧ h 131 2 ≤ 12) (L : Nat → Int) (hL : ∀ j : Nat, (j : Int) < h 131 2 → h 132 j = L j ∧ 0 ≤ L j ∧ L j ≤ 1048575) : Ct 4 yX12_judge cX12_judge 4 (some .int) E [rv E 128, iv k] h (Ret (iv (if ¬ (1 ≤ k ∧ k ≤ 20) then -3 else firstI (judP (fun l => fitB N Sc Cl p n 0 l k) L) (h 131 2).toNat)) h) := by
  obtain ⟨m0, m1, m2, m3, mN, mS, mC, mK⟩ := id M0
  refine ct_intro (by decide) (Nat.le_of_ble_eq_true rfl) (fun G C => ?_)
  show Wp G E 4 (Ret (iv (if ¬ (1 ≤ k ∧ k ≤ 20) then -3 else firstI (judP (fun l => fitB N Sc Cl p n 0 l k) L) (h 131 2).toNat)) h) 0 [(0, rv E 128), (1, iv k)] [] h
  refine wp_iload_n 1 C dX12_judge_0 rfl rfl ?_
  refine wp_callSp (rest := []) (c_misSize E h k (by omega)) ssX12_198 (by decide) rfl rfl (Nat.le_of_ble_eq_true rfl) C dX12_judge_1 ?_
  refine wp_ifb_ne (tgt := 10) C dX12_judge_4 (by decide) (fun c_4 => ?_) (fun c_4 => ?_)
  · skip
    refine wp_iconst (v := 0) C dX12_judge_10 rfl ?_
    refine wp_istore_n (ls' := [(0, rv E 128), (1, iv k), (2, iv 0)]) [1, 2, 0] C dX12_judge_11 rfl (by decide) rfl ?_
    refine wp_iconst (v := 0) C dX12_judge_12 rfl ?_
    refine wp_istore_n (ls' := [(0, rv E 128), (1, iv k), (2, iv 0), (3, iv 0)]) [1, 2, 3, 0] C dX12_judge_13 rfl (by decide) rfl ?_
    have q140 : ∀ n9 : Nat, ∀ (x2 : Int) (x3 : Int), (0 ≤ x3 ∧ x3 ≤ h 131 2) → (x2 = soldO L x3.toNat) → (∀ j, j < x3.toNat → judP (fun l => fitB N Sc Cl p n 0 l k) L j = false) → (h 131 2 - x3).toNat < n9 → Wp G E 4 (Ret (iv (if ¬ (1 ≤ k ∧ k ≤ 20) then -3 else firstI (judP (fun l => fitB N Sc Cl p n 0 l k) L) (h 131 2).toNat)) h) 14 [(0, rv E 128), (1, iv k), (2, iv x2), (3, iv x3)] [] h := by
      intro n9
      induction n9 with
      | zero => intro x2 x3 hi ho hs hm9; exact absurd hm9 (Nat.not_lt_zero _)
      | succ n9 ih9 =>
        intro x2 x3 hi ho hs hm9
        have ih9_14 := ih9
        refine wp_iload_n 3 C dX12_judge_14 rfl rfl ?_
        refine wp_aloadR_n 0 C dX12_judge_15 rfl rfl ?_
        refine wp_getR flX12_17 sh_128 rfl C dX12_judge_16 ?_
        refine wp_iconst (v := 2) C dX12_judge_19 rfl ?_
        refine wp_iald sh_131 (by omega) C dX12_judge_20 ?_
        refine wp_top (show _ = h 131 2 from rfl) ?_
        refine wp_icmp_ge (tgt := 66) (by omega) (by omega) C dX12_judge_21 (by decide) (fun c_21 => ?_) (fun c_21 => ?_)
        · skip
          refine wp_iconst (v := (-1)) C dX12_judge_66 rfl ?_
          refine wp_iret C dX12_judge_67 ?_
          exact ret_iv (by rw [if_neg (not_not_intro c_4), firstI_none (fun j hj => hs j (by omega))])
        · skip
          have hL9 := hL x3.toNat (by omega)
          refine wp_aloadR_n 0 C dX12_judge_24 rfl rfl ?_
          refine wp_aloadR_n 0 C dX12_judge_25 rfl rfl ?_
          refine wp_getR flX12_20 sh_128 rfl C dX12_judge_26 ?_
          refine wp_iload_n 3 C dX12_judge_29 rfl rfl ?_
          refine wp_iald sh_132 (by omega) C dX12_judge_30 ?_
          refine wp_top hL9.1 ?_
          refine wp_iload_n 1 C dX12_judge_31 rfl rfl ?_
          refine wp_callVp (rest := []) (c_isTen E h n p N Sc Cl Cs M0 (L x3.toNat) k (by omega) (by omega)) svX12_185 sh_128 (by decide) rfl rfl (Nat.le_of_ble_eq_true rfl) C dX12_judge_32 ?_
          refine wp_ifb_eq (tgt := 49) C dX12_judge_35 (by decide) (fun c_35 => ?_) (fun c_35 => ?_)
          · skip
            refine wp_iload_n 3 C dX12_judge_49 rfl rfl ?_
            refine wp_iret C dX12_judge_50 ?_
            exact ret_iv (by rw [if_neg (not_not_intro c_4), firstI_some (i := x3.toNat) (by omega) (by simp [judP, show ¬ (fitB N Sc Cl p n 0 (L x3.toNat) k = true) from fun z => c_35 (fit_ten.mp z)]) hs]; omega)
          · skip
            refine wp_aloadR_n 0 C dX12_judge_38 rfl rfl ?_
            refine wp_getR flX12_20 sh_128 rfl C dX12_judge_39 ?_
            refine wp_iload_n 3 C dX12_judge_42 rfl rfl ?_
            refine wp_iald sh_132 (by omega) C dX12_judge_43 ?_
            refine wp_top hL9.1 ?_
            refine wp_iload_n 2 C dX12_judge_44 rfl rfl ?_
            refine wp_iand C dX12_judge_45 ?_
            have hr9 := bAnd_r (L x3.toNat) x2
            refine wp_if_eq (tgt := 51) (by omega) C dX12_judge_46 (by decide) (fun c_46 => ?_) (fun c_46 => ?_)
            · skip
              refine wp_iload_n 2 C dX12_judge_51 rfl rfl ?_
              refine wp_aloadR_n 0 C dX12_judge_52 rfl rfl ?_
              refine wp_getR flX12_20 sh_128 rfl C dX12_judge_53 ?_
              refine wp_iload_n 3 C dX12_judge_56 rfl rfl ?_
              refine wp_iald sh_132 (by omega) C dX12_judge_57 ?_
              refine wp_top hL9.1 ?_
              refine wp_ior C dX12_judge_58 ?_
              refine wp_istore_n (ls' := [(0, rv E 128), (1, iv k), (2, iv (bOr x2 (L x3.toNat))), (3, iv x3)]) [1, 2, 0, 3] C dX12_judge_59 rfl (by decide) rfl ?_
              obtain ⟨v1, e_v1⟩ : ∃ z : Int, z = x3 + (1) := ⟨_, rfl⟩
              refine wp_iinc (j := 3) (y := v1) (ls' := [(0, rv E 128), (1, iv k), (2, iv (bOr x2 (L x3.toNat))), (3, iv v1)]) [1, 2, 3, 0] C dX12_judge_60 rfl e_v1 (by decide) rfl ?_
              refine wp_goto (tgt := 14) C dX12_judge_63 (by decide) ?_
              exact ih9_14 (bOr x2 (L x3.toNat)) v1 (by omega) (by rw [ho, e_v1, show (x3 + 1).toNat = x3.toNat + 1 by omega]; rfl) (fun j hj => by rcases (show j < x3.toNat ∨ j = x3.toNat by omega) with q | rfl; exact hs j q; simp [judP, fit_ten.mpr c_35, ← ho, c_46]) (by omega)
            · skip
              refine wp_iload_n 3 C dX12_judge_49 rfl rfl ?_
              refine wp_iret C dX12_judge_50 ?_
              exact ret_iv (by rw [if_neg (not_not_intro c_4), firstI_some (i := x3.toNat) (by omega) (by simp [judP, ← ho, c_46]) hs]; omega)
    have q14 : ∀ (x2 : Int) (x3 : Int), (0 ≤ x3 ∧ x3 ≤ h 131 2) → (x2 = soldO L x3.toNat) → (∀ j, j < x3.toNat → judP (fun l => fitB N Sc Cl p n 0 l k) L j = false) → Wp G E 4 (Ret (iv (if ¬ (1 ≤ k ∧ k ≤ 20) then -3 else firstI (judP (fun l => fitB N Sc Cl p n 0 l k) L) (h 131 2).toNat)) h) 14 [(0, rv E 128), (1, iv k), (2, iv x2), (3, iv x3)] [] h := fun x2 x3 hi ho hs => q140 _ x2 x3 hi ho hs (Nat.lt_succ_self _)
    exact q14 0 0 (by omega) (rfl) (fun j hj => absurd hj (by omega))
  · skip
    refine wp_bipush (v := (-3)) C dX12_judge_7 rfl ?_
    refine wp_iret C dX12_judge_9 ?_
    exact ret_iv (by rw [if_pos c_4])


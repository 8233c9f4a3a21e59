/-! ===== the reference: findRun, find ===== -/
def sumR (N : Nat → Int) (s : Nat) : Nat → Int
  | 0 => 0
  | l + 1 => sumR N s l + N (s + l)
theorem trn_mod {a b p : Int} (hp : 2 ≤ p ∧ p ≤ 10) : trn (a % p + b % p) p = (a + b) % p := by
  have h1 := mod_r a hp
  have h2 := mod_r b hp
  rw [Int.add_emod]
  generalize a % p = x at *
  generalize b % p = y at *
  unfold trn
  split
  · rw [show x + y = (x + y - p) + p by omega, Int.add_emod_right, Int.emod_eq_of_lt (by omega) (by omega)]
    omega
  · rw [Int.emod_eq_of_lt (by omega) (by omega)]
theorem rsum_mod {N : Nat → Int} {p : Int} (hp : 2 ≤ p ∧ p ≤ 10) (s : Nat) : ∀ l, rsum N p s l = sumR N s l % p
  | 0 => by simp [rsum, sumR]
  | l + 1 => by rw [rsum, rsum_mod hp s l, sumR, trn_mod hp]
theorem tb_shl {a : Int} : ∀ (s i : Nat), tb (a * 2 ^ s) i ↔ s ≤ i ∧ tb a (i - s)
  | 0, i => by simp
  | s + 1, i => by
    have e : a * 2 ^ (s + 1) = (a * 2 ^ s) * 2 := by rw [p2_succ, Int.mul_assoc, Int.mul_comm 2 (2 ^ s)]
    rw [e]
    cases i with
    | zero => exact ⟨fun z => absurd z tb_dbl0, fun z => absurd z.1 (by omega)⟩
    | succ i => rw [tb_dbl, tb_shl s i, show i + 1 - (s + 1) = i - s by omega]; exact ⟨fun z => ⟨by omega, z.2⟩, fun z => ⟨by omega, z.2⟩⟩
theorem sumB_run {N : Nat → Int} {s l : Nat} : ∀ m : Nat, sumB N ((2 ^ l - 1) * 2 ^ s) m = sumR N s (min l (m - s))
  | 0 => by simp [sumB, sumR]
  | m + 1 => by
    have hb : ((2 : Int) ^ l - 1) * 2 ^ s / 2 ^ m % 2 = 1 ↔ s ≤ m ∧ m - s < l := by
      have := tb_shl (a := (2 : Int) ^ l - 1) s m
      rw [tb_mask] at this
      exact this
    rw [sumB, sumB_run m]
    by_cases q : s ≤ m ∧ m - s < l
    · rw [if_pos (hb.mpr q), show min l (m + 1 - s) = (m - s) + 1 by omega, show min l (m - s) = m - s by omega, sumR, show s + (m - s) = m by omega]
    · rw [if_neg (fun z => q (hb.mp z)), show min l (m + 1 - s) = min l (m - s) by omega]
      omega
theorem run_even {N : Nat → Int} {p : Int} {s l n : Nat} (hp : 2 ≤ p ∧ p ≤ 10) (h : s + l ≤ n) : sumB N ((2 ^ l - 1) * 2 ^ s) n % p = 0 ↔ rsum N p s l = 0 := by
  rw [sumB_run, show min l (n - s) = l by omega, rsum_mod hp]
theorem lgU_drop {N : Nat → Int} {p : Int} {s l : Nat} (h : ¬ rsum N p s (l + 1) = 0) : lgU N p s (l + 1) = lgU N p s l := by
  rw [lgU, if_neg h]
theorem run_bd {l s : Nat} (h : s + l ≤ 20) : 0 ≤ ((2 : Int) ^ l - 1) * 2 ^ s ∧ ((2 : Int) ^ l - 1) * 2 ^ s ≤ 1048575 := by
  have h1 := p2_pos l
  have h2 := p2_pos s
  have h3 : (2 : Int) ^ l * 2 ^ s ≤ 2 ^ 20 := by rw [← Int.pow_add]; exact p2_mono (by omega)
  have e20 : (2 : Int) ^ 20 = 1048576 := by decide
  have h4 : 0 ≤ ((2 : Int) ^ l - 1) * 2 ^ s := Int.mul_nonneg (by omega) (by omega)
  have h5 : ((2 : Int) ^ l - 1) * 2 ^ s = 2 ^ l * 2 ^ s - 2 ^ s := by rw [Int.sub_mul, Int.one_mul]
  omega
set_option maxRecDepth 100000 in
set_option maxHeartbeats 4000000 in
theorem c_findRun (E : En) (h : Hp) (n : Nat) (p : Int) (N Sc Cl Cs : Nat → Int) (M0 : MH h n p N Sc Cl Cs) (k : Int) (hk : 1 ≤ k ∧ k ≤ 20) : Ct 3 yX12_findRun cX12_findRun 6 (some .int) E [rv E 128, iv k] h (Ret (iv (runS N p n k.toNat)) h) := by
  obtain ⟨m0, m1, m2, m3, mN, mS, mC, mK⟩ := id M0
  refine ct_intro (by decide) (Nat.le_of_ble_eq_true rfl) (fun G C => ?_)
  show Wp G E 6 (Ret (iv (runS N p n k.toNat)) h) 0 [(0, rv E 128), (1, iv k)] [] h
  refine wp_iconst (v := 0) C dX12_findRun_0 rfl ?_
  refine wp_istore_n (ls' := [(0, rv E 128), (1, iv k), (2, iv 0)]) [1, 2, 0] C dX12_findRun_1 rfl (by decide) rfl ?_
  have q20 : ∀ n9 : Nat, ∀ (x2 : Int), (0 ≤ x2 ∧ x2 ≤ n) → (∀ j, j < x2.toNat → decide (0 < lgR N p n k.toNat j) = false) → ((n : Int) - x2).toNat < n9 → Wp G E 6 (Ret (iv (runS N p n k.toNat)) h) 2 [(0, rv E 128), (1, iv k), (2, iv x2)] [] h := by
    intro n9
    induction n9 with
    | zero => intro x2 hi hs hm9; exact absurd hm9 (Nat.not_lt_zero _)
    | succ n9 ih9 =>
      intro x2 hi hs hm9
      have ih9_2 := ih9
      refine wp_iload_n 2 C dX12_findRun_2 rfl rfl ?_
      refine wp_aloadR_n 0 C dX12_findRun_3 rfl rfl ?_
      refine wp_callVp (rest := [iv x2]) (c_heaps E h n p N Sc Cl Cs M0) svX12_141 sh_128 (by decide) rfl rfl (Nat.le_of_ble_eq_true rfl) C dX12_findRun_4 ?_
      refine wp_icmp_ge (tgt := 74) (by omega) (by omega) C dX12_findRun_7 (by decide) (fun c_7 => ?_) (fun c_7 => ?_)
      · skip
        refine wp_iconst (v := (-1)) C dX12_findRun_74 rfl ?_
        refine wp_iret C dX12_findRun_75 ?_
        exact ret_iv (by simp only [runS]; rw [firstI_none (fun j hj => hs j (by omega)), if_pos rfl])
      · skip
        have q340 : ∀ n9 : Nat, ∀ (x3 : Int) (x4 : Int), (0 ≤ x4 ∧ x4 ≤ k ∧ x4 ≤ n - x2) → (lgU N p x2.toNat x4.toNat = lgU N p x2.toNat (min k.toNat (n - x2.toNat))) → x4.toNat < n9 → Wp G E 6 (Ret (iv (runS N p n k.toNat)) h) 34 [(0, rv E 128), (1, iv k), (2, iv x2), (3, iv x3), (4, iv x4)] [] h := by
          intro n9
          induction n9 with
          | zero => intro x3 x4 hi4 hg hm9; exact absurd hm9 (Nat.not_lt_zero _)
          | succ n9 ih9 =>
            intro x3 x4 hi4 hg hm9
            have ih9_34 := ih9
            refine wp_iload 4 C dX12_findRun_34 rfl ?_
            refine wp_if_le (tgt := 68) (by omega) C dX12_findRun_36 (by decide) (fun c_36 => ?_) (fun c_36 => ?_)
            · skip
              obtain ⟨v1, e_v1⟩ : ∃ z : Int, z = x2 + (1) := ⟨_, rfl⟩
              refine wp_iinc (j := 2) (y := v1) (ls' := [(0, rv E 128), (1, iv k), (2, iv v1), (3, iv x3), (4, iv x4)]) [1, 2, 0, 3, 4] C dX12_findRun_68 rfl e_v1 (by decide) rfl ?_
              refine wp_goto (tgt := 2) C dX12_findRun_71 (by decide) ?_
              refine wp_loc [0, 1, 2] rfl ?_
              exact ih9_2 v1 (by omega) (fun j hj => by rcases (show j < x2.toNat ∨ j = x2.toNat by omega) with q | rfl; exact hs j q; rw [lgR, ← hg, show x4.toNat = 0 by omega]; rfl) (by omega)
            · skip
              have hbd := run_bd (l := x4.toNat) (s := x2.toNat) (by omega)
              refine wp_iconst (v := 1) C dX12_findRun_39 rfl ?_
              refine wp_iload 4 C dX12_findRun_40 rfl ?_
              refine wp_ishl (by omega) C dX12_findRun_42 ?_
              refine wp_iconst (v := 1) C dX12_findRun_43 rfl ?_
              refine wp_isub C dX12_findRun_44 ?_
              refine wp_iload_n 2 C dX12_findRun_45 rfl rfl ?_
              refine wp_ishl (by omega) C dX12_findRun_46 ?_
              refine wp_nm (fun lt5 e_lt5 => ?_)
              refine wp_istore (ls' := [(0, rv E 128), (1, iv k), (2, iv x2), (3, iv x3), (4, iv x4), (5, iv lt5)]) [1, 2, 3, 4, 5, 0] C dX12_findRun_47 (by decide) rfl ?_
              rw [Int.one_mul] at e_lt5
              have hev := run_even (N := N) (p := p) (s := x2.toNat) (l := x4.toNat) (n := n) m3 (by omega)
              rw [← e_lt5] at hbd hev
              refine wp_aloadR_n 0 C dX12_findRun_49 rfl rfl ?_
              refine wp_iload 5 C dX12_findRun_50 rfl ?_
              refine wp_iconst (v := 0) C dX12_findRun_52 rfl ?_
              refine wp_callVp (rest := []) (c_restOfLot0 E h n p N Sc Cl Cs M0 lt5 (by omega)) svX12_173 sh_128 (by decide) rfl rfl (Nat.le_of_ble_eq_true rfl) C dX12_findRun_53 ?_
              have hmm := mod_r (sumB N lt5 n) m3
              refine wp_if_ne (tgt := 62) (by omega) C dX12_findRun_56 (by decide) (fun c_56 => ?_) (fun c_56 => ?_)
              · skip
                have hnz : ¬ rsum N p x2.toNat ((x4 + (-1)).toNat + 1) = 0 := by rw [show (x4 + (-1)).toNat + 1 = x4.toNat by omega]; exact fun z => c_56 (hev.mpr z)
                obtain ⟨v2, e_v2⟩ : ∃ z : Int, z = x4 + (-1) := ⟨_, rfl⟩
                refine wp_iinc (j := 4) (y := v2) (ls' := [(0, rv E 128), (1, iv k), (2, iv x2), (3, iv x3), (4, iv v2), (5, iv lt5)]) [1, 2, 3, 4, 0, 5] C dX12_findRun_62 rfl e_v2 (by decide) rfl ?_
                refine wp_goto (tgt := 34) C dX12_findRun_65 (by decide) ?_
                refine wp_loc [0, 1, 2, 3, 4] rfl ?_
                exact ih9_34 x3 v2 (by omega) (by rw [← hg, e_v2, show x4.toNat = (x4 + (-1)).toNat + 1 by omega]; exact (lgU_drop hnz).symm) (by omega)
              · skip
                refine wp_iload 5 C dX12_findRun_59 rfl ?_
                refine wp_iret C dX12_findRun_61 ?_
                exact ret_iv (by
                        have h0 := hev.mp c_56
                        have hq : lgR N p n k.toNat x2.toNat = x4.toNat := by rw [lgR, ← hg, show x4.toNat = (x4.toNat - 1) + 1 by omega, lgU, if_pos (by rw [show x4.toNat - 1 + 1 = x4.toNat by omega]; exact h0)]
                        have hf := firstI_some (p := fun s => decide (0 < lgR N p n k.toNat s)) (n := n) (i := x2.toNat) (by omega) (by rw [decide_eq_true_eq, hq]; omega) hs
                        simp only [runS]
                        rw [hf, if_neg (by omega), Int.toNat_natCast, hq, e_lt5])
        have q34 : ∀ (x3 : Int) (x4 : Int), (0 ≤ x4 ∧ x4 ≤ k ∧ x4 ≤ n - x2) → (lgU N p x2.toNat x4.toNat = lgU N p x2.toNat (min k.toNat (n - x2.toNat))) → Wp G E 6 (Ret (iv (runS N p n k.toNat)) h) 34 [(0, rv E 128), (1, iv k), (2, iv x2), (3, iv x3), (4, iv x4)] [] h := fun x3 x4 hi4 hg => q340 _ x3 x4 hi4 hg (Nat.lt_succ_self _)
        refine wp_aloadR_n 0 C dX12_findRun_10 rfl rfl ?_
        refine wp_callVp (rest := []) (c_heaps E h n p N Sc Cl Cs M0) svX12_141 sh_128 (by decide) rfl rfl (Nat.le_of_ble_eq_true rfl) C dX12_findRun_11 ?_
        refine wp_iload_n 2 C dX12_findRun_14 rfl rfl ?_
        refine wp_isub C dX12_findRun_15 ?_
        refine wp_iload_n 1 C dX12_findRun_16 rfl rfl ?_
        refine wp_icmp_ge (tgt := 29) (by omega) (by omega) C dX12_findRun_17 (by decide) (fun c_17 => ?_) (fun c_17 => ?_)
        · skip
          refine wp_iload_n 1 C dX12_findRun_29 rfl rfl ?_
          refine wp_istore_n (ls' := [(0, rv E 128), (1, iv k), (2, iv x2), (3, iv k)]) [1, 2, 3, 0] C dX12_findRun_30 rfl (by decide) rfl ?_
          refine wp_iload_n 3 C dX12_findRun_31 rfl rfl ?_
          refine wp_istore (ls' := [(0, rv E 128), (1, iv k), (2, iv x2), (3, iv k), (4, iv k)]) [1, 2, 3, 4, 0] C dX12_findRun_32 (by decide) rfl ?_
          exact q34 k k (by omega) (congrArg (lgU N p x2.toNat) (by omega))
        · skip
          refine wp_aloadR_n 0 C dX12_findRun_20 rfl rfl ?_
          refine wp_callVp (rest := []) (c_heaps E h n p N Sc Cl Cs M0) svX12_141 sh_128 (by decide) rfl rfl (Nat.le_of_ble_eq_true rfl) C dX12_findRun_21 ?_
          refine wp_iload_n 2 C dX12_findRun_24 rfl rfl ?_
          refine wp_isub C dX12_findRun_25 ?_
          refine wp_goto (tgt := 30) C dX12_findRun_26 (by decide) ?_
          refine wp_nm (fun v3 e_v3 => ?_)
          refine wp_istore_n (ls' := [(0, rv E 128), (1, iv k), (2, iv x2), (3, iv v3)]) [1, 2, 3, 0] C dX12_findRun_30 rfl (by decide) rfl ?_
          refine wp_iload_n 3 C dX12_findRun_31 rfl rfl ?_
          refine wp_istore (ls' := [(0, rv E 128), (1, iv k), (2, iv x2), (3, iv v3), (4, iv v3)]) [1, 2, 3, 4, 0] C dX12_findRun_32 (by decide) rfl ?_
          exact q34 v3 v3 (by omega) (congrArg (lgU N p x2.toNat) (by omega))
  have q2 : ∀ (x2 : Int), (0 ≤ x2 ∧ x2 ≤ n) → (∀ j, j < x2.toNat → decide (0 < lgR N p n k.toNat j) = false) → Wp G E 6 (Ret (iv (runS N p n k.toNat)) h) 2 [(0, rv E 128), (1, iv k), (2, iv x2)] [] h := fun x2 hi hs => q20 _ x2 hi hs (Nat.lt_succ_self _)
  exact q2 0 (by omega) (fun j hj => absurd hj (by omega))

set_option maxRecDepth 100000 in
set_option maxHeartbeats 4000000 in
theorem m_find (E : En) (h : Hp) (n : Nat) (p : Int) (N Sc Cl Cs : Nat → Int) (M0 : MH h n p N Sc Cl Cs) (kd k : Int) (hkd : -2147483648 ≤ kd ∧ kd ≤ 2147483647) (hk : -2147483648 ≤ k ∧ k ≤ 2147483647) : Ct 5 yX12_find cX12_find 3 (some .int) E [rv E 128, iv kd, iv k] h (fun r hx => r = some (iv (if ¬ (0 ≤ kd ∧ kd ≤ 7) then -2 else if ¬ (1 ≤ k ∧ k ≤ 20) then -3 else if kd = 2 then runS N p n k.toNat else findS N Sc Cl p kd n k.toNat)) ∧ (∀ a b, a ≠ 137 → hx a b = h a b)) := by
  obtain ⟨m0, m1, m2, m3, mN, mS, mC, mK⟩ := id M0
  refine ct_intro (by decide) (Nat.le_of_ble_eq_true rfl) (fun G C => ?_)
  show Wp G E 3 (fun r hx => r = some (iv (if ¬ (0 ≤ kd ∧ kd ≤ 7) then -2 else if ¬ (1 ≤ k ∧ k ≤ 20) then -3 else if kd = 2 then runS N p n k.toNat else findS N Sc Cl p kd n k.toNat)) ∧ (∀ a b, a ≠ 137 → hx a b = h a b)) 0 [(0, rv E 128), (1, iv kd), (2, iv k)] [] h
  refine wp_iload_n 1 C dX12_find_0 rfl rfl ?_
  refine wp_callSp (rest := []) (c_isKind E h kd (by omega)) ssX12_193 (by decide) rfl rfl (Nat.le_of_ble_eq_true rfl) C dX12_find_1 ?_
  refine wp_ifb_ne (tgt := 10) C dX12_find_4 (by decide) (fun c_4 => ?_) (fun c_4 => ?_)
  · skip
    refine wp_iload_n 2 C dX12_find_10 rfl rfl ?_
    refine wp_callSp (rest := []) (c_misSize E h k (by omega)) ssX12_198 (by decide) rfl rfl (Nat.le_of_ble_eq_true rfl) C dX12_find_11 ?_
    refine wp_ifb_ne (tgt := 20) C dX12_find_14 (by decide) (fun c_14 => ?_) (fun c_14 => ?_)
    · skip
      refine wp_iload_n 1 C dX12_find_20 rfl rfl ?_
      refine wp_iconst (v := 2) C dX12_find_21 rfl ?_
      refine wp_icmp_ne (tgt := 33) (by omega) (by omega) C dX12_find_22 (by decide) (fun c_22 => ?_) (fun c_22 => ?_)
      · skip
        refine wp_aloadR_n 0 C dX12_find_33 rfl rfl ?_
        refine wp_iload_n 1 C dX12_find_34 rfl rfl ?_
        refine wp_iload_n 2 C dX12_find_35 rfl rfl ?_
        refine wp_callV (rest := []) (c_findBy E h n p N Sc Cl Cs M0 kd k (by omega) (by omega)) svX12_218 sh_128 (by decide) rfl rfl (Nat.le_of_ble_eq_true rfl) C dX12_find_36 (fun r0 hf0 pf => ?_)
        obtain ⟨rfl, hf⟩ := pf
        refine wp_iret C dX12_find_39 ?_
        exact ⟨by rw [if_neg (not_not_intro c_4), if_neg (not_not_intro c_14), if_neg (by omega)], hf⟩
      · skip
        refine wp_aloadR_n 0 C dX12_find_25 rfl rfl ?_
        refine wp_iload_n 2 C dX12_find_26 rfl rfl ?_
        refine wp_callVp (rest := []) (c_findRun E h n p N Sc Cl Cs M0 k (by omega)) svX12_215 sh_128 (by decide) rfl rfl (Nat.le_of_ble_eq_true rfl) C dX12_find_27 ?_
        refine wp_goto (tgt := 39) C dX12_find_30 (by decide) ?_
        refine wp_iret C dX12_find_39 ?_
        exact ⟨by rw [if_neg (not_not_intro c_4), if_neg (not_not_intro c_14), if_pos (by omega)], fun _ _ _ => rfl⟩
    · skip
      refine wp_bipush (v := (-3)) C dX12_find_17 rfl ?_
      refine wp_iret C dX12_find_19 ?_
      exact ⟨by rw [if_neg (not_not_intro c_4), if_pos c_14], fun _ _ _ => rfl⟩
  · skip
    refine wp_bipush (v := (-2)) C dX12_find_7 rfl ?_
    refine wp_iret C dX12_find_9 ?_
    exact ⟨by rw [if_pos c_4], fun _ _ _ => rfl⟩


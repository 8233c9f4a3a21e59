/-! ===== Finder: firstRun, firstOf; EvenTen.find ===== -/
def rsum (N : Nat → Int) (p : Int) (s : Nat) : Nat → Int
  | 0 => 0
  | l + 1 => trn (rsum N p s l + N (s + l) % p) p
def lgU (N : Nat → Int) (p : Int) (s : Nat) : Nat → Nat
  | 0 => 0
  | l + 1 => if rsum N p s (l + 1) = 0 then l + 1 else lgU N p s l
def lgR (N : Nat → Int) (p : Int) (n k s : Nat) : Nat := lgU N p s (min k (n - s))
def runS (N : Nat → Int) (p : Int) (n k : Nat) : Int :=
  let s := firstI (fun s => decide (0 < lgR N p n k s)) n
  if s = -1 then -1 else (2 ^ lgR N p n k s.toNat - 1) * 2 ^ s.toNat
theorem rsum_r {N : Nat → Int} {p : Int} (hp : 2 ≤ p ∧ p ≤ 10) (s : Nat) : ∀ l, 0 ≤ rsum N p s l ∧ rsum N p s l < p
  | 0 => by unfold rsum; omega
  | l + 1 => trn_r (rsum_r hp s l) (mod_r _ hp)
theorem lgU_le (N : Nat → Int) (p : Int) (s : Nat) : ∀ l, lgU N p s l ≤ l
  | 0 => Nat.le_refl 0
  | l + 1 => by
    unfold lgU
    have := lgU_le N p s l
    split <;> omega
theorem tb_mask {k : Nat} (i : Nat) : tb (2 ^ k - 1) i ↔ i < k := by
  have e := p2_cast k
  have hp : 0 < 2 ^ k := Nat.pow_pos (by decide)
  have e2 : (2 : Int) ^ k - 1 = ((2 ^ k - 1 : Nat) : Int) := by omega
  rw [e2, tb_nat, Nat.testBit_two_pow_sub_one]
  simp
theorem szP_congr {h h2 hx : Hp} (e : ∀ a b, a ≠ 27 → h2 a b = h a b) {j : Nat} {r s : Int} (q : szP h hx j r s) : szP h2 hx j r s := by
  have f2 : h2 2 = h 2 := funext fun b => e 2 b (by decide)
  have f3 : h2 3 = h 3 := funext fun b => e 3 b (by decide)
  have f4 : h2 4 = h 4 := funext fun b => e 4 b (by decide)
  unfold szP at q ⊢
  rw [f2, f3, f4, e 28 3 (by decide), e 28 2 (by decide), e 1 4 (by decide), e 1 5 (by decide)]
  exact q
set_option maxRecDepth 100000 in
set_option maxHeartbeats 4000000 in
theorem c_firstRun (E : En) (h : Hp) (k : Int) (hk : 1 ≤ k ∧ k ≤ 20) (hz : 0 ≤ h 1 4 ∧ h 1 4 ≤ 20) (hp : 2 ≤ h 1 5 ∧ h 1 5 ≤ 10) (hN : ∀ i : Nat, (i : Int) < h 1 4 → 0 ≤ h 2 i ∧ h 2 i ≤ 999999999999999) : Ct 3 yX3_firstRun cX3_firstRun 6 (some .int) E [rv E 28, iv k] h (Ret (iv (runS (h 2) (h 1 5) (h 1 4).toNat k.toNat)) h) := by
  refine ct_intro (by decide) (Nat.le_of_ble_eq_true rfl) (fun G C => ?_)
  show Wp G E 6 (Ret (iv (runS (h 2) (h 1 5) (h 1 4).toNat k.toNat)) h) 0 [(0, rv E 28), (1, iv k)] [] h
  refine wp_iconst (v := 0) C dX3_firstRun_0 rfl ?_
  refine wp_istore_n (ls' := [(0, rv E 28), (1, iv k), (2, iv 0)]) [1, 2, 0] C dX3_firstRun_1 rfl (by decide) rfl ?_
  have q20 : ∀ n9 : Nat, ∀ (x2 : Int), (0 ≤ x2 ∧ x2 ≤ h 1 4) → (∀ j, j < x2.toNat → decide (0 < lgR (h 2) (h 1 5) (h 1 4).toNat k.toNat j) = false) → (h 1 4 - x2).toNat < n9 → Wp G E 6 (Ret (iv (runS (h 2) (h 1 5) (h 1 4).toNat k.toNat)) h) 2 [(0, rv E 28), (1, iv k), (2, iv x2)] [] h := by
    intro n9
    induction n9 with
    | zero => intro x2 hi hs hm9; exact absurd hm9 (Nat.not_lt_zero _)
    | succ n9 ih9 =>
      intro x2 hi hs hm9
      have ih9_2 := ih9
      refine wp_iload_n 2 C dX3_firstRun_2 rfl rfl ?_
      refine wp_aloadR_n 0 C dX3_firstRun_3 rfl rfl ?_
      refine wp_getR flX3_18 sh_28 rfl C dX3_firstRun_4 ?_
      refine wp_getI flX3_64 sh_1 rfl C dX3_firstRun_7 ?_
      refine wp_icmp_ge (tgt := 105) (by omega) (by omega) C dX3_firstRun_10 (by decide) (fun c_10 => ?_) (fun c_10 => ?_)
      · skip
        refine wp_iconst (v := (-1)) C dX3_firstRun_105 rfl ?_
        refine wp_iret C dX3_firstRun_106 ?_
        exact ret_iv (by simp only [runS]; rw [firstI_none (fun j hj => hs j (by omega)), if_pos rfl])
      · skip
        refine wp_iconst (v := 0) C dX3_firstRun_13 rfl ?_
        refine wp_istore_n (ls' := [(0, rv E 28), (1, iv k), (2, iv x2), (3, iv 0)]) [1, 2, 3, 0] C dX3_firstRun_14 rfl (by decide) rfl ?_
        refine wp_iconst (v := 0) C dX3_firstRun_15 rfl ?_
        refine wp_istore (ls' := [(0, rv E 28), (1, iv k), (2, iv x2), (3, iv 0), (4, iv 0)]) [1, 2, 3, 4, 0] C dX3_firstRun_16 (by decide) rfl ?_
        refine wp_iload_n 2 C dX3_firstRun_18 rfl rfl ?_
        refine wp_istore (ls' := [(0, rv E 28), (1, iv k), (2, iv x2), (3, iv 0), (4, iv 0), (5, iv x2)]) [1, 2, 3, 4, 5, 0] C dX3_firstRun_19 (by decide) rfl ?_
        have q210 : ∀ n9 : Nat, ∀ (x3 : Int) (x4 : Int) (x5 : Int), (x2 ≤ x5 ∧ x5 ≤ h 1 4 ∧ x5 - x2 ≤ k) → (x4 = rsum (h 2) (h 1 5) x2.toNat (x5 - x2).toNat) → (x3 = (lgU (h 2) (h 1 5) x2.toNat (x5 - x2).toNat : Int)) → (h 1 4 - x5).toNat < n9 → Wp G E 6 (Ret (iv (runS (h 2) (h 1 5) (h 1 4).toNat k.toNat)) h) 21 [(0, rv E 28), (1, iv k), (2, iv x2), (3, iv x3), (4, iv x4), (5, iv x5)] [] h := by
          intro n9
          induction n9 with
          | zero => intro x3 x4 x5 hi5 h4 h3 hm9; exact absurd hm9 (Nat.not_lt_zero _)
          | succ n9 ih9 =>
            intro x3 x4 x5 hi5 h4 h3 hm9
            have ih9_21 := ih9
            refine wp_iload 5 C dX3_firstRun_21 rfl ?_
            refine wp_aloadR_n 0 C dX3_firstRun_23 rfl rfl ?_
            refine wp_getR flX3_18 sh_28 rfl C dX3_firstRun_24 ?_
            refine wp_getI flX3_64 sh_1 rfl C dX3_firstRun_27 ?_
            refine wp_icmp_ge (tgt := 87) (by omega) (by omega) C dX3_firstRun_30 (by decide) (fun c_30 => ?_) (fun c_30 => ?_)
            · skip
              have hlu := lgU_le (h 2) (h 1 5) x2.toNat (x5 - x2).toNat
              refine wp_iload_n 3 C dX3_firstRun_87 rfl rfl ?_
              refine wp_if_le (tgt := 99) (by omega) C dX3_firstRun_88 (by decide) (fun c_88 => ?_) (fun c_88 => ?_)
              · skip
                obtain ⟨v1, e_v1⟩ : ∃ z : Int, z = x2 + (1) := ⟨_, rfl⟩
                refine wp_iinc (j := 2) (y := v1) (ls' := [(0, rv E 28), (1, iv k), (2, iv v1), (3, iv x3), (4, iv x4), (5, iv x5)]) [1, 2, 0, 3, 4, 5] C dX3_firstRun_99 rfl e_v1 (by decide) rfl ?_
                refine wp_goto (tgt := 2) C dX3_firstRun_102 (by decide) ?_
                refine wp_loc [0, 1, 2] rfl ?_
                exact ih9_2 v1 (by omega) (fun j hj => by rcases (show j < x2.toNat ∨ j = x2.toNat by omega) with q | rfl; exact hs j q; rw [lgR, show min k.toNat ((h 1 4).toNat - x2.toNat) = (x5 - x2).toNat by omega, decide_eq_false_iff_not]; omega) (by omega)
              · skip
                refine wp_iconst (v := 1) C dX3_firstRun_91 rfl ?_
                refine wp_iload_n 3 C dX3_firstRun_92 rfl rfl ?_
                refine wp_ishl (by omega) C dX3_firstRun_93 ?_
                refine wp_iconst (v := 1) C dX3_firstRun_94 rfl ?_
                refine wp_isub C dX3_firstRun_95 ?_
                refine wp_iload_n 2 C dX3_firstRun_96 rfl rfl ?_
                refine wp_ishl (by omega) C dX3_firstRun_97 ?_
                refine wp_iret C dX3_firstRun_98 ?_
                exact ret_iv (by
                        have hq : lgR (h 2) (h 1 5) (h 1 4).toNat k.toNat x2.toNat = x3.toNat := by rw [lgR, show min k.toNat ((h 1 4).toNat - x2.toNat) = (x5 - x2).toNat by omega]; omega
                        have hf := firstI_some (p := fun s => decide (0 < lgR (h 2) (h 1 5) (h 1 4).toNat k.toNat s)) (n := (h 1 4).toNat) (i := x2.toNat) (by omega) (by rw [decide_eq_true_eq, hq]; omega) hs
                        simp only [runS]
                        rw [hf, if_neg (by omega), Int.toNat_natCast, hq, Int.one_mul])
            · skip
              refine wp_iload 5 C dX3_firstRun_33 rfl ?_
              refine wp_iload_n 2 C dX3_firstRun_35 rfl rfl ?_
              refine wp_isub C dX3_firstRun_36 ?_
              refine wp_iload_n 1 C dX3_firstRun_37 rfl rfl ?_
              refine wp_icmp_ge (tgt := 87) (by omega) (by omega) C dX3_firstRun_38 (by decide) (fun c_38 => ?_) (fun c_38 => ?_)
              · skip
                have hlu := lgU_le (h 2) (h 1 5) x2.toNat (x5 - x2).toNat
                refine wp_iload_n 3 C dX3_firstRun_87 rfl rfl ?_
                refine wp_if_le (tgt := 99) (by omega) C dX3_firstRun_88 (by decide) (fun c_88 => ?_) (fun c_88 => ?_)
                · skip
                  obtain ⟨v2, e_v2⟩ : ∃ z : Int, z = x2 + (1) := ⟨_, rfl⟩
                  refine wp_iinc (j := 2) (y := v2) (ls' := [(0, rv E 28), (1, iv k), (2, iv v2), (3, iv x3), (4, iv x4), (5, iv x5)]) [1, 2, 0, 3, 4, 5] C dX3_firstRun_99 rfl e_v2 (by decide) rfl ?_
                  refine wp_goto (tgt := 2) C dX3_firstRun_102 (by decide) ?_
                  refine wp_loc [0, 1, 2] rfl ?_
                  exact ih9_2 v2 (by omega) (fun j hj => by rcases (show j < x2.toNat ∨ j = x2.toNat by omega) with q | rfl; exact hs j q; rw [lgR, show min k.toNat ((h 1 4).toNat - x2.toNat) = (x5 - x2).toNat by omega, decide_eq_false_iff_not]; omega) (by omega)
                · skip
                  refine wp_iconst (v := 1) C dX3_firstRun_91 rfl ?_
                  refine wp_iload_n 3 C dX3_firstRun_92 rfl rfl ?_
                  refine wp_ishl (by omega) C dX3_firstRun_93 ?_
                  refine wp_iconst (v := 1) C dX3_firstRun_94 rfl ?_
                  refine wp_isub C dX3_firstRun_95 ?_
                  refine wp_iload_n 2 C dX3_firstRun_96 rfl rfl ?_
                  refine wp_ishl (by omega) C dX3_firstRun_97 ?_
                  refine wp_iret C dX3_firstRun_98 ?_
                  exact ret_iv (by
                          have hq : lgR (h 2) (h 1 5) (h 1 4).toNat k.toNat x2.toNat = x3.toNat := by rw [lgR, show min k.toNat ((h 1 4).toNat - x2.toNat) = (x5 - x2).toNat by omega]; omega
                          have hf := firstI_some (p := fun s => decide (0 < lgR (h 2) (h 1 5) (h 1 4).toNat k.toNat s)) (n := (h 1 4).toNat) (i := x2.toNat) (by omega) (by rw [decide_eq_true_eq, hq]; omega) hs
                          simp only [runS]
                          rw [hf, if_neg (by omega), Int.toNat_natCast, hq, Int.one_mul])
              · skip
                have hmn := mod_r (h 2 x5.toNat) hp
                have hr4 := rsum_r (N := h 2) hp x2.toNat (x5 - x2).toNat
                refine wp_iload 4 C dX3_firstRun_41 rfl ?_
                refine wp_aloadR_n 0 C dX3_firstRun_43 rfl rfl ?_
                refine wp_getR flX3_18 sh_28 rfl C dX3_firstRun_44 ?_
                refine wp_iload 5 C dX3_firstRun_47 rfl ?_
                refine wp_callVp (rest := [iv x4]) (c_restOfNumber E h x5 (by omega) (hN _ (by omega)) (by omega)) svX3_67 sh_1 (by decide) rfl rfl (Nat.le_of_ble_eq_true rfl) C dX3_firstRun_49 ?_
                refine wp_iadd C dX3_firstRun_52 ?_
                refine wp_aloadR_n 0 C dX3_firstRun_53 rfl rfl ?_
                refine wp_getR flX3_18 sh_28 rfl C dX3_firstRun_54 ?_
                refine wp_getI flX3_55 sh_1 rfl C dX3_firstRun_57 ?_
                refine wp_callSNp (rest := []) (c_turned E h (x4 + (h 2 x5.toNat % h 1 5)) (h 1 5) (by omega) (by omega)) snX3_70 (by decide) rfl rfl (Nat.le_of_ble_eq_true rfl) C dX3_firstRun_60 ?_
                refine wp_nm (fun s4 e_s4 => ?_)
                refine wp_istore (ls' := [(0, rv E 28), (1, iv k), (2, iv x2), (3, iv x3), (4, iv s4), (5, iv x5)]) [1, 2, 3, 4, 0, 5] C dX3_firstRun_63 (by decide) rfl ?_
                have es4 : s4 = rsum (h 2) (h 1 5) x2.toNat ((x5 - x2).toNat + 1) := by rw [e_s4, h4, rsum, show x2.toNat + (x5 - x2).toNat = x5.toNat by omega]
                have hs4 := trn_r (r := x4) (x := h 2 x5.toNat % h 1 5) (p := h 1 5) (by omega) hmn
                rw [← e_s4] at hs4
                refine wp_iload 4 C dX3_firstRun_65 rfl ?_
                refine wp_if_ne (tgt := 79) (by omega) C dX3_firstRun_67 (by decide) (fun c_67 => ?_) (fun c_67 => ?_)
                · skip
                  refine wp_iload_n 3 C dX3_firstRun_79 rfl rfl ?_
                  refine wp_istore_n (ls' := [(0, rv E 28), (1, iv k), (2, iv x2), (3, iv x3), (4, iv s4), (5, iv x5)]) [1, 2, 3, 0, 4, 5] C dX3_firstRun_80 rfl (by decide) rfl ?_
                  obtain ⟨v3, e_v3⟩ : ∃ z : Int, z = x5 + (1) := ⟨_, rfl⟩
                  refine wp_iinc (j := 5) (y := v3) (ls' := [(0, rv E 28), (1, iv k), (2, iv x2), (3, iv x3), (4, iv s4), (5, iv v3)]) [1, 2, 3, 4, 5, 0] C dX3_firstRun_81 rfl e_v3 (by decide) rfl ?_
                  refine wp_goto (tgt := 21) C dX3_firstRun_84 (by decide) ?_
                  exact ih9_21 x3 s4 v3 (by omega) (by rw [e_v3, show (x5 + 1 - x2).toNat = (x5 - x2).toNat + 1 by omega]; exact es4) (by rw [e_v3, show (x5 + 1 - x2).toNat = (x5 - x2).toNat + 1 by omega, lgU, if_neg (by rw [← es4]; omega)]; omega) (by omega)
                · skip
                  refine wp_iload 5 C dX3_firstRun_70 rfl ?_
                  refine wp_iload_n 2 C dX3_firstRun_72 rfl rfl ?_
                  refine wp_isub C dX3_firstRun_73 ?_
                  refine wp_iconst (v := 1) C dX3_firstRun_74 rfl ?_
                  refine wp_iadd C dX3_firstRun_75 ?_
                  refine wp_goto (tgt := 80) C dX3_firstRun_76 (by decide) ?_
                  refine wp_nm (fun v4 e_v4 => ?_)
                  refine wp_istore_n (ls' := [(0, rv E 28), (1, iv k), (2, iv x2), (3, iv v4), (4, iv s4), (5, iv x5)]) [1, 2, 3, 0, 4, 5] C dX3_firstRun_80 rfl (by decide) rfl ?_
                  obtain ⟨v5, e_v5⟩ : ∃ z : Int, z = x5 + (1) := ⟨_, rfl⟩
                  refine wp_iinc (j := 5) (y := v5) (ls' := [(0, rv E 28), (1, iv k), (2, iv x2), (3, iv v4), (4, iv s4), (5, iv v5)]) [1, 2, 3, 4, 5, 0] C dX3_firstRun_81 rfl e_v5 (by decide) rfl ?_
                  refine wp_goto (tgt := 21) C dX3_firstRun_84 (by decide) ?_
                  exact ih9_21 v4 s4 v5 (by omega) (by rw [e_v5, show (x5 + 1 - x2).toNat = (x5 - x2).toNat + 1 by omega]; exact es4) (by rw [e_v5, show (x5 + 1 - x2).toNat = (x5 - x2).toNat + 1 by omega, lgU, if_pos (by rw [← es4]; omega)]; omega) (by omega)
        have q21 : ∀ (x3 : Int) (x4 : Int) (x5 : Int), (x2 ≤ x5 ∧ x5 ≤ h 1 4 ∧ x5 - x2 ≤ k) → (x4 = rsum (h 2) (h 1 5) x2.toNat (x5 - x2).toNat) → (x3 = (lgU (h 2) (h 1 5) x2.toNat (x5 - x2).toNat : Int)) → Wp G E 6 (Ret (iv (runS (h 2) (h 1 5) (h 1 4).toNat k.toNat)) h) 21 [(0, rv E 28), (1, iv k), (2, iv x2), (3, iv x3), (4, iv x4), (5, iv x5)] [] h := fun x3 x4 x5 hi5 h4 h3 => q210 _ x3 x4 x5 hi5 h4 h3 (Nat.lt_succ_self _)
        exact q21 0 0 x2 (by omega) (by rw [Int.sub_self]; rfl) (by rw [Int.sub_self]; rfl)
  have q2 : ∀ (x2 : Int), (0 ≤ x2 ∧ x2 ≤ h 1 4) → (∀ j, j < x2.toNat → decide (0 < lgR (h 2) (h 1 5) (h 1 4).toNat k.toNat j) = false) → Wp G E 6 (Ret (iv (runS (h 2) (h 1 5) (h 1 4).toNat k.toNat)) h) 2 [(0, rv E 28), (1, iv k), (2, iv x2)] [] h := fun x2 hi hs => q20 _ x2 hi hs (Nat.lt_succ_self _)
  exact q2 0 (by omega) (fun j hj => absurd hj (by omega))

set_option maxRecDepth 100000 in
set_option maxHeartbeats 4000000 in
theorem c_firstOf (E : En) (h : Hp) (kd k : Int) (hkd : 0 ≤ kd ∧ kd ≤ 7) (hk : 1 ≤ k ∧ k ≤ 20) (hz : 0 ≤ h 1 4 ∧ h 1 4 ≤ 20) (hp : 2 ≤ h 1 5 ∧ h 1 5 ≤ 10) (hN : ∀ i : Nat, (i : Int) < h 1 4 → 0 ≤ h 2 i ∧ h 2 i ≤ 999999999999999) (hS : ∀ i : Nat, (i : Int) < h 1 4 → 0 ≤ h 3 i ∧ h 3 i ≤ 999999999999999) (hC : ∀ i : Nat, (i : Int) < h 1 4 → 0 ≤ h 4 i ∧ h 4 i ≤ 999999999999999) : Ct 5 yX3_firstOf cX3_firstOf 3 (some .int) E [rv E 28, iv kd, iv k] h (fun r hx => r = some (iv (if kd = 2 then runS (h 2) (h 1 5) (h 1 4).toNat k.toNat else findS (h 2) (h 3) (h 4) (h 1 5) kd (h 1 4).toNat k.toNat)) ∧ (∀ a b, a ≠ 27 → a ≠ 28 → hx a b = h a b)) := by
  refine ct_intro (by decide) (Nat.le_of_ble_eq_true rfl) (fun G C => ?_)
  show Wp G E 3 (fun r hx => r = some (iv (if kd = 2 then runS (h 2) (h 1 5) (h 1 4).toNat k.toNat else findS (h 2) (h 3) (h 4) (h 1 5) kd (h 1 4).toNat k.toNat)) ∧ (∀ a b, a ≠ 27 → a ≠ 28 → hx a b = h a b)) 0 [(0, rv E 28), (1, iv kd), (2, iv k)] [] h
  refine wp_iload_n 1 C dX3_firstOf_0 rfl rfl ?_
  refine wp_iconst (v := 2) C dX3_firstOf_1 rfl ?_
  refine wp_icmp_ne (tgt := 11) (by omega) (by omega) C dX3_firstOf_2 (by decide) (fun c_2 => ?_) (fun c_2 => ?_)
  · skip
    refine wp_aloadR_n 0 C dX3_firstOf_11 rfl rfl ?_
    refine wp_iload_n 1 C dX3_firstOf_12 rfl rfl ?_
    refine wp_putI fpX3_9 sh_28 rfl C dX3_firstOf_13 ?_
    obtain ⟨H1, e_H1⟩ : ∃ z : Hp, z = upd2 h 28 2 kd := ⟨_, rfl⟩
    refine wp_heq e_H1 ?_
    have q51 : ∀ (hx : Hp), (hx 28 2 = kd ∧ FK hx) → (∀ a b, a ≠ 28 → hx a b = h a b) → Wp G E 3 (fun r hx => r = some (iv (if kd = 2 then runS (h 2) (h 1 5) (h 1 4).toNat k.toNat else findS (h 2) (h 3) (h 4) (h 1 5) kd (h 1 4).toNat k.toNat)) ∧ (∀ a b, a ≠ 27 → a ≠ 28 → hx a b = h a b)) 51 [(0, rv E 28), (1, iv kd), (2, iv k)] [] hx := by
      intro hx hq hf
      have s1 : hx 1 4 = h 1 4 := hf 1 4 (by decide)
      have s2 : hx 1 5 = h 1 5 := hf 1 5 (by decide)
      have f2 : hx 2 = h 2 := funext fun b => hf 2 b (by decide)
      have f3 : hx 3 = h 3 := funext fun b => hf 3 b (by decide)
      have f4 : hx 4 = h 4 := funext fun b => hf 4 b (by decide)
      have hN1 : ∀ i : Nat, (i : Int) < hx 1 4 → 0 ≤ hx 2 i ∧ hx 2 i ≤ 999999999999999 := by rw [s1, f2]; exact hN
      have hS1 : ∀ i : Nat, (i : Int) < hx 1 4 → 0 ≤ hx 3 i ∧ hx 3 i ≤ 999999999999999 := by rw [s1, f3]; exact hS
      have hC1 : ∀ i : Nat, (i : Int) < hx 1 4 → 0 ≤ hx 4 i ∧ hx 4 i ≤ 999999999999999 := by rw [s1, f4]; exact hC
      refine wp_aloadR_n 0 C dX3_firstOf_51 rfl rfl ?_
      refine wp_callV (rest := []) (c_fillSizes E hx hq.2 (by omega) (by omega) hN1 hS1 hC1) svX3_58 sh_28 (by decide) rfl rfl (Nat.le_of_ble_eq_true rfl) C dX3_firstOf_52 (fun r0 hy pf => ?_)
      obtain ⟨rfl, hall, hf2⟩ := pf
      have t1 : hy 1 4 = h 1 4 := (hf2 1 4 (by decide)).trans s1
      have t2 : hy 1 5 = h 1 5 := (hf2 1 5 (by decide)).trans s2
      have t3 : hy 28 2 = kd := (hf2 28 2 (by decide)).trans hq.1
      have g2 : hy 2 = h 2 := (funext fun b => hf2 2 b (by decide)).trans f2
      have g3 : hy 3 = h 3 := (funext fun b => hf2 3 b (by decide)).trans f3
      have g4 : hy 4 = h 4 := (funext fun b => hf2 4 b (by decide)).trans f4
      have hky : FK hy := by have q := hq.2; unfold FK at q ⊢; rw [hf2 28 2 (by decide), hf2 28 3 (by decide), hf2 1 5 (by decide)]; exact q
      have hp20 : (2 : Int) ^ k.toNat ≤ 2 ^ 20 := p2_mono (by omega)
      have e20 : (2 : Int) ^ 20 = 1048576 := by decide
      have hpp := p2_pos k.toNat
      refine wp_aloadR_n 0 C dX3_firstOf_55 rfl rfl ?_
      refine wp_aloadR_n 0 C dX3_firstOf_56 rfl rfl ?_
      refine wp_getI flX3_9 sh_28 rfl C dX3_firstOf_57 ?_
      refine wp_iconst (v := 1) C dX3_firstOf_60 rfl ?_
      refine wp_icmp_ne (tgt := 72) (by omega) (by omega) C dX3_firstOf_61 (by decide) (fun c_61 => ?_) (fun c_61 => ?_)
      · skip
        refine wp_iconst (v := 1) C dX3_firstOf_72 rfl ?_
        refine wp_iload_n 2 C dX3_firstOf_73 rfl rfl ?_
        refine wp_ishl (by omega) C dX3_firstOf_74 ?_
        refine wp_callVp (rest := []) (c_pick E hy (1 * 2 ^ k.toNat) k.toNat (by omega) hky (by omega) (by rw [show (1 : Int) * 2 ^ k.toNat = 2 ^ k.toNat by omega, tb_p2]; omega) (fun j hj => by rw [show (1 : Int) * 2 ^ k.toNat = 2 ^ k.toNat by omega, tb_p2, if_neg (by omega)]) (by omega) (by omega) (by rw [t1, g2]; exact hN) (by rw [t1, g3]; exact hS) (by rw [t1, g4]; exact hC) (fun j hj r s hr hs => szP_congr (fun a b hab => hf2 a b hab) (hall j (by rw [← hf2 1 4 (by decide)]; exact hj) r s (by rw [← hf2 1 5 (by decide)]; exact hr) (by rw [← hf2 28 3 (by decide)]; exact hs)))) svX3_61 sh_28 (by decide) rfl rfl (Nat.le_of_ble_eq_true rfl) C dX3_firstOf_75 ?_
        refine wp_iret C dX3_firstOf_78 ?_
        exact ⟨by rw [if_neg (by omega), g2, g3, g4, t1, t2, t3], fun a b h1 h2 => by rw [hf2 a b h1, hf a b h2]⟩
      · skip
        refine wp_iconst (v := 2) C dX3_firstOf_64 rfl ?_
        refine wp_iload_n 2 C dX3_firstOf_65 rfl rfl ?_
        refine wp_ishl (by omega) C dX3_firstOf_66 ?_
        refine wp_iconst (v := 2) C dX3_firstOf_67 rfl ?_
        refine wp_isub C dX3_firstOf_68 ?_
        refine wp_goto (tgt := 75) C dX3_firstOf_69 (by decide) ?_
        refine wp_callVp (rest := []) (c_pick E hy ((2 * 2 ^ k.toNat) - 2) k.toNat (by omega) hky (by omega) (by rw [show (2 : Int) * 2 ^ k.toNat - 2 = (2 ^ k.toNat - 1) * 2 by omega]; exact tb_dbl0) (fun j hj => by obtain ⟨i, rfl⟩ : ∃ i, j = i + 1 := ⟨j - 1, by omega⟩; rw [show (2 : Int) * 2 ^ k.toNat - 2 = (2 ^ k.toNat - 1) * 2 by omega, tb_dbl, tb_mask, if_pos (by omega)]; omega) (by omega) (by omega) (by rw [t1, g2]; exact hN) (by rw [t1, g3]; exact hS) (by rw [t1, g4]; exact hC) (fun j hj r s hr hs => szP_congr (fun a b hab => hf2 a b hab) (hall j (by rw [← hf2 1 4 (by decide)]; exact hj) r s (by rw [← hf2 1 5 (by decide)]; exact hr) (by rw [← hf2 28 3 (by decide)]; exact hs)))) svX3_61 sh_28 (by decide) rfl rfl (Nat.le_of_ble_eq_true rfl) C dX3_firstOf_75 ?_
        refine wp_iret C dX3_firstOf_78 ?_
        exact ⟨by rw [if_neg (by omega), g2, g3, g4, t1, t2, t3], fun a b h1 h2 => by rw [hf2 a b h1, hf a b h2]⟩
    refine wp_aloadR_n 0 C dX3_firstOf_16 rfl rfl ?_
    refine wp_aloadR_n 0 C dX3_firstOf_17 rfl rfl ?_
    refine wp_getI flX3_9 sh_28 rfl C dX3_firstOf_18 ?_
    refine wp_top (rdu_eq e_H1) ?_
    refine wp_iconst (v := 3) C dX3_firstOf_21 rfl ?_
    refine wp_icmp_ne (tgt := 35) (by omega) (by omega) C dX3_firstOf_22 (by decide) (fun c_22 => ?_) (fun c_22 => ?_)
    · skip
      refine wp_aloadR_n 0 C dX3_firstOf_35 rfl rfl ?_
      refine wp_getI flX3_9 sh_28 rfl C dX3_firstOf_36 ?_
      refine wp_top (rdu_eq e_H1) ?_
      refine wp_iconst (v := 4) C dX3_firstOf_39 rfl ?_
      refine wp_icmp_lt (tgt := 47) (by omega) (by omega) C dX3_firstOf_40 (by decide) (fun c_40 => ?_) (fun c_40 => ?_)
      · skip
        refine wp_iconst (v := 1) C dX3_firstOf_47 rfl ?_
        refine wp_putI fpX3_15 sh_28 rfl C dX3_firstOf_48 ?_
        obtain ⟨H2, e_H2⟩ : ∃ z : Hp, z = upd2 H1 28 3 1 := ⟨_, rfl⟩
        refine wp_heq e_H2 ?_
        exact q51 H2 (by subst e_H2 e_H1; simp only [FK, upd2]; simp; omega) (fun a b hab => by rw [e_H2, e_H1]; simp [upd2, hab])
      · skip
        refine wp_iconst (v := 2) C dX3_firstOf_43 rfl ?_
        refine wp_goto (tgt := 48) C dX3_firstOf_44 (by decide) ?_
        refine wp_putI fpX3_15 sh_28 rfl C dX3_firstOf_48 ?_
        obtain ⟨H3, e_H3⟩ : ∃ z : Hp, z = upd2 H1 28 3 2 := ⟨_, rfl⟩
        refine wp_heq e_H3 ?_
        exact q51 H3 (by subst e_H3 e_H1; simp only [FK, upd2]; simp; omega) (fun a b hab => by rw [e_H3, e_H1]; simp [upd2, hab])
    · skip
      refine wp_aloadR_n 0 C dX3_firstOf_25 rfl rfl ?_
      refine wp_getR flX3_18 sh_28 rfl C dX3_firstOf_26 ?_
      refine wp_getI flX3_55 sh_1 rfl C dX3_firstOf_29 ?_
      refine wp_top (rdu_ne e_H1 (by decide)) ?_
      refine wp_goto (tgt := 48) C dX3_firstOf_32 (by decide) ?_
      refine wp_putI fpX3_15 sh_28 rfl C dX3_firstOf_48 ?_
      obtain ⟨H4, e_H4⟩ : ∃ z : Hp, z = upd2 H1 28 3 (h 1 5) := ⟨_, rfl⟩
      refine wp_heq e_H4 ?_
      exact q51 H4 (by subst e_H4 e_H1; simp only [FK, upd2]; simp; omega) (fun a b hab => by rw [e_H4, e_H1]; simp [upd2, hab])
  · skip
    refine wp_aloadR_n 0 C dX3_firstOf_5 rfl rfl ?_
    refine wp_iload_n 2 C dX3_firstOf_6 rfl rfl ?_
    refine wp_callVp (rest := []) (c_firstRun E h k (by omega) (by omega) (by omega) hN) svX3_52 sh_28 (by decide) rfl rfl (Nat.le_of_ble_eq_true rfl) C dX3_firstOf_7 ?_
    refine wp_iret C dX3_firstOf_10 ?_
    exact ⟨by rw [if_pos (by omega)], fun _ _ _ _ => rfl⟩

set_option maxRecDepth 100000 in
set_option maxHeartbeats 4000000 in
theorem x_find (E : En) (h : Hp) (kd k : Int) (hkd : -2147483648 ≤ kd ∧ kd ≤ 2147483647) (hk : -2147483648 ≤ k ∧ k ≤ 2147483647) (hz : 0 ≤ h 1 4 ∧ h 1 4 ≤ 20) (hp : 2 ≤ h 1 5 ∧ h 1 5 ≤ 10) (hN : ∀ i : Nat, (i : Int) < h 1 4 → 0 ≤ h 2 i ∧ h 2 i ≤ 999999999999999) (hS : ∀ i : Nat, (i : Int) < h 1 4 → 0 ≤ h 3 i ∧ h 3 i ≤ 999999999999999) (hC : ∀ i : Nat, (i : Int) < h 1 4 → 0 ≤ h 4 i ∧ h 4 i ≤ 999999999999999) : Ct 6 yX11_find cX11_find 3 (some .int) E [rv E 0, iv kd, iv k] h (fun r hx => r = some (iv (if ¬ (0 ≤ kd ∧ kd ≤ 7) then -2 else if ¬ (1 ≤ k ∧ k ≤ 20) then -3 else if kd = 2 then runS (h 2) (h 1 5) (h 1 4).toNat k.toNat else findS (h 2) (h 3) (h 4) (h 1 5) kd (h 1 4).toNat k.toNat)) ∧ (∀ a b, a ≠ 27 → a ≠ 28 → hx a b = h a b)) := by
  refine ct_intro (by decide) (Nat.le_of_ble_eq_true rfl) (fun G C => ?_)
  show Wp G E 3 (fun r hx => r = some (iv (if ¬ (0 ≤ kd ∧ kd ≤ 7) then -2 else if ¬ (1 ≤ k ∧ k ≤ 20) then -3 else if kd = 2 then runS (h 2) (h 1 5) (h 1 4).toNat k.toNat else findS (h 2) (h 3) (h 4) (h 1 5) kd (h 1 4).toNat k.toNat)) ∧ (∀ a b, a ≠ 27 → a ≠ 28 → hx a b = h a b)) 0 [(0, rv E 0), (1, iv kd), (2, iv k)] [] h
  refine wp_iload_n 1 C dX11_find_0 rfl rfl ?_
  refine wp_iconst (v := 0) C dX11_find_1 rfl ?_
  refine wp_bipush (v := 7) C dX11_find_2 rfl ?_
  refine wp_callSp (rest := []) (c_within E h kd 0 7 (by omega) (by omega) (by omega)) ssX11_92 (by decide) rfl rfl (Nat.le_of_ble_eq_true rfl) C dX11_find_4 ?_
  refine wp_ifb_ne (tgt := 13) C dX11_find_7 (by decide) (fun c_7 => ?_) (fun c_7 => ?_)
  · skip
    refine wp_iload_n 2 C dX11_find_13 rfl rfl ?_
    refine wp_callSp (rest := []) (c_isSize E h k (by omega)) ssX11_167 (by decide) rfl rfl (Nat.le_of_ble_eq_true rfl) C dX11_find_14 ?_
    refine wp_ifb_eq (tgt := 32) C dX11_find_17 (by decide) (fun c_17 => ?_) (fun c_17 => ?_)
    · skip
      refine wp_bipush (v := (-3)) C dX11_find_32 rfl ?_
      refine wp_iret C dX11_find_34 ?_
      exact ⟨by rw [if_neg (by omega), if_pos (by omega)], fun _ _ _ _ => rfl⟩
    · skip
      refine wp_aloadR_n 0 C dX11_find_20 rfl rfl ?_
      refine wp_getR flX11_44 sh_0 rfl C dX11_find_21 ?_
      refine wp_iload_n 1 C dX11_find_24 rfl rfl ?_
      refine wp_iload_n 2 C dX11_find_25 rfl rfl ?_
      refine wp_callV (rest := []) (c_firstOf E h kd k (by omega) (by omega) (by omega) (by omega) hN hS hC) svX11_176 sh_28 (by decide) rfl rfl (Nat.le_of_ble_eq_true rfl) C dX11_find_26 (fun r0 hf0 pf => ?_)
      obtain ⟨rfl, hf⟩ := pf
      refine wp_goto (tgt := 34) C dX11_find_29 (by decide) ?_
      refine wp_iret C dX11_find_34 ?_
      exact ⟨by rw [if_neg (not_not_intro c_7), if_neg (not_not_intro c_17)], hf⟩
  · skip
    refine wp_bipush (v := (-2)) C dX11_find_10 rfl ?_
    refine wp_iret C dX11_find_12 ?_
    exact ⟨by rw [if_pos (by assumption)], fun _ _ _ _ => rfl⟩


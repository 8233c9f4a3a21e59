/-! ===== Apart: mostOf, lotOfRow; EvenTen.apart ===== -/
theorem bAndNot_n {a b : Nat} (ha : a < 2147483648) : bAnd (a : Int) (bXor (b : Int) (-1)) = ((anN a b : Nat) : Int) := by
  show (Int32.ofInt a &&& Int32.ofInt (Int32.ofInt b ^^^ Int32.ofInt (-1)).toInt).toBitVec.toInt = _
  rw [Int32.ofInt_toInt, Int32.toBitVec_and, Int32.toBitVec_xor, bv_i, bv_i, bv_i, bv_nat (a := (a : Int)) (by omega), Int.toNat_natCast]
  have e : (BitVec.ofNat 32 a &&& (BitVec.ofInt 32 (b : Int) ^^^ BitVec.ofInt 32 (-1))).toNat = anN a b := by
    apply Nat.eq_of_testBit_eq
    intro j
    rw [anN_tb, BitVec.testBit_toNat, BitVec.getLsbD_and, BitVec.getLsbD_xor, BitVec.getLsbD_ofNat]
    by_cases hj : j < 32
    · rw [show (BitVec.ofInt 32 (-1)).getLsbD j = true by rw [show BitVec.ofInt 32 (-1) = BitVec.allOnes 32 from rfl, BitVec.getLsbD_allOnes, decide_eq_true hj], decide_eq_true hj]
      have e2 : (BitVec.ofInt 32 (b : Int)).getLsbD j = b.testBit j := by
        rw [show BitVec.ofInt 32 (b : Int) = BitVec.ofNat 32 b from BitVec.ofInt_natCast 32 b, BitVec.getLsbD_ofNat, decide_eq_true hj, Bool.true_and]
      rw [e2]
      cases a.testBit j <;> cases b.testBit j <;> rfl
    · rw [Nat.testBit_lt_two_pow (x := a) (Nat.lt_of_lt_of_le (show a < 2 ^ 31 from ha) (Nat.pow_le_pow_right (by decide) (by omega)))]
      simp
  have hl : anN a b < 2 ^ 31 := anN_lt (n := 31) ha
  rw [toInt_small (by rw [e]; exact hl), e]
theorem anN_0 {a b : Nat} : anN a b = 0 ↔ sb a b := by
  constructor
  · intro h j hj
    have h2 := anN_tb (a := a) (b := b) (j := j)
    rw [h, Nat.zero_testBit, hj] at h2
    cases q : b.testBit j with
    | true => rfl
    | false => rw [q] at h2; cases h2
  · intro h
    apply Nat.eq_of_testBit_eq
    intro j
    rw [anN_tb, Nat.zero_testBit]
    have := h j
    cases q : a.testBit j <;> cases q2 : b.testBit j <;> simp_all
theorem x_xb {n S L : Nat} (hS : S < 2 ^ n) (hL : L < 2 ^ n) : S ^^^ L < 2 ^ n := Nat.xor_lt_two_pow hS hL
theorem te_ne {N : Nat → Int} {p k : Int} {n L : Nat} (hk : 1 ≤ k) (h : teB N p n k L) : 0 < L := by
  rcases (show L = 0 ∨ 0 < L by omega) with z | z
  · have h1 : cntB (L : Int) n = k := h.1
    rw [z] at h1
    have h2 : cntB ((0 : Nat) : Int) n = 0 := addF_0 (addF_cnt n)
    omega
  · exact z
def apartP (N : Nat → Int) (p : Int) (n : Nat) (k i a : Int) : Prop := if ¬ (1 ≤ k ∧ k ≤ 20) ∨ i < -1 then a = -3 else if 12 < n then a = -4 else aptP (teB N p n k) (2 ^ n - 1) i a
theorem apartP_uniq {N : Nat → Int} {p k i a b : Int} {n : Nat} (ha : apartP N p n k i a) (hb : apartP N p n k i b) : a = b := by
  unfold apartP at ha hb
  split at ha
  · rename_i z; rw [if_pos z] at hb; omega
  · rename_i z
    rw [if_neg z] at hb
    split at ha
    · rename_i y; rw [if_pos y] at hb; omega
    · rename_i y
      rw [if_neg y] at hb
      exact aptP_uniq ha hb
set_option maxRecDepth 100000 in
set_option maxHeartbeats 4000000 in
theorem c_mostOf (E : En) (h : Hp) (n : Nat) (p k : Int) (hn : h 1 4 = (n : Int)) (hn12 : n ≤ 12) (hpp : h 1 5 = p) (hp : 2 ≤ p ∧ p ≤ 10) (hk : 1 ≤ k ∧ k ≤ 20) (hN : ∀ i : Nat, (i : Int) < h 1 4 → 0 ≤ h 2 i ∧ h 2 i ≤ 999999999999999) : Ct 3 yX0_mostOf cX0_mostOf 4 (some .int) E [rv E 123, iv k] h (fun v hx => (∃ A : Nat, v = some (iv (A : Int)) ∧ mxP (teB (fun b => h 2 (n - 1 - b)) p n k) (2 ^ n - 1) A ∧ A ≤ 12) ∧ (∀ T, T < 2 ^ n → apV (fun b => h 2 (n - 1 - b)) p n k (hx 27 T) T) ∧ (∀ b : Nat, b < n → hx 124 b = (fun b => h 2 (n - 1 - b)) b % p) ∧ (∀ a b, a ≠ 27 → a ≠ 124 → hx a b = h a b)) := by
  have hP0 : 0 < 2 ^ n := Nat.pow_pos (by decide)
  have hP12 : 2 ^ n ≤ 4096 := Nat.pow_le_pow_right (n := 2) (by decide) hn12
  refine ct_intro (by decide) (Nat.le_of_ble_eq_true rfl) (fun G C => ?_)
  show Wp G E 4 (fun v hx => (∃ A : Nat, v = some (iv (A : Int)) ∧ mxP (teB (fun b => h 2 (n - 1 - b)) p n k) (2 ^ n - 1) A ∧ A ≤ 12) ∧ (∀ T, T < 2 ^ n → apV (fun b => h 2 (n - 1 - b)) p n k (hx 27 T) T) ∧ (∀ b : Nat, b < n → hx 124 b = (fun b => h 2 (n - 1 - b)) b % p) ∧ (∀ a b, a ≠ 27 → a ≠ 124 → hx a b = h a b)) 0 [(0, rv E 123), (1, iv k)] [] h
  refine wp_iconst (v := 0) C dX0_mostOf_0 rfl ?_
  refine wp_istore_n (ls' := [(0, rv E 123), (1, iv k), (2, iv 0)]) [1, 2, 0] C dX0_mostOf_1 rfl (by decide) rfl ?_
  have q20 : ∀ n9 : Nat, ∀ (x2 : Int) (hx : Hp), (0 ≤ x2 ∧ x2 ≤ n) → (∀ b : Nat, b < x2.toNat → hx 124 b = (fun b => h 2 (n - 1 - b)) b % p) → (∀ a b, a ≠ 124 → hx a b = h a b) → ((n : Int) - x2).toNat < n9 → Wp G E 4 (fun v hx => (∃ A : Nat, v = some (iv (A : Int)) ∧ mxP (teB (fun b => h 2 (n - 1 - b)) p n k) (2 ^ n - 1) A ∧ A ≤ 12) ∧ (∀ T, T < 2 ^ n → apV (fun b => h 2 (n - 1 - b)) p n k (hx 27 T) T) ∧ (∀ b : Nat, b < n → hx 124 b = (fun b => h 2 (n - 1 - b)) b % p) ∧ (∀ a b, a ≠ 27 → a ≠ 124 → hx a b = h a b)) 2 [(0, rv E 123), (1, iv k), (2, iv x2)] [] hx := by
    intro n9
    induction n9 with
    | zero => intro x2 hx hi hr hf hm9; exact absurd hm9 (Nat.not_lt_zero _)
    | succ n9 ih9 =>
      intro x2 hx hi hr hf hm9
      have ih9_2 := ih9
      have s1 : hx 1 4 = (n : Int) := (hf 1 4 (by omega)).trans hn
      have s2 : hx 1 5 = p := (hf 1 5 (by omega)).trans hpp
      refine wp_iload_n 2 C dX0_mostOf_2 rfl rfl ?_
      refine wp_aloadR_n 0 C dX0_mostOf_3 rfl rfl ?_
      refine wp_getR flX0_15 sh_123 rfl C dX0_mostOf_4 ?_
      refine wp_getI flX0_22 sh_1 rfl C dX0_mostOf_7 ?_
      refine wp_icmp_ge (tgt := 43) (by omega) (by omega) C dX0_mostOf_10 (by decide) (fun c_10 => ?_) (fun c_10 => ?_)
      · skip
        refine wp_aloadR_n 0 C dX0_mostOf_43 rfl rfl ?_
        refine wp_getR flX0_19 sh_123 rfl C dX0_mostOf_44 ?_
        refine wp_iconst (v := 0) C dX0_mostOf_47 rfl ?_
        refine wp_iconst (v := 1) C dX0_mostOf_48 rfl ?_
        refine wp_iast sh_27 (by omega) C dX0_mostOf_49 ?_
        obtain ⟨H1, e_H1⟩ : ∃ z : Hp, z = upd2 hx 27 0 1 := ⟨_, rfl⟩
        refine wp_heq e_H1 ?_
        refine wp_iconst (v := 1) C dX0_mostOf_50 rfl ?_
        refine wp_aloadR_n 0 C dX0_mostOf_51 rfl rfl ?_
        refine wp_getR flX0_15 sh_123 rfl C dX0_mostOf_52 ?_
        refine wp_getI flX0_22 sh_1 rfl C dX0_mostOf_55 ?_
        refine wp_top (rdu_ne e_H1 (by decide)) ?_
        refine wp_ishl (by omega) C dX0_mostOf_58 ?_
        refine wp_nm (fun w2 e_w2 => ?_)
        refine wp_istore_n (ls' := [(0, rv E 123), (1, iv k), (2, iv w2)]) [1, 2, 0] C dX0_mostOf_59 rfl (by decide) rfl ?_
        refine wp_iconst (v := 1) C dX0_mostOf_60 rfl ?_
        refine wp_istore_n (ls' := [(0, rv E 123), (1, iv k), (2, iv w2), (3, iv 1)]) [1, 2, 3, 0] C dX0_mostOf_61 rfl (by decide) rfl ?_
        have hw2 : w2 = ((2 ^ n : Nat) : Int) := by rw [e_w2, s1, Int.toNat_natCast, Int.one_mul, p2_cast]
        have q620 : ∀ n9 : Nat, ∀ (x3 : Int) (hy : Hp), (1 ≤ x3 ∧ x3 ≤ w2) → (∀ T, T < x3.toNat → apV (fun b => h 2 (n - 1 - b)) p n k (hy 27 T) T) → (∀ b : Nat, b < n → hy 124 b = (fun b => h 2 (n - 1 - b)) b % p) → (∀ a b, a ≠ 27 → a ≠ 124 → hy a b = h a b) → (w2 - x3).toNat < n9 → Wp G E 4 (fun v hx => (∃ A : Nat, v = some (iv (A : Int)) ∧ mxP (teB (fun b => h 2 (n - 1 - b)) p n k) (2 ^ n - 1) A ∧ A ≤ 12) ∧ (∀ T, T < 2 ^ n → apV (fun b => h 2 (n - 1 - b)) p n k (hx 27 T) T) ∧ (∀ b : Nat, b < n → hx 124 b = (fun b => h 2 (n - 1 - b)) b % p) ∧ (∀ a b, a ≠ 27 → a ≠ 124 → hx a b = h a b)) 62 [(0, rv E 123), (1, iv k), (2, iv w2), (3, iv x3)] [] hy := by
          intro n9
          induction n9 with
          | zero => intro x3 hy hi3 hap hr2 hf2 hm9; exact absurd hm9 (Nat.not_lt_zero _)
          | succ n9 ih9 =>
            intro x3 hy hi3 hap hr2 hf2 hm9
            have ih9_62 := ih9
            have t1 : hy 1 4 = (n : Int) := (hf2 1 4 (by omega) (by omega)).trans hn
            have t2 : hy 1 5 = p := (hf2 1 5 (by omega) (by omega)).trans hpp
            have hw2 : w2 = ((2 ^ n : Nat) : Int) := by rw [e_w2, s1, Int.toNat_natCast, Int.one_mul, p2_cast]
            refine wp_iload_n 3 C dX0_mostOf_62 rfl rfl ?_
            refine wp_iload_n 2 C dX0_mostOf_63 rfl rfl ?_
            refine wp_icmp_ge (tgt := 85) (by omega) (by omega) C dX0_mostOf_64 (by decide) (fun c_64 => ?_) (fun c_64 => ?_)
            · skip
              have hall : ∀ T, T < 2 ^ n → apV (fun b => h 2 (n - 1 - b)) p n k (hy 27 T) T := fun T hT => hap T (by omega)
              have hfull := hall (2 ^ n - 1) (by omega)
              refine wp_aloadR_n 0 C dX0_mostOf_85 rfl rfl ?_
              refine wp_getR flX0_19 sh_123 rfl C dX0_mostOf_86 ?_
              refine wp_iload_n 2 C dX0_mostOf_89 rfl rfl ?_
              refine wp_iconst (v := 1) C dX0_mostOf_90 rfl ?_
              refine wp_isub C dX0_mostOf_91 ?_
              refine wp_iald sh_27 (by omega) C dX0_mostOf_92 ?_
              refine wp_top (show _ = hy 27 (2 ^ n - 1) by rw [show (w2 - 1).toNat = 2 ^ n - 1 by omega]) ?_
              refine wp_iconst (v := 1) C dX0_mostOf_93 rfl ?_
              have hbd := hfull.2.2
              refine wp_ishr (by omega) (by omega) C dX0_mostOf_94 ?_
              refine wp_iret C dX0_mostOf_95 ?_
              exact ⟨⟨(hy 27 (2 ^ n - 1) / 2).toNat, by rw [show ((hy 27 (2 ^ n - 1) / 2).toNat : Int) = hy 27 (2 ^ n - 1) / 2 ^ Int.toNat 1 by rw [show (2 : Int) ^ Int.toNat 1 = 2 from rfl]; omega], hfull.1, by omega⟩, hall, hr2, hf2⟩
            · skip
              refine wp_aloadR_n 0 C dX0_mostOf_67 rfl rfl ?_
              refine wp_getR flX0_19 sh_123 rfl C dX0_mostOf_68 ?_
              refine wp_iload_n 3 C dX0_mostOf_71 rfl rfl ?_
              refine wp_aloadR_n 0 C dX0_mostOf_72 rfl rfl ?_
              refine wp_iload_n 3 C dX0_mostOf_73 rfl rfl ?_
              refine wp_iload_n 1 C dX0_mostOf_74 rfl rfl ?_
              have hx3 : ((x3.toNat : Nat) : Int) = x3 := by omega
              have hpc := c_pack E hy n (fun b => h 2 (n - 1 - b)) p t1 hn12 t2 hp hr2 k hk x3.toNat ⟨by omega, by omega⟩ hap
              rw [hx3] at hpc
              refine wp_callV (rest := [iv x3, rv E 27]) (hpc) svX0_32 sh_123 (by decide) rfl rfl (Nat.le_of_ble_eq_true rfl) C dX0_mostOf_75 (fun r0 hz pf => ?_)
              obtain ⟨e_hz, a, rfl, ha⟩ := pf
              rw [e_hz]
              refine wp_iast sh_27 (by omega) C dX0_mostOf_78 ?_
              obtain ⟨H2, e_H2⟩ : ∃ z : Hp, z = upd2 hy 27 x3.toNat a := ⟨_, rfl⟩
              refine wp_heq e_H2 ?_
              obtain ⟨v3, e_v3⟩ : ∃ z : Int, z = x3 + (1) := ⟨_, rfl⟩
              refine wp_iinc (j := 3) (y := v3) (ls' := [(0, rv E 123), (1, iv k), (2, iv w2), (3, iv v3)]) [1, 2, 3, 0] C dX0_mostOf_79 rfl e_v3 (by decide) rfl ?_
              refine wp_goto (tgt := 62) C dX0_mostOf_82 (by decide) ?_
              have hw2 : w2 = ((2 ^ n : Nat) : Int) := by rw [e_w2, s1, Int.toNat_natCast, Int.one_mul, p2_cast]
              exact ih9_62 v3 H2 (by omega) (fun T hT => by rw [e_H2]; unfold upd2; by_cases w : T = x3.toNat; rw [if_pos ⟨rfl, w⟩, w]; exact ha; rw [if_neg (fun z => w z.2)]; exact hap T (by omega)) (fun b hb => by rw [e_H2]; unfold upd2; rw [if_neg (by omega)]; exact hr2 b hb) (fun a b h1 h2 => by rw [e_H2]; unfold upd2; rw [if_neg (fun z => h1 z.1)]; exact hf2 a b h1 h2) (by omega)
        have q62 : ∀ (x3 : Int) (hy : Hp), (1 ≤ x3 ∧ x3 ≤ w2) → (∀ T, T < x3.toNat → apV (fun b => h 2 (n - 1 - b)) p n k (hy 27 T) T) → (∀ b : Nat, b < n → hy 124 b = (fun b => h 2 (n - 1 - b)) b % p) → (∀ a b, a ≠ 27 → a ≠ 124 → hy a b = h a b) → Wp G E 4 (fun v hx => (∃ A : Nat, v = some (iv (A : Int)) ∧ mxP (teB (fun b => h 2 (n - 1 - b)) p n k) (2 ^ n - 1) A ∧ A ≤ 12) ∧ (∀ T, T < 2 ^ n → apV (fun b => h 2 (n - 1 - b)) p n k (hx 27 T) T) ∧ (∀ b : Nat, b < n → hx 124 b = (fun b => h 2 (n - 1 - b)) b % p) ∧ (∀ a b, a ≠ 27 → a ≠ 124 → hx a b = h a b)) 62 [(0, rv E 123), (1, iv k), (2, iv w2), (3, iv x3)] [] hy := fun x3 hy hi3 hap hr2 hf2 => q620 _ x3 hy hi3 hap hr2 hf2 (Nat.lt_succ_self _)
        exact q62 1 H1 (by omega) (fun T hT => by rw [show T = 0 by omega, e_H1]; show apV _ _ _ _ 1 0; exact apV_0 hk.1) (fun b hb => by rw [e_H1]; unfold upd2; rw [if_neg (by omega)]; exact hr b (by omega)) (fun a b h1 h2 => by rw [e_H1]; unfold upd2; rw [if_neg (fun z => h1 z.1)]; exact hf a b h2)
      · skip
        refine wp_aloadR_n 0 C dX0_mostOf_13 rfl rfl ?_
        refine wp_getR flX0_9 sh_123 rfl C dX0_mostOf_14 ?_
        refine wp_iload_n 2 C dX0_mostOf_17 rfl rfl ?_
        refine wp_aloadR_n 0 C dX0_mostOf_18 rfl rfl ?_
        refine wp_getR flX0_15 sh_123 rfl C dX0_mostOf_19 ?_
        refine wp_aloadR_n 0 C dX0_mostOf_22 rfl rfl ?_
        refine wp_getR flX0_15 sh_123 rfl C dX0_mostOf_23 ?_
        refine wp_getI flX0_22 sh_1 rfl C dX0_mostOf_26 ?_
        refine wp_iconst (v := 1) C dX0_mostOf_29 rfl ?_
        refine wp_isub C dX0_mostOf_30 ?_
        refine wp_iload_n 2 C dX0_mostOf_31 rfl rfl ?_
        refine wp_isub C dX0_mostOf_32 ?_
        refine wp_callVp (rest := [iv x2, rv E 124]) (c_restOfNumber E hx (((hx 1 4) - 1) - x2) (by omega) (by rw [hf 2 _ (by omega)]; exact hN _ (by omega)) (by omega)) svX0_28 sh_1 (by decide) rfl rfl (Nat.le_of_ble_eq_true rfl) C dX0_mostOf_33 ?_
        refine wp_iast sh_124 (by omega) C dX0_mostOf_36 ?_
        obtain ⟨H4, e_H4⟩ : ∃ z : Hp, z = upd2 hx 124 x2.toNat (hx 2 (((hx 1 4) - 1) - x2).toNat % hx 1 5) := ⟨_, rfl⟩
        refine wp_heq e_H4 ?_
        obtain ⟨v5, e_v5⟩ : ∃ z : Int, z = x2 + (1) := ⟨_, rfl⟩
        refine wp_iinc (j := 2) (y := v5) (ls' := [(0, rv E 123), (1, iv k), (2, iv v5)]) [1, 2, 0] C dX0_mostOf_37 rfl e_v5 (by decide) rfl ?_
        refine wp_goto (tgt := 2) C dX0_mostOf_40 (by decide) ?_
        exact ih9_2 v5 H4 (by omega) (fun b hb => by rw [e_H4]; unfold upd2; by_cases w : b = x2.toNat; rw [if_pos ⟨rfl, w⟩, w, hf 2 _ (by omega), s2, s1]; show h 2 ((n : Int) - 1 - x2).toNat % p = h 2 (n - 1 - x2.toNat) % p; rw [show ((n : Int) - 1 - x2).toNat = n - 1 - x2.toNat by omega]; rw [if_neg (fun z => w z.2)]; exact hr b (by omega)) (fun a b hab => by rw [e_H4]; unfold upd2; rw [if_neg (fun z => hab z.1)]; exact hf a b hab) (by omega)
  have q2 : ∀ (x2 : Int) (hx : Hp), (0 ≤ x2 ∧ x2 ≤ n) → (∀ b : Nat, b < x2.toNat → hx 124 b = (fun b => h 2 (n - 1 - b)) b % p) → (∀ a b, a ≠ 124 → hx a b = h a b) → Wp G E 4 (fun v hx => (∃ A : Nat, v = some (iv (A : Int)) ∧ mxP (teB (fun b => h 2 (n - 1 - b)) p n k) (2 ^ n - 1) A ∧ A ≤ 12) ∧ (∀ T, T < 2 ^ n → apV (fun b => h 2 (n - 1 - b)) p n k (hx 27 T) T) ∧ (∀ b : Nat, b < n → hx 124 b = (fun b => h 2 (n - 1 - b)) b % p) ∧ (∀ a b, a ≠ 27 → a ≠ 124 → hx a b = h a b)) 2 [(0, rv E 123), (1, iv k), (2, iv x2)] [] hx := fun x2 hx hi hr hf => q20 _ x2 hx hi hr hf (Nat.lt_succ_self _)
  exact q2 0 h (by omega) (fun b hb => absurd hb (by omega)) (fun a b _ => rfl)

set_option maxRecDepth 100000 in
set_option maxHeartbeats 4000000 in
theorem c_lotOfRow (E : En) (h : Hp) (n : Nat) (N : Nat → Int) (p : Int) (hn : h 1 4 = (n : Int)) (hn12 : n ≤ 12) (hpp : h 1 5 = p) (hp : 2 ≤ p ∧ p ≤ 10) (hr : ∀ b : Nat, b < n → h 124 b = N b % p) (k : Int) (hk : 1 ≤ k ∧ k ≤ 20) (i : Int) (A : Nat) (hA : mxP (teB N p n k) (2 ^ n - 1) A) (hi : 0 ≤ i ∧ i < A) (hap : ∀ T, T < 2 ^ n → apV N p n k (h 27 T) T) : Ct 2 yX0_lotOfRow cX0_lotOfRow 7 (some .int) E [rv E 123, iv k, iv i] h (fun v hx => hx = h ∧ ∃ S L : Nat, v = some (iv (rvN n L : Int)) ∧ rowG (teB N p n k) (2 ^ n - 1) A i.toNat S ∧ fsG (teB N p n k) S (A - i.toNat - 1) L ∧ S < 2 ^ n) := by
  have hP0 : 0 < 2 ^ n := Nat.pow_pos (by decide)
  have hP12 : 2 ^ n ≤ 4096 := Nat.pow_le_pow_right (n := 2) (by decide) hn12
  have hAn := mx_le hk.1 hA
  have hfull := hap (2 ^ n - 1) (by omega)
  have hAe := mxP_uniq hA hfull.1
  refine ct_intro (by decide) (Nat.le_of_ble_eq_true rfl) (fun G C => ?_)
  show Wp G E 7 (fun v hx => hx = h ∧ ∃ S L : Nat, v = some (iv (rvN n L : Int)) ∧ rowG (teB N p n k) (2 ^ n - 1) A i.toNat S ∧ fsG (teB N p n k) S (A - i.toNat - 1) L ∧ S < 2 ^ n) 0 [(0, rv E 123), (1, iv k), (2, iv i)] [] h
  refine wp_iconst (v := 1) C dX0_lotOfRow_0 rfl ?_
  refine wp_aloadR_n 0 C dX0_lotOfRow_1 rfl rfl ?_
  refine wp_getR flX0_15 sh_123 rfl C dX0_lotOfRow_2 ?_
  refine wp_getI flX0_22 sh_1 rfl C dX0_lotOfRow_5 ?_
  refine wp_ishl (by omega) C dX0_lotOfRow_8 ?_
  refine wp_iconst (v := 1) C dX0_lotOfRow_9 rfl ?_
  refine wp_isub C dX0_lotOfRow_10 ?_
  refine wp_nm (fun w3 e_w3 => ?_)
  refine wp_istore_n (ls' := [(0, rv E 123), (1, iv k), (2, iv i), (3, iv w3)]) [1, 2, 3, 0] C dX0_lotOfRow_11 rfl (by decide) rfl ?_
  have hw3 : w3 = ((2 ^ n - 1 : Nat) : Int) := by rw [e_w3, hn, Int.toNat_natCast, Int.one_mul, ← p2_cast]; omega
  refine wp_aloadR_n 0 C dX0_lotOfRow_12 rfl rfl ?_
  refine wp_getR flX0_19 sh_123 rfl C dX0_lotOfRow_13 ?_
  refine wp_iload_n 3 C dX0_lotOfRow_16 rfl rfl ?_
  refine wp_iald sh_27 (by omega) C dX0_lotOfRow_17 ?_
  have hwr : 0 ≤ h 27 w3.toNat ∧ h 27 w3.toNat ≤ 25 := by rw [hw3, Int.toNat_natCast]; exact hfull.2.2
  refine wp_iconst (v := 1) C dX0_lotOfRow_18 rfl ?_
  refine wp_ishr (by omega) (by omega) C dX0_lotOfRow_19 ?_
  refine wp_nm (fun w4 e_w4 => ?_)
  refine wp_istore (ls' := [(0, rv E 123), (1, iv k), (2, iv i), (3, iv w3), (4, iv w4)]) [1, 2, 3, 4, 0] C dX0_lotOfRow_20 (by decide) rfl ?_
  have hw4 : w4 = (A : Int) := by rw [e_w4, hw3, Int.toNat_natCast, show (2 : Int) ^ Int.toNat 1 = 2 from rfl]; have := hfull.2.2; omega
  refine wp_iconst (v := 0) C dX0_lotOfRow_22 rfl ?_
  refine wp_istore (ls' := [(0, rv E 123), (1, iv k), (2, iv i), (3, iv w3), (4, iv w4), (5, iv 0)]) [1, 2, 3, 4, 5, 0] C dX0_lotOfRow_23 (by decide) rfl ?_
  refine wp_iload_n 3 C dX0_lotOfRow_25 rfl rfl ?_
  refine wp_istore (ls' := [(0, rv E 123), (1, iv k), (2, iv i), (3, iv w3), (4, iv w4), (5, iv 0), (6, iv w3)]) [1, 2, 3, 4, 5, 6, 0] C dX0_lotOfRow_26 (by decide) rfl ?_
  have q280 : ∀ n9 : Nat, ∀ (x3 : Int) (x4 : Int) (x5 : Int) (x6 : Int), (0 ≤ x3 ∧ x3 < ((2 ^ n : Nat) : Int)) → (0 ≤ x5 ∧ x5 ≤ i) → (x4 = (A : Int) - x5) → (0 ≤ x6 ∧ x6 < ((2 ^ n : Nat) : Int)) → (rowG (teB N p n k) (2 ^ n - 1) A x5.toNat x3.toNat) → (mxP (teB N p n k) x3.toNat (A - x5.toNat)) → (∀ L, x6.toNat < L → ¬ elg (teB N p n k) x3.toNat (A - x5.toNat - 1) L) → x6.toNat < n9 → Wp G E 7 (fun v hx => hx = h ∧ ∃ S L : Nat, v = some (iv (rvN n L : Int)) ∧ rowG (teB N p n k) (2 ^ n - 1) A i.toNat S ∧ fsG (teB N p n k) S (A - i.toNat - 1) L ∧ S < 2 ^ n) 28 [(0, rv E 123), (1, iv k), (2, iv i), (3, iv x3), (4, iv x4), (5, iv x5), (6, iv x6)] [] h := by
    intro n9
    induction n9 with
    | zero => intro x3 x4 x5 x6 hs3 hs5 hs4 hs6 hrow hmx hno hm9; exact absurd hm9 (Nat.not_lt_zero _)
    | succ n9 ih9 =>
      intro x3 x4 x5 x6 hs3 hs5 hs4 hs6 hrow hmx hno hm9
      have ih9_28 := ih9
      refine wp_iload 6 C dX0_lotOfRow_28 rfl ?_
      refine wp_if_le (tgt := 108) (by omega) C dX0_lotOfRow_30 (by decide) (fun c_30 => ?_) (fun c_30 => ?_)
      · skip
        obtain ⟨L, hL⟩ := elg_ex (r := A - x5.toNat - 1) (by rw [show A - x5.toNat - 1 + 1 = A - x5.toNat by omega]; exact hmx)
        exact absurd hL (hno L (by have := te_ne hk.1 hL.2.1; omega))
      · skip
        have hx3 : ((x3.toNat : Nat) : Int) = x3 := by omega
        have hx6 : ((x6.toNat : Nat) : Int) = x6 := by omega
        have hXL := x_xb (S := x3.toNat) (L := x6.toNat) (n := n) (by omega) (by omega)
        have hapx := hap _ hXL
        have hcn : cntB x6 20 = cntB ((x6.toNat : Nat) : Int) n := by rw [← cntB_hi (S := x6.toNat) (n := n) (by omega) (by omega), hx6]
        have hc9 := cntB_r x6 20
        have hE : elg (teB N p n k) x3.toNat (A - x5.toNat - 1) x6.toNat ↔ bAnd x6 (bXor x3 (-1)) = 0 ∧ cntB x6 20 = k ∧ h 27 (x3.toNat ^^^ x6.toNat) / 2 = x4 - 1 ∧ sumB N ((x6.toNat : Nat) : Int) n % p = 0 := by
          have e1 : bAnd x6 (bXor x3 (-1)) = ((anN x6.toNat x3.toNat : Nat) : Int) := by rw [← bAndNot_n (by omega), hx3, hx6]
          rw [e1, hcn]
          have hap0 := hapx.2.2
          constructor
          · rintro ⟨z1, z2, z3⟩
            have z4 := mxP_uniq z3 hapx.1
            have z5 := anN_0.mpr z1
            exact ⟨by rw [z5]; rfl, z2.1, by omega, z2.2⟩
          · rintro ⟨z1, z2, z3, z4⟩
            refine ⟨anN_0.mp (by omega), ⟨z2, z4⟩, ?_⟩
            have z5 := hapx.1
            rw [show (h 27 (x3.toNat ^^^ x6.toNat) / 2).toNat = A - x5.toNat - 1 by omega] at z5
            exact z5
        have hbr := bAnd_r x6 (bXor x3 (-1))
        refine wp_iload 6 C dX0_lotOfRow_33 rfl ?_
        refine wp_iload_n 3 C dX0_lotOfRow_35 rfl rfl ?_
        refine wp_iconst (v := (-1)) C dX0_lotOfRow_36 rfl ?_
        refine wp_ixor C dX0_lotOfRow_37 ?_
        refine wp_iand C dX0_lotOfRow_38 ?_
        refine wp_if_ne (tgt := 102) (by omega) C dX0_lotOfRow_39 (by decide) (fun c_39 => ?_) (fun c_39 => ?_)
        · skip
          obtain ⟨y6, e_y6⟩ : ∃ z : Int, z = x6 + (-1) := ⟨_, rfl⟩
          refine wp_iinc (j := 6) (y := y6) (ls' := [(0, rv E 123), (1, iv k), (2, iv i), (3, iv x3), (4, iv x4), (5, iv x5), (6, iv y6)]) [1, 2, 3, 4, 5, 6, 0] C dX0_lotOfRow_102 rfl e_y6 (by decide) rfl ?_
          refine wp_goto (tgt := 28) C dX0_lotOfRow_105 (by decide) ?_
          exact ih9_28 x3 x4 x5 y6 (by omega) (by omega) (by omega) (by omega) (by omega) (by omega) (fun L hL z => by rw [e_y6] at hL; rcases (show L = x6.toNat ∨ x6.toNat < L by omega) with q9 | q9; rw [q9] at z; have q := hE.mp z; exact c_39 q.1; exact hno L q9 z) (by omega)
        · skip
          refine wp_iload 6 C dX0_lotOfRow_42 rfl ?_
          refine wp_callSp (rest := []) (c_bitCount E h x6 (by omega)) ssX0_36 (by decide) rfl rfl (Nat.le_of_ble_eq_true rfl) C dX0_lotOfRow_44 ?_
          refine wp_iload_n 1 C dX0_lotOfRow_47 rfl rfl ?_
          refine wp_icmp_ne (tgt := 102) (by omega) (by omega) C dX0_lotOfRow_48 (by decide) (fun c_48 => ?_) (fun c_48 => ?_)
          · skip
            obtain ⟨y6, e_y6⟩ : ∃ z : Int, z = x6 + (-1) := ⟨_, rfl⟩
            refine wp_iinc (j := 6) (y := y6) (ls' := [(0, rv E 123), (1, iv k), (2, iv i), (3, iv x3), (4, iv x4), (5, iv x5), (6, iv y6)]) [1, 2, 3, 4, 5, 6, 0] C dX0_lotOfRow_102 rfl e_y6 (by decide) rfl ?_
            refine wp_goto (tgt := 28) C dX0_lotOfRow_105 (by decide) ?_
            exact ih9_28 x3 x4 x5 y6 (by omega) (by omega) (by omega) (by omega) (by omega) (by omega) (fun L hL z => by rw [e_y6] at hL; rcases (show L = x6.toNat ∨ x6.toNat < L by omega) with q9 | q9; rw [q9] at z; have q := hE.mp z; exact c_48 q.2.1; exact hno L q9 z) (by omega)
          · skip
            refine wp_aloadR_n 0 C dX0_lotOfRow_51 rfl rfl ?_
            refine wp_getR flX0_19 sh_123 rfl C dX0_lotOfRow_52 ?_
            refine wp_iload_n 3 C dX0_lotOfRow_55 rfl rfl ?_
            refine wp_iload 6 C dX0_lotOfRow_56 rfl ?_
            refine wp_ixor C dX0_lotOfRow_58 ?_
            refine wp_top (show _ = ((x3.toNat ^^^ x6.toNat : Nat) : Int) by rw [← bXor_N (by omega) (by omega), hx3, hx6]) ?_
            refine wp_iald sh_27 (by omega) C dX0_lotOfRow_59 ?_
            refine wp_top (show _ = h 27 (x3.toNat ^^^ x6.toNat) by rw [Int.toNat_natCast]) ?_
            have hap0 := hapx.2.2
            refine wp_iconst (v := 1) C dX0_lotOfRow_60 rfl ?_
            refine wp_ishr (by omega) (by omega) C dX0_lotOfRow_61 ?_
            refine wp_top (show _ = h 27 (x3.toNat ^^^ x6.toNat) / 2 from rfl) ?_
            refine wp_iload 4 C dX0_lotOfRow_62 rfl ?_
            refine wp_iconst (v := 1) C dX0_lotOfRow_64 rfl ?_
            refine wp_isub C dX0_lotOfRow_65 ?_
            refine wp_icmp_ne (tgt := 102) (by omega) (by omega) C dX0_lotOfRow_66 (by decide) (fun c_66 => ?_) (fun c_66 => ?_)
            · skip
              obtain ⟨y6, e_y6⟩ : ∃ z : Int, z = x6 + (-1) := ⟨_, rfl⟩
              refine wp_iinc (j := 6) (y := y6) (ls' := [(0, rv E 123), (1, iv k), (2, iv i), (3, iv x3), (4, iv x4), (5, iv x5), (6, iv y6)]) [1, 2, 3, 4, 5, 6, 0] C dX0_lotOfRow_102 rfl e_y6 (by decide) rfl ?_
              refine wp_goto (tgt := 28) C dX0_lotOfRow_105 (by decide) ?_
              exact ih9_28 x3 x4 x5 y6 (by omega) (by omega) (by omega) (by omega) (by omega) (by omega) (fun L hL z => by rw [e_y6] at hL; rcases (show L = x6.toNat ∨ x6.toNat < L by omega) with q9 | q9; rw [q9] at z; have q := hE.mp z; exact c_66 q.2.2.1; exact hno L q9 z) (by omega)
            · skip
              refine wp_aloadR_n 0 C dX0_lotOfRow_69 rfl rfl ?_
              refine wp_iload 6 C dX0_lotOfRow_70 rfl ?_
              have hrc := c_aRestOf E h n N p hn hn12 hpp hp hr x6.toNat (by omega)
              rw [hx6] at hrc
              refine wp_callVp (rest := []) (hrc) svX0_41 sh_123 (by decide) rfl rfl (Nat.le_of_ble_eq_true rfl) C dX0_lotOfRow_72 ?_
              rw [hx6] at hE
              have hm9 := mod_r (sumB N x6 n) hp
              refine wp_if_ne (tgt := 102) (by omega) C dX0_lotOfRow_75 (by decide) (fun c_75 => ?_) (fun c_75 => ?_)
              · skip
                obtain ⟨y6, e_y6⟩ : ∃ z : Int, z = x6 + (-1) := ⟨_, rfl⟩
                refine wp_iinc (j := 6) (y := y6) (ls' := [(0, rv E 123), (1, iv k), (2, iv i), (3, iv x3), (4, iv x4), (5, iv x5), (6, iv y6)]) [1, 2, 3, 4, 5, 6, 0] C dX0_lotOfRow_102 rfl e_y6 (by decide) rfl ?_
                refine wp_goto (tgt := 28) C dX0_lotOfRow_105 (by decide) ?_
                exact ih9_28 x3 x4 x5 y6 (by omega) (by omega) (by omega) (by omega) (by omega) (by omega) (fun L hL z => by rw [e_y6] at hL; rcases (show L = x6.toNat ∨ x6.toNat < L by omega) with q9 | q9; rw [q9] at z; have q := hE.mp z; exact c_75 q.2.2.2; exact hno L q9 z) (by omega)
              · skip
                have hcon := hE.mpr ⟨c_39, c_48, c_66, c_75⟩
                have hfs : fsG (teB N p n k) x3.toNat (A - x5.toNat - 1) x6.toNat := ⟨hcon, fun L hL => Nat.le_of_not_lt fun z => hno L z hL⟩
                refine wp_iload 5 C dX0_lotOfRow_78 rfl ?_
                refine wp_iload_n 2 C dX0_lotOfRow_80 rfl rfl ?_
                refine wp_icmp_ne (tgt := 91) (by omega) (by omega) C dX0_lotOfRow_81 (by decide) (fun c_81 => ?_) (fun c_81 => ?_)
                · skip
                  obtain ⟨y5, e_y5⟩ : ∃ z : Int, z = x5 + (1) := ⟨_, rfl⟩
                  refine wp_iinc (j := 5) (y := y5) (ls' := [(0, rv E 123), (1, iv k), (2, iv i), (3, iv x3), (4, iv x4), (5, iv y5), (6, iv x6)]) [1, 2, 3, 4, 5, 0, 6] C dX0_lotOfRow_91 rfl e_y5 (by decide) rfl ?_
                  obtain ⟨y4, e_y4⟩ : ∃ z : Int, z = x4 + (-1) := ⟨_, rfl⟩
                  refine wp_iinc (j := 4) (y := y4) (ls' := [(0, rv E 123), (1, iv k), (2, iv i), (3, iv x3), (4, iv y4), (5, iv y5), (6, iv x6)]) [1, 2, 3, 4, 0, 5, 6] C dX0_lotOfRow_94 rfl e_y4 (by decide) rfl ?_
                  refine wp_iload_n 3 C dX0_lotOfRow_97 rfl rfl ?_
                  refine wp_iload 6 C dX0_lotOfRow_98 rfl ?_
                  refine wp_ixor C dX0_lotOfRow_100 ?_
                  refine wp_top (show _ = ((x3.toNat ^^^ x6.toNat : Nat) : Int) by rw [← bXor_N (by omega) (by omega), hx3, hx6]) ?_
                  refine wp_nm (fun y3 e_y3 => ?_)
                  refine wp_istore_n (ls' := [(0, rv E 123), (1, iv k), (2, iv i), (3, iv y3), (4, iv y4), (5, iv y5), (6, iv x6)]) [1, 2, 3, 0, 4, 5, 6] C dX0_lotOfRow_101 rfl (by decide) rfl ?_
                  obtain ⟨y6, e_y6⟩ : ∃ z : Int, z = x6 + (-1) := ⟨_, rfl⟩
                  refine wp_iinc (j := 6) (y := y6) (ls' := [(0, rv E 123), (1, iv k), (2, iv i), (3, iv y3), (4, iv y4), (5, iv y5), (6, iv y6)]) [1, 2, 3, 4, 5, 6, 0] C dX0_lotOfRow_102 rfl e_y6 (by decide) rfl ?_
                  refine wp_goto (tgt := 28) C dX0_lotOfRow_105 (by decide) ?_
                  exact ih9_28 y3 y4 y5 y6 (by rw [e_y3]; have := x_xb (S := x3.toNat) (L := x6.toNat) (n := n) (by omega) (by omega); omega) (by omega) (by omega) (by omega) (by rw [e_y3, e_y5, show (x5 + 1).toNat = x5.toNat + 1 by omega, Int.toNat_natCast]; exact ⟨_, _, hrow, hfs, rfl⟩) (by rw [e_y3, e_y5, show (x5 + 1).toNat = x5.toNat + 1 by omega, Int.toNat_natCast, show A - (x5.toNat + 1) = A - x5.toNat - 1 by omega]; exact hcon.2.2) (fun L hL z => by rw [e_y6] at hL; rw [e_y3, e_y5, show (x5 + 1).toNat = x5.toNat + 1 by omega, Int.toNat_natCast] at z; rcases (show L = x6.toNat ∨ x6.toNat < L by omega) with q9 | q9; rw [q9] at z; have q8 := te_ne hk.1 hcon.2.1; obtain ⟨b, hb⟩ := Nat.exists_testBit_of_ne_zero (show x6.toNat ≠ 0 by omega); exact ((x_tb hcon.1).mp (z.1 b hb)).2 hb; exact hno L q9 (by have q7 := elg_up (r := A - x5.toNat - 2) (by rw [show A - x5.toNat - 2 + 2 = A - x5.toNat by omega]; exact hmx) (by rw [show A - x5.toNat - 2 + 1 = A - x5.toNat - 1 by omega]; exact hcon) (by rw [show A - x5.toNat - 2 = A - (x5.toNat + 1) - 1 by omega]; exact z); rw [show A - x5.toNat - 2 + 1 = A - x5.toNat - 1 by omega] at q7; exact q7)) (by omega)
                · skip
                  refine wp_aloadR_n 0 C dX0_lotOfRow_84 rfl rfl ?_
                  refine wp_iload 6 C dX0_lotOfRow_85 rfl ?_
                  have hal := c_asLot E h n hn hn12 x6.toNat (by omega)
                  rw [hx6] at hal
                  refine wp_callVp (rest := []) (hal) svX0_44 sh_123 (by decide) rfl rfl (Nat.le_of_ble_eq_true rfl) C dX0_lotOfRow_87 ?_
                  refine wp_iret C dX0_lotOfRow_90 ?_
                  exact ⟨rfl, x3.toNat, x6.toNat, rfl, by rw [← c_81]; exact hrow, by rw [← c_81]; exact hfs, by omega⟩
  have q28 : ∀ (x3 : Int) (x4 : Int) (x5 : Int) (x6 : Int), (0 ≤ x3 ∧ x3 < ((2 ^ n : Nat) : Int)) → (0 ≤ x5 ∧ x5 ≤ i) → (x4 = (A : Int) - x5) → (0 ≤ x6 ∧ x6 < ((2 ^ n : Nat) : Int)) → (rowG (teB N p n k) (2 ^ n - 1) A x5.toNat x3.toNat) → (mxP (teB N p n k) x3.toNat (A - x5.toNat)) → (∀ L, x6.toNat < L → ¬ elg (teB N p n k) x3.toNat (A - x5.toNat - 1) L) → Wp G E 7 (fun v hx => hx = h ∧ ∃ S L : Nat, v = some (iv (rvN n L : Int)) ∧ rowG (teB N p n k) (2 ^ n - 1) A i.toNat S ∧ fsG (teB N p n k) S (A - i.toNat - 1) L ∧ S < 2 ^ n) 28 [(0, rv E 123), (1, iv k), (2, iv i), (3, iv x3), (4, iv x4), (5, iv x5), (6, iv x6)] [] h := fun x3 x4 x5 x6 hs3 hs5 hs4 hs6 hrow hmx hno => q280 _ x3 x4 x5 x6 hs3 hs5 hs4 hs6 hrow hmx hno (Nat.lt_succ_self _)
  exact q28 w3 w4 0 w3 (by omega) (by omega) (by omega) (by omega) (by rw [hw3, Int.toNat_natCast]; rfl) (by rw [hw3, Int.toNat_natCast]; exact hA) (fun L hL z => by have := sb_lt (n := n) z.1 (by omega); omega)

set_option maxRecDepth 100000 in
set_option maxHeartbeats 4000000 in
theorem x_apart (E : En) (h : Hp) (k i : Int) (hk : -2147483648 ≤ k ∧ k ≤ 2147483647) (hi : -2147483648 ≤ i ∧ i ≤ 2147483647) (hz : 0 ≤ h 1 4 ∧ h 1 4 ≤ 20) (hp : 2 ≤ h 1 5 ∧ h 1 5 ≤ 10) (hN : ∀ i : Nat, (i : Int) < h 1 4 → 0 ≤ h 2 i ∧ h 2 i ≤ 999999999999999) : Ct 4 yX11_apart cX11_apart 4 (some .int) E [rv E 0, iv k, iv i] h (fun v hx => (∃ a, v = some (iv a) ∧ apartP (h 2) (h 1 5) (h 1 4).toNat k i a) ∧ (∀ a b, a ≠ 27 → a ≠ 124 → hx a b = h a b)) := by
  obtain ⟨n, hnn⟩ : ∃ n : Nat, n = (h 1 4).toNat := ⟨_, rfl⟩
  have hn : h 1 4 = (n : Int) := by omega
  refine ct_intro (by decide) (Nat.le_of_ble_eq_true rfl) (fun G C => ?_)
  show Wp G E 4 (fun v hx => (∃ a, v = some (iv a) ∧ apartP (h 2) (h 1 5) (h 1 4).toNat k i a) ∧ (∀ a b, a ≠ 27 → a ≠ 124 → hx a b = h a b)) 0 [(0, rv E 0), (1, iv k), (2, iv i)] [] h
  refine wp_iload_n 1 C dX11_apart_0 rfl rfl ?_
  refine wp_callSp (rest := []) (c_isSize E h k (by omega)) ssX11_167 (by decide) rfl rfl (Nat.le_of_ble_eq_true rfl) C dX11_apart_1 ?_
  refine wp_ifb_eq (tgt := 12) C dX11_apart_4 (by decide) (fun c_4 => ?_) (fun c_4 => ?_)
  · skip
    refine wp_bipush (v := (-3)) C dX11_apart_12 rfl ?_
    refine wp_iret C dX11_apart_14 ?_
    exact ⟨⟨-3, rfl, by rw [← hnn]; unfold apartP; rw [if_pos (Or.inl c_4)]⟩, fun _ _ _ _ => rfl⟩
  · skip
    refine wp_iload_n 2 C dX11_apart_7 rfl rfl ?_
    refine wp_iconst (v := (-1)) C dX11_apart_8 rfl ?_
    refine wp_icmp_ge (tgt := 15) (by omega) (by omega) C dX11_apart_9 (by decide) (fun c_9 => ?_) (fun c_9 => ?_)
    · skip
      refine wp_aloadR_n 0 C dX11_apart_15 rfl rfl ?_
      refine wp_getR flX11_10 sh_0 rfl C dX11_apart_16 ?_
      refine wp_getI flX11_104 sh_1 rfl C dX11_apart_19 ?_
      refine wp_bipush (v := 12) C dX11_apart_22 rfl ?_
      refine wp_icmp_le (tgt := 30) (by omega) (by omega) C dX11_apart_24 (by decide) (fun c_24 => ?_) (fun c_24 => ?_)
      · skip
        refine wp_aloadR_n 0 C dX11_apart_30 rfl rfl ?_
        refine wp_getR flX11_81 sh_0 rfl C dX11_apart_31 ?_
        refine wp_iload_n 1 C dX11_apart_34 rfl rfl ?_
        refine wp_callV (rest := []) (c_mostOf E h n (h 1 5) k hn (by omega) rfl hp (by omega) hN) svX11_217 sh_123 (by decide) rfl rfl (Nat.le_of_ble_eq_true rfl) C dX11_apart_35 (fun r0 hx pf => ?_)
        obtain ⟨⟨A, rfl, hA, hA12⟩, hap, hr, hf⟩ := pf
        have hA2 : mxP (teB (h 2) (h 1 5) n k) (2 ^ n - 1) A := by
          have := rv_mx (te := teB (h 2) (h 1 5) n k) (n := n) (fun L _ => te_rv) (Nat.sub_lt (Nat.pow_pos (by decide)) (by decide)) hA
          rw [rv_full] at this
          exact this
        refine wp_istore_n (ls' := [(0, rv E 0), (1, iv k), (2, iv i), (3, iv (A : Int))]) [1, 2, 3, 0] C dX11_apart_38 rfl (by decide) rfl ?_
        refine wp_iload_n 2 C dX11_apart_39 rfl rfl ?_
        refine wp_iconst (v := (-1)) C dX11_apart_40 rfl ?_
        refine wp_icmp_ne (tgt := 46) (by omega) (by omega) C dX11_apart_41 (by decide) (fun c_41 => ?_) (fun c_41 => ?_)
        · skip
          refine wp_iload_n 2 C dX11_apart_46 rfl rfl ?_
          refine wp_iload_n 3 C dX11_apart_47 rfl rfl ?_
          refine wp_icmp_ge (tgt := 63) (by omega) (by omega) C dX11_apart_48 (by decide) (fun c_48 => ?_) (fun c_48 => ?_)
          · skip
            refine wp_iconst (v := (-1)) C dX11_apart_63 rfl ?_
            refine wp_iret C dX11_apart_64 ?_
            exact ⟨⟨-1, rfl, by rw [← hnn]; unfold apartP; rw [if_neg (by omega), if_neg (by omega)]; exact ⟨A, hA2, Or.inr (Or.inl ⟨by omega, by omega⟩)⟩⟩, hf⟩
          · skip
            refine wp_aloadR_n 0 C dX11_apart_51 rfl rfl ?_
            refine wp_getR flX11_81 sh_0 rfl C dX11_apart_52 ?_
            refine wp_iload_n 1 C dX11_apart_55 rfl rfl ?_
            refine wp_iload_n 2 C dX11_apart_56 rfl rfl ?_
            refine wp_callV (rest := []) (c_lotOfRow E hx n (fun b => h 2 (n - 1 - b)) (h 1 5) ((hf 1 4 (by omega) (by omega)).trans hn) (by omega) (hf 1 5 (by omega) (by omega)) hp hr k (by omega) i A hA (by omega) hap) svX11_220 sh_123 (by decide) rfl rfl (Nat.le_of_ble_eq_true rfl) C dX11_apart_57 (fun r1 hy pf => ?_)
            obtain ⟨e_hy, S, L, rfl, hrw, hfs, hSl⟩ := pf
            rw [e_hy]
            obtain ⟨g1, g2⟩ := rv_row (te := teB (h 2) (h 1 5) n k) (n := n) (fun L _ => te_rv) (Nat.sub_lt (Nat.pow_pos (by decide)) (by decide)) rv_full _ _ hrw
            have g3 := rv_fs (te := teB (h 2) (h 1 5) n k) (n := n) (fun L _ => te_rv) hSl hfs
            refine wp_goto (tgt := 64) C dX11_apart_60 (by decide) ?_
            refine wp_iret C dX11_apart_64 ?_
            exact ⟨⟨(rvN n L : Int), rfl, by rw [← hnn]; unfold apartP; rw [if_neg (by omega), if_neg (by omega)]; exact ⟨A, hA2, Or.inr (Or.inr ⟨by omega, by omega, _, _, g2, g3, rfl⟩)⟩⟩, hf⟩
        · skip
          refine wp_iload_n 3 C dX11_apart_44 rfl rfl ?_
          refine wp_iret C dX11_apart_45 ?_
          exact ⟨⟨(A : Int), rfl, by rw [← hnn]; unfold apartP; rw [if_neg (by omega), if_neg (by omega)]; exact ⟨A, hA2, Or.inl ⟨by omega, by omega⟩⟩⟩, hf⟩
      · skip
        refine wp_bipush (v := (-4)) C dX11_apart_27 rfl ?_
        refine wp_iret C dX11_apart_29 ?_
        exact ⟨⟨-4, rfl, by rw [← hnn]; unfold apartP; rw [if_neg (by omega), if_pos (by omega)]⟩, fun _ _ _ _ => rfl⟩
    · skip
      refine wp_bipush (v := (-3)) C dX11_apart_12 rfl ?_
      refine wp_iret C dX11_apart_14 ?_
      exact ⟨⟨-3, rfl, by rw [← hnn]; unfold apartP; rw [if_pos (Or.inr (by omega))]⟩, fun _ _ _ _ => rfl⟩


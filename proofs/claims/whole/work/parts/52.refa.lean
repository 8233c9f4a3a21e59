/-! ===== the reference: apart ===== -/
theorem sb_and {L S : Nat} (h : sb L S) : L &&& S = L := by
  apply Nat.eq_of_testBit_eq
  intro j
  rw [Nat.testBit_and]
  have := h j
  cases q : L.testBit j <;> cases q2 : S.testBit j <;> simp_all
theorem sb_half {L S : Nat} (h : sb L S) : sb (L / 2) (S / 2) := fun j hj => by
  rw [Nat.testBit_div_two] at hj ⊢
  exact h _ hj
theorem sb_odd {L S : Nat} (h : sb L S) (hL : L % 2 = 1) : S % 2 = 1 := by
  have := h 0 (by rw [Nat.testBit_zero]; exact decide_eq_true hL)
  rw [Nat.testBit_zero, decide_eq_true_eq] at this
  exact this
theorem and_bit {a b c d : Nat} (ha : a < 2) (hc : c < 2) : (2 * b + a) &&& (2 * d + c) = 2 * (b &&& d) + (a &&& c) := and_split (k := 1) ha hc
/-- the lot ahead of a lot among those of a set, by number -/
theorem nx_max : ∀ (L S T : Nat), sb L S → sb T S → T < L → T ≤ (L - 1) &&& S
  | L, S, T, hL, hT, h => by
    have eL : L = 2 * (L / 2) + L % 2 := by omega
    have eS : S = 2 * (S / 2) + S % 2 := by omega
    rcases (show L % 2 = 1 ∨ L % 2 = 0 by omega) with q | q
    · have e1 : (L - 1) &&& S = 2 * (L / 2) := by
        have := and_bit (a := 0) (b := L / 2) (c := S % 2) (d := S / 2) (by decide) (by omega)
        rw [show L - 1 = 2 * (L / 2) + 0 by omega]
        rw [← eS] at this
        rw [this, sb_and (sb_half hL), Nat.zero_and]
        rfl
      rw [e1]
      omega
    · have e1 : (L - 1) &&& S = 2 * ((L / 2 - 1) &&& (S / 2)) + S % 2 := by
        have := and_bit (a := 1) (b := L / 2 - 1) (c := S % 2) (d := S / 2) (by decide) (by omega)
        rw [← eS, show 2 * (L / 2 - 1) + 1 = L - 1 by omega] at this
        rw [this, Nat.one_and_eq_mod_two]
        omega
      rw [e1]
      have ih := nx_max (L / 2) (S / 2) (T / 2) (sb_half hL) (sb_half hT) (by omega)
      have h3 : T % 2 = 1 → S % 2 = 1 := sb_odd hT
      omega
  termination_by L => L
theorem nx_sb {L S : Nat} : sb ((L - 1) &&& S) S := fun j hj => by
  rw [Nat.testBit_and, Bool.and_eq_true] at hj
  exact hj.2
theorem nx_lt {L S : Nat} (h : 0 < L) : (L - 1) &&& S < L := Nat.lt_of_le_of_lt Nat.and_le_left (by omega)
theorem and_p2 {a s : Nat} (ha : a < 2147483648) (hs : s < 31) : bAnd (a : Int) ((2 ^ s : Nat) : Int) ≠ 0 ↔ a.testBit s = true := by
  have e : bAnd (a : Int) ((2 ^ s : Nat) : Int) = ((a &&& 2 ^ s : Nat) : Int) := by
    rw [bAnd_nat (by omega) ⟨Int.natCast_nonneg _, by have := p2_31 hs; omega⟩, Int.toNat_natCast, Int.toNat_natCast]
  rw [e]
  have h1 : (a &&& 2 ^ s).testBit s = a.testBit s := by rw [Nat.testBit_and, Nat.testBit_two_pow, decide_eq_true rfl, Bool.and_true]
  constructor
  · intro z
    cases q : a.testBit s with
    | true => rfl
    | false =>
      refine absurd ?_ z
      have : a &&& 2 ^ s = 0 := by
        apply Nat.eq_of_testBit_eq
        intro j
        rw [Nat.testBit_and, Nat.testBit_two_pow, Nat.zero_testBit]
        by_cases hj : s = j
        · rw [← hj, q]; rfl
        · rw [decide_eq_false hj, Bool.and_false]
      rw [this]; rfl
  · intro z w
    have : a &&& 2 ^ s = 0 := by omega
    rw [this, Nat.zero_testBit, z] at h1
    cases h1
def bestQ (te : Nat → Prop) (g : Nat → Int) (S s : Nat) (x : Int) : Prop := x = g (S ^^^ 2 ^ s) ∨ ∃ L, sb L S ∧ L.testBit s = true ∧ te L ∧ x = g (S ^^^ L) + 1
theorem and_n {a S : Nat} (ha : a < 2147483648) (hS : S < 2147483648) : bAnd (a : Int) (S : Int) = ((a &&& S : Nat) : Int) := by
  rw [bAnd_nat (by omega) (by omega), Int.toNat_natCast, Int.toNat_natCast]
theorem low_bit {x : Int} (h : 1 ≤ x ∧ x < 4097) : ∃ s : Nat, s < 13 ∧ bAnd x (-x) = ((2 ^ s : Nat) : Int) ∧ x.toNat.testBit s = true := by
  obtain ⟨s, m, e⟩ := low_ex x.toNat (by omega)
  have h1 := bAnd_low (n := x.toNat) e (by omega)
  rw [show ((x.toNat : Nat) : Int) = x by omega] at h1
  have ht : x.toNat.testBit s = true := by rw [e, low_tb, if_neg (by omega), if_pos rfl]
  exact ⟨s, lt_tb (n := 13) (show x.toNat < 2 ^ 13 by omega) ht, h1, ht⟩
def t01 (te : Nat → Prop) (v : Int) (T : Nat) : Prop := (v = 0 ∨ v = 1) ∧ (v = 1 ↔ te T)
theorem mx_0 {N : Nat → Int} {p k : Int} {n : Nat} (hk : 1 ≤ k) : mxP (teB N p n k) 0 0 := (apV_0 (N := N) (p := p) (n := n) hk).1
theorem sb_le {L S : Nat} (h : sb L S) : L ≤ S := by
  have := sb_and h
  rw [← this]
  exact Nat.and_le_right
set_option maxRecDepth 100000 in
set_option maxHeartbeats 4000000 in
theorem c_misAhead (E : En) (h : Hp) (a b : Int) (ha : 0 ≤ a ∧ a ≤ 1048575) (hb : 0 ≤ b ∧ b ≤ 1048575) (p : Prop) [hdp : Decidable p] (hpp : p ↔ ahd a.toNat b.toNat) : Ct 0 yX12_isAhead cX12_isAhead 3 (some .boolean) E [iv a, iv b] h (Ret (iv (bi p)) h) := by
  have hq := ahd_iff (a := a.toNat) (b := b.toNat) (by omega) (by omega)
  rw [show ((a.toNat : Nat) : Int) = a by omega, show ((b.toNat : Nat) : Int) = b by omega] at hq
  have hr := bAnd_r (bAnd a (bXor a b)) (-(bXor a b))
  refine ct_intro (by decide) (Nat.le_of_ble_eq_true rfl) (fun G C => ?_)
  show Wp G E 3 (Ret (iv (bi p)) h) 0 [(0, iv a), (1, iv b)] [] h
  refine wp_iload_n 0 C dX12_isAhead_0 rfl rfl ?_
  refine wp_iload_n 1 C dX12_isAhead_1 rfl rfl ?_
  refine wp_ixor C dX12_isAhead_2 ?_
  refine wp_nm (fun v1 e_v1 => ?_)
  refine wp_istore_n (ls' := [(0, iv a), (1, iv b), (2, iv v1)]) [1, 2, 0] C dX12_isAhead_3 rfl (by decide) rfl ?_
  refine wp_iload_n 0 C dX12_isAhead_4 rfl rfl ?_
  refine wp_iload_n 2 C dX12_isAhead_5 rfl rfl ?_
  refine wp_iand C dX12_isAhead_6 ?_
  refine wp_iload_n 2 C dX12_isAhead_7 rfl rfl ?_
  refine wp_ineg C dX12_isAhead_8 ?_
  refine wp_iand C dX12_isAhead_9 ?_
  refine wp_if_eq (tgt := 17) (by rw [e_v1]; exact hr) C dX12_isAhead_10 (by decide) (fun c_10 => ?_) (fun c_10 => ?_)
  · skip
    refine wp_iconst (v := 0) C dX12_isAhead_17 rfl ?_
    refine wp_zret (by first | exact bi_01 | omega) C dX12_isAhead_18 ?_
    exact ret_b0 (fun z => absurd (by rw [← e_v1]; exact c_10) (hq.mpr (hpp.mp z)))
  · skip
    refine wp_iconst (v := 1) C dX12_isAhead_13 rfl ?_
    refine wp_goto (tgt := 18) C dX12_isAhead_14 (by decide) ?_
    refine wp_zret (by first | exact bi_01 | omega) C dX12_isAhead_18 ?_
    exact ret_b1 (hpp.mpr (hq.mp (by rw [← e_v1]; exact c_10)))

set_option maxRecDepth 100000 in
set_option maxHeartbeats 4000000 in
theorem c_layAparts (E : En) (h : Hp) (n : Nat) (p : Int) (N Sc Cl Cs : Nat → Int) (M0 : MH h n p N Sc Cl Cs) (k : Int) (hk : 1 ≤ k ∧ k ≤ 20) (hn12 : n ≤ 12) : Ct 4 yX12_layAparts cX12_layAparts 7 none E [rv E 128, iv k] h (fun v hx => v = none ∧ (∀ T, T < 2 ^ n → t01 (teB N p n k) (hx 144 T) T) ∧ (∀ T, T < 2 ^ n → mxP (teB N p n k) T (hx 143 T).toNat ∧ 0 ≤ hx 143 T ∧ hx 143 T ≤ 12) ∧ (∀ a b, a ≠ 143 → a ≠ 144 → hx a b = h a b)) := by
  obtain ⟨m0, m1, m2, m3, mN, mS, mC, mK⟩ := id M0
  have Mx := M0
  have hP0 : 0 < 2 ^ n := Nat.pow_pos (by decide)
  have hP12 : 2 ^ n ≤ 4096 := Nat.pow_le_pow_right (n := 2) (by decide) hn12
  have hpc : ((2 ^ n : Nat) : Int) = 2 ^ n := p2_cast n
  refine ct_intro (by decide) (Nat.le_of_ble_eq_true rfl) (fun G C => ?_)
  show Wp G E 7 (fun v hx => v = none ∧ (∀ T, T < 2 ^ n → t01 (teB N p n k) (hx 144 T) T) ∧ (∀ T, T < 2 ^ n → mxP (teB N p n k) T (hx 143 T).toNat ∧ 0 ≤ hx 143 T ∧ hx 143 T ≤ 12) ∧ (∀ a b, a ≠ 143 → a ≠ 144 → hx a b = h a b)) 0 [(0, rv E 128), (1, iv k)] [] h
  refine wp_iconst (v := 0) C dX12_layAparts_0 rfl ?_
  refine wp_istore_n (ls' := [(0, rv E 128), (1, iv k), (2, iv 0)]) [1, 2, 0] C dX12_layAparts_1 rfl (by decide) rfl ?_
  have q20 : ∀ n9 : Nat, ∀ (x2 : Int) (hx : Hp), (0 ≤ x2 ∧ x2 ≤ ((2 ^ n : Nat) : Int)) → (∀ T, T < x2.toNat → t01 (teB N p n k) (hx 144 T) T) → (∀ a b, a ≠ 143 → a ≠ 144 → hx a b = h a b) → (((2 ^ n : Nat) : Int) - x2).toNat < n9 → Wp G E 7 (fun v hx => v = none ∧ (∀ T, T < 2 ^ n → t01 (teB N p n k) (hx 144 T) T) ∧ (∀ T, T < 2 ^ n → mxP (teB N p n k) T (hx 143 T).toNat ∧ 0 ≤ hx 143 T ∧ hx 143 T ≤ 12) ∧ (∀ a b, a ≠ 143 → a ≠ 144 → hx a b = h a b)) 2 [(0, rv E 128), (1, iv k), (2, iv x2)] [] hx := by
    intro n9
    induction n9 with
    | zero => intro x2 hx hi ht hf hm9; exact absurd hm9 (Nat.not_lt_zero _)
    | succ n9 ih9 =>
      intro x2 hx hi ht hf hm9
      have ih9_2 := ih9
      have Mx : MH hx n p N Sc Cl Cs := M0.of (fun b => ⟨hf _ _ (by decide) (by decide), hf _ _ (by decide) (by decide), hf _ _ (by decide) (by decide)⟩)
      refine wp_iload_n 2 C dX12_layAparts_2 rfl rfl ?_
      refine wp_iconst (v := 1) C dX12_layAparts_3 rfl ?_
      refine wp_aloadR_n 0 C dX12_layAparts_4 rfl rfl ?_
      refine wp_callVp (rest := [iv 1, iv x2]) (c_heaps E hx n p N Sc Cl Cs Mx) svX12_141 sh_128 (by decide) rfl rfl (Nat.le_of_ble_eq_true rfl) C dX12_layAparts_5 ?_
      refine wp_ishl (by omega) C dX12_layAparts_8 ?_
      refine wp_top (show _ = ((2 ^ n : Nat) : Int) by rw [Int.toNat_natCast, Int.one_mul, hpc]) ?_
      refine wp_icmp_ge (tgt := 30) (by omega) (by omega) C dX12_layAparts_9 (by decide) (fun c_9 => ?_) (fun c_9 => ?_)
      · skip
        refine wp_aloadR_n 0 C dX12_layAparts_30 rfl rfl ?_
        refine wp_getR flX12_55 sh_128 rfl C dX12_layAparts_31 ?_
        refine wp_iconst (v := 0) C dX12_layAparts_34 rfl ?_
        refine wp_iconst (v := 0) C dX12_layAparts_35 rfl ?_
        refine wp_iast sh_143 (by omega) C dX12_layAparts_36 ?_
        obtain ⟨H1, e_H1⟩ : ∃ z : Hp, z = upd2 hx 143 0 0 := ⟨_, rfl⟩
        refine wp_heq e_H1 ?_
        refine wp_iconst (v := 1) C dX12_layAparts_37 rfl ?_
        refine wp_istore_n (ls' := [(0, rv E 128), (1, iv k), (2, iv 1)]) [1, 2, 0] C dX12_layAparts_38 rfl (by decide) rfl ?_
        have q390 : ∀ n9 : Nat, ∀ (x2 : Int) (hx : Hp), (1 ≤ x2 ∧ x2 ≤ ((2 ^ n : Nat) : Int)) → (∀ T, T < 2 ^ n → t01 (teB N p n k) (hx 144 T) T) → (∀ T, T < x2.toNat → mxP (teB N p n k) T (hx 143 T).toNat ∧ 0 ≤ hx 143 T ∧ hx 143 T ≤ 12) → (∀ a b, a ≠ 143 → a ≠ 144 → hx a b = h a b) → (((2 ^ n : Nat) : Int) - x2).toNat < n9 → Wp G E 7 (fun v hx => v = none ∧ (∀ T, T < 2 ^ n → t01 (teB N p n k) (hx 144 T) T) ∧ (∀ T, T < 2 ^ n → mxP (teB N p n k) T (hx 143 T).toNat ∧ 0 ≤ hx 143 T ∧ hx 143 T ≤ 12) ∧ (∀ a b, a ≠ 143 → a ≠ 144 → hx a b = h a b)) 39 [(0, rv E 128), (1, iv k), (2, iv x2)] [] hx := by
          intro n9
          induction n9 with
          | zero => intro x2 hx hi ht ha hf hm9; exact absurd hm9 (Nat.not_lt_zero _)
          | succ n9 ih9 =>
            intro x2 hx hi ht ha hf hm9
            have ih9_39 := ih9
            have Mx : MH hx n p N Sc Cl Cs := M0.of (fun b => ⟨hf _ _ (by decide) (by decide), hf _ _ (by decide) (by decide), hf _ _ (by decide) (by decide)⟩)
            refine wp_iload_n 2 C dX12_layAparts_39 rfl rfl ?_
            refine wp_iconst (v := 1) C dX12_layAparts_40 rfl ?_
            refine wp_aloadR_n 0 C dX12_layAparts_41 rfl rfl ?_
            refine wp_callVp (rest := [iv 1, iv x2]) (c_heaps E hx n p N Sc Cl Cs Mx) svX12_141 sh_128 (by decide) rfl rfl (Nat.le_of_ble_eq_true rfl) C dX12_layAparts_42 ?_
            refine wp_ishl (by omega) C dX12_layAparts_45 ?_
            refine wp_top (show _ = ((2 ^ n : Nat) : Int) by rw [Int.toNat_natCast, Int.one_mul, hpc]) ?_
            refine wp_icmp_ge (tgt := 147) (by omega) (by omega) C dX12_layAparts_46 (by decide) (fun c_46 => ?_) (fun c_46 => ?_)
            · skip
              refine wp_vret C dX12_layAparts_147 ?_
              exact ⟨rfl, ht, fun T hT => ha T (by omega), hf⟩
            · skip
              have hx2 : ((x2.toNat : Nat) : Int) = x2 := by omega
              obtain ⟨s, hs13, hs1, hs2⟩ := low_bit (x := x2) (by omega)
              have hXs := x_lt hs2
              have hAs := ha _ hXs
              refine wp_iload_n 2 C dX12_layAparts_49 rfl rfl ?_
              refine wp_iload_n 2 C dX12_layAparts_50 rfl rfl ?_
              refine wp_ineg C dX12_layAparts_51 ?_
              refine wp_iand C dX12_layAparts_52 ?_
              refine wp_top hs1 ?_
              refine wp_nm (fun w3 e_w3 => ?_)
              refine wp_istore_n (ls' := [(0, rv E 128), (1, iv k), (2, iv x2), (3, iv w3)]) [1, 2, 3, 0] C dX12_layAparts_53 rfl (by decide) rfl ?_
              refine wp_aloadR_n 0 C dX12_layAparts_54 rfl rfl ?_
              refine wp_getR flX12_55 sh_128 rfl C dX12_layAparts_55 ?_
              refine wp_iload_n 2 C dX12_layAparts_58 rfl rfl ?_
              refine wp_iload_n 3 C dX12_layAparts_59 rfl rfl ?_
              refine wp_ixor C dX12_layAparts_60 ?_
              refine wp_top (show _ = ((x2.toNat ^^^ 2 ^ s : Nat) : Int) by rw [e_w3, ← bXor_N (by omega) (p2_31 (by omega)), hx2]) ?_
              refine wp_iald sh_143 (by omega) C dX12_layAparts_61 ?_
              refine wp_top (show _ = hx 143 (x2.toNat ^^^ 2 ^ s) by rw [Int.toNat_natCast]) ?_
              refine wp_nm (fun w4 e_w4 => ?_)
              refine wp_istore (ls' := [(0, rv E 128), (1, iv k), (2, iv x2), (3, iv w3), (4, iv w4)]) [1, 2, 3, 4, 0] C dX12_layAparts_62 (by decide) rfl ?_
              refine wp_iload_n 2 C dX12_layAparts_64 rfl rfl ?_
              refine wp_istore (ls' := [(0, rv E 128), (1, iv k), (2, iv x2), (3, iv w3), (4, iv w4), (5, iv x2)]) [1, 2, 3, 4, 5, 0] C dX12_layAparts_65 (by decide) rfl ?_
              have hXl : ∀ L, sb L x2.toNat → L.testBit s = true → x2.toNat ^^^ L < x2.toNat := fun L hL hb9 => by
                have q1 := x_tb (j := s) hL
                have q3 := sb_le (sb_x hL)
                rcases (show x2.toNat ^^^ L = x2.toNat ∨ x2.toNat ^^^ L < x2.toNat by omega) with z | z
                · rw [z] at q1; exact absurd hb9 (q1.mp hs2).2
                · exact z
              have q670 : ∀ n9 : Nat, ∀ (x4 : Int) (x5 : Int), (0 ≤ x4 ∧ x4 ≤ 13) → (0 ≤ x5 ∧ x5 ≤ x2 ∧ sb x5.toNat x2.toNat) → ((hx 143 (x2.toNat ^^^ 2 ^ s)) ≤ x4) → (∀ L, sb L x2.toNat → x5.toNat < L → L.testBit s = true → teB N p n k L → (hx 143 (x2.toNat ^^^ L)) + 1 ≤ x4) → (bestQ (teB N p n k) (hx 143) x2.toNat s x4) → x5.toNat < n9 → Wp G E 7 (fun v hx => v = none ∧ (∀ T, T < 2 ^ n → t01 (teB N p n k) (hx 144 T) T) ∧ (∀ T, T < 2 ^ n → mxP (teB N p n k) T (hx 143 T).toNat ∧ 0 ≤ hx 143 T ∧ hx 143 T ≤ 12) ∧ (∀ a b, a ≠ 143 → a ≠ 144 → hx a b = h a b)) 67 [(0, rv E 128), (1, iv k), (2, iv x2), (3, iv w3), (4, iv x4), (5, iv x5)] [] hx := by
                intro n9
                induction n9 with
                | zero => intro x4 x5 hb h5 h1 h2 h3 hm9; exact absurd hm9 (Nat.not_lt_zero _)
                | succ n9 ih9 =>
                  intro x4 x5 hb h5 h1 h2 h3 hm9
                  have ih9_67 := ih9
                  have hx5 : ((x5.toNat : Nat) : Int) = x5 := by omega
                  have hXl : ∀ L, sb L x2.toNat → L.testBit s = true → x2.toNat ^^^ L < x2.toNat := fun L hL hb9 => by
                    have q1 := x_tb (j := s) hL
                    have q3 := sb_le (sb_x hL)
                    rcases (show x2.toNat ^^^ L = x2.toNat ∨ x2.toNat ^^^ L < x2.toNat by omega) with z | z
                    · rw [z] at q1; exact absurd hb9 (q1.mp hs2).2
                    · exact z
                  refine wp_iload 5 C dX12_layAparts_67 rfl ?_
                  refine wp_if_le (tgt := 133) (by omega) C dX12_layAparts_69 (by decide) (fun c_69 => ?_) (fun c_69 => ?_)
                  · skip
                    have hmxS : mxP (teB N p n k) x2.toNat x4.toNat := by
                      refine mx_ref (A := fun T => (hx 143 T).toNat) (b := s) hs2 hAs.1 (fun L hL hb9 => (ha _ (hXl L hL hb9)).1) ?_ (fun L hL hb9 ht9 => ?_) ?_
                      · show (hx 143 (x2.toNat ^^^ 2 ^ s)).toNat ≤ x4.toNat; omega
                      · have := h2 L hL (by rcases (show L = 0 ∨ x5.toNat < L by omega) with z | z; rw [z] at hb9; simp at hb9; exact z) hb9 ht9
                        have q0 := (ha _ (hXl L hL hb9)).2
                        show (hx 143 (x2.toNat ^^^ L)).toNat + 1 ≤ x4.toNat; omega
                      · rcases h3 with z | ⟨L, z1, z2, z3, z4⟩
                        · left; show x4.toNat = (hx 143 (x2.toNat ^^^ 2 ^ s)).toNat; rw [z]
                        · right; refine ⟨L, z1, z2, z3, ?_⟩
                          show x4.toNat = (hx 143 (x2.toNat ^^^ L)).toNat + 1
                          have := (ha _ (hXl L z1 z2)).2
                          omega
                    refine wp_aloadR_n 0 C dX12_layAparts_133 rfl rfl ?_
                    refine wp_getR flX12_55 sh_128 rfl C dX12_layAparts_134 ?_
                    refine wp_iload_n 2 C dX12_layAparts_137 rfl rfl ?_
                    refine wp_iload 4 C dX12_layAparts_138 rfl ?_
                    refine wp_iast sh_143 (by omega) C dX12_layAparts_140 ?_
                    obtain ⟨H2, e_H2⟩ : ∃ z : Hp, z = upd2 hx 143 x2.toNat x4 := ⟨_, rfl⟩
                    refine wp_heq e_H2 ?_
                    obtain ⟨v3, e_v3⟩ : ∃ z : Int, z = x2 + (1) := ⟨_, rfl⟩
                    refine wp_iinc (j := 2) (y := v3) (ls' := [(0, rv E 128), (1, iv k), (2, iv v3), (3, iv w3), (4, iv x4), (5, iv x5)]) [1, 2, 0, 3, 4, 5] C dX12_layAparts_141 rfl e_v3 (by decide) rfl ?_
                    refine wp_goto (tgt := 39) C dX12_layAparts_144 (by decide) ?_
                    refine wp_loc [0, 1, 2] rfl ?_
                    exact ih9_39 v3 H2 (by omega) (fun T hT => by rw [e_H2]; unfold upd2; rw [if_neg (by omega)]; exact ht T hT) (fun T hT => by rw [e_H2]; unfold upd2; by_cases w : T = x2.toNat; rw [if_pos ⟨rfl, w⟩, w]; exact ⟨hmxS, by omega, by have := mx_le hk.1 hmxS; omega⟩; rw [if_neg (fun z => w z.2)]; exact ha T (by omega)) (fun a b h1 h2 => by rw [e_H2]; unfold upd2; rw [if_neg (fun z => h1 z.1)]; exact hf a b h1 h2) (by omega)
                  · skip
                    have h76 := and_p2 (a := x5.toNat) (s := s) (by omega) (by omega)
                    rw [hx5, ← e_w3] at h76
                    have hbr := bAnd_r x5 w3
                    refine wp_iload 5 C dX12_layAparts_72 rfl ?_
                    refine wp_iload_n 3 C dX12_layAparts_74 rfl rfl ?_
                    refine wp_iand C dX12_layAparts_75 ?_
                    refine wp_if_eq (tgt := 103) (by omega) C dX12_layAparts_76 (by decide) (fun c_76 => ?_) (fun c_76 => ?_)
                    · skip
                      refine wp_iconst (v := 0) C dX12_layAparts_103 rfl ?_
                      refine wp_istore (ls' := [(0, rv E 128), (1, iv k), (2, iv x2), (3, iv w3), (4, iv x4), (5, iv x5), (6, iv 0)]) [1, 2, 3, 4, 5, 6, 0] C dX12_layAparts_104 (by decide) rfl ?_
                      refine wp_iload 6 C dX12_layAparts_106 rfl ?_
                      refine wp_iload 4 C dX12_layAparts_108 rfl ?_
                      refine wp_icmp_le (tgt := 118) (by omega) (by omega) C dX12_layAparts_110 (by decide) (fun c_110 => ?_) (fun c_110 => ?_)
                      · skip
                        refine wp_iload 4 C dX12_layAparts_118 rfl ?_
                        refine wp_istore (ls' := [(0, rv E 128), (1, iv k), (2, iv x2), (3, iv w3), (4, iv x4), (5, iv x5), (6, iv 0)]) [1, 2, 3, 4, 0, 5, 6] C dX12_layAparts_120 (by decide) rfl ?_
                        refine wp_iload 5 C dX12_layAparts_122 rfl ?_
                        refine wp_iconst (v := 1) C dX12_layAparts_124 rfl ?_
                        refine wp_isub C dX12_layAparts_125 ?_
                        refine wp_iload_n 2 C dX12_layAparts_126 rfl rfl ?_
                        refine wp_iand C dX12_layAparts_127 ?_
                        refine wp_top (show _ = (((x5.toNat - 1) &&& x2.toNat : Nat) : Int) by rw [← and_n (by omega) (by omega), hx2, show ((x5.toNat - 1 : Nat) : Int) = x5 - 1 by omega]) ?_
                        refine wp_nm (fun y5 e_y5 => ?_)
                        refine wp_istore (ls' := [(0, rv E 128), (1, iv k), (2, iv x2), (3, iv w3), (4, iv x4), (5, iv y5), (6, iv 0)]) [1, 2, 3, 4, 5, 0, 6] C dX12_layAparts_128 (by decide) rfl ?_
                        refine wp_goto (tgt := 67) C dX12_layAparts_130 (by decide) ?_
                        have hXl : ∀ L, sb L x2.toNat → L.testBit s = true → x2.toNat ^^^ L < x2.toNat := fun L hL hb9 => by
                          have q1 := x_tb (j := s) hL
                          have q3 := sb_le (sb_x hL)
                          rcases (show x2.toNat ^^^ L = x2.toNat ∨ x2.toNat ^^^ L < x2.toNat by omega) with z | z
                          · rw [z] at q1; exact absurd hb9 (q1.mp hs2).2
                          · exact z
                        refine wp_loc [0, 1, 2, 3, 4, 5] rfl ?_
                        exact ih9_67 x4 y5 (by omega) (by rw [e_y5]; have := nx_lt (L := x5.toNat) (S := x2.toNat) (by omega); exact ⟨by omega, by omega, by rw [Int.toNat_natCast]; exact nx_sb⟩) (by omega) (fun L hL h9 q2 q3 => by rw [e_y5, Int.toNat_natCast] at h9; rcases (show L = x5.toNat ∨ x5.toNat < L ∨ L < x5.toNat by omega) with q | q | q; rw [q] at q2 q3 ⊢; exact absurd (h76.mpr q2) (not_not_intro c_76); have := h2 L hL q q2 q3; omega; have := nx_max x5.toNat x2.toNat L h5.2.2 hL q; omega) (h3) (by rw [e_y5, Int.toNat_natCast]; have := nx_lt (L := x5.toNat) (S := x2.toNat) (by omega); omega)
                      · skip
                        omega
                    · skip
                      refine wp_aloadR_n 0 C dX12_layAparts_79 rfl rfl ?_
                      refine wp_getR flX12_58 sh_128 rfl C dX12_layAparts_80 ?_
                      refine wp_iload 5 C dX12_layAparts_83 rfl ?_
                      refine wp_zald sh_144 (by omega) C dX12_layAparts_85 ?_
                      have ht5 := (ht x5.toNat (by omega)).1
                      refine wp_if_eq (tgt := 103) (by omega) C dX12_layAparts_86 (by decide) (fun c_86 => ?_) (fun c_86 => ?_)
                      · skip
                        refine wp_iconst (v := 0) C dX12_layAparts_103 rfl ?_
                        refine wp_istore (ls' := [(0, rv E 128), (1, iv k), (2, iv x2), (3, iv w3), (4, iv x4), (5, iv x5), (6, iv 0)]) [1, 2, 3, 4, 5, 6, 0] C dX12_layAparts_104 (by decide) rfl ?_
                        refine wp_iload 6 C dX12_layAparts_106 rfl ?_
                        refine wp_iload 4 C dX12_layAparts_108 rfl ?_
                        refine wp_icmp_le (tgt := 118) (by omega) (by omega) C dX12_layAparts_110 (by decide) (fun c_110 => ?_) (fun c_110 => ?_)
                        · skip
                          refine wp_iload 4 C dX12_layAparts_118 rfl ?_
                          refine wp_istore (ls' := [(0, rv E 128), (1, iv k), (2, iv x2), (3, iv w3), (4, iv x4), (5, iv x5), (6, iv 0)]) [1, 2, 3, 4, 0, 5, 6] C dX12_layAparts_120 (by decide) rfl ?_
                          refine wp_iload 5 C dX12_layAparts_122 rfl ?_
                          refine wp_iconst (v := 1) C dX12_layAparts_124 rfl ?_
                          refine wp_isub C dX12_layAparts_125 ?_
                          refine wp_iload_n 2 C dX12_layAparts_126 rfl rfl ?_
                          refine wp_iand C dX12_layAparts_127 ?_
                          refine wp_top (show _ = (((x5.toNat - 1) &&& x2.toNat : Nat) : Int) by rw [← and_n (by omega) (by omega), hx2, show ((x5.toNat - 1 : Nat) : Int) = x5 - 1 by omega]) ?_
                          refine wp_nm (fun y5 e_y5 => ?_)
                          refine wp_istore (ls' := [(0, rv E 128), (1, iv k), (2, iv x2), (3, iv w3), (4, iv x4), (5, iv y5), (6, iv 0)]) [1, 2, 3, 4, 5, 0, 6] C dX12_layAparts_128 (by decide) rfl ?_
                          refine wp_goto (tgt := 67) C dX12_layAparts_130 (by decide) ?_
                          have hXl : ∀ L, sb L x2.toNat → L.testBit s = true → x2.toNat ^^^ L < x2.toNat := fun L hL hb9 => by
                            have q1 := x_tb (j := s) hL
                            have q3 := sb_le (sb_x hL)
                            rcases (show x2.toNat ^^^ L = x2.toNat ∨ x2.toNat ^^^ L < x2.toNat by omega) with z | z
                            · rw [z] at q1; exact absurd hb9 (q1.mp hs2).2
                            · exact z
                          refine wp_loc [0, 1, 2, 3, 4, 5] rfl ?_
                          exact ih9_67 x4 y5 (by omega) (by rw [e_y5]; have := nx_lt (L := x5.toNat) (S := x2.toNat) (by omega); exact ⟨by omega, by omega, by rw [Int.toNat_natCast]; exact nx_sb⟩) (by omega) (fun L hL h9 q2 q3 => by rw [e_y5, Int.toNat_natCast] at h9; rcases (show L = x5.toNat ∨ x5.toNat < L ∨ L < x5.toNat by omega) with q | q | q; rw [q] at q2 q3 ⊢; have := (ht x5.toNat (by omega)).2.mpr q3; omega; have := h2 L hL q q2 q3; omega; have := nx_max x5.toNat x2.toNat L h5.2.2 hL q; omega) (h3) (by rw [e_y5, Int.toNat_natCast]; have := nx_lt (L := x5.toNat) (S := x2.toNat) (by omega); omega)
                        · skip
                          omega
                      · skip
                        have hXL5 := hXl _ h5.2.2 (h76.mp c_76)
                        have hA5 := ha _ hXL5
                        refine wp_aloadR_n 0 C dX12_layAparts_89 rfl rfl ?_
                        refine wp_getR flX12_55 sh_128 rfl C dX12_layAparts_90 ?_
                        refine wp_iload_n 2 C dX12_layAparts_93 rfl rfl ?_
                        refine wp_iload 5 C dX12_layAparts_94 rfl ?_
                        refine wp_ixor C dX12_layAparts_96 ?_
                        refine wp_top (show _ = ((x2.toNat ^^^ x5.toNat : Nat) : Int) by rw [← bXor_N (by omega) (by omega), hx2, hx5]) ?_
                        refine wp_iald sh_143 (by omega) C dX12_layAparts_97 ?_
                        refine wp_top (show _ = hx 143 (x2.toNat ^^^ x5.toNat) by rw [Int.toNat_natCast]) ?_
                        refine wp_iconst (v := 1) C dX12_layAparts_98 rfl ?_
                        refine wp_iadd C dX12_layAparts_99 ?_
                        refine wp_goto (tgt := 104) C dX12_layAparts_100 (by decide) ?_
                        refine wp_nm (fun w6 e_w6 => ?_)
                        refine wp_istore (ls' := [(0, rv E 128), (1, iv k), (2, iv x2), (3, iv w3), (4, iv x4), (5, iv x5), (6, iv w6)]) [1, 2, 3, 4, 5, 6, 0] C dX12_layAparts_104 (by decide) rfl ?_
                        refine wp_iload 6 C dX12_layAparts_106 rfl ?_
                        refine wp_iload 4 C dX12_layAparts_108 rfl ?_
                        refine wp_icmp_le (tgt := 118) (by omega) (by omega) C dX12_layAparts_110 (by decide) (fun c_110 => ?_) (fun c_110 => ?_)
                        · skip
                          refine wp_iload 4 C dX12_layAparts_118 rfl ?_
                          refine wp_istore (ls' := [(0, rv E 128), (1, iv k), (2, iv x2), (3, iv w3), (4, iv x4), (5, iv x5), (6, iv w6)]) [1, 2, 3, 4, 0, 5, 6] C dX12_layAparts_120 (by decide) rfl ?_
                          refine wp_iload 5 C dX12_layAparts_122 rfl ?_
                          refine wp_iconst (v := 1) C dX12_layAparts_124 rfl ?_
                          refine wp_isub C dX12_layAparts_125 ?_
                          refine wp_iload_n 2 C dX12_layAparts_126 rfl rfl ?_
                          refine wp_iand C dX12_layAparts_127 ?_
                          refine wp_top (show _ = (((x5.toNat - 1) &&& x2.toNat : Nat) : Int) by rw [← and_n (by omega) (by omega), hx2, show ((x5.toNat - 1 : Nat) : Int) = x5 - 1 by omega]) ?_
                          refine wp_nm (fun y5 e_y5 => ?_)
                          refine wp_istore (ls' := [(0, rv E 128), (1, iv k), (2, iv x2), (3, iv w3), (4, iv x4), (5, iv y5), (6, iv w6)]) [1, 2, 3, 4, 5, 0, 6] C dX12_layAparts_128 (by decide) rfl ?_
                          refine wp_goto (tgt := 67) C dX12_layAparts_130 (by decide) ?_
                          have hXl : ∀ L, sb L x2.toNat → L.testBit s = true → x2.toNat ^^^ L < x2.toNat := fun L hL hb9 => by
                            have q1 := x_tb (j := s) hL
                            have q3 := sb_le (sb_x hL)
                            rcases (show x2.toNat ^^^ L = x2.toNat ∨ x2.toNat ^^^ L < x2.toNat by omega) with z | z
                            · rw [z] at q1; exact absurd hb9 (q1.mp hs2).2
                            · exact z
                          refine wp_loc [0, 1, 2, 3, 4, 5] rfl ?_
                          exact ih9_67 x4 y5 (by omega) (by rw [e_y5]; have := nx_lt (L := x5.toNat) (S := x2.toNat) (by omega); exact ⟨by omega, by omega, by rw [Int.toNat_natCast]; exact nx_sb⟩) (by omega) (fun L hL h9 q2 q3 => by rw [e_y5, Int.toNat_natCast] at h9; rcases (show L = x5.toNat ∨ x5.toNat < L ∨ L < x5.toNat by omega) with q | q | q; rw [q] at q2 q3 ⊢; omega; have := h2 L hL q q2 q3; omega; have := nx_max x5.toNat x2.toNat L h5.2.2 hL q; omega) (h3) (by rw [e_y5, Int.toNat_natCast]; have := nx_lt (L := x5.toNat) (S := x2.toNat) (by omega); omega)
                        · skip
                          refine wp_iload 6 C dX12_layAparts_113 rfl ?_
                          refine wp_goto (tgt := 120) C dX12_layAparts_115 (by decide) ?_
                          refine wp_istore (ls' := [(0, rv E 128), (1, iv k), (2, iv x2), (3, iv w3), (4, iv w6), (5, iv x5), (6, iv w6)]) [1, 2, 3, 4, 0, 5, 6] C dX12_layAparts_120 (by decide) rfl ?_
                          refine wp_iload 5 C dX12_layAparts_122 rfl ?_
                          refine wp_iconst (v := 1) C dX12_layAparts_124 rfl ?_
                          refine wp_isub C dX12_layAparts_125 ?_
                          refine wp_iload_n 2 C dX12_layAparts_126 rfl rfl ?_
                          refine wp_iand C dX12_layAparts_127 ?_
                          refine wp_top (show _ = (((x5.toNat - 1) &&& x2.toNat : Nat) : Int) by rw [← and_n (by omega) (by omega), hx2, show ((x5.toNat - 1 : Nat) : Int) = x5 - 1 by omega]) ?_
                          refine wp_nm (fun y5 e_y5 => ?_)
                          refine wp_istore (ls' := [(0, rv E 128), (1, iv k), (2, iv x2), (3, iv w3), (4, iv w6), (5, iv y5), (6, iv w6)]) [1, 2, 3, 4, 5, 0, 6] C dX12_layAparts_128 (by decide) rfl ?_
                          refine wp_goto (tgt := 67) C dX12_layAparts_130 (by decide) ?_
                          have hXl : ∀ L, sb L x2.toNat → L.testBit s = true → x2.toNat ^^^ L < x2.toNat := fun L hL hb9 => by
                            have q1 := x_tb (j := s) hL
                            have q3 := sb_le (sb_x hL)
                            rcases (show x2.toNat ^^^ L = x2.toNat ∨ x2.toNat ^^^ L < x2.toNat by omega) with z | z
                            · rw [z] at q1; exact absurd hb9 (q1.mp hs2).2
                            · exact z
                          refine wp_loc [0, 1, 2, 3, 4, 5] rfl ?_
                          exact ih9_67 w6 y5 (by omega) (by rw [e_y5]; have := nx_lt (L := x5.toNat) (S := x2.toNat) (by omega); exact ⟨by omega, by omega, by rw [Int.toNat_natCast]; exact nx_sb⟩) (by omega) (fun L hL h9 q2 q3 => by rw [e_y5, Int.toNat_natCast] at h9; rcases (show L = x5.toNat ∨ x5.toNat < L ∨ L < x5.toNat by omega) with q | q | q; rw [q] at q2 q3 ⊢; omega; have := h2 L hL q q2 q3; omega; have := nx_max x5.toNat x2.toNat L h5.2.2 hL q; omega) (Or.inr ⟨x5.toNat, h5.2.2, h76.mp c_76, (ht x5.toNat (by omega)).2.mp (by have := (ht x5.toNat (by omega)).1; omega), e_w6⟩) (by rw [e_y5, Int.toNat_natCast]; have := nx_lt (L := x5.toNat) (S := x2.toNat) (by omega); omega)
              have q67 : ∀ (x4 : Int) (x5 : Int), (0 ≤ x4 ∧ x4 ≤ 13) → (0 ≤ x5 ∧ x5 ≤ x2 ∧ sb x5.toNat x2.toNat) → ((hx 143 (x2.toNat ^^^ 2 ^ s)) ≤ x4) → (∀ L, sb L x2.toNat → x5.toNat < L → L.testBit s = true → teB N p n k L → (hx 143 (x2.toNat ^^^ L)) + 1 ≤ x4) → (bestQ (teB N p n k) (hx 143) x2.toNat s x4) → Wp G E 7 (fun v hx => v = none ∧ (∀ T, T < 2 ^ n → t01 (teB N p n k) (hx 144 T) T) ∧ (∀ T, T < 2 ^ n → mxP (teB N p n k) T (hx 143 T).toNat ∧ 0 ≤ hx 143 T ∧ hx 143 T ≤ 12) ∧ (∀ a b, a ≠ 143 → a ≠ 144 → hx a b = h a b)) 67 [(0, rv E 128), (1, iv k), (2, iv x2), (3, iv w3), (4, iv x4), (5, iv x5)] [] hx := fun x4 x5 hb h5 h1 h2 h3 => q670 _ x4 x5 hb h5 h1 h2 h3 (Nat.lt_succ_self _)
              exact q67 w4 x2 (by omega) (⟨by omega, by omega, sb_refl _⟩) (by omega) (fun L hL h9 => absurd (sb_le hL) (by omega)) (Or.inl e_w4)
        have q39 : ∀ (x2 : Int) (hx : Hp), (1 ≤ x2 ∧ x2 ≤ ((2 ^ n : Nat) : Int)) → (∀ T, T < 2 ^ n → t01 (teB N p n k) (hx 144 T) T) → (∀ T, T < x2.toNat → mxP (teB N p n k) T (hx 143 T).toNat ∧ 0 ≤ hx 143 T ∧ hx 143 T ≤ 12) → (∀ a b, a ≠ 143 → a ≠ 144 → hx a b = h a b) → Wp G E 7 (fun v hx => v = none ∧ (∀ T, T < 2 ^ n → t01 (teB N p n k) (hx 144 T) T) ∧ (∀ T, T < 2 ^ n → mxP (teB N p n k) T (hx 143 T).toNat ∧ 0 ≤ hx 143 T ∧ hx 143 T ≤ 12) ∧ (∀ a b, a ≠ 143 → a ≠ 144 → hx a b = h a b)) 39 [(0, rv E 128), (1, iv k), (2, iv x2)] [] hx := fun x2 hx hi ht ha hf => q390 _ x2 hx hi ht ha hf (Nat.lt_succ_self _)
        exact q39 1 H1 (by omega) (fun T hT => by rw [e_H1]; unfold upd2; rw [if_neg (by omega)]; exact ht T (by omega)) (fun T hT => by rw [show T = 0 by omega, e_H1]; show mxP _ 0 0 ∧ (0 : Int) ≤ 0 ∧ (0 : Int) ≤ 12; exact ⟨mx_0 hk.1, by decide, by decide⟩) (fun a b h1 h2 => by rw [e_H1]; unfold upd2; rw [if_neg (fun z => h1 z.1)]; exact hf a b h1 h2)
      · skip
        refine wp_aloadR_n 0 C dX12_layAparts_12 rfl rfl ?_
        refine wp_getR flX12_58 sh_128 rfl C dX12_layAparts_13 ?_
        refine wp_iload_n 2 C dX12_layAparts_16 rfl rfl ?_
        refine wp_aloadR_n 0 C dX12_layAparts_17 rfl rfl ?_
        refine wp_iload_n 2 C dX12_layAparts_18 rfl rfl ?_
        refine wp_iload_n 1 C dX12_layAparts_19 rfl rfl ?_
        refine wp_callVp (rest := [iv x2, rv E 144]) (c_isTen E hx n p N Sc Cl Cs Mx x2 k (by omega) (by omega)) svX12_185 sh_128 (by decide) rfl rfl (Nat.le_of_ble_eq_true rfl) C dX12_layAparts_20 ?_
        refine wp_zast sh_144 (by omega) (by first | exact bi_01 | omega) C dX12_layAparts_23 ?_
        obtain ⟨H4, e_H4⟩ : ∃ z : Hp, z = upd2 hx 144 x2.toNat (bi (cntB x2 20 = k ∧ sumB N x2 n % p = 0)) := ⟨_, rfl⟩
        refine wp_heq e_H4 ?_
        have hx2 : ((x2.toNat : Nat) : Int) = x2 := by omega
        have hcn : cntB x2 20 = cntB ((x2.toNat : Nat) : Int) n := by rw [← cntB_hi (S := x2.toNat) (n := n) (by omega) (by omega), hx2]
        obtain ⟨v5, e_v5⟩ : ∃ z : Int, z = x2 + (1) := ⟨_, rfl⟩
        refine wp_iinc (j := 2) (y := v5) (ls' := [(0, rv E 128), (1, iv k), (2, iv v5)]) [1, 2, 0] C dX12_layAparts_24 rfl e_v5 (by decide) rfl ?_
        refine wp_goto (tgt := 2) C dX12_layAparts_27 (by decide) ?_
        exact ih9_2 v5 H4 (by omega) (fun T hT => by rw [e_H4]; unfold upd2; by_cases w : T = x2.toNat; rw [if_pos ⟨rfl, w⟩, w]; refine And.intro bi_01 (bi_1.trans ?_); show (cntB x2 20 = k ∧ sumB N x2 n % p = 0) ↔ (cntB ((x2.toNat : Nat) : Int) n = k ∧ sumB N ((x2.toNat : Nat) : Int) n % p = 0); rw [hcn, hx2]; rw [if_neg (fun z => w z.2)]; exact ht T (by omega)) (fun a b h1 h2 => by rw [e_H4]; unfold upd2; rw [if_neg (fun z => h2 z.1)]; exact hf a b h1 h2) (by omega)
  have q2 : ∀ (x2 : Int) (hx : Hp), (0 ≤ x2 ∧ x2 ≤ ((2 ^ n : Nat) : Int)) → (∀ T, T < x2.toNat → t01 (teB N p n k) (hx 144 T) T) → (∀ a b, a ≠ 143 → a ≠ 144 → hx a b = h a b) → Wp G E 7 (fun v hx => v = none ∧ (∀ T, T < 2 ^ n → t01 (teB N p n k) (hx 144 T) T) ∧ (∀ T, T < 2 ^ n → mxP (teB N p n k) T (hx 143 T).toNat ∧ 0 ≤ hx 143 T ∧ hx 143 T ≤ 12) ∧ (∀ a b, a ≠ 143 → a ≠ 144 → hx a b = h a b)) 2 [(0, rv E 128), (1, iv k), (2, iv x2)] [] hx := fun x2 hx hi ht hf => q20 _ x2 hx hi ht hf (Nat.lt_succ_self _)
  exact q2 0 h (by omega) (fun T hT => absurd hT (by omega)) (fun a b _ _ => rfl)


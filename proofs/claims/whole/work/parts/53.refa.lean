/-! ===== the reference: apart ===== -/
def lastQ (te : Nat → Prop) (full A : Nat) (x6 x5 : Int) : Prop := 1 ≤ x6 → ∃ S, rowQ te full A (x6.toNat - 1) S ∧ fsP te S (A - (x6.toNat - 1) - 1) x5.toNat
set_option maxRecDepth 100000 in
set_option maxHeartbeats 4000000 in
theorem m_apart (E : En) (h : Hp) (n : Nat) (p : Int) (N Sc Cl Cs : Nat → Int) (M0 : MH h n p N Sc Cl Cs) (k i : Int) (hk : -2147483648 ≤ k ∧ k ≤ 2147483647) (hi : -2147483648 ≤ i ∧ i ≤ 2147483647) : Ct 5 yX12_apart cX12_apart 9 (some .int) E [rv E 128, iv k, iv i] h (fun v hx => (∃ a, v = some (iv a) ∧ apartP N p n k i a) ∧ (∀ a b, a ≠ 143 → a ≠ 144 → hx a b = h a b)) := by
  obtain ⟨m0, m1, m2, m3, mN, mS, mC, mK⟩ := id M0
  have Mx := M0
  have hP0 : 0 < 2 ^ n := Nat.pow_pos (by decide)
  have hpc : ((2 ^ n : Nat) : Int) = 2 ^ n := p2_cast n
  refine ct_intro (by decide) (Nat.le_of_ble_eq_true rfl) (fun G C => ?_)
  show Wp G E 9 (fun v hx => (∃ a, v = some (iv a) ∧ apartP N p n k i a) ∧ (∀ a b, a ≠ 143 → a ≠ 144 → hx a b = h a b)) 0 [(0, rv E 128), (1, iv k), (2, iv i)] [] h
  refine wp_iload_n 1 C dX12_apart_0 rfl rfl ?_
  refine wp_callSp (rest := []) (c_misSize E h k (by omega)) ssX12_198 (by decide) rfl rfl (Nat.le_of_ble_eq_true rfl) C dX12_apart_1 ?_
  refine wp_ifb_eq (tgt := 12) C dX12_apart_4 (by decide) (fun c_4 => ?_) (fun c_4 => ?_)
  · skip
    refine wp_bipush (v := (-3)) C dX12_apart_12 rfl ?_
    refine wp_iret C dX12_apart_14 ?_
    exact ⟨⟨-3, rfl, by unfold apartP; rw [if_pos (Or.inl c_4)]⟩, fun _ _ _ _ => rfl⟩
  · skip
    refine wp_iload_n 2 C dX12_apart_7 rfl rfl ?_
    refine wp_iconst (v := (-1)) C dX12_apart_8 rfl ?_
    refine wp_icmp_ge (tgt := 15) (by omega) (by omega) C dX12_apart_9 (by decide) (fun c_9 => ?_) (fun c_9 => ?_)
    · skip
      refine wp_aloadR_n 0 C dX12_apart_15 rfl rfl ?_
      refine wp_callVp (rest := []) (c_heaps E h n p N Sc Cl Cs Mx) svX12_141 sh_128 (by decide) rfl rfl (Nat.le_of_ble_eq_true rfl) C dX12_apart_16 ?_
      refine wp_bipush (v := 12) C dX12_apart_19 rfl ?_
      refine wp_icmp_le (tgt := 27) (by omega) (by omega) C dX12_apart_21 (by decide) (fun c_21 => ?_) (fun c_21 => ?_)
      · skip
        have hP12 : 2 ^ n ≤ 4096 := Nat.pow_le_pow_right (n := 2) (by decide) (show n ≤ 12 by omega)
        refine wp_aloadR_n 0 C dX12_apart_27 rfl rfl ?_
        refine wp_iload_n 1 C dX12_apart_28 rfl rfl ?_
        refine wp_callV (rest := []) (c_layAparts E h n p N Sc Cl Cs Mx k (by omega) (by omega)) svX12_265 sh_128 (by decide) rfl rfl (Nat.le_of_ble_eq_true rfl) C dX12_apart_29 (fun r0 hx pf => ?_)
        obtain ⟨rfl, ht, ha, hf⟩ := pf
        have Mx : MH hx n p N Sc Cl Cs := M0.of (fun b => ⟨hf _ _ (by decide) (by decide), hf _ _ (by decide) (by decide), hf _ _ (by decide) (by decide)⟩)
        refine wp_iconst (v := 1) C dX12_apart_32 rfl ?_
        refine wp_aloadR_n 0 C dX12_apart_33 rfl rfl ?_
        refine wp_callVp (rest := [iv 1]) (c_heaps E hx n p N Sc Cl Cs Mx) svX12_141 sh_128 (by decide) rfl rfl (Nat.le_of_ble_eq_true rfl) C dX12_apart_34 ?_
        refine wp_ishl (by omega) C dX12_apart_37 ?_
        refine wp_top (show _ = ((2 ^ n : Nat) : Int) by rw [Int.toNat_natCast, Int.one_mul, hpc]) ?_
        refine wp_iconst (v := 1) C dX12_apart_38 rfl ?_
        refine wp_isub C dX12_apart_39 ?_
        refine wp_nm (fun w3 e_w3 => ?_)
        refine wp_istore_n (ls' := [(0, rv E 128), (1, iv k), (2, iv i), (3, iv w3)]) [1, 2, 3, 0] C dX12_apart_40 rfl (by decide) rfl ?_
        have hw3 : w3.toNat = 2 ^ n - 1 := by omega
        have hAf := ha (2 ^ n - 1) (by omega)
        refine wp_aloadR_n 0 C dX12_apart_41 rfl rfl ?_
        refine wp_getR flX12_55 sh_128 rfl C dX12_apart_42 ?_
        refine wp_iload_n 3 C dX12_apart_45 rfl rfl ?_
        refine wp_iald sh_143 (by omega) C dX12_apart_46 ?_
        refine wp_top (show _ = hx 143 (2 ^ n - 1) by rw [hw3]) ?_
        refine wp_nm (fun w4 e_w4 => ?_)
        refine wp_istore (ls' := [(0, rv E 128), (1, iv k), (2, iv i), (3, iv w3), (4, iv w4)]) [1, 2, 3, 4, 0] C dX12_apart_47 (by decide) rfl ?_
        rw [← e_w4] at hAf
        have hA := hAf.1
        refine wp_iload_n 2 C dX12_apart_49 rfl rfl ?_
        refine wp_iconst (v := (-1)) C dX12_apart_50 rfl ?_
        refine wp_icmp_eq (tgt := 60) (by omega) (by omega) C dX12_apart_51 (by decide) (fun c_51 => ?_) (fun c_51 => ?_)
        · skip
          refine wp_iload_n 2 C dX12_apart_60 rfl rfl ?_
          refine wp_iconst (v := (-1)) C dX12_apart_61 rfl ?_
          refine wp_icmp_ne (tgt := 70) (by omega) (by omega) C dX12_apart_62 (by decide) (fun c_62 => ?_) (fun c_62 => ?_)
          · skip
            refine wp_iconst (v := (-1)) C dX12_apart_70 rfl ?_
            refine wp_iret C dX12_apart_71 ?_
            exact ⟨⟨-1, rfl, by unfold apartP; rw [if_neg (by omega), if_neg (by omega)]; exact ⟨w4.toNat, hA, Or.inr (Or.inl ⟨by omega, by omega⟩)⟩⟩, hf⟩
          · skip
            refine wp_iload 4 C dX12_apart_65 rfl ?_
            refine wp_goto (tgt := 71) C dX12_apart_67 (by decide) ?_
            refine wp_iret C dX12_apart_71 ?_
            exact ⟨⟨w4, rfl, by unfold apartP; rw [if_neg (by omega), if_neg (by omega)]; exact ⟨w4.toNat, hA, Or.inl ⟨by omega, by omega⟩⟩⟩, hf⟩
        · skip
          refine wp_iload_n 2 C dX12_apart_54 rfl rfl ?_
          refine wp_iload 4 C dX12_apart_55 rfl ?_
          refine wp_icmp_lt (tgt := 72) (by omega) (by omega) C dX12_apart_57 (by decide) (fun c_57 => ?_) (fun c_57 => ?_)
          · skip
            refine wp_iconst (v := 0) C dX12_apart_72 rfl ?_
            refine wp_istore (ls' := [(0, rv E 128), (1, iv k), (2, iv i), (3, iv w3), (4, iv w4), (5, iv 0)]) [1, 2, 3, 4, 5, 0] C dX12_apart_73 (by decide) rfl ?_
            refine wp_iconst (v := 0) C dX12_apart_75 rfl ?_
            refine wp_istore (ls' := [(0, rv E 128), (1, iv k), (2, iv i), (3, iv w3), (4, iv w4), (5, iv 0), (6, iv 0)]) [1, 2, 3, 4, 5, 6, 0] C dX12_apart_76 (by decide) rfl ?_
            have q780 : ∀ n9 : Nat, ∀ (x3 : Int) (x5 : Int) (x6 : Int), (0 ≤ x6 ∧ x6 ≤ i + 1) → (0 ≤ x3 ∧ x3 < ((2 ^ n : Nat) : Int)) → (rowQ (teB N p n k) (2 ^ n - 1) w4.toNat x6.toNat x3.toNat) → (mxP (teB N p n k) x3.toNat (w4.toNat - x6.toNat)) → (0 ≤ x5 ∧ x5 < ((2 ^ n : Nat) : Int) ∧ lastQ (teB N p n k) (2 ^ n - 1) w4.toNat x6 x5) → (i + 1 - x6).toNat < n9 → Wp G E 9 (fun v hx => (∃ a, v = some (iv a) ∧ apartP N p n k i a) ∧ (∀ a b, a ≠ 143 → a ≠ 144 → hx a b = h a b)) 78 [(0, rv E 128), (1, iv k), (2, iv i), (3, iv x3), (4, iv w4), (5, iv x5), (6, iv x6)] [] hx := by
              intro n9
              induction n9 with
              | zero => intro x3 x5 x6 h6 h3 hrow hmx h5 hm9; exact absurd hm9 (Nat.not_lt_zero _)
              | succ n9 ih9 =>
                intro x3 x5 x6 h6 h3 hrow hmx h5 hm9
                have ih9_78 := ih9
                have hx3 : ((x3.toNat : Nat) : Int) = x3 := by omega
                refine wp_iload 6 C dX12_apart_78 rfl ?_
                refine wp_iload_n 2 C dX12_apart_80 rfl rfl ?_
                refine wp_icmp_gt (tgt := 174) (by omega) (by omega) C dX12_apart_81 (by decide) (fun c_81 => ?_) (fun c_81 => ?_)
                · skip
                  refine wp_iload 5 C dX12_apart_174 rfl ?_
                  refine wp_iret C dX12_apart_176 ?_
                  obtain ⟨S9, g1, g2⟩ := h5.2.2 (by omega)
                  exact ⟨⟨x5, rfl, by unfold apartP; rw [if_neg (by omega), if_neg (by omega)]; exact ⟨w4.toNat, hA, Or.inr (Or.inr ⟨by omega, by omega, S9, x5.toNat, by rw [show i.toNat = x6.toNat - 1 by omega]; exact g1, by rw [show i.toNat = x6.toNat - 1 by omega]; exact g2, by omega⟩)⟩⟩, hf⟩
                · skip
                  refine wp_iconst (v := 0) C dX12_apart_84 rfl ?_
                  refine wp_istore (ls' := [(0, rv E 128), (1, iv k), (2, iv i), (3, iv x3), (4, iv w4), (5, iv x5), (6, iv x6), (7, iv 0)]) [1, 2, 3, 4, 5, 6, 7, 0] C dX12_apart_85 (by decide) rfl ?_
                  refine wp_iload_n 3 C dX12_apart_87 rfl rfl ?_
                  refine wp_istore (ls' := [(0, rv E 128), (1, iv k), (2, iv i), (3, iv x3), (4, iv w4), (5, iv x5), (6, iv x6), (7, iv 0), (8, iv x3)]) [1, 2, 3, 4, 5, 6, 7, 8, 0] C dX12_apart_88 (by decide) rfl ?_
                  have q900 : ∀ n9 : Nat, ∀ (x7 : Int) (x8 : Int), (0 ≤ x8 ∧ x8 ≤ x3 ∧ sb x8.toNat x3.toNat) → (0 ≤ x7 ∧ x7 < ((2 ^ n : Nat) : Int)) → ((x7 = 0 ∧ ∀ L, x8.toNat < L → ¬ elg (teB N p n k) x3.toNat (w4.toNat - x6.toNat - 1) L) ∨ (elg (teB N p n k) x3.toNat (w4.toNat - x6.toNat - 1) x7.toNat ∧ ∀ L, x8.toNat < L → elg (teB N p n k) x3.toNat (w4.toNat - x6.toNat - 1) L → L = x7.toNat ∨ ahd x7.toNat L)) → x8.toNat < n9 → Wp G E 9 (fun v hx => (∃ a, v = some (iv a) ∧ apartP N p n k i a) ∧ (∀ a b, a ≠ 143 → a ≠ 144 → hx a b = h a b)) 90 [(0, rv E 128), (1, iv k), (2, iv i), (3, iv x3), (4, iv w4), (5, iv x5), (6, iv x6), (7, iv x7), (8, iv x8)] [] hx := by
                    intro n9
                    induction n9 with
                    | zero => intro x7 x8 h8 h7 hb hm9; exact absurd hm9 (Nat.not_lt_zero _)
                    | succ n9 ih9 =>
                      intro x7 x8 h8 h7 hb hm9
                      have ih9_90 := ih9
                      have hk20 : 1 ≤ k ∧ k ≤ 20 := by omega
                      have hx8 : ((x8.toNat : Nat) : Int) = x8 := by omega
                      have hx7 : ((x7.toNat : Nat) : Int) = x7 := by omega
                      refine wp_iload 8 C dX12_apart_90 rfl ?_
                      refine wp_if_le (tgt := 159) (by omega) C dX12_apart_92 (by decide) (fun c_92 => ?_) (fun c_92 => ?_)
                      · skip
                        have hfs : fsP (teB N p n k) x3.toNat (w4.toNat - x6.toNat - 1) x7.toNat := by
                          obtain ⟨L0, hL0⟩ := elg_ex (r := (w4.toNat - x6.toNat - 1)) (by rw [show (w4.toNat - x6.toNat - 1) + 1 = w4.toNat - x6.toNat by omega]; exact hmx)
                          rcases hb with ⟨z1, z2⟩ | ⟨z1, z2⟩
                          · exact absurd hL0 (z2 L0 (by have := te_ne hk20.1 hL0.2.1; omega))
                          · exact ⟨z1, fun L hL => z2 L (by have := te_ne hk20.1 hL.2.1; omega) hL⟩
                        refine wp_iload 7 C dX12_apart_159 rfl ?_
                        refine wp_istore (ls' := [(0, rv E 128), (1, iv k), (2, iv i), (3, iv x3), (4, iv w4), (5, iv x7), (6, iv x6), (7, iv x7), (8, iv x8)]) [1, 2, 3, 4, 5, 0, 6, 7, 8] C dX12_apart_161 (by decide) rfl ?_
                        refine wp_iload_n 3 C dX12_apart_163 rfl rfl ?_
                        refine wp_iload 5 C dX12_apart_164 rfl ?_
                        refine wp_ixor C dX12_apart_166 ?_
                        refine wp_top (show _ = ((x3.toNat ^^^ x7.toNat : Nat) : Int) by rw [← bXor_N (by omega) (by omega), hx3, hx7]) ?_
                        refine wp_nm (fun y3 e_y3 => ?_)
                        refine wp_istore_n (ls' := [(0, rv E 128), (1, iv k), (2, iv i), (3, iv y3), (4, iv w4), (5, iv x7), (6, iv x6), (7, iv x7), (8, iv x8)]) [1, 2, 3, 0, 4, 5, 6, 7, 8] C dX12_apart_167 rfl (by decide) rfl ?_
                        obtain ⟨y6, e_y6⟩ : ∃ z : Int, z = x6 + (1) := ⟨_, rfl⟩
                        refine wp_iinc (j := 6) (y := y6) (ls' := [(0, rv E 128), (1, iv k), (2, iv i), (3, iv y3), (4, iv w4), (5, iv x7), (6, iv y6), (7, iv x7), (8, iv x8)]) [1, 2, 3, 4, 5, 6, 0, 7, 8] C dX12_apart_168 rfl e_y6 (by decide) rfl ?_
                        refine wp_goto (tgt := 78) C dX12_apart_171 (by decide) ?_
                        refine wp_loc [0, 1, 2, 3, 4, 5, 6] rfl ?_
                        exact ih9_78 y3 x7 y6 (by omega) (by rw [e_y3]; have := x_xb (S := x3.toNat) (L := x7.toNat) (n := n) (by omega) (by omega); omega) (by rw [e_y3, e_y6, show (x6 + 1).toNat = x6.toNat + 1 by omega, Int.toNat_natCast]; exact ⟨_, _, hrow, hfs, rfl⟩) (by rw [e_y3, e_y6, show (x6 + 1).toNat = x6.toNat + 1 by omega, Int.toNat_natCast, show w4.toNat - (x6.toNat + 1) = w4.toNat - x6.toNat - 1 by omega]; exact hfs.1.2.2) (⟨by omega, by omega, fun _ => ⟨x3.toNat, by rw [e_y6, show (x6 + 1).toNat = x6.toNat + 1 by omega, Nat.add_sub_cancel]; exact hrow, by rw [e_y6, show (x6 + 1).toNat = x6.toNat + 1 by omega, Nat.add_sub_cancel]; exact hfs⟩⟩) (by omega)
                      · skip
                        have hXL := x_xb (S := x3.toNat) (L := x8.toNat) (n := n) (by omega) (by omega)
                        have hA8 := ha _ hXL
                        have ht8 := ht x8.toNat (by omega)
                        have hgt : ∀ L, ((x8.toNat - 1) &&& x3.toNat) < L → elg (teB N p n k) x3.toNat (w4.toNat - x6.toNat - 1) L → L = x8.toNat ∨ x8.toNat < L := fun L hL e => by
                          rcases (show L = x8.toNat ∨ x8.toNat < L ∨ L < x8.toNat by omega) with q | q | q
                          · exact Or.inl q
                          · exact Or.inr q
                          · have := nx_max x8.toNat x3.toNat L h8.2.2 e.1 q; omega
                        have hE : elg (teB N p n k) x3.toNat (w4.toNat - x6.toNat - 1) x8.toNat ↔ hx 144 x8.toNat = 1 ∧ hx 143 (x3.toNat ^^^ x8.toNat) = w4 - x6 - 1 := by
                          constructor
                          · rintro ⟨z1, z2, z3⟩
                            have z4 := mxP_uniq z3 hA8.1
                            exact ⟨ht8.2.mpr z2, by omega⟩
                          · rintro ⟨z1, z2⟩
                            refine ⟨h8.2.2, ht8.2.mp z1, ?_⟩
                            have z5 := hA8.1
                            rw [show (hx 143 (x3.toNat ^^^ x8.toNat)).toNat = w4.toNat - x6.toNat - 1 by omega] at z5
                            exact z5
                        refine wp_aloadR_n 0 C dX12_apart_95 rfl rfl ?_
                        refine wp_getR flX12_58 sh_128 rfl C dX12_apart_96 ?_
                        refine wp_iload 8 C dX12_apart_99 rfl ?_
                        refine wp_zald sh_144 (by omega) C dX12_apart_101 ?_
                        have ht81 := ht8.1
                        refine wp_if_eq (tgt := 144) (by omega) C dX12_apart_102 (by decide) (fun c_102 => ?_) (fun c_102 => ?_)
                        · skip
                          refine wp_iload 7 C dX12_apart_144 rfl ?_
                          refine wp_istore (ls' := [(0, rv E 128), (1, iv k), (2, iv i), (3, iv x3), (4, iv w4), (5, iv x5), (6, iv x6), (7, iv x7), (8, iv x8)]) [1, 2, 3, 4, 5, 6, 7, 0, 8] C dX12_apart_146 (by decide) rfl ?_
                          refine wp_iload 8 C dX12_apart_148 rfl ?_
                          refine wp_iconst (v := 1) C dX12_apart_150 rfl ?_
                          refine wp_isub C dX12_apart_151 ?_
                          refine wp_iload_n 3 C dX12_apart_152 rfl rfl ?_
                          refine wp_iand C dX12_apart_153 ?_
                          refine wp_top (show _ = (((x8.toNat - 1) &&& x3.toNat : Nat) : Int) by rw [← and_n (by omega) (by omega), hx3, show ((x8.toNat - 1 : Nat) : Int) = x8 - 1 by omega]) ?_
                          refine wp_nm (fun y8 e_y8 => ?_)
                          refine wp_istore (ls' := [(0, rv E 128), (1, iv k), (2, iv i), (3, iv x3), (4, iv w4), (5, iv x5), (6, iv x6), (7, iv x7), (8, iv y8)]) [1, 2, 3, 4, 5, 6, 7, 8, 0] C dX12_apart_154 (by decide) rfl ?_
                          refine wp_goto (tgt := 90) C dX12_apart_156 (by decide) ?_
                          exact ih9_90 x7 y8 (by rw [e_y8]; have := nx_lt (L := x8.toNat) (S := x3.toNat) (by omega); exact ⟨by omega, by omega, by rw [Int.toNat_natCast]; exact nx_sb⟩) (by omega) (by rw [e_y8, Int.toNat_natCast]; exact hb.elim (fun z => Or.inl ⟨z.1, fun L hL e => (hgt L hL e).elim (fun q => absurd (hE.mp (q ▸ e)).1 (by omega)) (fun q => z.2 L q e)⟩) (fun z => Or.inr ⟨z.1, fun L hL e => (hgt L hL e).elim (fun q => absurd (hE.mp (q ▸ e)).1 (by omega)) (fun q => z.2 L q e)⟩)) (by rw [e_y8, Int.toNat_natCast]; have := nx_lt (L := x8.toNat) (S := x3.toNat) (by omega); omega)
                        · skip
                          refine wp_aloadR_n 0 C dX12_apart_105 rfl rfl ?_
                          refine wp_getR flX12_55 sh_128 rfl C dX12_apart_106 ?_
                          refine wp_iload_n 3 C dX12_apart_109 rfl rfl ?_
                          refine wp_iload 8 C dX12_apart_110 rfl ?_
                          refine wp_ixor C dX12_apart_112 ?_
                          refine wp_top (show _ = ((x3.toNat ^^^ x8.toNat : Nat) : Int) by rw [← bXor_N (by omega) (by omega), hx3, hx8]) ?_
                          refine wp_iald sh_143 (by omega) C dX12_apart_113 ?_
                          refine wp_top (show _ = hx 143 (x3.toNat ^^^ x8.toNat) by rw [Int.toNat_natCast]) ?_
                          refine wp_iload 4 C dX12_apart_114 rfl ?_
                          refine wp_iload 6 C dX12_apart_116 rfl ?_
                          refine wp_isub C dX12_apart_118 ?_
                          refine wp_iconst (v := 1) C dX12_apart_119 rfl ?_
                          refine wp_isub C dX12_apart_120 ?_
                          refine wp_icmp_ne (tgt := 144) (by omega) (by omega) C dX12_apart_121 (by decide) (fun c_121 => ?_) (fun c_121 => ?_)
                          · skip
                            refine wp_iload 7 C dX12_apart_144 rfl ?_
                            refine wp_istore (ls' := [(0, rv E 128), (1, iv k), (2, iv i), (3, iv x3), (4, iv w4), (5, iv x5), (6, iv x6), (7, iv x7), (8, iv x8)]) [1, 2, 3, 4, 5, 6, 7, 0, 8] C dX12_apart_146 (by decide) rfl ?_
                            refine wp_iload 8 C dX12_apart_148 rfl ?_
                            refine wp_iconst (v := 1) C dX12_apart_150 rfl ?_
                            refine wp_isub C dX12_apart_151 ?_
                            refine wp_iload_n 3 C dX12_apart_152 rfl rfl ?_
                            refine wp_iand C dX12_apart_153 ?_
                            refine wp_top (show _ = (((x8.toNat - 1) &&& x3.toNat : Nat) : Int) by rw [← and_n (by omega) (by omega), hx3, show ((x8.toNat - 1 : Nat) : Int) = x8 - 1 by omega]) ?_
                            refine wp_nm (fun y8 e_y8 => ?_)
                            refine wp_istore (ls' := [(0, rv E 128), (1, iv k), (2, iv i), (3, iv x3), (4, iv w4), (5, iv x5), (6, iv x6), (7, iv x7), (8, iv y8)]) [1, 2, 3, 4, 5, 6, 7, 8, 0] C dX12_apart_154 (by decide) rfl ?_
                            refine wp_goto (tgt := 90) C dX12_apart_156 (by decide) ?_
                            exact ih9_90 x7 y8 (by rw [e_y8]; have := nx_lt (L := x8.toNat) (S := x3.toNat) (by omega); exact ⟨by omega, by omega, by rw [Int.toNat_natCast]; exact nx_sb⟩) (by omega) (by rw [e_y8, Int.toNat_natCast]; exact hb.elim (fun z => Or.inl ⟨z.1, fun L hL e => (hgt L hL e).elim (fun q => absurd (hE.mp (q ▸ e)).2 c_121) (fun q => z.2 L q e)⟩) (fun z => Or.inr ⟨z.1, fun L hL e => (hgt L hL e).elim (fun q => absurd (hE.mp (q ▸ e)).2 c_121) (fun q => z.2 L q e)⟩)) (by rw [e_y8, Int.toNat_natCast]; have := nx_lt (L := x8.toNat) (S := x3.toNat) (by omega); omega)
                          · skip
                            have hel : elg (teB N p n k) x3.toNat (w4.toNat - x6.toNat - 1) x8.toNat := hE.mpr ⟨by have := ht8.1; omega, c_121⟩
                            refine wp_iload 7 C dX12_apart_124 rfl ?_
                            refine wp_if_eq (tgt := 139) (by omega) C dX12_apart_126 (by decide) (fun c_126 => ?_) (fun c_126 => ?_)
                            · skip
                              refine wp_iload 8 C dX12_apart_139 rfl ?_
                              refine wp_goto (tgt := 146) C dX12_apart_141 (by decide) ?_
                              refine wp_istore (ls' := [(0, rv E 128), (1, iv k), (2, iv i), (3, iv x3), (4, iv w4), (5, iv x5), (6, iv x6), (7, iv x8), (8, iv x8)]) [1, 2, 3, 4, 5, 6, 7, 0, 8] C dX12_apart_146 (by decide) rfl ?_
                              refine wp_iload 8 C dX12_apart_148 rfl ?_
                              refine wp_iconst (v := 1) C dX12_apart_150 rfl ?_
                              refine wp_isub C dX12_apart_151 ?_
                              refine wp_iload_n 3 C dX12_apart_152 rfl rfl ?_
                              refine wp_iand C dX12_apart_153 ?_
                              refine wp_top (show _ = (((x8.toNat - 1) &&& x3.toNat : Nat) : Int) by rw [← and_n (by omega) (by omega), hx3, show ((x8.toNat - 1 : Nat) : Int) = x8 - 1 by omega]) ?_
                              refine wp_nm (fun y8 e_y8 => ?_)
                              refine wp_istore (ls' := [(0, rv E 128), (1, iv k), (2, iv i), (3, iv x3), (4, iv w4), (5, iv x5), (6, iv x6), (7, iv x8), (8, iv y8)]) [1, 2, 3, 4, 5, 6, 7, 8, 0] C dX12_apart_154 (by decide) rfl ?_
                              refine wp_goto (tgt := 90) C dX12_apart_156 (by decide) ?_
                              exact ih9_90 x8 y8 (by rw [e_y8]; have := nx_lt (L := x8.toNat) (S := x3.toNat) (by omega); exact ⟨by omega, by omega, by rw [Int.toNat_natCast]; exact nx_sb⟩) (by omega) (by rw [e_y8, Int.toNat_natCast]; exact hb.elim (fun z => Or.inr ⟨hel, fun L hL e => (hgt L hL e).elim Or.inl (fun q => absurd e (z.2 L q))⟩) (fun z => absurd (te_ne hk20.1 z.1.2.1) (by omega))) (by rw [e_y8, Int.toNat_natCast]; have := nx_lt (L := x8.toNat) (S := x3.toNat) (by omega); omega)
                            · skip
                              refine wp_iload 8 C dX12_apart_129 rfl ?_
                              refine wp_iload 7 C dX12_apart_131 rfl ?_
                              refine wp_callSp (rest := []) (c_misAhead E hx x8 x7 (by omega) (by omega) (ahdB x8.toNat x7.toNat = true) (ahdB_iff (by omega) (by omega))) ssX12_268 (by decide) rfl rfl (Nat.le_of_ble_eq_true rfl) C dX12_apart_133 ?_
                              refine wp_ifb_eq (tgt := 144) C dX12_apart_136 (by decide) (fun c_136 => ?_) (fun c_136 => ?_)
                              · skip
                                refine wp_iload 7 C dX12_apart_144 rfl ?_
                                have hna : ¬ ahd x8.toNat x7.toNat := fun z => c_136 ((ahdB_iff (by omega) (by omega)).mpr z)
                                refine wp_istore (ls' := [(0, rv E 128), (1, iv k), (2, iv i), (3, iv x3), (4, iv w4), (5, iv x5), (6, iv x6), (7, iv x7), (8, iv x8)]) [1, 2, 3, 4, 5, 6, 7, 0, 8] C dX12_apart_146 (by decide) rfl ?_
                                refine wp_iload 8 C dX12_apart_148 rfl ?_
                                refine wp_iconst (v := 1) C dX12_apart_150 rfl ?_
                                refine wp_isub C dX12_apart_151 ?_
                                refine wp_iload_n 3 C dX12_apart_152 rfl rfl ?_
                                refine wp_iand C dX12_apart_153 ?_
                                refine wp_top (show _ = (((x8.toNat - 1) &&& x3.toNat : Nat) : Int) by rw [← and_n (by omega) (by omega), hx3, show ((x8.toNat - 1 : Nat) : Int) = x8 - 1 by omega]) ?_
                                refine wp_nm (fun y8 e_y8 => ?_)
                                refine wp_istore (ls' := [(0, rv E 128), (1, iv k), (2, iv i), (3, iv x3), (4, iv w4), (5, iv x5), (6, iv x6), (7, iv x7), (8, iv y8)]) [1, 2, 3, 4, 5, 6, 7, 8, 0] C dX12_apart_154 (by decide) rfl ?_
                                refine wp_goto (tgt := 90) C dX12_apart_156 (by decide) ?_
                                exact ih9_90 x7 y8 (by rw [e_y8]; have := nx_lt (L := x8.toNat) (S := x3.toNat) (by omega); exact ⟨by omega, by omega, by rw [Int.toNat_natCast]; exact nx_sb⟩) (by omega) (by rw [e_y8, Int.toNat_natCast]; exact hb.elim (fun z => absurd z.1 c_126) (fun z => Or.inr ⟨z.1, fun L hL e => (hgt L hL e).elim (fun q => if w : L = x7.toNat then Or.inl w else Or.inr ((ahd_total w).resolve_left (fun y => hna (q ▸ y)))) (fun q => z.2 L q e)⟩)) (by rw [e_y8, Int.toNat_natCast]; have := nx_lt (L := x8.toNat) (S := x3.toNat) (by omega); omega)
                              · skip
                                refine wp_iload 8 C dX12_apart_139 rfl ?_
                                refine wp_goto (tgt := 146) C dX12_apart_141 (by decide) ?_
                                have haa : ahd x8.toNat x7.toNat := (ahdB_iff (by omega) (by omega)).mp c_136
                                refine wp_istore (ls' := [(0, rv E 128), (1, iv k), (2, iv i), (3, iv x3), (4, iv w4), (5, iv x5), (6, iv x6), (7, iv x8), (8, iv x8)]) [1, 2, 3, 4, 5, 6, 7, 0, 8] C dX12_apart_146 (by decide) rfl ?_
                                refine wp_iload 8 C dX12_apart_148 rfl ?_
                                refine wp_iconst (v := 1) C dX12_apart_150 rfl ?_
                                refine wp_isub C dX12_apart_151 ?_
                                refine wp_iload_n 3 C dX12_apart_152 rfl rfl ?_
                                refine wp_iand C dX12_apart_153 ?_
                                refine wp_top (show _ = (((x8.toNat - 1) &&& x3.toNat : Nat) : Int) by rw [← and_n (by omega) (by omega), hx3, show ((x8.toNat - 1 : Nat) : Int) = x8 - 1 by omega]) ?_
                                refine wp_nm (fun y8 e_y8 => ?_)
                                refine wp_istore (ls' := [(0, rv E 128), (1, iv k), (2, iv i), (3, iv x3), (4, iv w4), (5, iv x5), (6, iv x6), (7, iv x8), (8, iv y8)]) [1, 2, 3, 4, 5, 6, 7, 8, 0] C dX12_apart_154 (by decide) rfl ?_
                                refine wp_goto (tgt := 90) C dX12_apart_156 (by decide) ?_
                                exact ih9_90 x8 y8 (by rw [e_y8]; have := nx_lt (L := x8.toNat) (S := x3.toNat) (by omega); exact ⟨by omega, by omega, by rw [Int.toNat_natCast]; exact nx_sb⟩) (by omega) (by rw [e_y8, Int.toNat_natCast]; exact hb.elim (fun z => absurd z.1 c_126) (fun z => Or.inr ⟨hel, fun L hL e => (hgt L hL e).elim Or.inl (fun q => Or.inr ((z.2 L q e).elim (fun w => w ▸ haa) (fun w => ahd_trans haa w)))⟩)) (by rw [e_y8, Int.toNat_natCast]; have := nx_lt (L := x8.toNat) (S := x3.toNat) (by omega); omega)
                  have q90 : ∀ (x7 : Int) (x8 : Int), (0 ≤ x8 ∧ x8 ≤ x3 ∧ sb x8.toNat x3.toNat) → (0 ≤ x7 ∧ x7 < ((2 ^ n : Nat) : Int)) → ((x7 = 0 ∧ ∀ L, x8.toNat < L → ¬ elg (teB N p n k) x3.toNat (w4.toNat - x6.toNat - 1) L) ∨ (elg (teB N p n k) x3.toNat (w4.toNat - x6.toNat - 1) x7.toNat ∧ ∀ L, x8.toNat < L → elg (teB N p n k) x3.toNat (w4.toNat - x6.toNat - 1) L → L = x7.toNat ∨ ahd x7.toNat L)) → Wp G E 9 (fun v hx => (∃ a, v = some (iv a) ∧ apartP N p n k i a) ∧ (∀ a b, a ≠ 143 → a ≠ 144 → hx a b = h a b)) 90 [(0, rv E 128), (1, iv k), (2, iv i), (3, iv x3), (4, iv w4), (5, iv x5), (6, iv x6), (7, iv x7), (8, iv x8)] [] hx := fun x7 x8 h8 h7 hb => q900 _ x7 x8 h8 h7 hb (Nat.lt_succ_self _)
                  exact q90 0 x3 (⟨by omega, by omega, sb_refl _⟩) (by omega) (Or.inl ⟨rfl, fun L hL z => absurd (sb_le z.1) (by omega)⟩)
            have q78 : ∀ (x3 : Int) (x5 : Int) (x6 : Int), (0 ≤ x6 ∧ x6 ≤ i + 1) → (0 ≤ x3 ∧ x3 < ((2 ^ n : Nat) : Int)) → (rowQ (teB N p n k) (2 ^ n - 1) w4.toNat x6.toNat x3.toNat) → (mxP (teB N p n k) x3.toNat (w4.toNat - x6.toNat)) → (0 ≤ x5 ∧ x5 < ((2 ^ n : Nat) : Int) ∧ lastQ (teB N p n k) (2 ^ n - 1) w4.toNat x6 x5) → Wp G E 9 (fun v hx => (∃ a, v = some (iv a) ∧ apartP N p n k i a) ∧ (∀ a b, a ≠ 143 → a ≠ 144 → hx a b = h a b)) 78 [(0, rv E 128), (1, iv k), (2, iv i), (3, iv x3), (4, iv w4), (5, iv x5), (6, iv x6)] [] hx := fun x3 x5 x6 h6 h3 hrow hmx h5 => q780 _ x3 x5 x6 h6 h3 hrow hmx h5 (Nat.lt_succ_self _)
            exact q78 w3 0 0 (by omega) (by omega) (by show w3.toNat = 2 ^ n - 1; exact hw3) (by rw [hw3]; exact hA) (⟨by omega, by omega, fun z => absurd z (by omega)⟩)
          · skip
            refine wp_iload_n 2 C dX12_apart_60 rfl rfl ?_
            refine wp_iconst (v := (-1)) C dX12_apart_61 rfl ?_
            refine wp_icmp_ne (tgt := 70) (by omega) (by omega) C dX12_apart_62 (by decide) (fun c_62 => ?_) (fun c_62 => ?_)
            · skip
              refine wp_iconst (v := (-1)) C dX12_apart_70 rfl ?_
              refine wp_iret C dX12_apart_71 ?_
              exact ⟨⟨-1, rfl, by unfold apartP; rw [if_neg (by omega), if_neg (by omega)]; exact ⟨w4.toNat, hA, Or.inr (Or.inl ⟨by omega, by omega⟩)⟩⟩, hf⟩
            · skip
              refine wp_iload 4 C dX12_apart_65 rfl ?_
              refine wp_goto (tgt := 71) C dX12_apart_67 (by decide) ?_
              refine wp_iret C dX12_apart_71 ?_
              exact ⟨⟨w4, rfl, by unfold apartP; rw [if_neg (by omega), if_neg (by omega)]; exact ⟨w4.toNat, hA, Or.inl ⟨by omega, by omega⟩⟩⟩, hf⟩
      · skip
        refine wp_bipush (v := (-4)) C dX12_apart_24 rfl ?_
        refine wp_iret C dX12_apart_26 ?_
        exact ⟨⟨-4, rfl, by unfold apartP; rw [if_neg (by omega), if_pos (by omega)]⟩, fun _ _ _ _ => rfl⟩
    · skip
      refine wp_bipush (v := (-3)) C dX12_apart_12 rfl ?_
      refine wp_iret C dX12_apart_14 ?_
      exact ⟨⟨-3, rfl, by unfold apartP; rw [if_pos (Or.inr (by omega))]⟩, fun _ _ _ _ => rfl⟩


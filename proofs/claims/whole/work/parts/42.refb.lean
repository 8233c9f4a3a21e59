/-! ===== the reference: badly ===== -/
def prN (S : Nat → Nat) : Nat → Nat
  | 0 => 1
  | q + 1 => prN S q * (S q + 1)
theorem prN_pos {S : Nat → Nat} : ∀ q : Nat, 0 < prN S q
  | 0 => Nat.one_pos
  | q + 1 => Nat.mul_pos (prN_pos q) (Nat.succ_pos _)
theorem prN_dvd {S : Nat → Nat} {r : Nat} : ∀ q : Nat, r ≤ q → prN S r ∣ prN S q
  | 0, h => by rw [show r = 0 by omega]; exact Nat.dvd_refl _
  | q + 1, h => by
    rcases (show r = q + 1 ∨ r ≤ q by omega) with z | z
    · rw [z]; exact Nat.dvd_refl _
    · exact Nat.dvd_trans (prN_dvd q z) (Nat.dvd_mul_right _ _)
theorem prN_le {S : Nat → Nat} (h : ∀ r, S r ≤ 20) : ∀ q : Nat, prN S q ≤ 21 ^ q
  | 0 => Nat.le_refl 1
  | q + 1 => by
    have h1 := prN_le h q
    have h2 := h q
    rw [prN, Nat.pow_succ]
    exact Nat.mul_le_mul h1 (by omega)
/-- the digits of a number -/
def dgF (S : Nat → Nat) (v : Nat) : Nat → Nat := fun r => v / prN S r % (S r + 1)
theorem dgF_le {S : Nat → Nat} {v r : Nat} : dgF S v r ≤ S r := by
  have := Nat.mod_lt (v / prN S r) (show 0 < S r + 1 by omega)
  unfold dgF
  omega
theorem dgF_enc {S g : Nat → Nat} : ∀ q : Nat, (∀ r, r < q → g r ≤ S r) → ∃ v, v < prN S q ∧ ∀ r, r < q → dgF S v r = g r
  | 0, _ => ⟨0, Nat.one_pos, fun r hr => absurd hr (by omega)⟩
  | q + 1, h => by
    obtain ⟨v, h1, h2⟩ := dgF_enc q (fun r hr => h r (by omega))
    have hg := h q (by omega)
    refine ⟨v + prN S q * g q, ?_, fun r hr => ?_⟩
    · rw [prN]
      have : prN S q * (g q + 1) ≤ prN S q * (S q + 1) := Nat.mul_le_mul_left _ (by omega)
      rw [Nat.mul_add] at this
      omega
    · unfold dgF
      by_cases hq : r = q
      · rw [hq, Nat.add_mul_div_left _ _ (prN_pos q), Nat.div_eq_of_lt h1, Nat.zero_add]
        exact Nat.mod_eq_of_lt (by omega)
      · obtain ⟨X, hX⟩ := prN_dvd (S := S) (r := r + 1) q (by omega)
        rw [hX, prN, Nat.mul_assoc, Nat.mul_assoc, Nat.add_mul_div_left _ _ (prN_pos r), Nat.add_mul_mod_self_left]
        exact h2 r (by omega)
theorem noT_congr {p : Int} {k : Nat} {f g : Nat → Nat} (h : ∀ r, r < p.toNat → f r = g r) : noT p k f ↔ noT p k g := by
  unfold noT
  rw [expd_congr p.toNat h]
theorem bad_ref {S : Nat → Nat} {p best : Int} {k : Nat} (hk : 1 ≤ k) (h1 : best = 0 ∨ ∃ v, noT p k (dgF S v) ∧ best = (sN (dgF S v) p.toNat : Int)) (h2 : ∀ v, v < prN S p.toNat → noT p k (dgF S v) → (sN (dgF S v) p.toNat : Int) ≤ best) : badP S p k best := by
  refine ⟨?_, fun g hg => ?_⟩
  · rcases h1 with z | ⟨v, z1, z2⟩
    · exact ⟨fun _ => 0, ⟨fun _ _ => Nat.zero_le _, noT_0 hk⟩, by rw [z, sN_0]; rfl⟩
    · exact ⟨dgF S v, ⟨fun r _ => dgF_le, z1⟩, z2⟩
  · obtain ⟨v, v1, v2⟩ := dgF_enc p.toNat hg.1
    rw [← sN_congr p.toNat v2]
    exact h2 v v1 ((noT_congr v2).mpr hg.2)
theorem tm_nat {x : Int} {a b : Nat} (h : x = (a : Int)) : Int.tmod x ((b : Int) + 1) = ((a % (b + 1) : Nat) : Int) := by
  rw [h, Int.tmod_eq_emod_of_nonneg (by omega), show (b : Int) + 1 = ((b + 1 : Nat) : Int) by omega, ← Int.natCast_emod]
theorem td_nat {x : Int} {a b : Nat} (h : x = (a : Int)) : Int.tdiv x ((b : Int) + 1) = ((a / (b + 1) : Nat) : Int) := by
  rw [h, Int.tdiv_eq_ediv_of_nonneg (by omega), show (b : Int) + 1 = ((b + 1 : Nat) : Int) by omega, ← Int.natCast_ediv]
set_option maxRecDepth 100000 in
set_option maxHeartbeats 4000000 in
theorem m_badly (E : En) (h : Hp) (n : Nat) (p : Int) (N Sc Cl Cs : Nat → Int) (M0 : MH h n p N Sc Cl Cs) (k : Int) (hk : -2147483648 ≤ k ∧ k ≤ 2147483647) : Ct 3 yX12_badly cX12_badly 8 (some .int) E [rv E 128, iv k] h (fun v hx => (∃ a, v = some (iv a) ∧ (if ¬ (1 ≤ k ∧ k ≤ 20) then a = -3 else if p > 6 then a = -4 else badP (cnS N p n) p k.toNat a)) ∧ (∀ a b, a ≠ 140 → a ≠ 141 → a ≠ 142 → hx a b = h a b)) := by
  obtain ⟨m0, m1, m2, m3, mN, mS, mC, mK⟩ := id M0
  have hSm : ∀ r, cnS N p n r ≤ 20 := fun r => Nat.le_trans List.count_le_length (by rw [rsL_len]; omega)
  have hPn : ((p.toNat : Nat) : Int) = p := by omega
  refine ct_intro (by decide) (Nat.le_of_ble_eq_true rfl) (fun G C => ?_)
  show Wp G E 8 (fun v hx => (∃ a, v = some (iv a) ∧ (if ¬ (1 ≤ k ∧ k ≤ 20) then a = -3 else if p > 6 then a = -4 else badP (cnS N p n) p k.toNat a)) ∧ (∀ a b, a ≠ 140 → a ≠ 141 → a ≠ 142 → hx a b = h a b)) 0 [(0, rv E 128), (1, iv k)] [] h
  refine wp_iload_n 1 C dX12_badly_0 rfl rfl ?_
  refine wp_callSp (rest := []) (c_misSize E h k (by omega)) ssX12_198 (by decide) rfl rfl (Nat.le_of_ble_eq_true rfl) C dX12_badly_1 ?_
  refine wp_ifb_ne (tgt := 10) C dX12_badly_4 (by decide) (fun c_4 => ?_) (fun c_4 => ?_)
  · skip
    refine wp_aloadR_n 0 C dX12_badly_10 rfl rfl ?_
    refine wp_callVp (rest := []) (c_parts E h n p N Sc Cl Cs M0) svX12_157 sh_128 (by decide) rfl rfl (Nat.le_of_ble_eq_true rfl) C dX12_badly_11 ?_
    refine wp_bipush (v := 6) C dX12_badly_14 rfl ?_
    refine wp_icmp_le (tgt := 22) (by omega) (by omega) C dX12_badly_16 (by decide) (fun c_16 => ?_) (fun c_16 => ?_)
    · skip
      refine wp_iconst (v := 1) C dX12_badly_22 rfl ?_
      refine wp_istore_n (ls' := [(0, rv E 128), (1, iv k), (2, iv 1)]) [1, 2, 0] C dX12_badly_23 rfl (by decide) rfl ?_
      refine wp_iconst (v := 0) C dX12_badly_24 rfl ?_
      refine wp_istore_n (ls' := [(0, rv E 128), (1, iv k), (2, iv 1), (3, iv 0)]) [1, 2, 3, 0] C dX12_badly_25 rfl (by decide) rfl ?_
      have q260 : ∀ n9 : Nat, ∀ (x3 : Int) (hx : Hp), (0 ≤ x3 ∧ x3 ≤ 10) → (∀ b : Nat, (b : Int) < x3 → hx 142 b = 0) → (∀ a b, a ≠ 140 → a ≠ 141 → a ≠ 142 → hx a b = h a b) → (10 - x3).toNat < n9 → Wp G E 8 (fun v hx => (∃ a, v = some (iv a) ∧ (if ¬ (1 ≤ k ∧ k ≤ 20) then a = -3 else if p > 6 then a = -4 else badP (cnS N p n) p k.toNat a)) ∧ (∀ a b, a ≠ 140 → a ≠ 141 → a ≠ 142 → hx a b = h a b)) 26 [(0, rv E 128), (1, iv k), (2, iv 1), (3, iv x3)] [] hx := by
        intro n9
        induction n9 with
        | zero => intro x3 hx hi hb hf hm9; exact absurd hm9 (Nat.not_lt_zero _)
        | succ n9 ih9 =>
          intro x3 hx hi hb hf hm9
          have ih9_26 := ih9
          refine wp_iload_n 3 C dX12_badly_26 rfl rfl ?_
          refine wp_bipush (v := 10) C dX12_badly_27 rfl ?_
          refine wp_icmp_ge (tgt := 45) (by omega) (by omega) C dX12_badly_29 (by decide) (fun c_29 => ?_) (fun c_29 => ?_)
          · skip
            refine wp_iconst (v := 0) C dX12_badly_45 rfl ?_
            refine wp_istore_n (ls' := [(0, rv E 128), (1, iv k), (2, iv 1), (3, iv 0)]) [1, 2, 3, 0] C dX12_badly_46 rfl (by decide) rfl ?_
            have q470 : ∀ n9 : Nat, ∀ (x3 : Int) (hx : Hp), (0 ≤ x3 ∧ x3 ≤ n) → (∀ r : Nat, (r : Int) < p → hx 142 r = (cnS N p x3.toNat r : Int)) → (∀ a b, a ≠ 140 → a ≠ 141 → a ≠ 142 → hx a b = h a b) → ((n : Int) - x3).toNat < n9 → Wp G E 8 (fun v hx => (∃ a, v = some (iv a) ∧ (if ¬ (1 ≤ k ∧ k ≤ 20) then a = -3 else if p > 6 then a = -4 else badP (cnS N p n) p k.toNat a)) ∧ (∀ a b, a ≠ 140 → a ≠ 141 → a ≠ 142 → hx a b = h a b)) 47 [(0, rv E 128), (1, iv k), (2, iv 1), (3, iv x3)] [] hx := by
              intro n9
              induction n9 with
              | zero => intro x3 hx hi hs hf hm9; exact absurd hm9 (Nat.not_lt_zero _)
              | succ n9 ih9 =>
                intro x3 hx hi hs hf hm9
                have ih9_47 := ih9
                have Mx : MH hx n p N Sc Cl Cs := M0.of (fun b => ⟨hf _ _ (by decide) (by decide) (by decide), hf _ _ (by decide) (by decide) (by decide), hf _ _ (by decide) (by decide) (by decide)⟩)
                have hmn := mod_r (N x3.toNat) m3
                refine wp_iload_n 3 C dX12_badly_47 rfl rfl ?_
                refine wp_aloadR_n 0 C dX12_badly_48 rfl rfl ?_
                refine wp_callVp (rest := [iv x3]) (c_heaps E hx n p N Sc Cl Cs Mx) svX12_141 sh_128 (by decide) rfl rfl (Nat.le_of_ble_eq_true rfl) C dX12_badly_49 ?_
                refine wp_icmp_ge (tgt := 75) (by omega) (by omega) C dX12_badly_52 (by decide) (fun c_52 => ?_) (fun c_52 => ?_)
                · skip
                  have hsp : ∀ r : Nat, (r : Int) < p → hx 142 r = (cnS N p n r : Int) := fun r hr => by rw [hs r hr, show x3.toNat = n by omega]
                  refine wp_iconst (v := 0) C dX12_badly_75 rfl ?_
                  refine wp_istore_n (ls' := [(0, rv E 128), (1, iv k), (2, iv 1), (3, iv 0)]) [1, 2, 3, 0] C dX12_badly_76 rfl (by decide) rfl ?_
                  have q770 : ∀ n9 : Nat, ∀ (x2 : Int) (x3 : Int), (0 ≤ x3 ∧ x3 ≤ p) → (x2 = (prN (cnS N p n) x3.toNat : Int)) → (p - x3).toNat < n9 → Wp G E 8 (fun v hx => (∃ a, v = some (iv a) ∧ (if ¬ (1 ≤ k ∧ k ≤ 20) then a = -3 else if p > 6 then a = -4 else badP (cnS N p n) p k.toNat a)) ∧ (∀ a b, a ≠ 140 → a ≠ 141 → a ≠ 142 → hx a b = h a b)) 77 [(0, rv E 128), (1, iv k), (2, iv x2), (3, iv x3)] [] hx := by
                    intro n9
                    induction n9 with
                    | zero => intro x2 x3 hi7 hx2 hm9; exact absurd hm9 (Nat.not_lt_zero _)
                    | succ n9 ih9 =>
                      intro x2 x3 hi7 hx2 hm9
                      have ih9_77 := ih9
                      refine wp_iload_n 3 C dX12_badly_77 rfl rfl ?_
                      refine wp_aloadR_n 0 C dX12_badly_78 rfl rfl ?_
                      refine wp_callVp (rest := [iv x3]) (c_parts E hx n p N Sc Cl Cs Mx) svX12_157 sh_128 (by decide) rfl rfl (Nat.le_of_ble_eq_true rfl) C dX12_badly_79 ?_
                      refine wp_icmp_ge (tgt := 102) (by omega) (by omega) C dX12_badly_82 (by decide) (fun c_82 => ?_) (fun c_82 => ?_)
                      · skip
                        have hxp : x2 = (prN (cnS N p n) p.toNat : Int) := by rw [hx2, show x3 = p by omega]
                        have hpl := prN_le (S := cnS N p n) hSm p.toNat
                        have hpm : 21 ^ p.toNat ≤ 21 ^ 6 := Nat.pow_le_pow_right (by decide) (by omega)
                        have e216 : 21 ^ 6 = 85766121 := by decide
                        refine wp_iconst (v := 0) C dX12_badly_102 rfl ?_
                        refine wp_istore_n (ls' := [(0, rv E 128), (1, iv k), (2, iv x2), (3, iv 0)]) [1, 2, 3, 0] C dX12_badly_103 rfl (by decide) rfl ?_
                        refine wp_iconst (v := 0) C dX12_badly_104 rfl ?_
                        refine wp_istore (ls' := [(0, rv E 128), (1, iv k), (2, iv x2), (3, iv 0), (4, iv 0)]) [1, 2, 3, 4, 0] C dX12_badly_105 (by decide) rfl ?_
                        have q1070 : ∀ n9 : Nat, ∀ (x3 : Int) (x4 : Int) (hx : Hp), (0 ≤ x4 ∧ x4 ≤ x2) → (0 ≤ x3 ∧ x3 ≤ 20) → (x3 = 0 ∨ ∃ v, noT p k.toNat (dgF (cnS N p n) v) ∧ x3 = (sN (dgF (cnS N p n) v) p.toNat : Int)) → (∀ v : Nat, (v : Int) < x4 → noT p k.toNat (dgF (cnS N p n) v) → (sN (dgF (cnS N p n) v) p.toNat : Int) ≤ x3) → (∀ r : Nat, (r : Int) < p → hx 142 r = (cnS N p n r : Int)) → (∀ a b, a ≠ 140 → a ≠ 141 → a ≠ 142 → hx a b = h a b) → (x2 - x4).toNat < n9 → Wp G E 8 (fun v hx => (∃ a, v = some (iv a) ∧ (if ¬ (1 ≤ k ∧ k ≤ 20) then a = -3 else if p > 6 then a = -4 else badP (cnS N p n) p k.toNat a)) ∧ (∀ a b, a ≠ 140 → a ≠ 141 → a ≠ 142 → hx a b = h a b)) 107 [(0, rv E 128), (1, iv k), (2, iv x2), (3, iv x3), (4, iv x4)] [] hx := by
                          intro n9
                          induction n9 with
                          | zero => intro x3 x4 hx hi4 hb0 hb1 hb2 hs2 hf hm9; exact absurd hm9 (Nat.not_lt_zero _)
                          | succ n9 ih9 =>
                            intro x3 x4 hx hi4 hb0 hb1 hb2 hs2 hf hm9
                            have ih9_107 := ih9
                            refine wp_iload 4 C dX12_badly_107 rfl ?_
                            refine wp_iload_n 2 C dX12_badly_109 rfl rfl ?_
                            refine wp_icmp_ge (tgt := 214) (by omega) (by omega) C dX12_badly_110 (by decide) (fun c_110 => ?_) (fun c_110 => ?_)
                            · skip
                              refine wp_iload_n 3 C dX12_badly_214 rfl rfl ?_
                              refine wp_iret C dX12_badly_215 ?_
                              exact ⟨⟨_, rfl, by rw [if_neg (not_not_intro c_4), if_neg (by omega)]; exact bad_ref (by omega) hb1 (fun v hv => hb2 v (by omega))⟩, hf⟩
                            · skip
                              refine wp_iload 4 C dX12_badly_113 rfl ?_
                              refine wp_istore (ls' := [(0, rv E 128), (1, iv k), (2, iv x2), (3, iv x3), (4, iv x4), (5, iv x4)]) [1, 2, 3, 4, 5, 0] C dX12_badly_115 (by decide) rfl ?_
                              refine wp_iconst (v := 0) C dX12_badly_117 rfl ?_
                              refine wp_istore (ls' := [(0, rv E 128), (1, iv k), (2, iv x2), (3, iv x3), (4, iv x4), (5, iv x4), (6, iv 0)]) [1, 2, 3, 4, 5, 6, 0] C dX12_badly_118 (by decide) rfl ?_
                              refine wp_iconst (v := 0) C dX12_badly_120 rfl ?_
                              refine wp_istore (ls' := [(0, rv E 128), (1, iv k), (2, iv x2), (3, iv x3), (4, iv x4), (5, iv x4), (6, iv 0), (7, iv 0)]) [1, 2, 3, 4, 5, 6, 7, 0] C dX12_badly_121 (by decide) rfl ?_
                              have q1230 : ∀ n9 : Nat, ∀ (x5 : Int) (x6 : Int) (x7 : Int) (hx : Hp), (0 ≤ x7 ∧ x7 ≤ p) → (x5 = ((x4.toNat / prN (cnS N p n) x7.toNat : Nat) : Int)) → (x6 = (sN (dgF (cnS N p n) x4.toNat) x7.toNat : Int)) → (∀ r : Nat, (r : Int) < x7 → hx 140 r = (dgF (cnS N p n) x4.toNat r : Int)) → (∀ r : Nat, (r : Int) < p → hx 142 r = (cnS N p n r : Int)) → (∀ a b, a ≠ 140 → a ≠ 141 → a ≠ 142 → hx a b = h a b) → (p - x7).toNat < n9 → Wp G E 8 (fun v hx => (∃ a, v = some (iv a) ∧ (if ¬ (1 ≤ k ∧ k ≤ 20) then a = -3 else if p > 6 then a = -4 else badP (cnS N p n) p k.toNat a)) ∧ (∀ a b, a ≠ 140 → a ≠ 141 → a ≠ 142 → hx a b = h a b)) 123 [(0, rv E 128), (1, iv k), (2, iv x2), (3, iv x3), (4, iv x4), (5, iv x5), (6, iv x6), (7, iv x7)] [] hx := by
                                intro n9
                                induction n9 with
                                | zero => intro x5 x6 x7 hx hi7 hx5 hx6 hx0 hs2 hf hm9; exact absurd hm9 (Nat.not_lt_zero _)
                                | succ n9 ih9 =>
                                  intro x5 x6 x7 hx hi7 hx5 hx6 hx0 hs2 hf hm9
                                  have ih9_123 := ih9
                                  have Mx : MH hx n p N Sc Cl Cs := M0.of (fun b => ⟨hf _ _ (by decide) (by decide) (by decide), hf _ _ (by decide) (by decide) (by decide), hf _ _ (by decide) (by decide) (by decide)⟩)
                                  have h5r : 0 ≤ x5 ∧ x5 ≤ 85766121 := by rw [hx5]; exact ⟨Int.natCast_nonneg _, Int.le_trans (Int.ofNat_le.mpr (Nat.div_le_self _ _)) (by omega)⟩
                                  refine wp_iload 7 C dX12_badly_123 rfl ?_
                                  refine wp_aloadR_n 0 C dX12_badly_125 rfl rfl ?_
                                  refine wp_callVp (rest := [iv x7]) (c_parts E hx n p N Sc Cl Cs Mx) svX12_157 sh_128 (by decide) rfl rfl (Nat.le_of_ble_eq_true rfl) C dX12_badly_126 ?_
                                  refine wp_icmp_ge (tgt := 183) (by omega) (by omega) C dX12_badly_129 (by decide) (fun c_129 => ?_) (fun c_129 => ?_)
                                  · skip
                                    have hsm9 : sN (dgF (cnS N p n) x4.toNat) x7.toNat ≤ 20 := Nat.le_trans (sN_mono _ (fun r _ => dgF_le)) (by rw [show x7.toNat = p.toNat by omega, cnS_sum m3]; omega)
                                    refine wp_iload 6 C dX12_badly_183 rfl ?_
                                    refine wp_iload_n 3 C dX12_badly_185 rfl rfl ?_
                                    refine wp_icmp_le (tgt := 206) (by omega) (by omega) C dX12_badly_186 (by decide) (fun c_186 => ?_) (fun c_186 => ?_)
                                    · skip
                                      refine wp_iload_n 3 C dX12_badly_206 rfl rfl ?_
                                      refine wp_istore_n (ls' := [(0, rv E 128), (1, iv k), (2, iv x2), (3, iv x3), (4, iv x4), (5, iv x5), (6, iv x6), (7, iv x7)]) [1, 2, 3, 0, 4, 5, 6, 7] C dX12_badly_207 rfl (by decide) rfl ?_
                                      obtain ⟨v1, e_v1⟩ : ∃ z : Int, z = x4 + (1) := ⟨_, rfl⟩
                                      refine wp_iinc (j := 4) (y := v1) (ls' := [(0, rv E 128), (1, iv k), (2, iv x2), (3, iv x3), (4, iv v1), (5, iv x5), (6, iv x6), (7, iv x7)]) [1, 2, 3, 4, 0, 5, 6, 7] C dX12_badly_208 rfl e_v1 (by decide) rfl ?_
                                      refine wp_goto (tgt := 107) C dX12_badly_211 (by decide) ?_
                                      refine wp_loc [0, 1, 2, 3, 4] rfl ?_
                                      exact ih9_107 x3 v1 hx (by omega) (by omega) (hb1) (fun v hv hno => by rcases (show (v : Int) < x4 ∨ v = x4.toNat by omega) with z | rfl; have := hb2 v z hno; omega; rw [show x7 = p by omega] at hx6; omega) (hs2) (hf) (by omega)
                                    · skip
                                      refine wp_aloadR_n 0 C dX12_badly_189 rfl rfl ?_
                                      refine wp_aloadR_n 0 C dX12_badly_190 rfl rfl ?_
                                      refine wp_callVp (rest := [rv E 128]) (c_parts E hx n p N Sc Cl Cs Mx) svX12_157 sh_128 (by decide) rfl rfl (Nat.le_of_ble_eq_true rfl) C dX12_badly_191 ?_
                                      refine wp_iload_n 1 C dX12_badly_194 rfl rfl ?_
                                      refine wp_callV (rest := []) (c_hasTen E hx p k (dgF (cnS N p n) x4.toNat) m3 (by omega) (fun r hr => ⟨hx0 r (by omega), Nat.le_trans dgF_le (hSm r)⟩)) svX12_255 sh_128 (by decide) rfl rfl (Nat.le_of_ble_eq_true rfl) C dX12_badly_195 (fun r0 hy pf => ?_)
                                      obtain ⟨rfl, hq⟩ := pf
                                      have hfy : ∀ a b, a ≠ 140 → a ≠ 141 → a ≠ 142 → hy a b = h a b := fun a b h1 h2 h3 => (hq a b h2).trans (hf a b h1 h2 h3)
                                      refine wp_ifb_ne (tgt := 206) C dX12_badly_198 (by decide) (fun c_198 => ?_) (fun c_198 => ?_)
                                      · skip
                                        refine wp_iload_n 3 C dX12_badly_206 rfl rfl ?_
                                        refine wp_istore_n (ls' := [(0, rv E 128), (1, iv k), (2, iv x2), (3, iv x3), (4, iv x4), (5, iv x5), (6, iv x6), (7, iv x7)]) [1, 2, 3, 0, 4, 5, 6, 7] C dX12_badly_207 rfl (by decide) rfl ?_
                                        obtain ⟨v2, e_v2⟩ : ∃ z : Int, z = x4 + (1) := ⟨_, rfl⟩
                                        refine wp_iinc (j := 4) (y := v2) (ls' := [(0, rv E 128), (1, iv k), (2, iv x2), (3, iv x3), (4, iv v2), (5, iv x5), (6, iv x6), (7, iv x7)]) [1, 2, 3, 4, 0, 5, 6, 7] C dX12_badly_208 rfl e_v2 (by decide) rfl ?_
                                        refine wp_goto (tgt := 107) C dX12_badly_211 (by decide) ?_
                                        refine wp_loc [0, 1, 2, 3, 4] rfl ?_
                                        exact ih9_107 x3 v2 hy (by omega) (by omega) (hb1) (fun v hv hno => by rcases (show (v : Int) < x4 ∨ v = x4.toNat by omega) with z | rfl; have := hb2 v z hno; omega; exact absurd c_198 hno) (fun r hr => (hq 142 r (by decide)).trans (hs2 r hr)) (hfy) (by omega)
                                      · skip
                                        refine wp_iload 6 C dX12_badly_201 rfl ?_
                                        refine wp_goto (tgt := 207) C dX12_badly_203 (by decide) ?_
                                        refine wp_istore_n (ls' := [(0, rv E 128), (1, iv k), (2, iv x2), (3, iv x6), (4, iv x4), (5, iv x5), (6, iv x6), (7, iv x7)]) [1, 2, 3, 0, 4, 5, 6, 7] C dX12_badly_207 rfl (by decide) rfl ?_
                                        obtain ⟨v3, e_v3⟩ : ∃ z : Int, z = x4 + (1) := ⟨_, rfl⟩
                                        refine wp_iinc (j := 4) (y := v3) (ls' := [(0, rv E 128), (1, iv k), (2, iv x2), (3, iv x6), (4, iv v3), (5, iv x5), (6, iv x6), (7, iv x7)]) [1, 2, 3, 4, 0, 5, 6, 7] C dX12_badly_208 rfl e_v3 (by decide) rfl ?_
                                        refine wp_goto (tgt := 107) C dX12_badly_211 (by decide) ?_
                                        refine wp_loc [0, 1, 2, 3, 4] rfl ?_
                                        exact ih9_107 x6 v3 hy (by omega) (by omega) (Or.inr ⟨x4.toNat, c_198, by rw [hx6, show x7 = p by omega]⟩) (fun v hv hno => by rcases (show (v : Int) < x4 ∨ v = x4.toNat by omega) with z | rfl; have := hb2 v z hno; omega; rw [show x7 = p by omega] at hx6; omega) (fun r hr => (hq 142 r (by decide)).trans (hs2 r hr)) (hfy) (by omega)
                                  · skip
                                    refine wp_aloadR_n 0 C dX12_badly_132 rfl rfl ?_
                                    refine wp_getR flX12_46 sh_128 rfl C dX12_badly_133 ?_
                                    refine wp_iload 7 C dX12_badly_136 rfl ?_
                                    refine wp_iload 5 C dX12_badly_138 rfl ?_
                                    refine wp_aloadR_n 0 C dX12_badly_140 rfl rfl ?_
                                    refine wp_getR flX12_52 sh_128 rfl C dX12_badly_141 ?_
                                    refine wp_iload 7 C dX12_badly_144 rfl ?_
                                    refine wp_iald sh_142 (by omega) C dX12_badly_146 ?_
                                    refine wp_top (show _ = ((cnS N p n) x7.toNat : Int) from hs2 x7.toNat (by omega)) ?_
                                    refine wp_iconst (v := 1) C dX12_badly_147 rfl ?_
                                    refine wp_iadd C dX12_badly_148 ?_
                                    refine wp_irem (by omega) (by have := hSm x7.toNat; omega) C dX12_badly_149 ?_
                                    refine wp_top (show _ = (dgF (cnS N p n) x4.toNat x7.toNat : Int) from tm_nat hx5) ?_
                                    refine wp_iast sh_140 (by omega) C dX12_badly_150 ?_
                                    obtain ⟨H4, e_H4⟩ : ∃ z : Hp, z = upd2 hx 140 x7.toNat (dgF (cnS N p n) x4.toNat x7.toNat : Int) := ⟨_, rfl⟩
                                    refine wp_heq e_H4 ?_
                                    refine wp_iload 5 C dX12_badly_151 rfl ?_
                                    refine wp_aloadR_n 0 C dX12_badly_153 rfl rfl ?_
                                    refine wp_getR flX12_52 sh_128 rfl C dX12_badly_154 ?_
                                    refine wp_iload 7 C dX12_badly_157 rfl ?_
                                    refine wp_iald sh_142 (by omega) C dX12_badly_159 ?_
                                    refine wp_top (rdu_ne e_H4 (by decide)) ?_
                                    refine wp_top (show _ = ((cnS N p n) x7.toNat : Int) from hs2 x7.toNat (by omega)) ?_
                                    refine wp_iconst (v := 1) C dX12_badly_160 rfl ?_
                                    refine wp_iadd C dX12_badly_161 ?_
                                    refine wp_idiv (by omega) (by have := hSm x7.toNat; omega) C dX12_badly_162 ?_
                                    refine wp_top (show _ = ((x4.toNat / prN (cnS N p n) x7.toNat / ((cnS N p n) x7.toNat + 1) : Nat) : Int) from td_nat hx5) ?_
                                    refine wp_nm (fun v5 e_v5 => ?_)
                                    refine wp_istore (ls' := [(0, rv E 128), (1, iv k), (2, iv x2), (3, iv x3), (4, iv x4), (5, iv v5), (6, iv x6), (7, iv x7)]) [1, 2, 3, 4, 5, 0, 6, 7] C dX12_badly_163 (by decide) rfl ?_
                                    refine wp_iload 6 C dX12_badly_165 rfl ?_
                                    refine wp_aloadR_n 0 C dX12_badly_167 rfl rfl ?_
                                    refine wp_getR flX12_46 sh_128 rfl C dX12_badly_168 ?_
                                    refine wp_iload 7 C dX12_badly_171 rfl ?_
                                    refine wp_iald sh_140 (by omega) C dX12_badly_173 ?_
                                    refine wp_top (rdu_eq e_H4) ?_
                                    refine wp_iadd C dX12_badly_174 ?_
                                    refine wp_nm (fun v6 e_v6 => ?_)
                                    refine wp_istore (ls' := [(0, rv E 128), (1, iv k), (2, iv x2), (3, iv x3), (4, iv x4), (5, iv v5), (6, iv v6), (7, iv x7)]) [1, 2, 3, 4, 5, 6, 0, 7] C dX12_badly_175 (by decide) rfl ?_
                                    obtain ⟨v7, e_v7⟩ : ∃ z : Int, z = x7 + (1) := ⟨_, rfl⟩
                                    refine wp_iinc (j := 7) (y := v7) (ls' := [(0, rv E 128), (1, iv k), (2, iv x2), (3, iv x3), (4, iv x4), (5, iv v5), (6, iv v6), (7, iv v7)]) [1, 2, 3, 4, 5, 6, 7, 0] C dX12_badly_177 rfl e_v7 (by decide) rfl ?_
                                    refine wp_goto (tgt := 123) C dX12_badly_180 (by decide) ?_
                                    exact ih9_123 v5 v6 v7 H4 (by omega) (by rw [e_v5, e_v7, show (x7 + 1).toNat = x7.toNat + 1 by omega, prN, Nat.div_div_eq_div_mul]) (by rw [e_v6, e_v7, show (x7 + 1).toNat = x7.toNat + 1 by omega, sN, hx6]; exact (Int.natCast_add _ _).symm) (fun r hr => by rw [e_H4]; unfold upd2; by_cases w : r = x7.toNat; rw [if_pos ⟨rfl, w⟩, w]; rw [if_neg (fun z => w z.2)]; exact hx0 r (by omega)) (fun r hr => by rw [e_H4]; unfold upd2; rw [if_neg (fun z => absurd z.1 (by decide))]; exact hs2 r hr) (fun a b h1 h2 h3 => by rw [e_H4]; unfold upd2; rw [if_neg (fun z => by first | exact h1 z.1 | exact h3 z.1)]; exact hf a b h1 h2 h3) (by omega)
                              have q123 : ∀ (x5 : Int) (x6 : Int) (x7 : Int) (hx : Hp), (0 ≤ x7 ∧ x7 ≤ p) → (x5 = ((x4.toNat / prN (cnS N p n) x7.toNat : Nat) : Int)) → (x6 = (sN (dgF (cnS N p n) x4.toNat) x7.toNat : Int)) → (∀ r : Nat, (r : Int) < x7 → hx 140 r = (dgF (cnS N p n) x4.toNat r : Int)) → (∀ r : Nat, (r : Int) < p → hx 142 r = (cnS N p n r : Int)) → (∀ a b, a ≠ 140 → a ≠ 141 → a ≠ 142 → hx a b = h a b) → Wp G E 8 (fun v hx => (∃ a, v = some (iv a) ∧ (if ¬ (1 ≤ k ∧ k ≤ 20) then a = -3 else if p > 6 then a = -4 else badP (cnS N p n) p k.toNat a)) ∧ (∀ a b, a ≠ 140 → a ≠ 141 → a ≠ 142 → hx a b = h a b)) 123 [(0, rv E 128), (1, iv k), (2, iv x2), (3, iv x3), (4, iv x4), (5, iv x5), (6, iv x6), (7, iv x7)] [] hx := fun x5 x6 x7 hx hi7 hx5 hx6 hx0 hs2 hf => q1230 _ x5 x6 x7 hx hi7 hx5 hx6 hx0 hs2 hf (Nat.lt_succ_self _)
                              exact q123 x4 0 0 hx (by omega) (by show x4 = ((x4.toNat / 1 : Nat) : Int); rw [Nat.div_one]; omega) (rfl) (fun r hr => absurd hr (by omega)) (hs2) (hf)
                        have q107 : ∀ (x3 : Int) (x4 : Int) (hx : Hp), (0 ≤ x4 ∧ x4 ≤ x2) → (0 ≤ x3 ∧ x3 ≤ 20) → (x3 = 0 ∨ ∃ v, noT p k.toNat (dgF (cnS N p n) v) ∧ x3 = (sN (dgF (cnS N p n) v) p.toNat : Int)) → (∀ v : Nat, (v : Int) < x4 → noT p k.toNat (dgF (cnS N p n) v) → (sN (dgF (cnS N p n) v) p.toNat : Int) ≤ x3) → (∀ r : Nat, (r : Int) < p → hx 142 r = (cnS N p n r : Int)) → (∀ a b, a ≠ 140 → a ≠ 141 → a ≠ 142 → hx a b = h a b) → Wp G E 8 (fun v hx => (∃ a, v = some (iv a) ∧ (if ¬ (1 ≤ k ∧ k ≤ 20) then a = -3 else if p > 6 then a = -4 else badP (cnS N p n) p k.toNat a)) ∧ (∀ a b, a ≠ 140 → a ≠ 141 → a ≠ 142 → hx a b = h a b)) 107 [(0, rv E 128), (1, iv k), (2, iv x2), (3, iv x3), (4, iv x4)] [] hx := fun x3 x4 hx hi4 hb0 hb1 hb2 hs2 hf => q1070 _ x3 x4 hx hi4 hb0 hb1 hb2 hs2 hf (Nat.lt_succ_self _)
                        exact q107 0 0 hx (by omega) (by omega) (Or.inl rfl) (fun v hv => absurd hv (by omega)) (hsp) (hf)
                      · skip
                        refine wp_iload_n 2 C dX12_badly_85 rfl rfl ?_
                        refine wp_aloadR_n 0 C dX12_badly_86 rfl rfl ?_
                        refine wp_getR flX12_52 sh_128 rfl C dX12_badly_87 ?_
                        refine wp_iload_n 3 C dX12_badly_90 rfl rfl ?_
                        refine wp_iald sh_142 (by omega) C dX12_badly_91 ?_
                        refine wp_iconst (v := 1) C dX12_badly_92 rfl ?_
                        refine wp_iadd C dX12_badly_93 ?_
                        refine wp_imul C dX12_badly_94 ?_
                        refine wp_nm (fun v8 e_v8 => ?_)
                        refine wp_istore_n (ls' := [(0, rv E 128), (1, iv k), (2, iv v8), (3, iv x3)]) [1, 2, 0, 3] C dX12_badly_95 rfl (by decide) rfl ?_
                        obtain ⟨v9, e_v9⟩ : ∃ z : Int, z = x3 + (1) := ⟨_, rfl⟩
                        refine wp_iinc (j := 3) (y := v9) (ls' := [(0, rv E 128), (1, iv k), (2, iv v8), (3, iv v9)]) [1, 2, 3, 0] C dX12_badly_96 rfl e_v9 (by decide) rfl ?_
                        refine wp_goto (tgt := 77) C dX12_badly_99 (by decide) ?_
                        exact ih9_77 v8 v9 (by omega) (by rw [e_v8, e_v9, show (x3 + 1).toNat = x3.toNat + 1 by omega, hx2, hsp x3.toNat (by omega), prN, Int.natCast_mul]; rfl) (by omega)
                  have q77 : ∀ (x2 : Int) (x3 : Int), (0 ≤ x3 ∧ x3 ≤ p) → (x2 = (prN (cnS N p n) x3.toNat : Int)) → Wp G E 8 (fun v hx => (∃ a, v = some (iv a) ∧ (if ¬ (1 ≤ k ∧ k ≤ 20) then a = -3 else if p > 6 then a = -4 else badP (cnS N p n) p k.toNat a)) ∧ (∀ a b, a ≠ 140 → a ≠ 141 → a ≠ 142 → hx a b = h a b)) 77 [(0, rv E 128), (1, iv k), (2, iv x2), (3, iv x3)] [] hx := fun x2 x3 hi7 hx2 => q770 _ x2 x3 hi7 hx2 (Nat.lt_succ_self _)
                  exact q77 1 0 (by omega) (rfl)
                · skip
                  refine wp_aloadR_n 0 C dX12_badly_55 rfl rfl ?_
                  refine wp_getR flX12_52 sh_128 rfl C dX12_badly_56 ?_
                  refine wp_aloadR_n 0 C dX12_badly_59 rfl rfl ?_
                  refine wp_iload_n 3 C dX12_badly_60 rfl rfl ?_
                  refine wp_callVp (rest := [rv E 142]) (c_mrestOf E hx n p N Sc Cl Cs Mx x3 (by omega)) svX12_162 sh_128 (by decide) rfl rfl (Nat.le_of_ble_eq_true rfl) C dX12_badly_61 ?_
                  refine wp_dup2 rfl rfl C dX12_badly_64 ?_
                  refine wp_iald sh_142 (by omega) C dX12_badly_65 ?_
                  refine wp_iconst (v := 1) C dX12_badly_66 rfl ?_
                  refine wp_iadd C dX12_badly_67 ?_
                  refine wp_iast sh_142 (by omega) C dX12_badly_68 ?_
                  obtain ⟨H10, e_H10⟩ : ∃ z : Hp, z = upd2 hx 142 (N x3.toNat % p).toNat ((hx 142 (N x3.toNat % p).toNat) + 1) := ⟨_, rfl⟩
                  refine wp_heq e_H10 ?_
                  obtain ⟨v11, e_v11⟩ : ∃ z : Int, z = x3 + (1) := ⟨_, rfl⟩
                  refine wp_iinc (j := 3) (y := v11) (ls' := [(0, rv E 128), (1, iv k), (2, iv 1), (3, iv v11)]) [1, 2, 3, 0] C dX12_badly_69 rfl e_v11 (by decide) rfl ?_
                  refine wp_goto (tgt := 47) C dX12_badly_72 (by decide) ?_
                  exact ih9_47 v11 H10 (by omega) (fun r hr => by rw [e_v11, show (x3 + 1).toNat = x3.toNat + 1 by omega, cnS_succ, e_H10]; unfold upd2; by_cases w : r = (N x3.toNat % p).toNat; rw [if_pos ⟨rfl, w⟩, ← w, hs r hr, if_pos (by omega)]; omega; rw [if_neg (fun z => w z.2), hs r hr, if_neg (by omega)]; omega) (fun a b h1 h2 h3 => by rw [e_H10]; unfold upd2; rw [if_neg (fun z => by first | exact h1 z.1 | exact h3 z.1)]; exact hf a b h1 h2 h3) (by omega)
            have q47 : ∀ (x3 : Int) (hx : Hp), (0 ≤ x3 ∧ x3 ≤ n) → (∀ r : Nat, (r : Int) < p → hx 142 r = (cnS N p x3.toNat r : Int)) → (∀ a b, a ≠ 140 → a ≠ 141 → a ≠ 142 → hx a b = h a b) → Wp G E 8 (fun v hx => (∃ a, v = some (iv a) ∧ (if ¬ (1 ≤ k ∧ k ≤ 20) then a = -3 else if p > 6 then a = -4 else badP (cnS N p n) p k.toNat a)) ∧ (∀ a b, a ≠ 140 → a ≠ 141 → a ≠ 142 → hx a b = h a b)) 47 [(0, rv E 128), (1, iv k), (2, iv 1), (3, iv x3)] [] hx := fun x3 hx hi hs hf => q470 _ x3 hx hi hs hf (Nat.lt_succ_self _)
            exact q47 0 hx (by omega) (fun r hr => by rw [hb r (by omega)]; rfl) (hf)
          · skip
            refine wp_aloadR_n 0 C dX12_badly_32 rfl rfl ?_
            refine wp_getR flX12_52 sh_128 rfl C dX12_badly_33 ?_
            refine wp_iload_n 3 C dX12_badly_36 rfl rfl ?_
            refine wp_iconst (v := 0) C dX12_badly_37 rfl ?_
            refine wp_iast sh_142 (by omega) C dX12_badly_38 ?_
            obtain ⟨H12, e_H12⟩ : ∃ z : Hp, z = upd2 hx 142 x3.toNat 0 := ⟨_, rfl⟩
            refine wp_heq e_H12 ?_
            obtain ⟨v13, e_v13⟩ : ∃ z : Int, z = x3 + (1) := ⟨_, rfl⟩
            refine wp_iinc (j := 3) (y := v13) (ls' := [(0, rv E 128), (1, iv k), (2, iv 1), (3, iv v13)]) [1, 2, 3, 0] C dX12_badly_39 rfl e_v13 (by decide) rfl ?_
            refine wp_goto (tgt := 26) C dX12_badly_42 (by decide) ?_
            exact ih9_26 v13 H12 (by omega) (fun b hb9 => by rw [e_H12]; unfold upd2; by_cases w : b = x3.toNat; rw [if_pos ⟨rfl, w⟩]; rw [if_neg (fun z => w z.2)]; exact hb b (by omega)) (fun a b h1 h2 h3 => by rw [e_H12]; unfold upd2; rw [if_neg (fun z => by first | exact h1 z.1 | exact h3 z.1)]; exact hf a b h1 h2 h3) (by omega)
      have q26 : ∀ (x3 : Int) (hx : Hp), (0 ≤ x3 ∧ x3 ≤ 10) → (∀ b : Nat, (b : Int) < x3 → hx 142 b = 0) → (∀ a b, a ≠ 140 → a ≠ 141 → a ≠ 142 → hx a b = h a b) → Wp G E 8 (fun v hx => (∃ a, v = some (iv a) ∧ (if ¬ (1 ≤ k ∧ k ≤ 20) then a = -3 else if p > 6 then a = -4 else badP (cnS N p n) p k.toNat a)) ∧ (∀ a b, a ≠ 140 → a ≠ 141 → a ≠ 142 → hx a b = h a b)) 26 [(0, rv E 128), (1, iv k), (2, iv 1), (3, iv x3)] [] hx := fun x3 hx hi hb hf => q260 _ x3 hx hi hb hf (Nat.lt_succ_self _)
      exact q26 0 h (by omega) (fun b hb => absurd hb (by omega)) (fun a b _ _ _ => rfl)
    · skip
      refine wp_bipush (v := (-4)) C dX12_badly_19 rfl ?_
      refine wp_iret C dX12_badly_21 ?_
      exact ⟨⟨-4, rfl, by rw [if_neg (not_not_intro c_4), if_pos (by omega)]⟩, fun _ _ _ _ _ => rfl⟩
  · skip
    refine wp_bipush (v := (-3)) C dX12_badly_7 rfl ?_
    refine wp_iret C dX12_badly_9 ?_
    exact ⟨⟨-3, rfl, by rw [if_pos c_4]⟩, fun _ _ _ _ _ => rfl⟩


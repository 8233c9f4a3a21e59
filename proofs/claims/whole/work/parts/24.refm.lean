/-! ===== the reference: many ===== -/
theorem tm_sbm {r x p : Int} (hr : 0 ≤ r ∧ r < p) (hx : 0 ≤ x ∧ x < p) : Int.tmod (r + p - x) p = sbm r x p := by
  rw [Int.tmod_eq_emod_of_nonneg (by omega)]
  unfold sbm
  split
  · rw [show r + p - x = (r - x) + p by omega, Int.add_emod_right]
    exact Int.emod_eq_of_lt (by omega) (by omega)
  · rw [show r + p - x = r - x + p by omega]
    exact Int.emod_eq_of_lt (by omega) (by omega)
theorem rsL_drop {N : Nat → Int} {p : Int} {n i : Nat} (hi : i < n) : (rsL N p n).drop i = (N i % p) :: (rsL N p n).drop (i + 1) := by
  rw [List.drop_eq_getElem_cons (by rw [rsL_len]; exact hi)]
  congr 1
  simp [rsL]
theorem cl_drop {N : Nat → Int} {p : Int} {n i c : Nat} {r : Int} (hi : i < n) : cl p ((rsL N p n).drop i) c r = cl p ((rsL N p n).drop (i + 1)) c r + (if c = 0 then 0 else cl p ((rsL N p n).drop (i + 1)) (c - 1) (sbm r (N i % p) p)) := by
  rw [rsL_drop hi]
  rfl
theorem sumTo_ext {f g : Nat → Int} : ∀ n : Nat, (∀ i, i < n → f i = g i) → sumTo f n = sumTo g n
  | 0, _ => rfl
  | n + 1, h => by
    unfold sumTo
    rw [sumTo_ext n (fun i hi => h i (by omega)), h n (by omega)]
theorem sumTo_tail {f : Nat → Int} {a : Nat} : ∀ b : Nat, (∀ i, a ≤ i → i < a + b → f i = 0) → sumTo f (a + b) = sumTo f a
  | 0, _ => rfl
  | b + 1, h => by
    show sumTo f (a + b) + f (a + b) = _
    rw [sumTo_tail b (fun i h1 h2 => h i h1 (by omega)), h (a + b) (by omega) (by omega)]
    omega
theorem sumTo_one {f : Nat → Int} {k : Nat} : ∀ n : Nat, (∀ i, i < n → i ≠ k → f i = 0) → sumTo f n = if k < n then f k else 0
  | 0, _ => by simp [sumTo]
  | n + 1, h => by
    unfold sumTo
    rw [sumTo_one n (fun i hi => h i (by omega))]
    by_cases q : k < n
    · rw [if_pos q, if_pos (by omega), h n (by omega) (by omega)]; omega
    · rw [if_neg q]
      by_cases q2 : k = n
      · rw [if_pos (by omega), q2]; omega
      · rw [if_neg (by omega), h n (by omega) (Ne.symm q2)]; omega
theorem many_sum {p : Int} {L : List Int} {k r : Int} (hl : L.length ≤ 20) (hk : -1 ≤ k ∧ k ≤ 20) : sumTo (fun c => if k = -1 ∨ k = (c : Int) then cl p L c r else 0) 21 = manyS p L k r := by
  unfold manyS
  by_cases q : k = -1
  · rw [if_pos q, show 21 = (L.length + 1) + (20 - L.length) by omega, sumTo_tail]
    · exact sumTo_ext _ (fun i _ => by rw [if_pos (Or.inl q)])
    · intro i h1 h2
      rw [if_pos (Or.inl q), cl_long _ _ _ (by omega)]
  · rw [if_neg q, sumTo_one (k := k.toNat) 21 (fun i hi hn => if_neg (by omega)), if_pos (by omega), if_pos (Or.inr (by omega))]
set_option maxRecDepth 100000 in
set_option maxHeartbeats 4000000 in
theorem c_layWays (E : En) (h : Hp) (n : Nat) (p : Int) (N Sc Cl Cs : Nat → Int) (M0 : MH h n p N Sc Cl Cs)  : Ct 2 yX12_layWays cX12_layWays 7 none E [rv E 128] h (fun r hx => r = none ∧ (∀ c : Nat, c < 21 → ∀ r : Nat, (r : Int) < p → hx 138 (10 * c + r) = cl p (rsL N p n) c r) ∧ (∀ a b, a ≠ 138 → hx a b = h a b)) := by
  obtain ⟨m0, m1, m2, m3, mN, mS, mC, mK⟩ := id M0
  refine ct_intro (by decide) (Nat.le_of_ble_eq_true rfl) (fun G C => ?_)
  show Wp G E 7 (fun r hx => r = none ∧ (∀ c : Nat, c < 21 → ∀ r : Nat, (r : Int) < p → hx 138 (10 * c + r) = cl p (rsL N p n) c r) ∧ (∀ a b, a ≠ 138 → hx a b = h a b)) 0 [(0, rv E 128)] [] h
  refine wp_aloadR_n 0 C dX12_layWays_0 rfl rfl ?_
  refine wp_callVp (rest := []) (c_heaps E h n p N Sc Cl Cs M0) svX12_141 sh_128 (by decide) rfl rfl (Nat.le_of_ble_eq_true rfl) C dX12_layWays_1 ?_
  refine wp_istore_n (ls' := [(0, rv E 128), (1, iv (n : Int))]) [1, 0] C dX12_layWays_4 rfl (by decide) rfl ?_
  refine wp_aloadR_n 0 C dX12_layWays_5 rfl rfl ?_
  refine wp_callVp (rest := []) (c_parts E h n p N Sc Cl Cs M0) svX12_157 sh_128 (by decide) rfl rfl (Nat.le_of_ble_eq_true rfl) C dX12_layWays_6 ?_
  refine wp_istore_n (ls' := [(0, rv E 128), (1, iv (n : Int)), (2, iv p)]) [1, 2, 0] C dX12_layWays_9 rfl (by decide) rfl ?_
  refine wp_iconst (v := 0) C dX12_layWays_10 rfl ?_
  refine wp_istore_n (ls' := [(0, rv E 128), (1, iv (n : Int)), (2, iv p), (3, iv 0)]) [1, 2, 3, 0] C dX12_layWays_11 rfl (by decide) rfl ?_
  have q120 : ∀ n9 : Nat, ∀ (x3 : Int) (hx : Hp), (0 ≤ x3 ∧ x3 ≤ 210) → (∀ b : Nat, (b : Int) < x3 → hx 138 (210 * n + b) = if b = 0 then 1 else 0) → (∀ a b, a ≠ 138 → hx a b = h a b) → (210 - x3).toNat < n9 → Wp G E 7 (fun r hx => r = none ∧ (∀ c : Nat, c < 21 → ∀ r : Nat, (r : Int) < p → hx 138 (10 * c + r) = cl p (rsL N p n) c r) ∧ (∀ a b, a ≠ 138 → hx a b = h a b)) 12 [(0, rv E 128), (1, iv (n : Int)), (2, iv p), (3, iv x3)] [] hx := by
    intro n9
    induction n9 with
    | zero => intro x3 hx hi hb0 hf hm9; exact absurd hm9 (Nat.not_lt_zero _)
    | succ n9 ih9 =>
      intro x3 hx hi hb0 hf hm9
      have ih9_12 := ih9
      refine wp_iload_n 3 C dX12_layWays_12 rfl rfl ?_
      refine wp_sipush (v := 210) C dX12_layWays_13 rfl ?_
      refine wp_icmp_ge (tgt := 46) (by omega) (by omega) C dX12_layWays_16 (by decide) (fun c_16 => ?_) (fun c_16 => ?_)
      · skip
        refine wp_iload_n 1 C dX12_layWays_46 rfl rfl ?_
        refine wp_iconst (v := 1) C dX12_layWays_47 rfl ?_
        refine wp_isub C dX12_layWays_48 ?_
        refine wp_nm (fun y3s e_y3s => ?_)
        refine wp_istore_n (ls' := [(0, rv E 128), (1, iv (n : Int)), (2, iv p), (3, iv y3s)]) [1, 2, 3, 0] C dX12_layWays_49 rfl (by decide) rfl ?_
        have q500 : ∀ n9 : Nat, ∀ (x3 : Int) (hx : Hp), (-1 ≤ x3 ∧ x3 < n) → (∀ j : Nat, x3 < (j : Int) → j ≤ n → ∀ c : Nat, c < 21 → ∀ r : Nat, (r : Int) < p → hx 138 (210 * j + 10 * c + r) = cl p ((rsL N p n).drop j) c r) → (∀ a b, a ≠ 138 → hx a b = h a b) → (x3 + 1).toNat < n9 → Wp G E 7 (fun r hx => r = none ∧ (∀ c : Nat, c < 21 → ∀ r : Nat, (r : Int) < p → hx 138 (10 * c + r) = cl p (rsL N p n) c r) ∧ (∀ a b, a ≠ 138 → hx a b = h a b)) 50 [(0, rv E 128), (1, iv (n : Int)), (2, iv p), (3, iv x3)] [] hx := by
          intro n9
          induction n9 with
          | zero => intro x3 hx hi hw hf hm9; exact absurd hm9 (Nat.not_lt_zero _)
          | succ n9 ih9 =>
            intro x3 hx hi hw hf hm9
            have ih9_50 := ih9
            refine wp_iload_n 3 C dX12_layWays_50 rfl rfl ?_
            refine wp_if_lt (tgt := 178) (by omega) C dX12_layWays_51 (by decide) (fun c_51 => ?_) (fun c_51 => ?_)
            · skip
              refine wp_vret C dX12_layWays_178 ?_
              exact ⟨rfl, fun c hc r hr => by have q := hw 0 (by omega) (by omega) c hc r hr; simpa using q, hf⟩
            · skip
              refine wp_iconst (v := 0) C dX12_layWays_54 rfl ?_
              refine wp_istore (ls' := [(0, rv E 128), (1, iv (n : Int)), (2, iv p), (3, iv x3), (4, iv 0)]) [1, 2, 3, 4, 0] C dX12_layWays_55 (by decide) rfl ?_
              have q570 : ∀ n9 : Nat, ∀ (x4 : Int) (hx : Hp), (0 ≤ x4 ∧ x4 ≤ 21) → (∀ j : Nat, x3 < (j : Int) → j ≤ n → ∀ c : Nat, c < 21 → ∀ r : Nat, (r : Int) < p → hx 138 (210 * j + 10 * c + r) = cl p ((rsL N p n).drop j) c r) → (∀ c : Nat, (c : Int) < x4 → ∀ r : Nat, (r : Int) < p → hx 138 (210 * x3.toNat + 10 * c + r) = cl p ((rsL N p n).drop x3.toNat) c r) → (∀ a b, a ≠ 138 → hx a b = h a b) → (21 - x4).toNat < n9 → Wp G E 7 (fun r hx => r = none ∧ (∀ c : Nat, c < 21 → ∀ r : Nat, (r : Int) < p → hx 138 (10 * c + r) = cl p (rsL N p n) c r) ∧ (∀ a b, a ≠ 138 → hx a b = h a b)) 57 [(0, rv E 128), (1, iv (n : Int)), (2, iv p), (3, iv x3), (4, iv x4)] [] hx := by
                intro n9
                induction n9 with
                | zero => intro x4 hx hi4 hw hc0 hf hm9; exact absurd hm9 (Nat.not_lt_zero _)
                | succ n9 ih9 =>
                  intro x4 hx hi4 hw hc0 hf hm9
                  have ih9_57 := ih9
                  refine wp_iload 4 C dX12_layWays_57 rfl ?_
                  refine wp_bipush (v := 21) C dX12_layWays_59 rfl ?_
                  refine wp_icmp_ge (tgt := 172) (by omega) (by omega) C dX12_layWays_61 (by decide) (fun c_61 => ?_) (fun c_61 => ?_)
                  · skip
                    obtain ⟨y3m, e_y3m⟩ : ∃ z : Int, z = x3 + (-1) := ⟨_, rfl⟩
                    refine wp_iinc (j := 3) (y := y3m) (ls' := [(0, rv E 128), (1, iv (n : Int)), (2, iv p), (3, iv y3m), (4, iv x4)]) [1, 2, 3, 0, 4] C dX12_layWays_172 rfl e_y3m (by decide) rfl ?_
                    refine wp_goto (tgt := 50) C dX12_layWays_175 (by decide) ?_
                    refine wp_loc [0, 1, 2, 3] rfl ?_
                    exact ih9_50 y3m hx (by omega) (fun j h1 h2 c hc r hr => by rcases (show x3 < (j : Int) ∨ j = x3.toNat by omega) with q | rfl; exact hw j q h2 c hc r hr; exact hc0 c (by omega) r hr) (hf) (by omega)
                  · skip
                    refine wp_iconst (v := 0) C dX12_layWays_64 rfl ?_
                    refine wp_istore (ls' := [(0, rv E 128), (1, iv (n : Int)), (2, iv p), (3, iv x3), (4, iv x4), (5, iv 0)]) [1, 2, 3, 4, 5, 0] C dX12_layWays_65 (by decide) rfl ?_
                    have q670 : ∀ n9 : Nat, ∀ (x5 : Int) (hx : Hp), (0 ≤ x5 ∧ x5 ≤ p) → (∀ j : Nat, x3 < (j : Int) → j ≤ n → ∀ c : Nat, c < 21 → ∀ r : Nat, (r : Int) < p → hx 138 (210 * j + 10 * c + r) = cl p ((rsL N p n).drop j) c r) → (∀ c : Nat, (c : Int) < x4 → ∀ r : Nat, (r : Int) < p → hx 138 (210 * x3.toNat + 10 * c + r) = cl p ((rsL N p n).drop x3.toNat) c r) → (∀ r : Nat, (r : Int) < x5 → hx 138 (210 * x3.toNat + 10 * x4.toNat + r) = cl p ((rsL N p n).drop x3.toNat) x4.toNat r) → (∀ a b, a ≠ 138 → hx a b = h a b) → (p - x5).toNat < n9 → Wp G E 7 (fun r hx => r = none ∧ (∀ c : Nat, c < 21 → ∀ r : Nat, (r : Int) < p → hx 138 (10 * c + r) = cl p (rsL N p n) c r) ∧ (∀ a b, a ≠ 138 → hx a b = h a b)) 67 [(0, rv E 128), (1, iv (n : Int)), (2, iv p), (3, iv x3), (4, iv x4), (5, iv x5)] [] hx := by
                      intro n9
                      induction n9 with
                      | zero => intro x5 hx hi5 hw hc0 hr0 hf hm9; exact absurd hm9 (Nat.not_lt_zero _)
                      | succ n9 ih9 =>
                        intro x5 hx hi5 hw hc0 hr0 hf hm9
                        have ih9_67 := ih9
                        have Mx : MH hx n p N Sc Cl Cs := M0.of (fun b => ⟨hf _ _ (by decide), hf _ _ (by decide), hf _ _ (by decide)⟩)
                        refine wp_iload 5 C dX12_layWays_67 rfl ?_
                        refine wp_iload_n 2 C dX12_layWays_69 rfl rfl ?_
                        refine wp_icmp_ge (tgt := 166) (by omega) (by omega) C dX12_layWays_70 (by decide) (fun c_70 => ?_) (fun c_70 => ?_)
                        · skip
                          obtain ⟨y4, e_y4⟩ : ∃ z : Int, z = x4 + (1) := ⟨_, rfl⟩
                          refine wp_iinc (j := 4) (y := y4) (ls' := [(0, rv E 128), (1, iv (n : Int)), (2, iv p), (3, iv x3), (4, iv y4), (5, iv x5)]) [1, 2, 3, 4, 0, 5] C dX12_layWays_166 rfl e_y4 (by decide) rfl ?_
                          refine wp_goto (tgt := 57) C dX12_layWays_169 (by decide) ?_
                          refine wp_loc [0, 1, 2, 3, 4] rfl ?_
                          exact ih9_57 y4 hx (by omega) (hw) (fun c hc r hr => by rcases (show (c : Int) < x4 ∨ c = x4.toNat by omega) with q | rfl; exact hc0 c q r hr; exact hr0 r (by omega)) (hf) (by omega)
                        · skip
                          refine wp_iload 4 C dX12_layWays_73 rfl ?_
                          refine wp_if_ne (tgt := 82) (by omega) C dX12_layWays_75 (by decide) (fun c_75 => ?_) (fun c_75 => ?_)
                          · skip
                            refine wp_aloadR_n 0 C dX12_layWays_82 rfl rfl ?_
                            refine wp_getR flX12_40 sh_128 rfl C dX12_layWays_83 ?_
                            refine wp_sipush (v := 210) C dX12_layWays_86 rfl ?_
                            refine wp_iload_n 3 C dX12_layWays_89 rfl rfl ?_
                            refine wp_iconst (v := 1) C dX12_layWays_90 rfl ?_
                            refine wp_iadd C dX12_layWays_91 ?_
                            refine wp_imul C dX12_layWays_92 ?_
                            refine wp_bipush (v := 10) C dX12_layWays_93 rfl ?_
                            refine wp_iload 4 C dX12_layWays_95 rfl ?_
                            refine wp_iconst (v := 1) C dX12_layWays_97 rfl ?_
                            refine wp_isub C dX12_layWays_98 ?_
                            refine wp_imul C dX12_layWays_99 ?_
                            refine wp_iadd C dX12_layWays_100 ?_
                            refine wp_iload 5 C dX12_layWays_101 rfl ?_
                            refine wp_iload_n 2 C dX12_layWays_103 rfl rfl ?_
                            refine wp_iadd C dX12_layWays_104 ?_
                            refine wp_aloadR_n 0 C dX12_layWays_105 rfl rfl ?_
                            refine wp_iload_n 3 C dX12_layWays_106 rfl rfl ?_
                            refine wp_callVp (rest := [iv (x5 + p), iv ((210 * (x3 + 1)) + (10 * (x4 - 1))), rv E 138]) (c_mrestOf E hx n p N Sc Cl Cs Mx x3 (by omega)) svX12_162 sh_128 (by decide) rfl rfl (Nat.le_of_ble_eq_true rfl) C dX12_layWays_107 ?_
                            refine wp_isub C dX12_layWays_110 ?_
                            refine wp_iload_n 2 C dX12_layWays_111 rfl rfl ?_
                            refine wp_irem (by have hmi := mod_r (N x3.toNat) m3; omega) (by omega) C dX12_layWays_112 ?_
                            have hmi := mod_r (N x3.toNat) m3
                            have hsb := sbm_r (r := x5) (x := N x3.toNat % p) (p := p) (by omega) hmi
                            refine wp_top (tm_sbm (by omega) hmi) ?_
                            refine wp_iadd C dX12_layWays_113 ?_
                            refine wp_iald sh_138 (by omega) C dX12_layWays_114 ?_
                            refine wp_top (show _ = cl p ((rsL N p n).drop (x3.toNat + 1)) (x4.toNat - 1) (sbm x5 (N x3.toNat % p) p) by have q := hw (x3.toNat + 1) (by omega) (by omega) (x4.toNat - 1) (by omega) (sbm x5 (N x3.toNat % p) p).toNat (by omega); rw [show (((sbm x5 (N x3.toNat % p) p).toNat : Nat) : Int) = sbm x5 (N x3.toNat % p) p by omega] at q; rw [← q]; congr 1; omega) ?_
                            refine wp_nm (fun wt e_wt => ?_)
                            refine wp_istore (ls' := [(0, rv E 128), (1, iv (n : Int)), (2, iv p), (3, iv x3), (4, iv x4), (5, iv x5), (6, iv wt)]) [1, 2, 3, 4, 5, 6, 0] C dX12_layWays_115 (by decide) rfl ?_
                            refine wp_aloadR_n 0 C dX12_layWays_117 rfl rfl ?_
                            refine wp_getR flX12_40 sh_128 rfl C dX12_layWays_118 ?_
                            refine wp_sipush (v := 210) C dX12_layWays_121 rfl ?_
                            refine wp_iload_n 3 C dX12_layWays_124 rfl rfl ?_
                            refine wp_imul C dX12_layWays_125 ?_
                            refine wp_bipush (v := 10) C dX12_layWays_126 rfl ?_
                            refine wp_iload 4 C dX12_layWays_128 rfl ?_
                            refine wp_imul C dX12_layWays_130 ?_
                            refine wp_iadd C dX12_layWays_131 ?_
                            refine wp_iload 5 C dX12_layWays_132 rfl ?_
                            refine wp_iadd C dX12_layWays_134 ?_
                            refine wp_aloadR_n 0 C dX12_layWays_135 rfl rfl ?_
                            refine wp_getR flX12_40 sh_128 rfl C dX12_layWays_136 ?_
                            refine wp_sipush (v := 210) C dX12_layWays_139 rfl ?_
                            refine wp_iload_n 3 C dX12_layWays_142 rfl rfl ?_
                            refine wp_iconst (v := 1) C dX12_layWays_143 rfl ?_
                            refine wp_iadd C dX12_layWays_144 ?_
                            refine wp_imul C dX12_layWays_145 ?_
                            refine wp_bipush (v := 10) C dX12_layWays_146 rfl ?_
                            refine wp_iload 4 C dX12_layWays_148 rfl ?_
                            refine wp_imul C dX12_layWays_150 ?_
                            refine wp_iadd C dX12_layWays_151 ?_
                            refine wp_iload 5 C dX12_layWays_152 rfl ?_
                            refine wp_iadd C dX12_layWays_154 ?_
                            refine wp_iald sh_138 (by omega) C dX12_layWays_155 ?_
                            refine wp_top (show _ = cl p ((rsL N p n).drop (x3.toNat + 1)) x4.toNat x5 by have q := hw (x3.toNat + 1) (by omega) (by omega) x4.toNat (by omega) x5.toNat (by omega); rw [show ((x5.toNat : Nat) : Int) = x5 by omega] at q; rw [← q]; congr 1; omega) ?_
                            refine wp_iload 6 C dX12_layWays_156 rfl ?_
                            refine wp_iadd C dX12_layWays_158 ?_
                            refine wp_iast sh_138 (by omega) C dX12_layWays_159 ?_
                            obtain ⟨H1, e_H1⟩ : ∃ z : Hp, z = upd2 hx 138 (((210 * x3) + (10 * x4)) + x5).toNat ((cl p ((rsL N p n).drop (x3.toNat + 1)) x4.toNat x5) + wt) := ⟨_, rfl⟩
                            refine wp_heq e_H1 ?_
                            obtain ⟨y5, e_y5⟩ : ∃ z : Int, z = x5 + (1) := ⟨_, rfl⟩
                            refine wp_iinc (j := 5) (y := y5) (ls' := [(0, rv E 128), (1, iv (n : Int)), (2, iv p), (3, iv x3), (4, iv x4), (5, iv y5), (6, iv wt)]) [1, 2, 3, 4, 5, 0, 6] C dX12_layWays_160 rfl e_y5 (by decide) rfl ?_
                            refine wp_goto (tgt := 67) C dX12_layWays_163 (by decide) ?_
                            refine wp_loc [0, 1, 2, 3, 4, 5] rfl ?_
                            exact ih9_67 y5 H1 (by omega) (fun j h1 h2 c hc r hr => by rw [e_H1]; unfold upd2; rw [if_neg (fun z => by omega)]; exact hw j h1 h2 c hc r hr) (fun c hc r hr => by rw [e_H1]; unfold upd2; rw [if_neg (fun z => by omega)]; exact hc0 c hc r hr) (fun r hr => by rcases (show (r : Int) < x5 ∨ r = x5.toNat by omega) with q | rfl; rw [e_H1]; unfold upd2; rw [if_neg (fun z => by omega)]; exact hr0 r q; rw [e_H1]; unfold upd2; rw [if_pos (by omega), cl_drop (i := x3.toNat) (by omega), show ((x5.toNat : Nat) : Int) = x5 by omega]; rw [if_neg (by omega)]; rw [e_wt]) (fun a b hab => by rw [e_H1]; unfold upd2; rw [if_neg (fun z => hab z.1)]; exact hf a b hab) (by omega)
                          · skip
                            refine wp_iconst (v := 0) C dX12_layWays_78 rfl ?_
                            refine wp_goto (tgt := 115) C dX12_layWays_79 (by decide) ?_
                            refine wp_istore (ls' := [(0, rv E 128), (1, iv (n : Int)), (2, iv p), (3, iv x3), (4, iv x4), (5, iv x5), (6, iv 0)]) [1, 2, 3, 4, 5, 6, 0] C dX12_layWays_115 (by decide) rfl ?_
                            refine wp_aloadR_n 0 C dX12_layWays_117 rfl rfl ?_
                            refine wp_getR flX12_40 sh_128 rfl C dX12_layWays_118 ?_
                            refine wp_sipush (v := 210) C dX12_layWays_121 rfl ?_
                            refine wp_iload_n 3 C dX12_layWays_124 rfl rfl ?_
                            refine wp_imul C dX12_layWays_125 ?_
                            refine wp_bipush (v := 10) C dX12_layWays_126 rfl ?_
                            refine wp_iload 4 C dX12_layWays_128 rfl ?_
                            refine wp_imul C dX12_layWays_130 ?_
                            refine wp_iadd C dX12_layWays_131 ?_
                            refine wp_iload 5 C dX12_layWays_132 rfl ?_
                            refine wp_iadd C dX12_layWays_134 ?_
                            refine wp_aloadR_n 0 C dX12_layWays_135 rfl rfl ?_
                            refine wp_getR flX12_40 sh_128 rfl C dX12_layWays_136 ?_
                            refine wp_sipush (v := 210) C dX12_layWays_139 rfl ?_
                            refine wp_iload_n 3 C dX12_layWays_142 rfl rfl ?_
                            refine wp_iconst (v := 1) C dX12_layWays_143 rfl ?_
                            refine wp_iadd C dX12_layWays_144 ?_
                            refine wp_imul C dX12_layWays_145 ?_
                            refine wp_bipush (v := 10) C dX12_layWays_146 rfl ?_
                            refine wp_iload 4 C dX12_layWays_148 rfl ?_
                            refine wp_imul C dX12_layWays_150 ?_
                            refine wp_iadd C dX12_layWays_151 ?_
                            refine wp_iload 5 C dX12_layWays_152 rfl ?_
                            refine wp_iadd C dX12_layWays_154 ?_
                            refine wp_iald sh_138 (by omega) C dX12_layWays_155 ?_
                            refine wp_top (show _ = cl p ((rsL N p n).drop (x3.toNat + 1)) x4.toNat x5 by have q := hw (x3.toNat + 1) (by omega) (by omega) x4.toNat (by omega) x5.toNat (by omega); rw [show ((x5.toNat : Nat) : Int) = x5 by omega] at q; rw [← q]; congr 1; omega) ?_
                            refine wp_iload 6 C dX12_layWays_156 rfl ?_
                            refine wp_iadd C dX12_layWays_158 ?_
                            refine wp_iast sh_138 (by omega) C dX12_layWays_159 ?_
                            obtain ⟨H2, e_H2⟩ : ∃ z : Hp, z = upd2 hx 138 (((210 * x3) + (10 * x4)) + x5).toNat ((cl p ((rsL N p n).drop (x3.toNat + 1)) x4.toNat x5) + 0) := ⟨_, rfl⟩
                            refine wp_heq e_H2 ?_
                            obtain ⟨y5, e_y5⟩ : ∃ z : Int, z = x5 + (1) := ⟨_, rfl⟩
                            refine wp_iinc (j := 5) (y := y5) (ls' := [(0, rv E 128), (1, iv (n : Int)), (2, iv p), (3, iv x3), (4, iv x4), (5, iv y5), (6, iv 0)]) [1, 2, 3, 4, 5, 0, 6] C dX12_layWays_160 rfl e_y5 (by decide) rfl ?_
                            refine wp_goto (tgt := 67) C dX12_layWays_163 (by decide) ?_
                            refine wp_loc [0, 1, 2, 3, 4, 5] rfl ?_
                            exact ih9_67 y5 H2 (by omega) (fun j h1 h2 c hc r hr => by rw [e_H2]; unfold upd2; rw [if_neg (fun z => by omega)]; exact hw j h1 h2 c hc r hr) (fun c hc r hr => by rw [e_H2]; unfold upd2; rw [if_neg (fun z => by omega)]; exact hc0 c hc r hr) (fun r hr => by rcases (show (r : Int) < x5 ∨ r = x5.toNat by omega) with q | rfl; rw [e_H2]; unfold upd2; rw [if_neg (fun z => by omega)]; exact hr0 r q; rw [e_H2]; unfold upd2; rw [if_pos (by omega), cl_drop (i := x3.toNat) (by omega), show ((x5.toNat : Nat) : Int) = x5 by omega]; rw [if_pos (by omega)]) (fun a b hab => by rw [e_H2]; unfold upd2; rw [if_neg (fun z => hab z.1)]; exact hf a b hab) (by omega)
                    have q67 : ∀ (x5 : Int) (hx : Hp), (0 ≤ x5 ∧ x5 ≤ p) → (∀ j : Nat, x3 < (j : Int) → j ≤ n → ∀ c : Nat, c < 21 → ∀ r : Nat, (r : Int) < p → hx 138 (210 * j + 10 * c + r) = cl p ((rsL N p n).drop j) c r) → (∀ c : Nat, (c : Int) < x4 → ∀ r : Nat, (r : Int) < p → hx 138 (210 * x3.toNat + 10 * c + r) = cl p ((rsL N p n).drop x3.toNat) c r) → (∀ r : Nat, (r : Int) < x5 → hx 138 (210 * x3.toNat + 10 * x4.toNat + r) = cl p ((rsL N p n).drop x3.toNat) x4.toNat r) → (∀ a b, a ≠ 138 → hx a b = h a b) → Wp G E 7 (fun r hx => r = none ∧ (∀ c : Nat, c < 21 → ∀ r : Nat, (r : Int) < p → hx 138 (10 * c + r) = cl p (rsL N p n) c r) ∧ (∀ a b, a ≠ 138 → hx a b = h a b)) 67 [(0, rv E 128), (1, iv (n : Int)), (2, iv p), (3, iv x3), (4, iv x4), (5, iv x5)] [] hx := fun x5 hx hi5 hw hc0 hr0 hf => q670 _ x5 hx hi5 hw hc0 hr0 hf (Nat.lt_succ_self _)
                    exact q67 0 hx (by omega) (hw) (hc0) (fun r hr => absurd hr (by omega)) (hf)
              have q57 : ∀ (x4 : Int) (hx : Hp), (0 ≤ x4 ∧ x4 ≤ 21) → (∀ j : Nat, x3 < (j : Int) → j ≤ n → ∀ c : Nat, c < 21 → ∀ r : Nat, (r : Int) < p → hx 138 (210 * j + 10 * c + r) = cl p ((rsL N p n).drop j) c r) → (∀ c : Nat, (c : Int) < x4 → ∀ r : Nat, (r : Int) < p → hx 138 (210 * x3.toNat + 10 * c + r) = cl p ((rsL N p n).drop x3.toNat) c r) → (∀ a b, a ≠ 138 → hx a b = h a b) → Wp G E 7 (fun r hx => r = none ∧ (∀ c : Nat, c < 21 → ∀ r : Nat, (r : Int) < p → hx 138 (10 * c + r) = cl p (rsL N p n) c r) ∧ (∀ a b, a ≠ 138 → hx a b = h a b)) 57 [(0, rv E 128), (1, iv (n : Int)), (2, iv p), (3, iv x3), (4, iv x4)] [] hx := fun x4 hx hi4 hw hc0 hf => q570 _ x4 hx hi4 hw hc0 hf (Nat.lt_succ_self _)
              exact q57 0 hx (by omega) (hw) (fun c hc => absurd hc (by omega)) (hf)
        have q50 : ∀ (x3 : Int) (hx : Hp), (-1 ≤ x3 ∧ x3 < n) → (∀ j : Nat, x3 < (j : Int) → j ≤ n → ∀ c : Nat, c < 21 → ∀ r : Nat, (r : Int) < p → hx 138 (210 * j + 10 * c + r) = cl p ((rsL N p n).drop j) c r) → (∀ a b, a ≠ 138 → hx a b = h a b) → Wp G E 7 (fun r hx => r = none ∧ (∀ c : Nat, c < 21 → ∀ r : Nat, (r : Int) < p → hx 138 (10 * c + r) = cl p (rsL N p n) c r) ∧ (∀ a b, a ≠ 138 → hx a b = h a b)) 50 [(0, rv E 128), (1, iv (n : Int)), (2, iv p), (3, iv x3)] [] hx := fun x3 hx hi hw hf => q500 _ x3 hx hi hw hf (Nat.lt_succ_self _)
        exact q50 y3s hx (by omega) (fun j h1 h2 c hc r hr => by rw [show j = n by omega, show 210 * n + 10 * c + r = 210 * n + (10 * c + r) by omega, hb0 (10 * c + r) (by omega), List.drop_eq_nil_of_le (by rw [rsL_len]; exact Nat.le_refl _)]; unfold cl; by_cases q : c = 0 ∧ r = 0; rw [if_pos (by omega), if_pos (by omega)]; rw [if_neg (by omega), if_neg (by omega)]) (hf)
      · skip
        refine wp_aloadR_n 0 C dX12_layWays_19 rfl rfl ?_
        refine wp_getR flX12_40 sh_128 rfl C dX12_layWays_20 ?_
        refine wp_sipush (v := 210) C dX12_layWays_23 rfl ?_
        refine wp_iload_n 1 C dX12_layWays_26 rfl rfl ?_
        refine wp_imul C dX12_layWays_27 ?_
        refine wp_iload_n 3 C dX12_layWays_28 rfl rfl ?_
        refine wp_iadd C dX12_layWays_29 ?_
        refine wp_iload_n 3 C dX12_layWays_30 rfl rfl ?_
        refine wp_if_ne (tgt := 38) (by omega) C dX12_layWays_31 (by decide) (fun c_31 => ?_) (fun c_31 => ?_)
        · skip
          refine wp_iconst (v := 0) C dX12_layWays_38 rfl ?_
          refine wp_iast sh_138 (by omega) C dX12_layWays_39 ?_
          obtain ⟨H3, e_H3⟩ : ∃ z : Hp, z = upd2 hx 138 ((210 * (n : Int)) + x3).toNat 0 := ⟨_, rfl⟩
          refine wp_heq e_H3 ?_
          obtain ⟨y3, e_y3⟩ : ∃ z : Int, z = x3 + (1) := ⟨_, rfl⟩
          refine wp_iinc (j := 3) (y := y3) (ls' := [(0, rv E 128), (1, iv (n : Int)), (2, iv p), (3, iv y3)]) [1, 2, 3, 0] C dX12_layWays_40 rfl e_y3 (by decide) rfl ?_
          refine wp_goto (tgt := 12) C dX12_layWays_43 (by decide) ?_
          exact ih9_12 y3 H3 (by omega) (fun b hb => by rw [e_H3]; unfold upd2; by_cases q : b = x3.toNat; rw [if_pos (by omega), if_neg (by omega)]; rw [if_neg (fun z => q (by omega))]; exact hb0 b (by omega)) (fun a b hab => by rw [e_H3]; unfold upd2; rw [if_neg (fun z => hab z.1)]; exact hf a b hab) (by omega)
        · skip
          refine wp_iconst (v := 1) C dX12_layWays_34 rfl ?_
          refine wp_goto (tgt := 39) C dX12_layWays_35 (by decide) ?_
          refine wp_iast sh_138 (by omega) C dX12_layWays_39 ?_
          obtain ⟨H4, e_H4⟩ : ∃ z : Hp, z = upd2 hx 138 ((210 * (n : Int)) + x3).toNat 1 := ⟨_, rfl⟩
          refine wp_heq e_H4 ?_
          obtain ⟨y3, e_y3⟩ : ∃ z : Int, z = x3 + (1) := ⟨_, rfl⟩
          refine wp_iinc (j := 3) (y := y3) (ls' := [(0, rv E 128), (1, iv (n : Int)), (2, iv p), (3, iv y3)]) [1, 2, 3, 0] C dX12_layWays_40 rfl e_y3 (by decide) rfl ?_
          refine wp_goto (tgt := 12) C dX12_layWays_43 (by decide) ?_
          exact ih9_12 y3 H4 (by omega) (fun b hb => by rw [e_H4]; unfold upd2; by_cases q : b = x3.toNat; rw [if_pos (by omega), if_pos (by omega)]; rw [if_neg (fun z => q (by omega))]; exact hb0 b (by omega)) (fun a b hab => by rw [e_H4]; unfold upd2; rw [if_neg (fun z => hab z.1)]; exact hf a b hab) (by omega)
  have q12 : ∀ (x3 : Int) (hx : Hp), (0 ≤ x3 ∧ x3 ≤ 210) → (∀ b : Nat, (b : Int) < x3 → hx 138 (210 * n + b) = if b = 0 then 1 else 0) → (∀ a b, a ≠ 138 → hx a b = h a b) → Wp G E 7 (fun r hx => r = none ∧ (∀ c : Nat, c < 21 → ∀ r : Nat, (r : Int) < p → hx 138 (10 * c + r) = cl p (rsL N p n) c r) ∧ (∀ a b, a ≠ 138 → hx a b = h a b)) 12 [(0, rv E 128), (1, iv (n : Int)), (2, iv p), (3, iv x3)] [] hx := fun x3 hx hi hb0 hf => q120 _ x3 hx hi hb0 hf (Nat.lt_succ_self _)
  exact q12 0 h (by omega) (fun b hb => absurd hb (by omega)) (fun a b _ => rfl)

set_option maxRecDepth 100000 in
set_option maxHeartbeats 4000000 in
theorem m_many (E : En) (h : Hp) (n : Nat) (p : Int) (N Sc Cl Cs : Nat → Int) (M0 : MH h n p N Sc Cl Cs) (k r : Int) (hk : -2147483648 ≤ k ∧ k ≤ 2147483647) (hr : -2147483648 ≤ r ∧ r ≤ 2147483647) : Ct 3 yX12_many cX12_many 5 (some .int) E [rv E 128, iv k, iv r] h (fun v hx => v = some (iv (if ¬ ((-1 ≤ k ∧ k ≤ 20) ∧ (0 ≤ r ∧ r ≤ p - 1)) then -3 else manyS p (rsL N p n) k r)) ∧ (∀ a b, a ≠ 138 → hx a b = h a b)) := by
  obtain ⟨m0, m1, m2, m3, mN, mS, mC, mK⟩ := id M0
  refine ct_intro (by decide) (Nat.le_of_ble_eq_true rfl) (fun G C => ?_)
  show Wp G E 5 (fun v hx => v = some (iv (if ¬ ((-1 ≤ k ∧ k ≤ 20) ∧ (0 ≤ r ∧ r ≤ p - 1)) then -3 else manyS p (rsL N p n) k r)) ∧ (∀ a b, a ≠ 138 → hx a b = h a b)) 0 [(0, rv E 128), (1, iv k), (2, iv r)] [] h
  refine wp_iload_n 1 C dX12_many_0 rfl rfl ?_
  refine wp_i2l (by omega) C dX12_many_1 ?_
  refine wp_ldc2 (v := (-1)) C (mT (i := 1021) (by decide +kernel) rfl) dX12_many_2 ?_
  refine wp_ldc2 (v := 20) C (mT (i := 1089) (by decide +kernel) rfl) dX12_many_5 ?_
  refine wp_callSp (rest := []) (c_in E h k (-1) 20 (by omega) (by omega) (by omega)) ssX12_69 (by decide) rfl rfl (Nat.le_of_ble_eq_true rfl) C dX12_many_8 ?_
  refine wp_ifb_eq (tgt := 30) C dX12_many_11 (by decide) (fun c_11 => ?_) (fun c_11 => ?_)
  · skip
    refine wp_bipush (v := (-3)) C dX12_many_30 rfl ?_
    refine wp_iret C dX12_many_32 ?_
    exact ⟨by rw [if_pos (fun z => c_11 z.1)], fun _ _ _ => rfl⟩
  · skip
    refine wp_iload_n 2 C dX12_many_14 rfl rfl ?_
    refine wp_i2l (by omega) C dX12_many_15 ?_
    refine wp_lconst (v := 0) C dX12_many_16 rfl ?_
    refine wp_aloadR_n 0 C dX12_many_17 rfl rfl ?_
    refine wp_callVp (rest := [jv 0, jv r]) (c_parts E h n p N Sc Cl Cs M0) svX12_157 sh_128 (by decide) rfl rfl (Nat.le_of_ble_eq_true rfl) C dX12_many_18 ?_
    refine wp_iconst (v := 1) C dX12_many_21 rfl ?_
    refine wp_isub C dX12_many_22 ?_
    refine wp_i2l (by omega) C dX12_many_23 ?_
    refine wp_callSp (rest := []) (c_in E h r 0 (p - 1) (by omega) (by omega) (by omega)) ssX12_69 (by decide) rfl rfl (Nat.le_of_ble_eq_true rfl) C dX12_many_24 ?_
    refine wp_ifb_ne (tgt := 33) C dX12_many_27 (by decide) (fun c_27 => ?_) (fun c_27 => ?_)
    · skip
      refine wp_aloadR_n 0 C dX12_many_33 rfl rfl ?_
      refine wp_callV (rest := []) (c_layWays E h n p N Sc Cl Cs M0) svX12_222 sh_128 (by decide) rfl rfl (Nat.le_of_ble_eq_true rfl) C dX12_many_34 (fun r0 hf0 pf => ?_)
      obtain ⟨rfl, hcl, hf⟩ := pf
      refine wp_iconst (v := 0) C dX12_many_37 rfl ?_
      refine wp_istore_n (ls' := [(0, rv E 128), (1, iv k), (2, iv r), (3, iv 0)]) [1, 2, 3, 0] C dX12_many_38 rfl (by decide) rfl ?_
      refine wp_iconst (v := 0) C dX12_many_39 rfl ?_
      refine wp_istore (ls' := [(0, rv E 128), (1, iv k), (2, iv r), (3, iv 0), (4, iv 0)]) [1, 2, 3, 4, 0] C dX12_many_40 (by decide) rfl ?_
      have q420 : ∀ n9 : Nat, ∀ (x3 : Int) (x4 : Int), (0 ≤ x4 ∧ x4 ≤ 21) → (x3 = sumTo (fun c => if k = -1 ∨ k = (c : Int) then cl p (rsL N p n) c r else 0) x4.toNat) → (21 - x4).toNat < n9 → Wp G E 5 (fun v hx => v = some (iv (if ¬ ((-1 ≤ k ∧ k ≤ 20) ∧ (0 ≤ r ∧ r ≤ p - 1)) then -3 else manyS p (rsL N p n) k r)) ∧ (∀ a b, a ≠ 138 → hx a b = h a b)) 42 [(0, rv E 128), (1, iv k), (2, iv r), (3, iv x3), (4, iv x4)] [] hf0 := by
        intro n9
        induction n9 with
        | zero => intro x3 x4 hi hs hm9; exact absurd hm9 (Nat.not_lt_zero _)
        | succ n9 ih9 =>
          intro x3 x4 hi hs hm9
          have ih9_42 := ih9
          refine wp_iload 4 C dX12_many_42 rfl ?_
          refine wp_bipush (v := 21) C dX12_many_44 rfl ?_
          refine wp_icmp_ge (tgt := 85) (by omega) (by omega) C dX12_many_46 (by decide) (fun c_46 => ?_) (fun c_46 => ?_)
          · skip
            refine wp_iload_n 3 C dX12_many_85 rfl rfl ?_
            refine wp_iret C dX12_many_86 ?_
            exact ⟨by rw [if_neg (not_not_intro ⟨c_11, c_27⟩), hs, show x4 = 21 by omega]; exact congrArg (fun z => some (iv z)) (many_sum (by rw [rsL_len]; exact m1) (by omega)), hf⟩
          · skip
            refine wp_iload_n 3 C dX12_many_49 rfl rfl ?_
            refine wp_iload_n 1 C dX12_many_50 rfl rfl ?_
            refine wp_iconst (v := (-1)) C dX12_many_51 rfl ?_
            refine wp_icmp_eq (tgt := 61) (by omega) (by omega) C dX12_many_52 (by decide) (fun c_52 => ?_) (fun c_52 => ?_)
            · skip
              refine wp_aloadR_n 0 C dX12_many_61 rfl rfl ?_
              refine wp_getR flX12_40 sh_128 rfl C dX12_many_62 ?_
              refine wp_bipush (v := 10) C dX12_many_65 rfl ?_
              refine wp_iload 4 C dX12_many_67 rfl ?_
              refine wp_imul C dX12_many_69 ?_
              refine wp_iload_n 2 C dX12_many_70 rfl rfl ?_
              refine wp_iadd C dX12_many_71 ?_
              refine wp_iald sh_138 (by omega) C dX12_many_72 ?_
              refine wp_goto (tgt := 77) C dX12_many_73 (by decide) ?_
              refine wp_iadd C dX12_many_77 ?_
              refine wp_nm (fun v1 e_v1 => ?_)
              refine wp_istore_n (ls' := [(0, rv E 128), (1, iv k), (2, iv r), (3, iv v1), (4, iv x4)]) [1, 2, 3, 0, 4] C dX12_many_78 rfl (by decide) rfl ?_
              obtain ⟨v2, e_v2⟩ : ∃ z : Int, z = x4 + (1) := ⟨_, rfl⟩
              refine wp_iinc (j := 4) (y := v2) (ls' := [(0, rv E 128), (1, iv k), (2, iv r), (3, iv v1), (4, iv v2)]) [1, 2, 3, 4, 0] C dX12_many_79 rfl e_v2 (by decide) rfl ?_
              refine wp_goto (tgt := 42) C dX12_many_82 (by decide) ?_
              exact ih9_42 v1 v2 (by omega) (by rw [e_v1, hs, e_v2, show (x4 + 1).toNat = x4.toNat + 1 by omega]; simp only [sumTo]; rw [if_pos (by omega)]; rw [show ((10 * x4 + r).toNat) = 10 * x4.toNat + r.toNat by omega, hcl x4.toNat (by omega) r.toNat (by omega), show ((r.toNat : Nat) : Int) = r by omega]) (by omega)
            · skip
              refine wp_iload_n 1 C dX12_many_55 rfl rfl ?_
              refine wp_iload 4 C dX12_many_56 rfl ?_
              refine wp_icmp_ne (tgt := 76) (by omega) (by omega) C dX12_many_58 (by decide) (fun c_58 => ?_) (fun c_58 => ?_)
              · skip
                refine wp_iconst (v := 0) C dX12_many_76 rfl ?_
                refine wp_iadd C dX12_many_77 ?_
                refine wp_nm (fun v3 e_v3 => ?_)
                refine wp_istore_n (ls' := [(0, rv E 128), (1, iv k), (2, iv r), (3, iv v3), (4, iv x4)]) [1, 2, 3, 0, 4] C dX12_many_78 rfl (by decide) rfl ?_
                obtain ⟨v4, e_v4⟩ : ∃ z : Int, z = x4 + (1) := ⟨_, rfl⟩
                refine wp_iinc (j := 4) (y := v4) (ls' := [(0, rv E 128), (1, iv k), (2, iv r), (3, iv v3), (4, iv v4)]) [1, 2, 3, 4, 0] C dX12_many_79 rfl e_v4 (by decide) rfl ?_
                refine wp_goto (tgt := 42) C dX12_many_82 (by decide) ?_
                exact ih9_42 v3 v4 (by omega) (by rw [e_v3, hs, e_v4, show (x4 + 1).toNat = x4.toNat + 1 by omega]; simp only [sumTo]; rw [if_neg (by omega)]) (by omega)
              · skip
                refine wp_aloadR_n 0 C dX12_many_61 rfl rfl ?_
                refine wp_getR flX12_40 sh_128 rfl C dX12_many_62 ?_
                refine wp_bipush (v := 10) C dX12_many_65 rfl ?_
                refine wp_iload 4 C dX12_many_67 rfl ?_
                refine wp_imul C dX12_many_69 ?_
                refine wp_iload_n 2 C dX12_many_70 rfl rfl ?_
                refine wp_iadd C dX12_many_71 ?_
                refine wp_iald sh_138 (by omega) C dX12_many_72 ?_
                refine wp_goto (tgt := 77) C dX12_many_73 (by decide) ?_
                refine wp_iadd C dX12_many_77 ?_
                refine wp_nm (fun v5 e_v5 => ?_)
                refine wp_istore_n (ls' := [(0, rv E 128), (1, iv k), (2, iv r), (3, iv v5), (4, iv x4)]) [1, 2, 3, 0, 4] C dX12_many_78 rfl (by decide) rfl ?_
                obtain ⟨v6, e_v6⟩ : ∃ z : Int, z = x4 + (1) := ⟨_, rfl⟩
                refine wp_iinc (j := 4) (y := v6) (ls' := [(0, rv E 128), (1, iv k), (2, iv r), (3, iv v5), (4, iv v6)]) [1, 2, 3, 4, 0] C dX12_many_79 rfl e_v6 (by decide) rfl ?_
                refine wp_goto (tgt := 42) C dX12_many_82 (by decide) ?_
                exact ih9_42 v5 v6 (by omega) (by rw [e_v5, hs, e_v6, show (x4 + 1).toNat = x4.toNat + 1 by omega]; simp only [sumTo]; rw [if_pos (by omega)]; rw [show ((10 * x4 + r).toNat) = 10 * x4.toNat + r.toNat by omega, hcl x4.toNat (by omega) r.toNat (by omega), show ((r.toNat : Nat) : Int) = r by omega]) (by omega)
      have q42 : ∀ (x3 : Int) (x4 : Int), (0 ≤ x4 ∧ x4 ≤ 21) → (x3 = sumTo (fun c => if k = -1 ∨ k = (c : Int) then cl p (rsL N p n) c r else 0) x4.toNat) → Wp G E 5 (fun v hx => v = some (iv (if ¬ ((-1 ≤ k ∧ k ≤ 20) ∧ (0 ≤ r ∧ r ≤ p - 1)) then -3 else manyS p (rsL N p n) k r)) ∧ (∀ a b, a ≠ 138 → hx a b = h a b)) 42 [(0, rv E 128), (1, iv k), (2, iv r), (3, iv x3), (4, iv x4)] [] hf0 := fun x3 x4 hi hs => q420 _ x3 x4 hi hs (Nat.lt_succ_self _)
      exact q42 0 0 (by omega) (rfl)
    · skip
      refine wp_bipush (v := (-3)) C dX12_many_30 rfl ?_
      refine wp_iret C dX12_many_32 ?_
      exact ⟨by rw [if_pos (fun z => c_27 z.2)], fun _ _ _ => rfl⟩


/-! ===== Turns: open, firstComesTo, leastBest; EvenTen.turns ===== -/
theorem ten_fin {N : Nat → Int} {p k : Int} {n S : Nat} {g : Nat → Int} {x v : Int} (hS : S < 2 ^ n) (hg : ∀ T, T < S → (g T = 1 ↔ tenIn N p n k T)) (hx : x = 1 ↔ teB N p n k S) (hv : v = 1 ↔ x = 1 ∨ ∃ b, b < n ∧ S.testBit b = true ∧ g (S ^^^ 2 ^ b) = 1) : v = 1 ↔ tenIn N p n k S := by
  rw [hv, tenIn_step, hx]
  constructor
  · rintro (z | ⟨b, b1, b2, b3⟩)
    · exact Or.inl z
    · exact Or.inr ⟨b, b2, (hg _ (x_lt b2)).mp b3⟩
  · rintro (z | ⟨b, b2, b3⟩)
    · exact Or.inl z
    · exact Or.inr ⟨b, lt_tb hS b2, b2, (hg _ (x_lt b2)).mpr b3⟩
theorem some_bit {S n : Nat} (h0 : 0 < S) (hS : S < 2 ^ n) : ∃ b, b < n ∧ S.testBit b = true := by
  obtain ⟨b, b1, -⟩ := sb_out (sb_0 S) (by omega)
  exact ⟨b, lt_tb hS b1, b1⟩
theorem cnt_z (n : Nat) : cntB ((0 : Nat) : Int) n = 0 := addF_0 (addF_cnt n)
theorem dj_0 : dj 0 0 := fun j h => by simp at h
theorem fg_0 (n : Nat) : fgN 0 n = 0 := by
  have h : ∀ m : Nat, sumB (fun i => ((3 ^ i : Nat) : Int)) ((0 : Nat) : Int) m = 0 := fun m => by
    induction m with
    | zero => rfl
    | succ m ih => rw [sumB_nat, ih]; simp
  exact h n
set_option maxRecDepth 100000 in
set_option maxHeartbeats 4000000 in
theorem c_open (E : En) (h : Hp) (n : Nat) (p k : Int) (hn : h 1 4 = (n : Int)) (hn8 : n ≤ 8) (hpp : h 1 5 = p) (hp : 2 ≤ p ∧ p ≤ 10) (hk : 1 ≤ k ∧ k ≤ 20) (hN : ∀ i : Nat, (i : Int) < h 1 4 → 0 ≤ h 2 i ∧ h 2 i ≤ 999999999999999) : Ct 3 yX9_open cX9_open 6 none E [rv E 125, iv k] h (fun v hx => v = none ∧ turI (tenT (h 2) p n k) n hx ∧ (∀ a b, a ≠ 27 → a ≠ 126 → a ≠ 127 → hx a b = h a b)) := by
  have hP0 : 0 < 2 ^ n := Nat.pow_pos (by decide)
  have hP8 : 2 ^ n ≤ 256 := Nat.pow_le_pow_right (n := 2) (by decide) hn8
  refine ct_intro (by decide) (Nat.le_of_ble_eq_true rfl) (fun G C => ?_)
  show Wp G E 6 (fun v hx => v = none ∧ turI (tenT (h 2) p n k) n hx ∧ (∀ a b, a ≠ 27 → a ≠ 126 → a ≠ 127 → hx a b = h a b)) 0 [(0, rv E 125), (1, iv k)] [] h
  refine wp_aloadR_n 0 C dX9_open_0 rfl rfl ?_
  refine wp_getR flX9_23 sh_125 rfl C dX9_open_1 ?_
  refine wp_iconst (v := 0) C dX9_open_4 rfl ?_
  refine wp_callSu (rest := []) (c_fillI E h 27 6561 sh_27 0) ssX9_26 (by decide) rfl rfl (Nat.le_of_ble_eq_true rfl) C dX9_open_5 ?_
  show Wp G E 6 (fun v hx => v = none ∧ turI (tenT (h 2) p n k) n hx ∧ (∀ a b, a ≠ 27 → a ≠ 126 → a ≠ 127 → hx a b = h a b)) 8 [(0, rv E 125), (1, iv k)] [] (fillH h 27 0 6561 0)
  obtain ⟨H1, e_H1⟩ : ∃ z : Hp, z = fillH h 27 0 6561 0 := ⟨_, rfl⟩
  refine wp_heq e_H1 ?_
  refine wp_iconst (v := 1) C dX9_open_8 rfl ?_
  refine wp_aloadR_n 0 C dX9_open_9 rfl rfl ?_
  refine wp_getR flX9_19 sh_125 rfl C dX9_open_10 ?_
  refine wp_getI flX9_32 sh_1 rfl C dX9_open_13 ?_
  refine wp_top (rdf_ne e_H1 (by decide)) ?_
  refine wp_ishl (by omega) C dX9_open_16 ?_
  refine wp_nm (fun w2 e_w2 => ?_)
  refine wp_istore_n (ls' := [(0, rv E 125), (1, iv k), (2, iv w2)]) [1, 2, 0] C dX9_open_17 rfl (by decide) rfl ?_
  refine wp_aloadR_n 0 C dX9_open_18 rfl rfl ?_
  refine wp_getR flX9_9 sh_125 rfl C dX9_open_19 ?_
  refine wp_iconst (v := 0) C dX9_open_22 rfl ?_
  refine wp_iconst (v := 0) C dX9_open_23 rfl ?_
  refine wp_zast sh_126 (by omega) (by first | exact bi_01 | omega) C dX9_open_24 ?_
  obtain ⟨H2, e_H2⟩ : ∃ z : Hp, z = upd2 H1 126 0 0 := ⟨_, rfl⟩
  refine wp_heq e_H2 ?_
  refine wp_aloadR_n 0 C dX9_open_25 rfl rfl ?_
  refine wp_getR flX9_15 sh_125 rfl C dX9_open_26 ?_
  refine wp_iconst (v := 0) C dX9_open_29 rfl ?_
  refine wp_iconst (v := 0) C dX9_open_30 rfl ?_
  refine wp_iast sh_127 (by omega) C dX9_open_31 ?_
  obtain ⟨H3, e_H3⟩ : ∃ z : Hp, z = upd2 H2 127 0 0 := ⟨_, rfl⟩
  refine wp_heq e_H3 ?_
  refine wp_iconst (v := 1) C dX9_open_32 rfl ?_
  have hw2 : w2 = ((2 ^ n : Nat) : Int) := by rw [e_w2, hn, Int.toNat_natCast, Int.one_mul, p2_cast]
  have z1 : H3 126 0 = 0 := by rw [e_H3, e_H2]; rfl
  have z2 : H3 127 0 = 0 := by rw [e_H3]; rfl
  have z3 : ∀ j, j < 6561 → H3 27 j = 0 := fun j hj => by rw [e_H3, e_H2, e_H1]; show fillH h 27 0 6561 0 27 j = 0; unfold fillH; rw [if_pos (by omega)]
  have z4 : ∀ a b, a ≠ 27 → a ≠ 126 → a ≠ 127 → H3 a b = h a b := fun a b h1 h2 h3 => by rw [e_H3, e_H2, e_H1]; unfold upd2 fillH; rw [if_neg (fun z => h3 z.1), if_neg (fun z => h2 z.1), if_neg (fun z => h1 z.1)]
  refine wp_istore_n (ls' := [(0, rv E 125), (1, iv k), (2, iv w2), (3, iv 1)]) [1, 2, 3, 0] C dX9_open_33 rfl (by decide) rfl ?_
  have q340 : ∀ n9 : Nat, ∀ (x3 : Int) (hx : Hp), (1 ≤ x3 ∧ x3 ≤ w2) → (∀ S, S < x3.toNat → (hx 126 S = 0 ∨ hx 126 S = 1) ∧ (hx 126 S = 1 ↔ tenIn (h 2) p n k S)) → (∀ S, S < x3.toNat → hx 127 S = fgN S n) → (∀ j, j < 6561 → hx 27 j = 0) → (∀ a b, a ≠ 27 → a ≠ 126 → a ≠ 127 → hx a b = h a b) → (w2 - x3).toNat < n9 → Wp G E 6 (fun v hx => v = none ∧ turI (tenT (h 2) p n k) n hx ∧ (∀ a b, a ≠ 27 → a ≠ 126 → a ≠ 127 → hx a b = h a b)) 34 [(0, rv E 125), (1, iv k), (2, iv w2), (3, iv x3)] [] hx := by
    intro n9
    induction n9 with
    | zero => intro x3 hx hi hT hF hK hf hm9; exact absurd hm9 (Nat.not_lt_zero _)
    | succ n9 ih9 =>
      intro x3 hx hi hT hF hK hf hm9
      have ih9_34 := ih9
      have s1 : hx 1 4 = (n : Int) := (hf 1 4 (by decide) (by decide) (by decide)).trans hn
      have s2 : hx 1 5 = p := (hf 1 5 (by decide) (by decide) (by decide)).trans hpp
      have s3 : hx 2 = h 2 := funext (fun b => hf 2 b (by decide) (by decide) (by decide))
      have hx3 : ((x3.toNat : Nat) : Int) = x3 := by omega
      refine wp_iload_n 3 C dX9_open_34 rfl rfl ?_
      refine wp_iload_n 2 C dX9_open_35 rfl rfl ?_
      refine wp_icmp_ge (tgt := 155) (by omega) (by omega) C dX9_open_36 (by decide) (fun c_36 => ?_) (fun c_36 => ?_)
      · skip
        refine wp_vret C dX9_open_155 ?_
        exact ⟨rfl, ⟨s1, fun S hS => ⟨(hT S (by omega)).1, ((hT S (by omega)).2).trans tenT_iff.symm⟩, fun S hS => hF S (by omega), fun a b ha hb hd => Or.inl (hK _ (by have := cdN_r hd n; have := t8 hn8; omega))⟩, hf⟩
      · skip
        have hcn : cntB x3 20 = cntB ((x3.toNat : Nat) : Int) n := by rw [← cntB_hi (S := x3.toNat) (n := n) (by omega) (by omega), hx3]
        have q68 : ∀ (x : Int), ((x = 0 ∨ x = 1) ∧ (x = 1 ↔ teB (h 2) p n k x3.toNat)) → Wp G E 6 (fun v hx => v = none ∧ turI (tenT (h 2) p n k) n hx ∧ (∀ a b, a ≠ 27 → a ≠ 126 → a ≠ 127 → hx a b = h a b)) 68 [(0, rv E 125), (1, iv k), (2, iv w2), (3, iv x3)] [iv x, iv x3, rv E 126] hx := by
          intro x hv
          have hv1 := hv.1
          refine wp_zast sh_126 (by omega) (hv1) C dX9_open_68 ?_
          obtain ⟨H4, e_H4⟩ : ∃ z : Hp, z = upd2 hx 126 x3.toNat x := ⟨_, rfl⟩
          refine wp_heq e_H4 ?_
          refine wp_iconst (v := 1) C dX9_open_69 rfl ?_
          refine wp_istore (ls' := [(0, rv E 125), (1, iv k), (2, iv w2), (3, iv x3), (4, iv 1)]) [1, 2, 3, 4, 0] C dX9_open_70 (by decide) rfl ?_
          refine wp_iconst (v := 0) C dX9_open_72 rfl ?_
          refine wp_istore (ls' := [(0, rv E 125), (1, iv k), (2, iv w2), (3, iv x3), (4, iv 1), (5, iv 0)]) [1, 2, 3, 4, 5, 0] C dX9_open_73 (by decide) rfl ?_
          have q750 : ∀ n9 : Nat, ∀ (x4 : Int) (x5 : Int) (hy : Hp), (0 ≤ x5 ∧ x5 ≤ n) → (x4 = ((3 ^ x5.toNat : Nat) : Int)) → ((hy 126 x3.toNat = 0 ∨ hy 126 x3.toNat = 1) ∧ (hy 126 x3.toNat = 1 ↔ x = 1 ∨ ∃ b, b < x5.toNat ∧ x3.toNat.testBit b = true ∧ hx 126 (x3.toNat ^^^ 2 ^ b) = 1)) → ((∃ b, b < x5.toNat ∧ x3.toNat.testBit b = true) → hy 127 x3.toNat = fgN x3.toNat n) → (∀ a b, ¬ (a = 126 ∧ b = x3.toNat) → ¬ (a = 127 ∧ b = x3.toNat) → hy a b = hx a b) → ((n : Int) - x5).toNat < n9 → Wp G E 6 (fun v hx => v = none ∧ turI (tenT (h 2) p n k) n hx ∧ (∀ a b, a ≠ 27 → a ≠ 126 → a ≠ 127 → hx a b = h a b)) 75 [(0, rv E 125), (1, iv k), (2, iv w2), (3, iv x3), (4, iv x4), (5, iv x5)] [] hy := by
            intro n9
            induction n9 with
            | zero => intro x4 x5 hy hi5 hx4 hT2 hF2 hf2 hm9; exact absurd hm9 (Nat.not_lt_zero _)
            | succ n9 ih9 =>
              intro x4 x5 hy hi5 hx4 hT2 hF2 hf2 hm9
              have ih9_75 := ih9
              have t1 : hy 1 4 = (n : Int) := (hf2 1 4 (by omega) (by omega)).trans s1
              refine wp_iload 5 C dX9_open_75 rfl ?_
              refine wp_aloadR_n 0 C dX9_open_77 rfl rfl ?_
              refine wp_getR flX9_19 sh_125 rfl C dX9_open_78 ?_
              refine wp_getI flX9_32 sh_1 rfl C dX9_open_81 ?_
              refine wp_icmp_ge (tgt := 149) (by omega) (by omega) C dX9_open_84 (by decide) (fun c_84 => ?_) (fun c_84 => ?_)
              · skip
                have hxn : x5.toNat = n := by clear hT2; omega
                obtain ⟨v5, e_v5⟩ : ∃ z : Int, z = x3 + (1) := ⟨_, rfl⟩
                refine wp_iinc (j := 3) (y := v5) (ls' := [(0, rv E 125), (1, iv k), (2, iv w2), (3, iv v5), (4, iv x4), (5, iv x5)]) [1, 2, 3, 0, 4, 5] C dX9_open_149 rfl e_v5 (by decide) rfl ?_
                refine wp_goto (tgt := 34) C dX9_open_152 (by decide) ?_
                refine wp_loc [0, 1, 2, 3] rfl ?_
                exact ih9_34 v5 hy (by clear hT2; omega) (fun S hS => by by_cases w : S = x3.toNat; rw [w]; exact ⟨hT2.1, ten_fin (g := hx 126) (by clear hT2; omega) (fun T hT9 => (hT T hT9).2) hv.2 (by rw [hxn] at hT2; exact hT2.2)⟩; rw [hf2 126 S (by clear hT2; omega) (by clear hT2; omega)]; exact hT S (by clear hT2; omega)) (fun S hS => by by_cases w : S = x3.toNat; rw [w]; exact hF2 (by rw [hxn]; exact some_bit (by clear hT2; omega) (by clear hT2; omega)); rw [hf2 127 S (by clear hT2; omega) (by clear hT2; omega)]; exact hF S (by clear hT2; omega)) (fun j hj => by rw [hf2 27 j (by clear hT2; omega) (by clear hT2; omega)]; exact hK j hj) (fun a b h1 h2 h3 => by rw [hf2 a b (by clear hT2; omega) (by clear hT2; omega)]; exact hf a b h1 h2 h3) (by clear hT2; omega)
              · skip
                refine wp_iload_n 3 C dX9_open_87 rfl rfl ?_
                refine wp_iload 5 C dX9_open_88 rfl ?_
                refine wp_ishr (by omega) (by omega) C dX9_open_90 ?_
                refine wp_iconst (v := 1) C dX9_open_91 rfl ?_
                refine wp_iand C dX9_open_92 ?_
                refine wp_top (bAnd_1 _) ?_
                refine wp_iconst (v := 1) C dX9_open_93 rfl ?_
                refine wp_icmp_ne (tgt := 137) (by omega) (by omega) C dX9_open_94 (by decide) (fun c_94 => ?_) (fun c_94 => ?_)
                · skip
                  have hbf := tbn' (S := x3.toNat) (j := x5.toNat) (by rw [hx3]; omega)
                  refine wp_iload 4 C dX9_open_137 rfl ?_
                  refine wp_iconst (v := 3) C dX9_open_139 rfl ?_
                  refine wp_imul C dX9_open_140 ?_
                  refine wp_nm (fun y4 e_y4 => ?_)
                  refine wp_istore (ls' := [(0, rv E 125), (1, iv k), (2, iv w2), (3, iv x3), (4, iv y4), (5, iv x5)]) [1, 2, 3, 4, 0, 5] C dX9_open_141 (by decide) rfl ?_
                  obtain ⟨v6, e_v6⟩ : ∃ z : Int, z = x5 + (1) := ⟨_, rfl⟩
                  refine wp_iinc (j := 5) (y := v6) (ls' := [(0, rv E 125), (1, iv k), (2, iv w2), (3, iv x3), (4, iv y4), (5, iv v6)]) [1, 2, 3, 4, 5, 0] C dX9_open_143 rfl e_v6 (by decide) rfl ?_
                  refine wp_goto (tgt := 75) C dX9_open_146 (by decide) ?_
                  exact ih9_75 y4 v6 hy (by omega) (by rw [e_y4, e_v6, show (x5 + 1).toNat = x5.toNat + 1 by omega, Nat.pow_succ, hx4]; omega) (⟨hT2.1, hT2.2.trans ⟨fun z => z.elim Or.inl (fun ⟨b, b1, b2⟩ => Or.inr ⟨b, by rw [e_v6, show (x5 + 1).toNat = x5.toNat + 1 by omega]; omega, b2⟩), fun z => z.elim Or.inl (fun ⟨b, b1, b2, b3⟩ => Or.inr ⟨b, (by rw [e_v6, show (x5 + 1).toNat = x5.toNat + 1 by omega] at b1; rcases (show b < x5.toNat ∨ b = x5.toNat by omega) with q | rfl; exact q; rw [hbf] at b2; cases b2), b2, b3⟩)⟩⟩) (fun ⟨b, b1, b2⟩ => hF2 ⟨b, (by rw [e_v6, show (x5 + 1).toNat = x5.toNat + 1 by omega] at b1; rcases (show b < x5.toNat ∨ b = x5.toNat by omega) with q | rfl; exact q; rw [hbf] at b2; cases b2), b2⟩) (by omega) (by omega)
                · skip
                  have htb := tbn (S := x3.toNat) (j := x5.toNat) (by rw [hx3]; omega)
                  have hXl := x_lt htb
                  have hXe : hy 126 (x3.toNat ^^^ 2 ^ x5.toNat) = hx 126 (x3.toNat ^^^ 2 ^ x5.toNat) := hf2 126 _ (by omega) (by omega)
                  have h0X := (hT _ hXl).1
                  rw [← hXe] at h0X
                  have hO := or01b hT2.1 h0X
                  refine wp_aloadR_n 0 C dX9_open_97 rfl rfl ?_
                  refine wp_getR flX9_9 sh_125 rfl C dX9_open_98 ?_
                  refine wp_iload_n 3 C dX9_open_101 rfl rfl ?_
                  refine wp_dup2 rfl rfl C dX9_open_102 ?_
                  refine wp_zald sh_126 (by omega) C dX9_open_103 ?_
                  refine wp_aloadR_n 0 C dX9_open_104 rfl rfl ?_
                  refine wp_getR flX9_9 sh_125 rfl C dX9_open_105 ?_
                  refine wp_iload_n 3 C dX9_open_108 rfl rfl ?_
                  refine wp_iconst (v := 1) C dX9_open_109 rfl ?_
                  refine wp_iload 5 C dX9_open_110 rfl ?_
                  refine wp_ishl (by omega) C dX9_open_112 ?_
                  refine wp_ixor C dX9_open_113 ?_
                  refine wp_top (show _ = ((x3.toNat ^^^ 2 ^ x5.toNat : Nat) : Int) by rw [← bXor_p (by omega) (by omega), hx3]) ?_
                  refine wp_zald sh_126 (by omega) C dX9_open_114 ?_
                  refine wp_top (show _ = hy 126 (x3.toNat ^^^ 2 ^ x5.toNat) by rw [Int.toNat_natCast]) ?_
                  refine wp_ior C dX9_open_115 ?_
                  refine wp_zast sh_126 (by omega) (hO.1) C dX9_open_116 ?_
                  obtain ⟨H7, e_H7⟩ : ∃ z : Hp, z = upd2 hy 126 x3.toNat (bOr (hy 126 x3.toNat) (hy 126 (x3.toNat ^^^ 2 ^ x5.toNat))) := ⟨_, rfl⟩
                  refine wp_heq e_H7 ?_
                  refine wp_aloadR_n 0 C dX9_open_117 rfl rfl ?_
                  refine wp_getR flX9_15 sh_125 rfl C dX9_open_118 ?_
                  refine wp_iload_n 3 C dX9_open_121 rfl rfl ?_
                  refine wp_aloadR_n 0 C dX9_open_122 rfl rfl ?_
                  refine wp_getR flX9_15 sh_125 rfl C dX9_open_123 ?_
                  refine wp_iload_n 3 C dX9_open_126 rfl rfl ?_
                  refine wp_iconst (v := 1) C dX9_open_127 rfl ?_
                  refine wp_iload 5 C dX9_open_128 rfl ?_
                  refine wp_ishl (by omega) C dX9_open_130 ?_
                  refine wp_ixor C dX9_open_131 ?_
                  refine wp_top (show _ = ((x3.toNat ^^^ 2 ^ x5.toNat : Nat) : Int) by rw [← bXor_p (by omega) (by omega), hx3]) ?_
                  refine wp_iald sh_127 (by omega) C dX9_open_132 ?_
                  refine wp_top (rdu_ne e_H7 (by decide)) ?_
                  refine wp_top (show _ = hy 127 (x3.toNat ^^^ 2 ^ x5.toNat) by rw [Int.toNat_natCast]) ?_
                  refine wp_iload 4 C dX9_open_133 rfl ?_
                  refine wp_iadd C dX9_open_135 ?_
                  refine wp_iast sh_127 (by omega) C dX9_open_136 ?_
                  obtain ⟨H8, e_H8⟩ : ∃ z : Hp, z = upd2 H7 127 x3.toNat ((hy 127 (x3.toNat ^^^ 2 ^ x5.toNat)) + x4) := ⟨_, rfl⟩
                  refine wp_heq e_H8 ?_
                  have g1 : H8 126 x3.toNat = bOr (hy 126 x3.toNat) (hy 126 (x3.toNat ^^^ 2 ^ x5.toNat)) := by rw [e_H8, e_H7]; unfold upd2; rw [if_neg (fun z => absurd z.1 (by decide)), if_pos ⟨rfl, rfl⟩]
                  have g2 : H8 127 x3.toNat = hy 127 (x3.toNat ^^^ 2 ^ x5.toNat) + x4 := by rw [e_H8]; exact upd2_s
                  have g3 : ∀ a b, ¬ (a = 126 ∧ b = x3.toNat) → ¬ (a = 127 ∧ b = x3.toNat) → H8 a b = hy a b := fun a b h1 h2 => by rw [e_H8, e_H7]; unfold upd2; rw [if_neg h2, if_neg h1]
                  refine wp_iload 4 C dX9_open_137 rfl ?_
                  refine wp_iconst (v := 3) C dX9_open_139 rfl ?_
                  refine wp_imul C dX9_open_140 ?_
                  refine wp_nm (fun y4 e_y4 => ?_)
                  refine wp_istore (ls' := [(0, rv E 125), (1, iv k), (2, iv w2), (3, iv x3), (4, iv y4), (5, iv x5)]) [1, 2, 3, 4, 0, 5] C dX9_open_141 (by decide) rfl ?_
                  obtain ⟨v9, e_v9⟩ : ∃ z : Int, z = x5 + (1) := ⟨_, rfl⟩
                  refine wp_iinc (j := 5) (y := v9) (ls' := [(0, rv E 125), (1, iv k), (2, iv w2), (3, iv x3), (4, iv y4), (5, iv v9)]) [1, 2, 3, 4, 5, 0] C dX9_open_143 rfl e_v9 (by decide) rfl ?_
                  refine wp_goto (tgt := 75) C dX9_open_146 (by decide) ?_
                  exact ih9_75 y4 v9 H8 (by omega) (by rw [e_y4, e_v9, show (x5 + 1).toNat = x5.toNat + 1 by omega, Nat.pow_succ, hx4]; omega) (⟨by rw [g1]; exact hO.1, by rw [g1, hO.2, hT2.2, hXe]; exact ⟨fun z => z.elim (fun y => y.elim Or.inl (fun ⟨b, b1, b2⟩ => Or.inr ⟨b, by rw [e_v9, show (x5 + 1).toNat = x5.toNat + 1 by omega]; omega, b2⟩)) (fun y => Or.inr ⟨x5.toNat, by rw [e_v9, show (x5 + 1).toNat = x5.toNat + 1 by omega]; omega, htb, y⟩), fun z => z.elim (fun y => Or.inl (Or.inl y)) (fun ⟨b, b1, b2, b3⟩ => by rw [e_v9, show (x5 + 1).toNat = x5.toNat + 1 by omega] at b1; rcases (show b < x5.toNat ∨ b = x5.toNat by omega) with q | rfl; exact Or.inl (Or.inr ⟨b, q, b2, b3⟩); exact Or.inr b3)⟩⟩) (fun _ => by rw [g2, hf2 127 _ (by omega) (by omega), hF _ hXl, hx4]; exact fg_x (by omega) htb) (fun a b h1 h2 => (g3 a b h1 h2).trans (hf2 a b h1 h2)) (by omega)
          have q75 : ∀ (x4 : Int) (x5 : Int) (hy : Hp), (0 ≤ x5 ∧ x5 ≤ n) → (x4 = ((3 ^ x5.toNat : Nat) : Int)) → ((hy 126 x3.toNat = 0 ∨ hy 126 x3.toNat = 1) ∧ (hy 126 x3.toNat = 1 ↔ x = 1 ∨ ∃ b, b < x5.toNat ∧ x3.toNat.testBit b = true ∧ hx 126 (x3.toNat ^^^ 2 ^ b) = 1)) → ((∃ b, b < x5.toNat ∧ x3.toNat.testBit b = true) → hy 127 x3.toNat = fgN x3.toNat n) → (∀ a b, ¬ (a = 126 ∧ b = x3.toNat) → ¬ (a = 127 ∧ b = x3.toNat) → hy a b = hx a b) → Wp G E 6 (fun v hx => v = none ∧ turI (tenT (h 2) p n k) n hx ∧ (∀ a b, a ≠ 27 → a ≠ 126 → a ≠ 127 → hx a b = h a b)) 75 [(0, rv E 125), (1, iv k), (2, iv w2), (3, iv x3), (4, iv x4), (5, iv x5)] [] hy := fun x4 x5 hy hi5 hx4 hT2 hF2 hf2 => q750 _ x4 x5 hy hi5 hx4 hT2 hF2 hf2 (Nat.lt_succ_self _)
          exact q75 1 0 H4 (by omega) (rfl) (⟨by rw [e_H4, upd2_s]; exact hv1, by rw [e_H4, upd2_s]; exact ⟨Or.inl, fun z => z.elim id (fun ⟨b, b1, _⟩ => absurd b1 (by omega))⟩⟩) (fun ⟨b, b1, _⟩ => absurd b1 (by omega)) (fun a b h1 _ => by rw [e_H4]; unfold upd2; rw [if_neg h1])
        refine wp_aloadR_n 0 C dX9_open_39 rfl rfl ?_
        refine wp_getR flX9_9 sh_125 rfl C dX9_open_40 ?_
        refine wp_iload_n 3 C dX9_open_43 rfl rfl ?_
        refine wp_iload_n 3 C dX9_open_44 rfl rfl ?_
        refine wp_callSp (rest := [iv x3, rv E 126]) (c_bitCount E hx x3 (by omega)) ssX9_38 (by decide) rfl rfl (Nat.le_of_ble_eq_true rfl) C dX9_open_45 ?_
        have hcr := cntB_r x3 20
        refine wp_iload_n 1 C dX9_open_48 rfl rfl ?_
        refine wp_icmp_ne (tgt := 67) (by omega) (by omega) C dX9_open_49 (by decide) (fun c_49 => ?_) (fun c_49 => ?_)
        · skip
          refine wp_iconst (v := 0) C dX9_open_67 rfl ?_
          exact q68 0 (⟨Or.inl rfl, ⟨fun z => absurd z (by decide), fun z => absurd (hcn.trans z.1) c_49⟩⟩)
        · skip
          refine wp_aloadR_n 0 C dX9_open_52 rfl rfl ?_
          refine wp_getR flX9_19 sh_125 rfl C dX9_open_53 ?_
          refine wp_iload_n 3 C dX9_open_56 rfl rfl ?_
          refine wp_callVp (rest := [iv x3, rv E 126]) (c_restOfNumbers E hx x3 (by omega) (by omega) (by omega) (by rw [s1, s3, ← hn]; exact hN)) svX9_44 sh_1 (by decide) rfl rfl (Nat.le_of_ble_eq_true rfl) C dX9_open_57 ?_
          refine wp_top (show _ = sumB (h 2) x3 n % p by rw [s1, s2, s3, Int.toNat_natCast]) ?_
          have hmr := mod_r (sumB (h 2) x3 n) hp
          refine wp_if_ne (tgt := 67) (by omega) C dX9_open_60 (by decide) (fun c_60 => ?_) (fun c_60 => ?_)
          · skip
            refine wp_iconst (v := 0) C dX9_open_67 rfl ?_
            exact q68 0 (⟨Or.inl rfl, ⟨fun z => absurd z (by decide), fun z => by have z2 : sumB (h 2) ((x3.toNat : Nat) : Int) n % p = 0 := z.2; rw [hx3] at z2; exact absurd z2 c_60⟩⟩)
          · skip
            refine wp_iconst (v := 1) C dX9_open_63 rfl ?_
            refine wp_goto (tgt := 68) C dX9_open_64 (by decide) ?_
            exact q68 1 (⟨Or.inr rfl, ⟨fun _ => ⟨hcn.symm.trans c_49, by show sumB (h 2) ((x3.toNat : Nat) : Int) n % p = 0; rw [hx3]; exact c_60⟩, fun _ => rfl⟩⟩)
  have q34 : ∀ (x3 : Int) (hx : Hp), (1 ≤ x3 ∧ x3 ≤ w2) → (∀ S, S < x3.toNat → (hx 126 S = 0 ∨ hx 126 S = 1) ∧ (hx 126 S = 1 ↔ tenIn (h 2) p n k S)) → (∀ S, S < x3.toNat → hx 127 S = fgN S n) → (∀ j, j < 6561 → hx 27 j = 0) → (∀ a b, a ≠ 27 → a ≠ 126 → a ≠ 127 → hx a b = h a b) → Wp G E 6 (fun v hx => v = none ∧ turI (tenT (h 2) p n k) n hx ∧ (∀ a b, a ≠ 27 → a ≠ 126 → a ≠ 127 → hx a b = h a b)) 34 [(0, rv E 125), (1, iv k), (2, iv w2), (3, iv x3)] [] hx := fun x3 hx hi hT hF hK hf => q340 _ x3 hx hi hT hF hK hf (Nat.lt_succ_self _)
  exact q34 1 H3 (by omega) (fun S hS => by rw [show S = 0 by omega, z1]; exact ⟨Or.inl rfl, ⟨fun z => absurd z (by decide), fun z => absurd z (tenIn_0 hk.1)⟩⟩) (fun S hS => by rw [show S = 0 by omega, z2]; have := fg_0 n; omega) (z3) (z4)

set_option maxRecDepth 100000 in
set_option maxHeartbeats 4000000 in
theorem c_first (E : En) (h : Hp) (T : Nat → Bool) (n : Nat) (hn8 : n ≤ 8) (I : turI T n h) : Ct 25 yX9_firstComesTo cX9_firstComesTo 1 (some .int) E [rv E 125] h (fun v hx => v = some (iv (vlT T n n 0 0)) ∧ turI T n hx ∧ (∀ a b, a ≠ 27 → hx a b = h a b)) := by
  have hsz := I.1
  refine ct_intro (by decide) (Nat.le_of_ble_eq_true rfl) (fun G C => ?_)
  show Wp G E 1 (fun v hx => v = some (iv (vlT T n n 0 0)) ∧ turI T n hx ∧ (∀ a b, a ≠ 27 → hx a b = h a b)) 0 [(0, rv E 125)] [] h
  refine wp_aloadR_n 0 C dX9_firstComesTo_0 rfl rfl ?_
  refine wp_iconst (v := 0) C dX9_firstComesTo_1 rfl ?_
  refine wp_iconst (v := 0) C dX9_firstComesTo_2 rfl ?_
  refine wp_aloadR_n 0 C dX9_firstComesTo_3 rfl rfl ?_
  refine wp_getR flX9_19 sh_125 rfl C dX9_firstComesTo_4 ?_
  refine wp_getI flX9_32 sh_1 rfl C dX9_firstComesTo_7 ?_
  have hc := c_comes E T n hn8 n h 0 0 I (Nat.pow_pos (by decide)) (Nat.pow_pos (by decide)) dj_0 (by rw [cnt_z]; omega)
  rw [← hsz] at hc
  refine wp_callV (rest := []) (hc) svX9_47 sh_125 (by omega) rfl rfl (Nat.le_of_ble_eq_true rfl) C dX9_firstComesTo_10 (fun r0 hx pf => ?_)
  obtain ⟨rfl, I2, hf2⟩ := pf
  refine wp_iret C dX9_firstComesTo_13 ?_
  exact ⟨rfl, I2, hf2⟩

set_option maxRecDepth 100000 in
set_option maxHeartbeats 4000000 in
theorem c_leastBest (E : En) (h : Hp) (T : Nat → Bool) (n : Nat) (hn8 : n ≤ 8) (I : turI T n h) : Ct 26 yX9_leastBest cX9_leastBest 3 (some .int) E [rv E 125] h (fun v hx => v = some (iv (firstI (fun i => decide (gT T n (n - 1) 0 0 i = vlT T n n 0 0)) n)) ∧ turI T n hx ∧ (∀ a b, a ≠ 27 → hx a b = h a b)) := by
  have hsz := I.1
  have hvr := vlT_r (T := T) (n := n) n 0 0
  refine ct_intro (by decide) (Nat.le_of_ble_eq_true rfl) (fun G C => ?_)
  show Wp G E 3 (fun v hx => v = some (iv (firstI (fun i => decide (gT T n (n - 1) 0 0 i = vlT T n n 0 0)) n)) ∧ turI T n hx ∧ (∀ a b, a ≠ 27 → hx a b = h a b)) 0 [(0, rv E 125)] [] h
  refine wp_aloadR_n 0 C dX9_leastBest_0 rfl rfl ?_
  refine wp_callV (rest := []) (c_first E h T n hn8 I) svX9_51 sh_125 (by decide) rfl rfl (Nat.le_of_ble_eq_true rfl) C dX9_leastBest_1 (fun r0 hx pf => ?_)
  obtain ⟨rfl, I2, hf2⟩ := pf
  refine wp_nm (fun w1 e_w1 => ?_)
  refine wp_istore_n (ls' := [(0, rv E 125), (1, iv w1)]) [1, 0] C dX9_leastBest_4 rfl (by decide) rfl ?_
  refine wp_iconst (v := 0) C dX9_leastBest_5 rfl ?_
  refine wp_istore_n (ls' := [(0, rv E 125), (1, iv w1), (2, iv 0)]) [1, 2, 0] C dX9_leastBest_6 rfl (by decide) rfl ?_
  have q70 : ∀ n9 : Nat, ∀ (x2 : Int) (hy : Hp), (0 ≤ x2 ∧ x2 ≤ n) → (∀ j, j < x2.toNat → decide (gT T n (n - 1) 0 0 j = vlT T n n 0 0) = false) → (turI T n hy) → (∀ a b, a ≠ 27 → hy a b = h a b) → ((n : Int) - x2).toNat < n9 → Wp G E 3 (fun v hx => v = some (iv (firstI (fun i => decide (gT T n (n - 1) 0 0 i = vlT T n n 0 0)) n)) ∧ turI T n hx ∧ (∀ a b, a ≠ 27 → hx a b = h a b)) 7 [(0, rv E 125), (1, iv w1), (2, iv x2)] [] hy := by
    intro n9
    induction n9 with
    | zero => intro x2 hy hi hno I3 hf3 hm9; exact absurd hm9 (Nat.not_lt_zero _)
    | succ n9 ih9 =>
      intro x2 hy hi hno I3 hf3 hm9
      have ih9_7 := ih9
      have hsy := I3.1
      refine wp_iload_n 2 C dX9_leastBest_7 rfl rfl ?_
      refine wp_aloadR_n 0 C dX9_leastBest_8 rfl rfl ?_
      refine wp_getR flX9_19 sh_125 rfl C dX9_leastBest_9 ?_
      refine wp_getI flX9_32 sh_1 rfl C dX9_leastBest_12 ?_
      refine wp_icmp_ge (tgt := 44) (by omega) (by omega) C dX9_leastBest_15 (by decide) (fun c_15 => ?_) (fun c_15 => ?_)
      · skip
        refine wp_iconst (v := (-1)) C dX9_leastBest_44 rfl ?_
        refine wp_iret C dX9_leastBest_45 ?_
        exact ⟨by rw [firstI_none (fun j hj => hno j (by omega))], I3, hf3⟩
      · skip
        refine wp_aloadR_n 0 C dX9_leastBest_18 rfl rfl ?_
        refine wp_iload_n 2 C dX9_leastBest_19 rfl rfl ?_
        refine wp_iconst (v := 0) C dX9_leastBest_20 rfl ?_
        refine wp_iconst (v := 0) C dX9_leastBest_21 rfl ?_
        refine wp_aloadR_n 0 C dX9_leastBest_22 rfl rfl ?_
        refine wp_getR flX9_19 sh_125 rfl C dX9_leastBest_23 ?_
        refine wp_getI flX9_32 sh_1 rfl C dX9_leastBest_26 ?_
        have hca := c_after0 E hy T n (n - 1) hn8 (c_comes E T n hn8 (n - 1)) x2 (by omega) 0 0 I3 (Nat.pow_pos (by decide)) (Nat.pow_pos (by decide)) dj_0 (hy 1 4) (by omega) (by rw [cnt_z]; omega) (by simp) (by simp)
        refine wp_callV (rest := []) (hca) svX9_55 sh_125 (by omega) rfl rfl (Nat.le_of_ble_eq_true rfl) C dX9_leastBest_29 (fun r0 hz pf => ?_)
        obtain ⟨rfl, I4, hf4⟩ := pf
        have hgr := gT_r (T := T) (n := n) (f := n - 1) (own := 0) (oth := 0) x2.toNat
        refine wp_iload_n 1 C dX9_leastBest_32 rfl rfl ?_
        refine wp_icmp_ne (tgt := 38) (by omega) (by omega) C dX9_leastBest_33 (by decide) (fun c_33 => ?_) (fun c_33 => ?_)
        · skip
          obtain ⟨v1, e_v1⟩ : ∃ z : Int, z = x2 + (1) := ⟨_, rfl⟩
          refine wp_iinc (j := 2) (y := v1) (ls' := [(0, rv E 125), (1, iv w1), (2, iv v1)]) [1, 2, 0] C dX9_leastBest_38 rfl e_v1 (by decide) rfl ?_
          refine wp_goto (tgt := 7) C dX9_leastBest_41 (by decide) ?_
          exact ih9_7 v1 hz (by omega) (fun j hj => by rw [e_v1, show (x2 + 1).toNat = x2.toNat + 1 by omega] at hj; rcases (show j < x2.toNat ∨ j = x2.toNat by omega) with q | rfl; exact hno j q; exact decide_eq_false (by rw [← e_w1]; exact c_33)) (I4) (fun a b h1 => (hf4 a b h1).trans (hf3 a b h1)) (by omega)
        · skip
          refine wp_iload_n 2 C dX9_leastBest_36 rfl rfl ?_
          refine wp_iret C dX9_leastBest_37 ?_
          exact ⟨by rw [firstI_some (i := x2.toNat) (by omega) (decide_eq_true (by rw [← e_w1]; exact c_33)) hno, show ((x2.toNat : Nat) : Int) = x2 by omega], I4, fun a b h1 => (hf4 a b h1).trans (hf3 a b h1)⟩
  have q7 : ∀ (x2 : Int) (hy : Hp), (0 ≤ x2 ∧ x2 ≤ n) → (∀ j, j < x2.toNat → decide (gT T n (n - 1) 0 0 j = vlT T n n 0 0) = false) → (turI T n hy) → (∀ a b, a ≠ 27 → hy a b = h a b) → Wp G E 3 (fun v hx => v = some (iv (firstI (fun i => decide (gT T n (n - 1) 0 0 i = vlT T n n 0 0)) n)) ∧ turI T n hx ∧ (∀ a b, a ≠ 27 → hx a b = h a b)) 7 [(0, rv E 125), (1, iv w1), (2, iv x2)] [] hy := fun x2 hy hi hno I3 hf3 => q70 _ x2 hy hi hno I3 hf3 (Nat.lt_succ_self _)
  exact q7 0 hx (by omega) (fun j hj => absurd hj (by omega)) (I2) (hf2)

set_option maxRecDepth 100000 in
set_option maxHeartbeats 4000000 in
theorem x_turns (E : En) (h : Hp) (k w : Int) (hk : -2147483648 ≤ k ∧ k ≤ 2147483647) (hw : -2147483648 ≤ w ∧ w ≤ 2147483647) (hz : 0 ≤ h 1 4 ∧ h 1 4 ≤ 20) (hp : 2 ≤ h 1 5 ∧ h 1 5 ≤ 10) (hN : ∀ i : Nat, (i : Int) < h 1 4 → 0 ≤ h 2 i ∧ h 2 i ≤ 999999999999999) : Ct 27 yX11_turns cX11_turns 3 (some .int) E [rv E 0, iv k, iv w] h (fun v hx => v = some (iv (turS (h 2) (h 1 5) (h 1 4).toNat k w)) ∧ (∀ a b, a ≠ 27 → a ≠ 126 → a ≠ 127 → hx a b = h a b)) := by
  refine ct_intro (by decide) (Nat.le_of_ble_eq_true rfl) (fun G C => ?_)
  show Wp G E 3 (fun v hx => v = some (iv (turS (h 2) (h 1 5) (h 1 4).toNat k w)) ∧ (∀ a b, a ≠ 27 → a ≠ 126 → a ≠ 127 → hx a b = h a b)) 0 [(0, rv E 0), (1, iv k), (2, iv w)] [] h
  refine wp_iload_n 1 C dX11_turns_0 rfl rfl ?_
  refine wp_callSp (rest := []) (c_isSize E h k (by omega)) ssX11_167 (by decide) rfl rfl (Nat.le_of_ble_eq_true rfl) C dX11_turns_1 ?_
  refine wp_ifb_eq (tgt := 16) C dX11_turns_4 (by decide) (fun c_4 => ?_) (fun c_4 => ?_)
  · skip
    refine wp_bipush (v := (-3)) C dX11_turns_16 rfl ?_
    refine wp_iret C dX11_turns_18 ?_
    exact ⟨by unfold turS; rw [if_pos (by omega)], fun _ _ _ _ _ => rfl⟩
  · skip
    refine wp_iload_n 2 C dX11_turns_7 rfl rfl ?_
    refine wp_iconst (v := 0) C dX11_turns_8 rfl ?_
    refine wp_iconst (v := 1) C dX11_turns_9 rfl ?_
    refine wp_callSp (rest := []) (c_within E h w 0 1 (by omega) (by omega) (by omega)) ssX11_92 (by decide) rfl rfl (Nat.le_of_ble_eq_true rfl) C dX11_turns_10 ?_
    refine wp_ifb_ne (tgt := 19) C dX11_turns_13 (by decide) (fun c_13 => ?_) (fun c_13 => ?_)
    · skip
      refine wp_aloadR_n 0 C dX11_turns_19 rfl rfl ?_
      refine wp_getR flX11_10 sh_0 rfl C dX11_turns_20 ?_
      refine wp_getI flX11_104 sh_1 rfl C dX11_turns_23 ?_
      refine wp_bipush (v := 8) C dX11_turns_26 rfl ?_
      refine wp_icmp_le (tgt := 34) (by omega) (by omega) C dX11_turns_28 (by decide) (fun c_28 => ?_) (fun c_28 => ?_)
      · skip
        refine wp_aloadR_n 0 C dX11_turns_34 rfl rfl ?_
        refine wp_getR flX11_88 sh_0 rfl C dX11_turns_35 ?_
        refine wp_iload_n 1 C dX11_turns_38 rfl rfl ?_
        refine wp_callV (rest := []) (c_open E h (h 1 4).toNat (h 1 5) k (by omega) (by omega) rfl hp (by omega) hN) svX11_223 sh_125 (by decide) rfl rfl (Nat.le_of_ble_eq_true rfl) C dX11_turns_39 (fun r0 hy pf => ?_)
        obtain ⟨rfl, I, hf⟩ := pf
        refine wp_iload_n 2 C dX11_turns_42 rfl rfl ?_
        refine wp_if_ne (tgt := 58) (by omega) C dX11_turns_43 (by decide) (fun c_43 => ?_) (fun c_43 => ?_)
        · skip
          refine wp_aloadR_n 0 C dX11_turns_58 rfl rfl ?_
          refine wp_getR flX11_88 sh_0 rfl C dX11_turns_59 ?_
          refine wp_callV (rest := []) (c_leastBest E hy (tenT (h 2) (h 1 5) (h 1 4).toNat k) (h 1 4).toNat (by omega) I) svX11_231 sh_125 (by decide) rfl rfl (Nat.le_of_ble_eq_true rfl) C dX11_turns_62 (fun r0 hz pf => ?_)
          obtain ⟨rfl, I2, hf2⟩ := pf
          refine wp_iret C dX11_turns_65 ?_
          exact ⟨by unfold turS; rw [if_neg (by omega), if_neg (by omega), if_neg (by omega)], fun a b h1 h2 h3 => (hf2 a b h1).trans (hf a b h1 h2 h3)⟩
        · skip
          refine wp_aloadR_n 0 C dX11_turns_46 rfl rfl ?_
          refine wp_getR flX11_88 sh_0 rfl C dX11_turns_47 ?_
          refine wp_callV (rest := []) (c_first E hy (tenT (h 2) (h 1 5) (h 1 4).toNat k) (h 1 4).toNat (by omega) I) svX11_227 sh_125 (by decide) rfl rfl (Nat.le_of_ble_eq_true rfl) C dX11_turns_50 (fun r0 hz pf => ?_)
          obtain ⟨rfl, I2, hf2⟩ := pf
          refine wp_iconst (v := 1) C dX11_turns_53 rfl ?_
          refine wp_iadd C dX11_turns_54 ?_
          refine wp_goto (tgt := 65) C dX11_turns_55 (by decide) ?_
          refine wp_iret C dX11_turns_65 ?_
          exact ⟨by unfold turS; rw [if_neg (by omega), if_neg (by omega), if_pos (by omega)], fun a b h1 h2 h3 => (hf2 a b h1).trans (hf a b h1 h2 h3)⟩
      · skip
        refine wp_bipush (v := (-4)) C dX11_turns_31 rfl ?_
        refine wp_iret C dX11_turns_33 ?_
        exact ⟨by unfold turS; rw [if_neg (by omega), if_pos (by omega)], fun _ _ _ _ _ => rfl⟩
    · skip
      refine wp_bipush (v := (-3)) C dX11_turns_16 rfl ?_
      refine wp_iret C dX11_turns_18 ?_
      exact ⟨by unfold turS; rw [if_pos (by omega)], fun _ _ _ _ _ => rfl⟩


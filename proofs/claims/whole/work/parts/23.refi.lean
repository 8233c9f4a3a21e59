/-! ===== the reference: images, many ===== -/
theorem cpH_0 {h : Hp} {s t : Nat} {sp dp : Int} : cpH h s t sp dp 0 = h := by
  funext a b
  unfold cpH
  rw [if_neg (fun z => by omega)]
theorem cpH_step {h : Hp} {s : Nat} {sp dp i K : Int} (h0 : 0 ≤ sp) (h1 : 0 ≤ dp) (h2 : 0 ≤ i ∧ i < K) (hd : sp + K ≤ dp ∨ dp + K ≤ sp) : upd2 (cpH h s s sp dp i) s (dp + i).toNat (cpH h s s sp dp i s (sp + i).toNat) = cpH h s s sp dp (i + 1) := by
  funext a b
  have e : cpH h s s sp dp i s (sp + i).toNat = h s (sp + i).toNat := by
    unfold cpH
    rw [if_neg (fun z => by omega)]
  rw [e]
  unfold upd2 cpH
  by_cases q : a = s ∧ b = (dp + i).toNat
  · rw [if_pos q, if_pos ⟨q.1, by omega, by omega⟩, show sp + ((b : Int) - dp) = sp + i by omega]
  · rw [if_neg q]
    by_cases q2 : a = s ∧ dp ≤ (b : Int) ∧ (b : Int) < dp + i
    · rw [if_pos q2, if_pos ⟨q2.1, q2.2.1, by omega⟩]
    · rw [if_neg q2, if_neg (fun z => q2 ⟨z.1, z.2.1, by have : b ≠ (dp + i).toNat := fun w => q ⟨z.1, w⟩; omega⟩)]
def copyH (h : Hp) (f t : Int) : Hp := cpH (cpH (cpH (cpH h 130 130 (60 * f) (60 * t) 60) 129 129 (20 * f) (20 * t) 20) 132 132 (12 * f) (12 * t) 12) 131 131 (3 * f) (3 * t) 3
set_option maxRecDepth 100000 in
set_option maxHeartbeats 4000000 in
theorem c_copy (E : En) (h : Hp) (f t : Int) (hf : 0 ≤ f ∧ f ≤ 2) (ht : 0 ≤ t ∧ t ≤ 2) (hft : f ≠ t) : Ct 0 yX12_copy cX12_copy 4 none E [rv E 128, iv f, iv t] h (Upd none (copyH h f t)) := by
  refine ct_intro (by decide) (Nat.le_of_ble_eq_true rfl) (fun G C => ?_)
  show Wp G E 4 (Upd none (copyH h f t)) 0 [(0, rv E 128), (1, iv f), (2, iv t)] [] h
  refine wp_iconst (v := 0) C dX12_copy_0 rfl ?_
  refine wp_istore_n (ls' := [(0, rv E 128), (1, iv f), (2, iv t), (3, iv 0)]) [1, 2, 3, 0] C dX12_copy_1 rfl (by decide) rfl ?_
  have q20 : ∀ n9 : Nat, ∀ (x3 : Int) (hx : Hp), (0 ≤ x3 ∧ x3 ≤ 60) → (hx = cpH h 130 130 (60 * f) (60 * t) x3) → (60 - x3).toNat < n9 → Wp G E 4 (Upd none (copyH h f t)) 2 [(0, rv E 128), (1, iv f), (2, iv t), (3, iv x3)] [] hx := by
    intro n9
    induction n9 with
    | zero => intro x3 hx hi hh hm9; exact absurd hm9 (Nat.not_lt_zero _)
    | succ n9 ih9 =>
      intro x3 hx hi hh hm9
      have ih9_2 := ih9
      refine wp_iload_n 3 C dX12_copy_2 rfl rfl ?_
      refine wp_bipush (v := 60) C dX12_copy_3 rfl ?_
      refine wp_icmp_ge (tgt := 36) (by omega) (by omega) C dX12_copy_5 (by decide) (fun c_5 => ?_) (fun c_5 => ?_)
      · skip
        refine wp_iconst (v := 0) C dX12_copy_36 rfl ?_
        refine wp_istore_n (ls' := [(0, rv E 128), (1, iv f), (2, iv t), (3, iv 0)]) [1, 2, 3, 0] C dX12_copy_37 rfl (by decide) rfl ?_
        have q380 : ∀ n9 : Nat, ∀ (x3 : Int) (hx : Hp), (0 ≤ x3 ∧ x3 ≤ 20) → (hx = cpH (cpH h 130 130 (60 * f) (60 * t) 60) 129 129 (20 * f) (20 * t) x3) → (20 - x3).toNat < n9 → Wp G E 4 (Upd none (copyH h f t)) 38 [(0, rv E 128), (1, iv f), (2, iv t), (3, iv x3)] [] hx := by
          intro n9
          induction n9 with
          | zero => intro x3 hx hi hh hm9; exact absurd hm9 (Nat.not_lt_zero _)
          | succ n9 ih9 =>
            intro x3 hx hi hh hm9
            have ih9_38 := ih9
            refine wp_iload_n 3 C dX12_copy_38 rfl rfl ?_
            refine wp_bipush (v := 20) C dX12_copy_39 rfl ?_
            refine wp_icmp_ge (tgt := 72) (by omega) (by omega) C dX12_copy_41 (by decide) (fun c_41 => ?_) (fun c_41 => ?_)
            · skip
              refine wp_iconst (v := 0) C dX12_copy_72 rfl ?_
              refine wp_istore_n (ls' := [(0, rv E 128), (1, iv f), (2, iv t), (3, iv 0)]) [1, 2, 3, 0] C dX12_copy_73 rfl (by decide) rfl ?_
              have q740 : ∀ n9 : Nat, ∀ (x3 : Int) (hx : Hp), (0 ≤ x3 ∧ x3 ≤ 12) → (hx = cpH (cpH (cpH h 130 130 (60 * f) (60 * t) 60) 129 129 (20 * f) (20 * t) 20) 132 132 (12 * f) (12 * t) x3) → (12 - x3).toNat < n9 → Wp G E 4 (Upd none (copyH h f t)) 74 [(0, rv E 128), (1, iv f), (2, iv t), (3, iv x3)] [] hx := by
                intro n9
                induction n9 with
                | zero => intro x3 hx hi hh hm9; exact absurd hm9 (Nat.not_lt_zero _)
                | succ n9 ih9 =>
                  intro x3 hx hi hh hm9
                  have ih9_74 := ih9
                  refine wp_iload_n 3 C dX12_copy_74 rfl rfl ?_
                  refine wp_bipush (v := 12) C dX12_copy_75 rfl ?_
                  refine wp_icmp_ge (tgt := 108) (by omega) (by omega) C dX12_copy_77 (by decide) (fun c_77 => ?_) (fun c_77 => ?_)
                  · skip
                    refine wp_iconst (v := 0) C dX12_copy_108 rfl ?_
                    refine wp_istore_n (ls' := [(0, rv E 128), (1, iv f), (2, iv t), (3, iv 0)]) [1, 2, 3, 0] C dX12_copy_109 rfl (by decide) rfl ?_
                    have q1100 : ∀ n9 : Nat, ∀ (x3 : Int) (hx : Hp), (0 ≤ x3 ∧ x3 ≤ 3) → (hx = cpH (cpH (cpH (cpH h 130 130 (60 * f) (60 * t) 60) 129 129 (20 * f) (20 * t) 20) 132 132 (12 * f) (12 * t) 12) 131 131 (3 * f) (3 * t) x3) → (3 - x3).toNat < n9 → Wp G E 4 (Upd none (copyH h f t)) 110 [(0, rv E 128), (1, iv f), (2, iv t), (3, iv x3)] [] hx := by
                      intro n9
                      induction n9 with
                      | zero => intro x3 hx hi hh hm9; exact absurd hm9 (Nat.not_lt_zero _)
                      | succ n9 ih9 =>
                        intro x3 hx hi hh hm9
                        have ih9_110 := ih9
                        refine wp_iload_n 3 C dX12_copy_110 rfl rfl ?_
                        refine wp_iconst (v := 3) C dX12_copy_111 rfl ?_
                        refine wp_icmp_ge (tgt := 141) (by omega) (by omega) C dX12_copy_112 (by decide) (fun c_112 => ?_) (fun c_112 => ?_)
                        · skip
                          refine wp_vret C dX12_copy_141 ?_
                          exact upd_e (by rw [hh, show x3 = 3 by omega]; rfl)
                        · skip
                          refine wp_aloadR_n 0 C dX12_copy_115 rfl rfl ?_
                          refine wp_getR flX12_17 sh_128 rfl C dX12_copy_116 ?_
                          refine wp_iconst (v := 3) C dX12_copy_119 rfl ?_
                          refine wp_iload_n 2 C dX12_copy_120 rfl rfl ?_
                          refine wp_imul C dX12_copy_121 ?_
                          refine wp_iload_n 3 C dX12_copy_122 rfl rfl ?_
                          refine wp_iadd C dX12_copy_123 ?_
                          refine wp_aloadR_n 0 C dX12_copy_124 rfl rfl ?_
                          refine wp_getR flX12_17 sh_128 rfl C dX12_copy_125 ?_
                          refine wp_iconst (v := 3) C dX12_copy_128 rfl ?_
                          refine wp_iload_n 1 C dX12_copy_129 rfl rfl ?_
                          refine wp_imul C dX12_copy_130 ?_
                          refine wp_iload_n 3 C dX12_copy_131 rfl rfl ?_
                          refine wp_iadd C dX12_copy_132 ?_
                          refine wp_iald sh_131 (by omega) C dX12_copy_133 ?_
                          refine wp_iast sh_131 (by omega) C dX12_copy_134 ?_
                          obtain ⟨H1, e_H1⟩ : ∃ z : Hp, z = upd2 hx 131 ((3 * t) + x3).toNat (hx 131 ((3 * f) + x3).toNat) := ⟨_, rfl⟩
                          refine wp_heq e_H1 ?_
                          obtain ⟨v2, e_v2⟩ : ∃ z : Int, z = x3 + (1) := ⟨_, rfl⟩
                          refine wp_iinc (j := 3) (y := v2) (ls' := [(0, rv E 128), (1, iv f), (2, iv t), (3, iv v2)]) [1, 2, 3, 0] C dX12_copy_135 rfl e_v2 (by decide) rfl ?_
                          refine wp_goto (tgt := 110) C dX12_copy_138 (by decide) ?_
                          exact ih9_110 v2 H1 (by omega) (by rw [e_H1, hh, e_v2]; exact cpH_step (K := 3) (by omega) (by omega) (by omega) (by omega)) (by omega)
                    have q110 : ∀ (x3 : Int) (hx : Hp), (0 ≤ x3 ∧ x3 ≤ 3) → (hx = cpH (cpH (cpH (cpH h 130 130 (60 * f) (60 * t) 60) 129 129 (20 * f) (20 * t) 20) 132 132 (12 * f) (12 * t) 12) 131 131 (3 * f) (3 * t) x3) → Wp G E 4 (Upd none (copyH h f t)) 110 [(0, rv E 128), (1, iv f), (2, iv t), (3, iv x3)] [] hx := fun x3 hx hi hh => q1100 _ x3 hx hi hh (Nat.lt_succ_self _)
                    exact q110 0 hx (by omega) (by rw [hh, cpH_0, show x3 = 12 by omega])
                  · skip
                    refine wp_aloadR_n 0 C dX12_copy_80 rfl rfl ?_
                    refine wp_getR flX12_20 sh_128 rfl C dX12_copy_81 ?_
                    refine wp_bipush (v := 12) C dX12_copy_84 rfl ?_
                    refine wp_iload_n 2 C dX12_copy_86 rfl rfl ?_
                    refine wp_imul C dX12_copy_87 ?_
                    refine wp_iload_n 3 C dX12_copy_88 rfl rfl ?_
                    refine wp_iadd C dX12_copy_89 ?_
                    refine wp_aloadR_n 0 C dX12_copy_90 rfl rfl ?_
                    refine wp_getR flX12_20 sh_128 rfl C dX12_copy_91 ?_
                    refine wp_bipush (v := 12) C dX12_copy_94 rfl ?_
                    refine wp_iload_n 1 C dX12_copy_96 rfl rfl ?_
                    refine wp_imul C dX12_copy_97 ?_
                    refine wp_iload_n 3 C dX12_copy_98 rfl rfl ?_
                    refine wp_iadd C dX12_copy_99 ?_
                    refine wp_iald sh_132 (by omega) C dX12_copy_100 ?_
                    refine wp_iast sh_132 (by omega) C dX12_copy_101 ?_
                    obtain ⟨H3, e_H3⟩ : ∃ z : Hp, z = upd2 hx 132 ((12 * t) + x3).toNat (hx 132 ((12 * f) + x3).toNat) := ⟨_, rfl⟩
                    refine wp_heq e_H3 ?_
                    obtain ⟨v4, e_v4⟩ : ∃ z : Int, z = x3 + (1) := ⟨_, rfl⟩
                    refine wp_iinc (j := 3) (y := v4) (ls' := [(0, rv E 128), (1, iv f), (2, iv t), (3, iv v4)]) [1, 2, 3, 0] C dX12_copy_102 rfl e_v4 (by decide) rfl ?_
                    refine wp_goto (tgt := 74) C dX12_copy_105 (by decide) ?_
                    exact ih9_74 v4 H3 (by omega) (by rw [e_H3, hh, e_v4]; exact cpH_step (K := 12) (by omega) (by omega) (by omega) (by omega)) (by omega)
              have q74 : ∀ (x3 : Int) (hx : Hp), (0 ≤ x3 ∧ x3 ≤ 12) → (hx = cpH (cpH (cpH h 130 130 (60 * f) (60 * t) 60) 129 129 (20 * f) (20 * t) 20) 132 132 (12 * f) (12 * t) x3) → Wp G E 4 (Upd none (copyH h f t)) 74 [(0, rv E 128), (1, iv f), (2, iv t), (3, iv x3)] [] hx := fun x3 hx hi hh => q740 _ x3 hx hi hh (Nat.lt_succ_self _)
              exact q74 0 hx (by omega) (by rw [hh, cpH_0, show x3 = 20 by omega])
            · skip
              refine wp_aloadR_n 0 C dX12_copy_44 rfl rfl ?_
              refine wp_getR flX12_7 sh_128 rfl C dX12_copy_45 ?_
              refine wp_bipush (v := 20) C dX12_copy_48 rfl ?_
              refine wp_iload_n 2 C dX12_copy_50 rfl rfl ?_
              refine wp_imul C dX12_copy_51 ?_
              refine wp_iload_n 3 C dX12_copy_52 rfl rfl ?_
              refine wp_iadd C dX12_copy_53 ?_
              refine wp_aloadR_n 0 C dX12_copy_54 rfl rfl ?_
              refine wp_getR flX12_7 sh_128 rfl C dX12_copy_55 ?_
              refine wp_bipush (v := 20) C dX12_copy_58 rfl ?_
              refine wp_iload_n 1 C dX12_copy_60 rfl rfl ?_
              refine wp_imul C dX12_copy_61 ?_
              refine wp_iload_n 3 C dX12_copy_62 rfl rfl ?_
              refine wp_iadd C dX12_copy_63 ?_
              refine wp_lald sh_129 (by omega) C dX12_copy_64 ?_
              refine wp_last sh_129 (by omega) C dX12_copy_65 ?_
              obtain ⟨H5, e_H5⟩ : ∃ z : Hp, z = upd2 hx 129 ((20 * t) + x3).toNat (hx 129 ((20 * f) + x3).toNat) := ⟨_, rfl⟩
              refine wp_heq e_H5 ?_
              obtain ⟨v6, e_v6⟩ : ∃ z : Int, z = x3 + (1) := ⟨_, rfl⟩
              refine wp_iinc (j := 3) (y := v6) (ls' := [(0, rv E 128), (1, iv f), (2, iv t), (3, iv v6)]) [1, 2, 3, 0] C dX12_copy_66 rfl e_v6 (by decide) rfl ?_
              refine wp_goto (tgt := 38) C dX12_copy_69 (by decide) ?_
              exact ih9_38 v6 H5 (by omega) (by rw [e_H5, hh, e_v6]; exact cpH_step (K := 20) (by omega) (by omega) (by omega) (by omega)) (by omega)
        have q38 : ∀ (x3 : Int) (hx : Hp), (0 ≤ x3 ∧ x3 ≤ 20) → (hx = cpH (cpH h 130 130 (60 * f) (60 * t) 60) 129 129 (20 * f) (20 * t) x3) → Wp G E 4 (Upd none (copyH h f t)) 38 [(0, rv E 128), (1, iv f), (2, iv t), (3, iv x3)] [] hx := fun x3 hx hi hh => q380 _ x3 hx hi hh (Nat.lt_succ_self _)
        exact q38 0 hx (by omega) (by rw [hh, cpH_0, show x3 = 60 by omega])
      · skip
        refine wp_aloadR_n 0 C dX12_copy_8 rfl rfl ?_
        refine wp_getR flX12_13 sh_128 rfl C dX12_copy_9 ?_
        refine wp_bipush (v := 60) C dX12_copy_12 rfl ?_
        refine wp_iload_n 2 C dX12_copy_14 rfl rfl ?_
        refine wp_imul C dX12_copy_15 ?_
        refine wp_iload_n 3 C dX12_copy_16 rfl rfl ?_
        refine wp_iadd C dX12_copy_17 ?_
        refine wp_aloadR_n 0 C dX12_copy_18 rfl rfl ?_
        refine wp_getR flX12_13 sh_128 rfl C dX12_copy_19 ?_
        refine wp_bipush (v := 60) C dX12_copy_22 rfl ?_
        refine wp_iload_n 1 C dX12_copy_24 rfl rfl ?_
        refine wp_imul C dX12_copy_25 ?_
        refine wp_iload_n 3 C dX12_copy_26 rfl rfl ?_
        refine wp_iadd C dX12_copy_27 ?_
        refine wp_iald sh_130 (by omega) C dX12_copy_28 ?_
        refine wp_iast sh_130 (by omega) C dX12_copy_29 ?_
        obtain ⟨H7, e_H7⟩ : ∃ z : Hp, z = upd2 hx 130 ((60 * t) + x3).toNat (hx 130 ((60 * f) + x3).toNat) := ⟨_, rfl⟩
        refine wp_heq e_H7 ?_
        obtain ⟨v8, e_v8⟩ : ∃ z : Int, z = x3 + (1) := ⟨_, rfl⟩
        refine wp_iinc (j := 3) (y := v8) (ls' := [(0, rv E 128), (1, iv f), (2, iv t), (3, iv v8)]) [1, 2, 3, 0] C dX12_copy_30 rfl e_v8 (by decide) rfl ?_
        refine wp_goto (tgt := 2) C dX12_copy_33 (by decide) ?_
        exact ih9_2 v8 H7 (by omega) (by rw [e_H7, hh, e_v8]; exact cpH_step (K := 60) (by omega) (by omega) (by omega) (by omega)) (by omega)
  have q2 : ∀ (x3 : Int) (hx : Hp), (0 ≤ x3 ∧ x3 ≤ 60) → (hx = cpH h 130 130 (60 * f) (60 * t) x3) → Wp G E 4 (Upd none (copyH h f t)) 2 [(0, rv E 128), (1, iv f), (2, iv t), (3, iv x3)] [] hx := fun x3 hx hi hh => q20 _ x3 hx hi hh (Nat.lt_succ_self _)
  exact q2 0 h (by omega) (cpH_0.symm)

set_option maxRecDepth 100000 in
set_option maxHeartbeats 4000000 in
theorem c_heaps0 (E : En) (h : Hp)  : Ct 0 yX12_heaps cX12_heaps 1 (some .int) E [rv E 128] h (Ret (iv (h 131 0)) h) := by
  refine ct_intro (by decide) (Nat.le_of_ble_eq_true rfl) (fun G C => ?_)
  show Wp G E 1 (Ret (iv (h 131 0)) h) 0 [(0, rv E 128)] [] h
  refine wp_aloadR_n 0 C dX12_heaps_0 rfl rfl ?_
  refine wp_getR flX12_17 sh_128 rfl C dX12_heaps_1 ?_
  refine wp_iconst (v := 0) C dX12_heaps_4 rfl ?_
  refine wp_iald sh_131 (by omega) C dX12_heaps_5 ?_
  refine wp_top (show _ = h 131 0 from rfl) ?_
  refine wp_iret C dX12_heaps_6 ?_
  exact ret_iv (by first | rfl | omega)

set_option maxRecDepth 100000 in
set_option maxHeartbeats 4000000 in
theorem m_keep (E : En) (h : Hp) (k : Int) (hk : -2147483648 ≤ k ∧ k ≤ 2147483647) : Ct 1 yX12_keep cX12_keep 2 (some .int) E [rv E 128, iv k] h (Upd (some (iv (if ¬ (0 ≤ k ∧ k ≤ 1) then -2 else h 131 0))) (if ¬ (0 ≤ k ∧ k ≤ 1) then h else upd2 (copyH h 0 (1 + k)) 133 k.toNat 1)) := by
  refine ct_intro (by decide) (Nat.le_of_ble_eq_true rfl) (fun G C => ?_)
  show Wp G E 2 (Upd (some (iv (if ¬ (0 ≤ k ∧ k ≤ 1) then -2 else h 131 0))) (if ¬ (0 ≤ k ∧ k ≤ 1) then h else upd2 (copyH h 0 (1 + k)) 133 k.toNat 1)) 0 [(0, rv E 128), (1, iv k)] [] h
  refine wp_iload_n 1 C dX12_keep_0 rfl rfl ?_
  refine wp_i2l (by omega) C dX12_keep_1 ?_
  refine wp_lconst (v := 0) C dX12_keep_2 rfl ?_
  refine wp_lconst (v := 1) C dX12_keep_3 rfl ?_
  refine wp_callSp (rest := []) (c_in E h k 0 1 (by omega) (by omega) (by omega)) ssX12_69 (by decide) rfl rfl (Nat.le_of_ble_eq_true rfl) C dX12_keep_4 ?_
  refine wp_ifb_ne (tgt := 13) C dX12_keep_7 (by decide) (fun c_7 => ?_) (fun c_7 => ?_)
  · skip
    refine wp_aloadR_n 0 C dX12_keep_13 rfl rfl ?_
    refine wp_iconst (v := 0) C dX12_keep_14 rfl ?_
    refine wp_iconst (v := 1) C dX12_keep_15 rfl ?_
    refine wp_iload_n 1 C dX12_keep_16 rfl rfl ?_
    refine wp_iadd C dX12_keep_17 ?_
    refine wp_callVu (rest := []) (c_copy E h 0 (1 + k) (by omega) (by omega) (by omega)) svX12_286 sh_128 (by decide) rfl rfl (Nat.le_of_ble_eq_true rfl) C dX12_keep_18 ?_
    show Wp G E 2 (Upd (some (iv (if ¬ (0 ≤ k ∧ k ≤ 1) then -2 else h 131 0))) (if ¬ (0 ≤ k ∧ k ≤ 1) then h else upd2 (copyH h 0 (1 + k)) 133 k.toNat 1)) 21 [(0, rv E 128), (1, iv k)] [] (copyH h 0 (1 + k))
    obtain ⟨H1, e_H1⟩ : ∃ z : Hp, z = copyH h 0 (1 + k) := ⟨_, rfl⟩
    refine wp_heq e_H1 ?_
    refine wp_aloadR_n 0 C dX12_keep_21 rfl rfl ?_
    refine wp_getR flX12_23 sh_128 rfl C dX12_keep_22 ?_
    refine wp_iload_n 1 C dX12_keep_25 rfl rfl ?_
    refine wp_iconst (v := 1) C dX12_keep_26 rfl ?_
    refine wp_zast sh_133 (by omega) (by first | exact bi_01 | omega) C dX12_keep_27 ?_
    obtain ⟨H2, e_H2⟩ : ∃ z : Hp, z = upd2 H1 133 k.toNat 1 := ⟨_, rfl⟩
    refine wp_heq e_H2 ?_
    refine wp_aloadR_n 0 C dX12_keep_28 rfl rfl ?_
    refine wp_callVp (rest := []) (c_heaps0 E H2) svX12_141 sh_128 (by decide) rfl rfl (Nat.le_of_ble_eq_true rfl) C dX12_keep_29 ?_
    refine wp_iret C dX12_keep_32 ?_
    exact upd_i (by rw [if_neg (not_not_intro c_7)]; subst_vars; simp [upd2, copyH, cpH]; intro _ q; omega) (by rw [if_neg (not_not_intro c_7)]; subst_vars; rfl)
  · skip
    refine wp_bipush (v := (-2)) C dX12_keep_10 rfl ?_
    refine wp_iret C dX12_keep_12 ?_
    exact upd_i (by rw [if_pos c_7]) (by rw [if_pos c_7])

set_option maxRecDepth 100000 in
set_option maxHeartbeats 4000000 in
theorem m_back (E : En) (h : Hp) (k : Int) (hk : -2147483648 ≤ k ∧ k ≤ 2147483647) (hk2 : ∀ j, j < 2 → h 133 j = 0 ∨ h 133 j = 1) : Ct 1 yX12_back cX12_back 2 (some .int) E [rv E 128, iv k] h (Upd (some (iv (if ¬ (0 ≤ k ∧ k ≤ 1) then -2 else if h 133 k.toNat ≠ 0 then h 131 (3 * (1 + k)).toNat else -4))) (if ¬ (0 ≤ k ∧ k ≤ 1) then h else if h 133 k.toNat ≠ 0 then copyH h (1 + k) 0 else h)) := by
  refine ct_intro (by decide) (Nat.le_of_ble_eq_true rfl) (fun G C => ?_)
  show Wp G E 2 (Upd (some (iv (if ¬ (0 ≤ k ∧ k ≤ 1) then -2 else if h 133 k.toNat ≠ 0 then h 131 (3 * (1 + k)).toNat else -4))) (if ¬ (0 ≤ k ∧ k ≤ 1) then h else if h 133 k.toNat ≠ 0 then copyH h (1 + k) 0 else h)) 0 [(0, rv E 128), (1, iv k)] [] h
  refine wp_iload_n 1 C dX12_back_0 rfl rfl ?_
  refine wp_i2l (by omega) C dX12_back_1 ?_
  refine wp_lconst (v := 0) C dX12_back_2 rfl ?_
  refine wp_lconst (v := 1) C dX12_back_3 rfl ?_
  refine wp_callSp (rest := []) (c_in E h k 0 1 (by omega) (by omega) (by omega)) ssX12_69 (by decide) rfl rfl (Nat.le_of_ble_eq_true rfl) C dX12_back_4 ?_
  refine wp_ifb_ne (tgt := 13) C dX12_back_7 (by decide) (fun c_7 => ?_) (fun c_7 => ?_)
  · skip
    have hk9 := hk2 k.toNat (by omega)
    refine wp_aloadR_n 0 C dX12_back_13 rfl rfl ?_
    refine wp_getR flX12_23 sh_128 rfl C dX12_back_14 ?_
    refine wp_iload_n 1 C dX12_back_17 rfl rfl ?_
    refine wp_zald sh_133 (by omega) C dX12_back_18 ?_
    refine wp_if_ne (tgt := 25) (by omega) C dX12_back_19 (by decide) (fun c_19 => ?_) (fun c_19 => ?_)
    · skip
      refine wp_aloadR_n 0 C dX12_back_25 rfl rfl ?_
      refine wp_iconst (v := 1) C dX12_back_26 rfl ?_
      refine wp_iload_n 1 C dX12_back_27 rfl rfl ?_
      refine wp_iadd C dX12_back_28 ?_
      refine wp_iconst (v := 0) C dX12_back_29 rfl ?_
      refine wp_callVu (rest := []) (c_copy E h (1 + k) 0 (by omega) (by omega) (by omega)) svX12_286 sh_128 (by decide) rfl rfl (Nat.le_of_ble_eq_true rfl) C dX12_back_30 ?_
      show Wp G E 2 (Upd (some (iv (if ¬ (0 ≤ k ∧ k ≤ 1) then -2 else if h 133 k.toNat ≠ 0 then h 131 (3 * (1 + k)).toNat else -4))) (if ¬ (0 ≤ k ∧ k ≤ 1) then h else if h 133 k.toNat ≠ 0 then copyH h (1 + k) 0 else h)) 33 [(0, rv E 128), (1, iv k)] [] (copyH h (1 + k) 0)
      obtain ⟨H1, e_H1⟩ : ∃ z : Hp, z = copyH h (1 + k) 0 := ⟨_, rfl⟩
      refine wp_heq e_H1 ?_
      refine wp_aloadR_n 0 C dX12_back_33 rfl rfl ?_
      refine wp_callVp (rest := []) (c_heaps0 E H1) svX12_141 sh_128 (by decide) rfl rfl (Nat.le_of_ble_eq_true rfl) C dX12_back_34 ?_
      refine wp_iret C dX12_back_37 ?_
      exact upd_i (by rw [if_neg (not_not_intro c_7), if_pos c_19]; subst_vars; simp [copyH, cpH]) (by rw [if_neg (not_not_intro c_7), if_pos c_19]; subst_vars; rfl)
    · skip
      refine wp_bipush (v := (-4)) C dX12_back_22 rfl ?_
      refine wp_iret C dX12_back_24 ?_
      exact upd_i (by rw [if_neg (not_not_intro c_7), if_neg (by omega)]) (by rw [if_neg (not_not_intro c_7), if_neg (by omega)])
  · skip
    refine wp_bipush (v := (-2)) C dX12_back_10 rfl ?_
    refine wp_iret C dX12_back_12 ?_
    exact upd_i (by rw [if_pos c_7]) (by rw [if_pos c_7])


/-! ===== the reference: fault, away, tell, market ===== -/
def frF (h hx : Hp) : Prop := ∀ a b, ¬ (a = 128 ∧ 9 ≤ b ∧ b ≤ 13) → a ≠ 135 → a ≠ 136 → hx a b = h a b
def fltM (tx : Nat → Int) (L : Nat) (hp : Int) (h hx : Hp) (v : Option Value) : Prop := ∃ I, fltP tx L hp I ∧ v = some (iv (fltV tx L hp I)) ∧ (fltV tx L hp I = -1 → hx 128 9 = (I : Int) + 1 ∧ ∀ j, j ≤ I → mRec hx j (lnR tx L hp j)) ∧ frF h hx
theorem tk59 {tx : Nat → Int} {L : Nat} {t : Nat × Nat} (B : tkB tx L t) (h1 : t.1 < L) (h2 : tx t.1 = 59) : t.2 = t.1 + 1 := by
  have h3 := B.2.2.1 h1
  rcases (show t.2 = t.1 + 1 ∨ t.1 + 1 < t.2 by omega) with z | z
  · exact z
  · have h4 := (B.2.2.2 (t.1 + 1) (by omega) z (by omega)).1
    rw [h2] at h4
    exact absurd (by decide) h4
theorem fltP_1 {tx : Nat → Int} {L : Nat} {hp : Int} {i : Nat} (hi : i < 9) (h : ∀ j, j ≤ i → goP tx L hp j) (hn : ¬ (lnR tx L hp (i + 1)).1 = true) : fltP tx L hp (i + 1) := ⟨by omega, fun j hj => h j (by omega), fun z => hn z.1⟩
set_option maxRecDepth 100000 in
set_option maxHeartbeats 4000000 in
theorem m_fault (E : En) (h : Hp) (n : Nat) (p : Int) (N Sc Cl Cs : Nat → Int) (M0 : MH h n p N Sc Cl Cs) (tx : Nat → Int) (L : Nat) (T : TM h tx L) : Ct 7 yX12_fault cX12_fault 2 (some .int) E [rv E 128] h (fun v hx => fltM tx L (n : Int) h hx v) := by
  obtain ⟨m0, m1, m2, m3, mN, mS, mC, mK⟩ := id M0
  have hL := T.2.1
  have t6 := T.1
  refine ct_intro (by decide) (Nat.le_of_ble_eq_true rfl) (fun G C => ?_)
  show Wp G E 2 (fun v hx => fltM tx L (n : Int) h hx v) 0 [(0, rv E 128)] [] h
  refine wp_aloadR_n 0 C dX12_fault_0 rfl rfl ?_
  refine wp_iconst (v := 0) C dX12_fault_1 rfl ?_
  refine wp_putI fpX12_79 sh_128 rfl C dX12_fault_2 ?_
  obtain ⟨H1, e_H1⟩ : ∃ z : Hp, z = upd2 h 128 10 0 := ⟨_, rfl⟩
  refine wp_heq e_H1 ?_
  refine wp_aloadR_n 0 C dX12_fault_5 rfl rfl ?_
  refine wp_iconst (v := 0) C dX12_fault_6 rfl ?_
  refine wp_putI fpX12_114 sh_128 rfl C dX12_fault_7 ?_
  obtain ⟨H2, e_H2⟩ : ∃ z : Hp, z = upd2 H1 128 9 0 := ⟨_, rfl⟩
  refine wp_heq e_H2 ?_
  refine wp_aloadR_n 0 C dX12_fault_10 rfl rfl ?_
  refine wp_aloadR_n 0 C dX12_fault_11 rfl rfl ?_
  have Mz : MH H2 n p N Sc Cl Cs := M0.of (fun b => by rw [e_H2, e_H1]; unfold upd2; refine ⟨?_, ?_, ?_⟩ <;> rw [if_neg (by omega), if_neg (by omega)])
  refine wp_callVp (rest := [rv E 128]) (c_heaps E H2 n p N Sc Cl Cs Mz) svX12_141 sh_128 (by decide) rfl rfl (Nat.le_of_ble_eq_true rfl) C dX12_fault_12 ?_
  refine wp_putI fpX12_131 sh_128 rfl C dX12_fault_15 ?_
  obtain ⟨H3, e_H3⟩ : ∃ z : Hp, z = upd2 H2 128 13 (n : Int) := ⟨_, rfl⟩
  refine wp_heq e_H3 ?_
  have T0 : TM H3 tx L := T.of (by rw [e_H3, e_H2, e_H1]; rfl) (fun b => by rw [e_H3, e_H2, e_H1]; unfold upd2; rw [if_neg (by omega), if_neg (by omega), if_neg (by omega)])
  have fr0 : frF h H3 := fun a b h1 _ _ => by rw [e_H3, e_H2, e_H1]; unfold upd2; rw [if_neg (by omega), if_neg (by omega), if_neg (by omega)]
  have g10 : H3 128 10 = (((0, 0) : Nat × Nat).2 : Int) := by rw [e_H3, e_H2, e_H1]; rfl
  have g9 : H3 128 9 = ((0 : Nat) : Int) := by rw [e_H3, e_H2, e_H1]; rfl
  have g13 : H3 128 13 = (n : Int) := by rw [e_H3, e_H2, e_H1]; rfl
  refine wp_aloadR_n 0 C dX12_fault_18 rfl rfl ?_
  refine wp_callV (rest := []) (c_token E H3 tx L T0 (0, 0) g10 (Nat.zero_le _)) svX12_117 sh_128 (by decide) rfl rfl (Nat.le_of_ble_eq_true rfl) C dX12_fault_19 (fun r0 hx0 pf => ?_)
  obtain ⟨rfl, D0, f0⟩ := pf
  have B0 := seqR_B (tx := tx) (L := L) (hp := (n : Int)) 0
  have hp0 : 0 ≤ (n : Int) ∧ (n : Int) ≤ 20 := by omega
  refine wp_aloadR_n 0 C dX12_fault_22 rfl rfl ?_
  refine wp_callV (rest := []) (c_readsLine E hx0 tx L (T0.fr f0) (seqR tx L (n : Int) 0).1 D0 B0 0 ((f0 128 9 (by omega)).trans g9) (by decide) (seqR tx L (n : Int) 0).2 hp0 ((f0 128 13 (by omega)).trans g13)) svX12_144 sh_128 (by decide) rfl rfl (Nat.le_of_ble_eq_true rfl) C dX12_fault_23 (fun r0 hx1 pf => ?_)
  have pf9 : lmL (lnR tx L (n : Int) 0) 0 hx0 hx1 r0 := pf
  obtain ⟨rfl, k1, k2, k3⟩ := pf9
  have fr1 : frF h hx1 := fun a b h1 h2 h3 => (k3 a b h1 (by omega) (by omega)).trans ((f0 a b (by omega)).trans (fr0 a b h1 h2 h3))
  refine wp_ifb_ne (tgt := 34) C dX12_fault_26 (by decide) (fun c_26 => ?_) (fun c_26 => ?_)
  · skip
    have q340 : ∀ n9 : Nat, ∀ (i : Nat) (hx : Hp), (i ≤ 9) → ((lnR tx L (n : Int) i).1 = true) → (∀ j, j < i → goP tx L (n : Int) j) → (RM hx (lnR tx L (n : Int) i).2.1) → (hx 128 13 = (lnR tx L (n : Int) i).2.2.1) → (hx 128 9 = (i : Int) + 1) → (∀ j, j ≤ i → mRec hx j (lnR tx L (n : Int) j)) → (frF h hx) → 9 - i < n9 → Wp G E 2 (fun v hx => fltM tx L (n : Int) h hx v) 34 [(0, rv E 128)] [] hx := by
      intro n9
      induction n9 with
      | zero => intro i hx hi hok hgo hD h13 h9 hrc hf hm9; exact absurd hm9 (Nat.not_lt_zero _)
      | succ n9 ih9 =>
        intro i hx hi hok hgo hD h13 h9 hrc hf hm9
        have ih9_34 := ih9
        have Tx : TM hx tx L := T.of (hf 128 6 (by omega) (by omega) (by omega)) (fun b => hf 134 b (by omega) (by omega) (by omega))
        have tx6 := Tx.1
        have Bi := lnR_B (tx := tx) (L := L) (hp := (n : Int)) i
        have Bi1 := Bi.1
        have Bi2 := Bi.2.1
        have dx1 := hD.1
        have dx2 := hD.2.1
        refine wp_aloadR_n 0 C dX12_fault_34 rfl rfl ?_
        refine wp_getI flX12_82 sh_128 rfl C dX12_fault_35 ?_
        refine wp_aloadR_n 0 C dX12_fault_38 rfl rfl ?_
        refine wp_getI flX12_73 sh_128 rfl C dX12_fault_39 ?_
        refine wp_icmp_ge (tgt := 112) (by omega) (by omega) C dX12_fault_42 (by decide) (fun c_42 => ?_) (fun c_42 => ?_)
        · skip
          refine wp_iconst (v := (-1)) C dX12_fault_112 rfl ?_
          refine wp_iret C dX12_fault_113 ?_
          exact ⟨i, ⟨hi, hgo, fun z => absurd z.2.1 (by omega)⟩, by rw [fltV_t ⟨hok, by omega⟩], fun _ => ⟨h9, hrc⟩, hf⟩
        · skip
          refine wp_aloadR_n 0 C dX12_fault_45 rfl rfl ?_
          refine wp_getI flX12_89 sh_128 rfl C dX12_fault_46 ?_
          refine wp_aloadR_n 0 C dX12_fault_49 rfl rfl ?_
          refine wp_getI flX12_82 sh_128 rfl C dX12_fault_50 ?_
          refine wp_isub C dX12_fault_53 ?_
          refine wp_iconst (v := 1) C dX12_fault_54 rfl ?_
          refine wp_icmp_ne (tgt := 85) (by omega) (by omega) C dX12_fault_55 (by decide) (fun c_55 => ?_) (fun c_55 => ?_)
          · skip
            refine wp_iconst (v := 0) C dX12_fault_85 rfl ?_
            refine wp_istore_n (ls' := [(0, rv E 128), (1, iv 0)]) [1, 0] C dX12_fault_86 rfl (by decide) rfl ?_
            refine wp_iload_n 1 C dX12_fault_87 rfl rfl ?_
            refine wp_if_eq (tgt := 100) (by omega) C dX12_fault_88 (by decide) (fun c_88 => ?_) (fun c_88 => ?_)
            · skip
              refine wp_iload_n 1 C dX12_fault_100 rfl rfl ?_
              refine wp_if_ne (tgt := 109) (by omega) C dX12_fault_101 (by decide) (fun c_101 => ?_) (fun c_101 => ?_)
              · skip
                exact absurd rfl c_101
              · skip
                refine wp_aloadR_n 0 C dX12_fault_104 rfl rfl ?_
                refine wp_getI flX12_82 sh_128 rfl C dX12_fault_105 ?_
                refine wp_iret C dX12_fault_108 ?_
                exact ⟨i, ⟨hi, hgo, fun z => c_55 (by have := tk59 Bi z.2.1 z.2.2.1; omega)⟩, by rw [fltV_f (fun z => absurd z.2 (by omega)), dx1], fun z => by rw [fltV_f (fun y => absurd y.2 (by omega))] at z; omega, hf⟩
            · skip
              exact absurd rfl c_88
          · skip
            refine wp_aloadR_n 0 C dX12_fault_58 rfl rfl ?_
            refine wp_getR flX12_27 sh_128 rfl C dX12_fault_59 ?_
            refine wp_aloadR_n 0 C dX12_fault_62 rfl rfl ?_
            refine wp_getI flX12_82 sh_128 rfl C dX12_fault_63 ?_
            refine wp_iald sh_134 (by omega) C dX12_fault_66 ?_
            have hte := Tx.2.2 (lnR tx L (n : Int) i).2.1.1 (by omega)
            refine wp_top (show _ = tx (lnR tx L (n : Int) i).2.1.1 by rw [show (hx 128 11).toNat = (lnR tx L (n : Int) i).2.1.1 by omega]; exact hte.1) ?_
            refine wp_bipush (v := 59) C dX12_fault_67 rfl ?_
            refine wp_icmp_ne (tgt := 85) (by omega) (by omega) C dX12_fault_69 (by decide) (fun c_69 => ?_) (fun c_69 => ?_)
            · skip
              refine wp_iconst (v := 0) C dX12_fault_85 rfl ?_
              refine wp_istore_n (ls' := [(0, rv E 128), (1, iv 0)]) [1, 0] C dX12_fault_86 rfl (by decide) rfl ?_
              refine wp_iload_n 1 C dX12_fault_87 rfl rfl ?_
              refine wp_if_eq (tgt := 100) (by omega) C dX12_fault_88 (by decide) (fun c_88 => ?_) (fun c_88 => ?_)
              · skip
                refine wp_iload_n 1 C dX12_fault_100 rfl rfl ?_
                refine wp_if_ne (tgt := 109) (by omega) C dX12_fault_101 (by decide) (fun c_101 => ?_) (fun c_101 => ?_)
                · skip
                  exact absurd rfl c_101
                · skip
                  refine wp_aloadR_n 0 C dX12_fault_104 rfl rfl ?_
                  refine wp_getI flX12_82 sh_128 rfl C dX12_fault_105 ?_
                  refine wp_iret C dX12_fault_108 ?_
                  exact ⟨i, ⟨hi, hgo, fun z => c_69 z.2.2.1⟩, by rw [fltV_f (fun z => absurd z.2 (by omega)), dx1], fun z => by rw [fltV_f (fun y => absurd y.2 (by omega))] at z; omega, hf⟩
              · skip
                exact absurd rfl c_88
            · skip
              refine wp_aloadR_n 0 C dX12_fault_72 rfl rfl ?_
              refine wp_getI flX12_114 sh_128 rfl C dX12_fault_73 ?_
              refine wp_bipush (v := 10) C dX12_fault_76 rfl ?_
              refine wp_icmp_ge (tgt := 85) (by omega) (by omega) C dX12_fault_78 (by decide) (fun c_78 => ?_) (fun c_78 => ?_)
              · skip
                refine wp_iconst (v := 0) C dX12_fault_85 rfl ?_
                refine wp_istore_n (ls' := [(0, rv E 128), (1, iv 0)]) [1, 0] C dX12_fault_86 rfl (by decide) rfl ?_
                refine wp_iload_n 1 C dX12_fault_87 rfl rfl ?_
                refine wp_if_eq (tgt := 100) (by omega) C dX12_fault_88 (by decide) (fun c_88 => ?_) (fun c_88 => ?_)
                · skip
                  refine wp_iload_n 1 C dX12_fault_100 rfl rfl ?_
                  refine wp_if_ne (tgt := 109) (by omega) C dX12_fault_101 (by decide) (fun c_101 => ?_) (fun c_101 => ?_)
                  · skip
                    exact absurd rfl c_101
                  · skip
                    refine wp_aloadR_n 0 C dX12_fault_104 rfl rfl ?_
                    refine wp_getI flX12_82 sh_128 rfl C dX12_fault_105 ?_
                    refine wp_iret C dX12_fault_108 ?_
                    exact ⟨i, ⟨hi, hgo, fun z => absurd z.2.2.2 (by omega)⟩, by rw [fltV_f (fun z => absurd z.2 (by omega)), dx1], fun z => by rw [fltV_f (fun y => absurd y.2 (by omega))] at z; omega, hf⟩
                · skip
                  exact absurd rfl c_88
              · skip
                refine wp_iconst (v := 1) C dX12_fault_81 rfl ?_
                refine wp_goto (tgt := 86) C dX12_fault_82 (by decide) ?_
                refine wp_istore_n (ls' := [(0, rv E 128), (1, iv 1)]) [1, 0] C dX12_fault_86 rfl (by decide) rfl ?_
                refine wp_iload_n 1 C dX12_fault_87 rfl rfl ?_
                refine wp_if_eq (tgt := 100) (by omega) C dX12_fault_88 (by decide) (fun c_88 => ?_) (fun c_88 => ?_)
                · skip
                  exact absurd c_88 (by decide)
                · skip
                  refine wp_aloadR_n 0 C dX12_fault_91 rfl rfl ?_
                  refine wp_callV (rest := []) (c_token E hx tx L Tx (lnR tx L (n : Int) i).2.1 hD.2.2 Bi2) svX12_117 sh_128 (by decide) rfl rfl (Nat.le_of_ble_eq_true rfl) C dX12_fault_92 (fun r0 hy pf => ?_)
                  obtain ⟨rfl, Dy, f2⟩ := pf
                  have hgo2 : ∀ j, j ≤ i → goP tx L (n : Int) j := fun j hj => by rcases (show j < i ∨ j = i by omega) with q | q; exact hgo j q; rw [q]; exact ⟨hok, by omega, by omega, by omega⟩
                  have Bj := seqR_B (tx := tx) (L := L) (hp := (n : Int)) (i + 1)
                  have hpj := seqR_hp (tx := tx) (L := L) (hp := (n : Int)) (by omega) (i + 1) (fun j hj => (hgo2 j (by omega)).1)
                  refine wp_aloadR_n 0 C dX12_fault_95 rfl rfl ?_
                  refine wp_callV (rest := []) (c_readsLine E hy tx L (Tx.fr f2) (seqR tx L (n : Int) (i + 1)).1 Dy Bj (i + 1) (((f2 128 9 (by omega)).trans h9).trans (by omega)) (by omega) (seqR tx L (n : Int) (i + 1)).2 hpj ((f2 128 13 (by omega)).trans h13)) svX12_144 sh_128 (by decide) rfl rfl (Nat.le_of_ble_eq_true rfl) C dX12_fault_96 (fun r0 hz pf => ?_)
                  have pf9 : lmL (lnR tx L (n : Int) (i + 1)) (i + 1) hy hz r0 := pf
                  obtain ⟨rfl, l1, l2, l3⟩ := pf9
                  have frz : frF h hz := fun a b h1 h2 h3 => (l3 a b h1 (by omega) (by omega)).trans ((f2 a b (by omega)).trans (hf a b h1 h2 h3))
                  refine wp_nm (fun vv e_vv => ?_)
                  refine wp_istore_n (ls' := [(0, rv E 128), (1, iv vv)]) [1, 0] C dX12_fault_99 rfl (by decide) rfl ?_
                  have hvv := bi_01 (p := (lnR tx L (n : Int) (i + 1)).1 = true)
                  rw [← e_vv] at hvv
                  refine wp_iload_n 1 C dX12_fault_100 rfl rfl ?_
                  refine wp_if_ne (tgt := 109) (by omega) C dX12_fault_101 (by decide) (fun c_101 => ?_) (fun c_101 => ?_)
                  · skip
                    have hok2 : (lnR tx L (n : Int) (i + 1)).1 = true := bi_1.mp (by omega)
                    refine wp_goto (tgt := 34) C dX12_fault_109 (by decide) ?_
                    refine wp_loc [0] rfl ?_
                    exact ih9_34 (i + 1) hz (by omega) (hok2) (fun j hj => hgo2 j (by omega)) ((l2 hok2).1) ((l2 hok2).2.1) ((l2 hok2).2.2.1) (fun j hj => by rcases (show j ≤ i ∨ j = i + 1 by omega) with q | q; exact mRec_of (mRec_of (hrc j q) (fun b _ _ => f2 135 b (by omega)) (f2 136 j (by omega))) (fun b _ _ => l3 135 b (by omega) (by omega) (by omega)) (l3 136 j (by omega) (by omega) (by omega)); rw [q]; exact (l2 hok2).2.2.2) (frz) (by omega)
                  · skip
                    refine wp_aloadR_n 0 C dX12_fault_104 rfl rfl ?_
                    refine wp_getI flX12_82 sh_128 rfl C dX12_fault_105 ?_
                    refine wp_iret C dX12_fault_108 ?_
                    have hno : ¬ (lnR tx L (n : Int) (i + 1)).1 = true := fun z => by rw [bi_t z] at e_vv; omega
                    exact ⟨i + 1, fltP_1 (by omega) hgo2 hno, by rw [fltV_f (fun z => hno z.1), l1], fun z => by rw [fltV_f (fun y => hno y.1)] at z; omega, frz⟩
    have q34 : ∀ (i : Nat) (hx : Hp), (i ≤ 9) → ((lnR tx L (n : Int) i).1 = true) → (∀ j, j < i → goP tx L (n : Int) j) → (RM hx (lnR tx L (n : Int) i).2.1) → (hx 128 13 = (lnR tx L (n : Int) i).2.2.1) → (hx 128 9 = (i : Int) + 1) → (∀ j, j ≤ i → mRec hx j (lnR tx L (n : Int) j)) → (frF h hx) → Wp G E 2 (fun v hx => fltM tx L (n : Int) h hx v) 34 [(0, rv E 128)] [] hx := fun i hx hi hok hgo hD h13 h9 hrc hf => q340 _ i hx hi hok hgo hD h13 h9 hrc hf (Nat.lt_succ_self _)
    exact q34 0 hx1 (by decide) (c_26) (fun j hj => absurd hj (Nat.not_lt_zero j)) ((k2 c_26).1) ((k2 c_26).2.1) ((k2 c_26).2.2.1) (fun j hj => by rw [show j = 0 by omega]; exact (k2 c_26).2.2.2) (fr1)
  · skip
    refine wp_aloadR_n 0 C dX12_fault_29 rfl rfl ?_
    refine wp_getI flX12_82 sh_128 rfl C dX12_fault_30 ?_
    refine wp_iret C dX12_fault_33 ?_
    exact ⟨0, ⟨by decide, fun j hj => absurd hj (Nat.not_lt_zero j), fun z => c_26 z.1⟩, by rw [fltV_f (fun z => c_26 z.1), k1], fun z => by rw [fltV_f (fun y => c_26 y.1)] at z; omega, fr1⟩

set_option maxRecDepth 100000 in
set_option maxHeartbeats 4000000 in
theorem c_away (E : En) (h : Hp) (n : Nat) (hn : h 131 0 = (n : Int)) (hn20 : n ≤ 20) (k : Int) (hk : 0 ≤ k ∧ k < n) : Ct 0 yX12_away cX12_away 4 none E [rv E 128, iv k] h (fun v hx => v = none ∧ hx 131 0 = (n : Int) - 1 ∧ (∀ j : Nat, (j : Int) < n - 1 → hx 129 j = if (j : Int) < k then h 129 j else h 129 (j + 1)) ∧ (∀ j q : Nat, (j : Int) < n - 1 → q < 3 → hx 130 (3 * j + q) = if (j : Int) < k then h 130 (3 * j + q) else h 130 (3 * (j + 1) + q)) ∧ (∀ a b, a ≠ 129 → a ≠ 130 → ¬ (a = 131 ∧ b = 0) → hx a b = h a b)) := by
  refine ct_intro (by decide) (Nat.le_of_ble_eq_true rfl) (fun G C => ?_)
  show Wp G E 4 (fun v hx => v = none ∧ hx 131 0 = (n : Int) - 1 ∧ (∀ j : Nat, (j : Int) < n - 1 → hx 129 j = if (j : Int) < k then h 129 j else h 129 (j + 1)) ∧ (∀ j q : Nat, (j : Int) < n - 1 → q < 3 → hx 130 (3 * j + q) = if (j : Int) < k then h 130 (3 * j + q) else h 130 (3 * (j + 1) + q)) ∧ (∀ a b, a ≠ 129 → a ≠ 130 → ¬ (a = 131 ∧ b = 0) → hx a b = h a b)) 0 [(0, rv E 128), (1, iv k)] [] h
  refine wp_aloadR_n 0 C dX12_away_0 rfl rfl ?_
  refine wp_getR flX12_17 sh_128 rfl C dX12_away_1 ?_
  refine wp_iconst (v := 0) C dX12_away_4 rfl ?_
  refine wp_dup2 rfl rfl C dX12_away_5 ?_
  refine wp_iald sh_131 (by omega) C dX12_away_6 ?_
  refine wp_top (show _ = h 131 0 from rfl) ?_
  refine wp_iconst (v := 1) C dX12_away_7 rfl ?_
  refine wp_isub C dX12_away_8 ?_
  refine wp_iast sh_131 (by omega) C dX12_away_9 ?_
  obtain ⟨H1, e_H1⟩ : ∃ z : Hp, z = upd2 h 131 0 ((h 131 0) - 1) := ⟨_, rfl⟩
  refine wp_heq e_H1 ?_
  refine wp_iload_n 1 C dX12_away_10 rfl rfl ?_
  refine wp_istore_n (ls' := [(0, rv E 128), (1, iv k), (2, iv k)]) [1, 2, 0] C dX12_away_11 rfl (by decide) rfl ?_
  have q120 : ∀ n9 : Nat, ∀ (x2 : Int) (hx : Hp), (k ≤ x2 ∧ x2 ≤ (n : Int) - 1) → (hx 131 0 = (n : Int) - 1) → (∀ j : Nat, hx 129 j = if k ≤ (j : Int) ∧ (j : Int) < x2 then h 129 (j + 1) else h 129 j) → (∀ j q : Nat, q < 3 → hx 130 (3 * j + q) = if k ≤ (j : Int) ∧ (j : Int) < x2 then h 130 (3 * (j + 1) + q) else h 130 (3 * j + q)) → (∀ a b, a ≠ 129 → a ≠ 130 → ¬ (a = 131 ∧ b = 0) → hx a b = h a b) → ((n : Int) - 1 - x2).toNat < n9 → Wp G E 4 (fun v hx => v = none ∧ hx 131 0 = (n : Int) - 1 ∧ (∀ j : Nat, (j : Int) < n - 1 → hx 129 j = if (j : Int) < k then h 129 j else h 129 (j + 1)) ∧ (∀ j q : Nat, (j : Int) < n - 1 → q < 3 → hx 130 (3 * j + q) = if (j : Int) < k then h 130 (3 * j + q) else h 130 (3 * (j + 1) + q)) ∧ (∀ a b, a ≠ 129 → a ≠ 130 → ¬ (a = 131 ∧ b = 0) → hx a b = h a b)) 12 [(0, rv E 128), (1, iv k), (2, iv x2)] [] hx := by
    intro n9
    induction n9 with
    | zero => intro x2 hx h2 h0 hN hO hf hm9; exact absurd hm9 (Nat.not_lt_zero _)
    | succ n9 ih9 =>
      intro x2 hx h2 h0 hN hO hf hm9
      have ih9_12 := ih9
      refine wp_iload_n 2 C dX12_away_12 rfl rfl ?_
      refine wp_aloadR_n 0 C dX12_away_13 rfl rfl ?_
      refine wp_getR flX12_17 sh_128 rfl C dX12_away_14 ?_
      refine wp_iconst (v := 0) C dX12_away_17 rfl ?_
      refine wp_iald sh_131 (by omega) C dX12_away_18 ?_
      refine wp_top (show _ = hx 131 0 from rfl) ?_
      refine wp_icmp_ge (tgt := 77) (by omega) (by omega) C dX12_away_19 (by decide) (fun c_19 => ?_) (fun c_19 => ?_)
      · skip
        refine wp_vret C dX12_away_77 ?_
        exact ⟨rfl, h0, fun j hj => by rw [hN j]; by_cases z : (j : Int) < k; rw [if_pos z, if_neg (by omega)]; rw [if_neg z, if_pos (by omega)], fun j q hj hq => by rw [hO j q hq]; by_cases z : (j : Int) < k; rw [if_pos z, if_neg (by omega)]; rw [if_neg z, if_pos (by omega)], hf⟩
      · skip
        refine wp_aloadR_n 0 C dX12_away_22 rfl rfl ?_
        refine wp_getR flX12_7 sh_128 rfl C dX12_away_23 ?_
        refine wp_iload_n 2 C dX12_away_26 rfl rfl ?_
        refine wp_aloadR_n 0 C dX12_away_27 rfl rfl ?_
        refine wp_getR flX12_7 sh_128 rfl C dX12_away_28 ?_
        refine wp_iload_n 2 C dX12_away_31 rfl rfl ?_
        refine wp_iconst (v := 1) C dX12_away_32 rfl ?_
        refine wp_iadd C dX12_away_33 ?_
        refine wp_lald sh_129 (by omega) C dX12_away_34 ?_
        refine wp_last sh_129 (by omega) C dX12_away_35 ?_
        obtain ⟨H2, e_H2⟩ : ∃ z : Hp, z = upd2 hx 129 x2.toNat (hx 129 (x2 + 1).toNat) := ⟨_, rfl⟩
        refine wp_heq e_H2 ?_
        refine wp_iconst (v := 0) C dX12_away_36 rfl ?_
        refine wp_istore_n (ls' := [(0, rv E 128), (1, iv k), (2, iv x2), (3, iv 0)]) [1, 2, 3, 0] C dX12_away_37 rfl (by decide) rfl ?_
        have q380 : ∀ n9 : Nat, ∀ (x3 : Int) (hy : Hp), (0 ≤ x3 ∧ x3 ≤ 3) → (hy 131 0 = (n : Int) - 1) → (∀ j : Nat, hy 129 j = if k ≤ (j : Int) ∧ (j : Int) < x2 + 1 then h 129 (j + 1) else h 129 j) → (∀ j q : Nat, q < 3 → hy 130 (3 * j + q) = if (k ≤ (j : Int) ∧ (j : Int) < x2) ∨ ((j : Int) = x2 ∧ (q : Int) < x3) then h 130 (3 * (j + 1) + q) else h 130 (3 * j + q)) → (∀ a b, a ≠ 129 → a ≠ 130 → ¬ (a = 131 ∧ b = 0) → hy a b = h a b) → (3 - x3).toNat < n9 → Wp G E 4 (fun v hx => v = none ∧ hx 131 0 = (n : Int) - 1 ∧ (∀ j : Nat, (j : Int) < n - 1 → hx 129 j = if (j : Int) < k then h 129 j else h 129 (j + 1)) ∧ (∀ j q : Nat, (j : Int) < n - 1 → q < 3 → hx 130 (3 * j + q) = if (j : Int) < k then h 130 (3 * j + q) else h 130 (3 * (j + 1) + q)) ∧ (∀ a b, a ≠ 129 → a ≠ 130 → ¬ (a = 131 ∧ b = 0) → hx a b = h a b)) 38 [(0, rv E 128), (1, iv k), (2, iv x2), (3, iv x3)] [] hy := by
          intro n9
          induction n9 with
          | zero => intro x3 hy h3 g0 gN gO gf hm9; exact absurd hm9 (Nat.not_lt_zero _)
          | succ n9 ih9 =>
            intro x3 hy h3 g0 gN gO gf hm9
            have ih9_38 := ih9
            refine wp_iload_n 3 C dX12_away_38 rfl rfl ?_
            refine wp_iconst (v := 3) C dX12_away_39 rfl ?_
            refine wp_icmp_ge (tgt := 71) (by omega) (by omega) C dX12_away_40 (by decide) (fun c_40 => ?_) (fun c_40 => ?_)
            · skip
              obtain ⟨v3, e_v3⟩ : ∃ z : Int, z = x2 + (1) := ⟨_, rfl⟩
              refine wp_iinc (j := 2) (y := v3) (ls' := [(0, rv E 128), (1, iv k), (2, iv v3), (3, iv x3)]) [1, 2, 0, 3] C dX12_away_71 rfl e_v3 (by decide) rfl ?_
              refine wp_goto (tgt := 12) C dX12_away_74 (by decide) ?_
              refine wp_loc [0, 1, 2] rfl ?_
              exact ih9_12 v3 hy (by omega) (g0) (fun j => by rw [e_v3, gN j]) (fun j q hq => by rw [e_v3, gO j q hq]; by_cases z : k ≤ (j : Int) ∧ (j : Int) < x2 + 1; rw [if_pos z, if_pos (by omega)]; rw [if_neg z, if_neg (by omega)]) (gf) (by omega)
            · skip
              refine wp_aloadR_n 0 C dX12_away_43 rfl rfl ?_
              refine wp_getR flX12_13 sh_128 rfl C dX12_away_44 ?_
              refine wp_iconst (v := 3) C dX12_away_47 rfl ?_
              refine wp_iload_n 2 C dX12_away_48 rfl rfl ?_
              refine wp_imul C dX12_away_49 ?_
              refine wp_iload_n 3 C dX12_away_50 rfl rfl ?_
              refine wp_iadd C dX12_away_51 ?_
              refine wp_aloadR_n 0 C dX12_away_52 rfl rfl ?_
              refine wp_getR flX12_13 sh_128 rfl C dX12_away_53 ?_
              refine wp_iconst (v := 3) C dX12_away_56 rfl ?_
              refine wp_iload_n 2 C dX12_away_57 rfl rfl ?_
              refine wp_imul C dX12_away_58 ?_
              refine wp_iconst (v := 3) C dX12_away_59 rfl ?_
              refine wp_iadd C dX12_away_60 ?_
              refine wp_iload_n 3 C dX12_away_61 rfl rfl ?_
              refine wp_iadd C dX12_away_62 ?_
              refine wp_iald sh_130 (by omega) C dX12_away_63 ?_
              refine wp_iast sh_130 (by omega) C dX12_away_64 ?_
              obtain ⟨H4, e_H4⟩ : ∃ z : Hp, z = upd2 hy 130 ((3 * x2) + x3).toNat (hy 130 (((3 * x2) + 3) + x3).toNat) := ⟨_, rfl⟩
              refine wp_heq e_H4 ?_
              obtain ⟨v5, e_v5⟩ : ∃ z : Int, z = x3 + (1) := ⟨_, rfl⟩
              refine wp_iinc (j := 3) (y := v5) (ls' := [(0, rv E 128), (1, iv k), (2, iv x2), (3, iv v5)]) [1, 2, 3, 0] C dX12_away_65 rfl e_v5 (by decide) rfl ?_
              refine wp_goto (tgt := 38) C dX12_away_68 (by decide) ?_
              exact ih9_38 v5 H4 (by omega) (by rw [e_H4]; exact g0) (fun j => by rw [e_H4]; unfold upd2; rw [if_neg (fun z => absurd z.1 (by decide))]; exact gN j) (fun j q hq => by rw [e_H4]; unfold upd2; by_cases w : 3 * j + q = (3 * x2 + x3).toNat; rw [if_pos ⟨rfl, w⟩, if_pos (by omega), show (3 * x2 + 3 + x3).toNat = 3 * (x2.toNat + 1) + x3.toNat by omega, gO _ _ (by omega), if_neg (by omega), show x2.toNat = j by omega, show x3.toNat = q by omega]; rw [if_neg (fun z => w z.2), gO j q hq]; by_cases z : (k ≤ (j : Int) ∧ (j : Int) < x2) ∨ ((j : Int) = x2 ∧ (q : Int) < x3); rw [if_pos z, if_pos (by omega)]; rw [if_neg z, if_neg (by omega)]) (fun a b h1 h2 h3 => by rw [e_H4]; unfold upd2; rw [if_neg (fun z => h2 z.1)]; exact gf a b h1 h2 h3) (by omega)
        have q38 : ∀ (x3 : Int) (hy : Hp), (0 ≤ x3 ∧ x3 ≤ 3) → (hy 131 0 = (n : Int) - 1) → (∀ j : Nat, hy 129 j = if k ≤ (j : Int) ∧ (j : Int) < x2 + 1 then h 129 (j + 1) else h 129 j) → (∀ j q : Nat, q < 3 → hy 130 (3 * j + q) = if (k ≤ (j : Int) ∧ (j : Int) < x2) ∨ ((j : Int) = x2 ∧ (q : Int) < x3) then h 130 (3 * (j + 1) + q) else h 130 (3 * j + q)) → (∀ a b, a ≠ 129 → a ≠ 130 → ¬ (a = 131 ∧ b = 0) → hy a b = h a b) → Wp G E 4 (fun v hx => v = none ∧ hx 131 0 = (n : Int) - 1 ∧ (∀ j : Nat, (j : Int) < n - 1 → hx 129 j = if (j : Int) < k then h 129 j else h 129 (j + 1)) ∧ (∀ j q : Nat, (j : Int) < n - 1 → q < 3 → hx 130 (3 * j + q) = if (j : Int) < k then h 130 (3 * j + q) else h 130 (3 * (j + 1) + q)) ∧ (∀ a b, a ≠ 129 → a ≠ 130 → ¬ (a = 131 ∧ b = 0) → hx a b = h a b)) 38 [(0, rv E 128), (1, iv k), (2, iv x2), (3, iv x3)] [] hy := fun x3 hy h3 g0 gN gO gf => q380 _ x3 hy h3 g0 gN gO gf (Nat.lt_succ_self _)
        exact q38 0 H2 (by omega) (by rw [e_H2]; exact h0) (fun j => by rw [e_H2]; unfold upd2; by_cases w : j = x2.toNat; rw [if_pos ⟨rfl, w⟩, if_pos (by omega), hN, if_neg (by omega), show (x2 + 1).toNat = j + 1 by omega]; rw [if_neg (fun z => w z.2), hN j]; by_cases z : k ≤ (j : Int) ∧ (j : Int) < x2; rw [if_pos z, if_pos (by omega)]; rw [if_neg z, if_neg (by omega)]) (fun j q hq => by rw [e_H2]; unfold upd2; rw [if_neg (by omega), hO j q hq]; by_cases z : k ≤ (j : Int) ∧ (j : Int) < x2; rw [if_pos z, if_pos (by omega)]; rw [if_neg z, if_neg (by omega)]) (fun a b h1 h2 h3 => by rw [e_H2]; unfold upd2; rw [if_neg (fun z => h1 z.1)]; exact hf a b h1 h2 h3)
  have q12 : ∀ (x2 : Int) (hx : Hp), (k ≤ x2 ∧ x2 ≤ (n : Int) - 1) → (hx 131 0 = (n : Int) - 1) → (∀ j : Nat, hx 129 j = if k ≤ (j : Int) ∧ (j : Int) < x2 then h 129 (j + 1) else h 129 j) → (∀ j q : Nat, q < 3 → hx 130 (3 * j + q) = if k ≤ (j : Int) ∧ (j : Int) < x2 then h 130 (3 * (j + 1) + q) else h 130 (3 * j + q)) → (∀ a b, a ≠ 129 → a ≠ 130 → ¬ (a = 131 ∧ b = 0) → hx a b = h a b) → Wp G E 4 (fun v hx => v = none ∧ hx 131 0 = (n : Int) - 1 ∧ (∀ j : Nat, (j : Int) < n - 1 → hx 129 j = if (j : Int) < k then h 129 j else h 129 (j + 1)) ∧ (∀ j q : Nat, (j : Int) < n - 1 → q < 3 → hx 130 (3 * j + q) = if (j : Int) < k then h 130 (3 * j + q) else h 130 (3 * (j + 1) + q)) ∧ (∀ a b, a ≠ 129 → a ≠ 130 → ¬ (a = 131 ∧ b = 0) → hx a b = h a b)) 12 [(0, rv E 128), (1, iv k), (2, iv x2)] [] hx := fun x2 hx h2 h0 hN hO hf => q120 _ x2 hx h2 h0 hN hO hf (Nat.lt_succ_self _)
  exact q12 k H1 (by omega) (by rw [e_H1, upd2_s]; omega) (fun j => by rw [if_neg (by omega), e_H1]; unfold upd2; rw [if_neg (by omega)]) (fun j q hq => by rw [if_neg (by omega), e_H1]; unfold upd2; rw [if_neg (by omega)]) (fun a b h1 h2 h3 => by rw [e_H1]; unfold upd2; rw [if_neg h3])

def mH (h : Hp) (A : HA) : Prop := h 131 0 = (A.1 : Int) ∧ h 131 1 = A.2.1 ∧ ∀ i, i < A.1 → h 129 i = A.2.2.1 i ∧ h 130 (3 * i) = A.2.2.2.1 i ∧ h 130 (3 * i + 1) = A.2.2.2.2.1 i ∧ h 130 (3 * i + 2) = A.2.2.2.2.2 i
def frA (h hx : Hp) : Prop := ∀ a b, a ≠ 129 → a ≠ 130 → ¬ (a = 131 ∧ (b = 0 ∨ b = 1)) → hx a b = h a b
set_option maxRecDepth 100000 in
set_option maxHeartbeats 4000000 in
theorem c_tell (E : En) (h : Hp) (A : HA) (R : LR) (hp : Int) (ln : Nat) (li : Int) (hli : li = (ln : Int)) (hl9 : ln < 10) (hrec : mRec h ln R) (ho : lineOK hp R) (hA : mH h A) (hn : (A.1 : Int) = hp) (h20 : A.1 ≤ 20) : Ct 1 yX12_tell cX12_tell 4 none E [rv E 128, iv li] h (fun v hx => v = none ∧ mH hx (apR R A) ∧ frA h hx) := by
  obtain ⟨a1, a2, a3⟩ := id hA
  obtain ⟨r1, r2, r3⟩ := id hrec
  have hwb : 0 ≤ R.2.2.2.1 ∧ R.2.2.2.1 ≤ 3 := by rcases ho with z | z | z | z <;> omega
  refine ct_intro (by decide) (Nat.le_of_ble_eq_true rfl) (fun G C => ?_)
  show Wp G E 4 (fun v hx => v = none ∧ mH hx (apR R A) ∧ frA h hx) 0 [(0, rv E 128), (1, iv li)] [] h
  refine wp_aloadR_n 0 C dX12_tell_0 rfl rfl ?_
  refine wp_getR flX12_30 sh_128 rfl C dX12_tell_1 ?_
  refine wp_iconst (v := 5) C dX12_tell_4 rfl ?_
  refine wp_iload_n 1 C dX12_tell_5 rfl rfl ?_
  refine wp_imul C dX12_tell_6 ?_
  refine wp_iconst (v := 1) C dX12_tell_7 rfl ?_
  refine wp_iadd C dX12_tell_8 ?_
  refine wp_iald sh_135 (by omega) C dX12_tell_9 ?_
  refine wp_top (show _ = h 135 (5 * ln + 1) by rw [show (5 * li + 1).toNat = 5 * ln + 1 by omega]) ?_
  refine wp_nm (fun w2 e_w2 => ?_)
  refine wp_istore_n (ls' := [(0, rv E 128), (1, iv li), (2, iv w2)]) [1, 2, 0] C dX12_tell_10 rfl (by decide) rfl ?_
  refine wp_aloadR_n 0 C dX12_tell_11 rfl rfl ?_
  refine wp_getR flX12_30 sh_128 rfl C dX12_tell_12 ?_
  refine wp_iconst (v := 5) C dX12_tell_15 rfl ?_
  refine wp_iload_n 1 C dX12_tell_16 rfl rfl ?_
  refine wp_imul C dX12_tell_17 ?_
  refine wp_iald sh_135 (by omega) C dX12_tell_18 ?_
  refine wp_top (show _ = R.2.2.2.1 by rw [show (5 * li).toNat = 5 * ln by omega]; exact r1) ?_
  by_cases c_19_0 : R.2.2.2.1 = 0
  · refine wp_tswIn (tgt := 44) (by omega) C dX12_tell_19 (by omega) (by omega) (by rw [c_19_0]; rfl) (by decide) ?_
    have wv : w2 = R.2.2.2.2.1 := by rw [e_w2]; exact r3 (Or.inl c_19_0)
    refine wp_aloadR_n 0 C dX12_tell_44 rfl rfl ?_
    refine wp_getR flX12_17 sh_128 rfl C dX12_tell_45 ?_
    refine wp_iconst (v := 1) C dX12_tell_48 rfl ?_
    refine wp_iload_n 2 C dX12_tell_49 rfl rfl ?_
    refine wp_iast sh_131 (by omega) C dX12_tell_50 ?_
    obtain ⟨H1, e_H1⟩ : ∃ z : Hp, z = upd2 h 131 1 w2 := ⟨_, rfl⟩
    refine wp_heq e_H1 ?_
    refine wp_vret C dX12_tell_51 ?_
    rw [show apR R A = _ from by unfold apR; rw [if_pos c_19_0]]
    exact ⟨rfl, ⟨by rw [e_H1]; exact a1, by rw [e_H1]; show _ = R.2.2.2.2.1; rw [← wv]; exact upd2_s, fun i hi => by rw [e_H1]; exact a3 i hi⟩, fun a b h1 h2 h3 => by rw [e_H1]; unfold upd2; rw [if_neg (by omega)]⟩
  by_cases c_19_1 : R.2.2.2.1 = 1
  · refine wp_tswIn (tgt := 52) (by omega) C dX12_tell_19 (by omega) (by omega) (by rw [c_19_1]; rfl) (by decide) ?_
    obtain ⟨v1, v2, v3, v4⟩ := r2 c_19_1
    have hlt : A.1 < 20 := by rcases ho with z | z | z | z <;> omega
    refine wp_aloadR_n 0 C dX12_tell_52 rfl rfl ?_
    refine wp_getR flX12_7 sh_128 rfl C dX12_tell_53 ?_
    refine wp_aloadR_n 0 C dX12_tell_56 rfl rfl ?_
    refine wp_getR flX12_17 sh_128 rfl C dX12_tell_57 ?_
    refine wp_iconst (v := 0) C dX12_tell_60 rfl ?_
    refine wp_iald sh_131 (by omega) C dX12_tell_61 ?_
    refine wp_top (show _ = h 131 0 from rfl) ?_
    refine wp_aloadR_n 0 C dX12_tell_62 rfl rfl ?_
    refine wp_getR flX12_33 sh_128 rfl C dX12_tell_63 ?_
    refine wp_iload_n 1 C dX12_tell_66 rfl rfl ?_
    refine wp_lald sh_136 (by omega) C dX12_tell_67 ?_
    refine wp_topl (show _ = R.2.2.2.2.1 by rw [show li.toNat = ln by omega]; exact v1) ?_
    refine wp_last sh_129 (by omega) C dX12_tell_68 ?_
    obtain ⟨H2, e_H2⟩ : ∃ z : Hp, z = upd2 h 129 (h 131 0).toNat R.2.2.2.2.1 := ⟨_, rfl⟩
    refine wp_heq e_H2 ?_
    refine wp_iconst (v := 0) C dX12_tell_69 rfl ?_
    refine wp_istore_n (ls' := [(0, rv E 128), (1, iv li), (2, iv w2), (3, iv 0)]) [1, 2, 3, 0] C dX12_tell_70 rfl (by decide) rfl ?_
    have q710 : ∀ n9 : Nat, ∀ (x3 : Int) (hx : Hp), (0 ≤ x3 ∧ x3 ≤ 3) → (hx 131 0 = (A.1 : Int)) → (∀ b : Nat, hx 130 b = if 3 * A.1 ≤ b ∧ (b : Int) < 3 * (A.1 : Int) + x3 then h 135 (5 * ln + 1 + (b - 3 * A.1)) else h 130 b) → (∀ b : Nat, hx 129 b = setF (h 129) A.1 R.2.2.2.2.1 b) → (∀ a b, a ≠ 129 → a ≠ 130 → hx a b = h a b) → (3 - x3).toNat < n9 → Wp G E 4 (fun v hx => v = none ∧ mH hx (apR R A) ∧ frA h hx) 71 [(0, rv E 128), (1, iv li), (2, iv w2), (3, iv x3)] [] hx := by
      intro n9
      induction n9 with
      | zero => intro x3 hx h3 h0 hO hN hf hm9; exact absurd hm9 (Nat.not_lt_zero _)
      | succ n9 ih9 =>
        intro x3 hx h3 h0 hO hN hf hm9
        have ih9_71 := ih9
        refine wp_iload_n 3 C dX12_tell_71 rfl rfl ?_
        refine wp_iconst (v := 3) C dX12_tell_72 rfl ?_
        refine wp_icmp_ge (tgt := 109) (by omega) (by omega) C dX12_tell_73 (by decide) (fun c_73 => ?_) (fun c_73 => ?_)
        · skip
          refine wp_aloadR_n 0 C dX12_tell_109 rfl rfl ?_
          refine wp_getR flX12_17 sh_128 rfl C dX12_tell_110 ?_
          refine wp_iconst (v := 0) C dX12_tell_113 rfl ?_
          refine wp_dup2 rfl rfl C dX12_tell_114 ?_
          refine wp_iald sh_131 (by omega) C dX12_tell_115 ?_
          refine wp_top (show _ = hx 131 0 from rfl) ?_
          refine wp_iconst (v := 1) C dX12_tell_116 rfl ?_
          refine wp_iadd C dX12_tell_117 ?_
          refine wp_iast sh_131 (by omega) C dX12_tell_118 ?_
          obtain ⟨H3, e_H3⟩ : ∃ z : Hp, z = upd2 hx 131 0 ((hx 131 0) + 1) := ⟨_, rfl⟩
          refine wp_heq e_H3 ?_
          refine wp_vret C dX12_tell_119 ?_
          rw [show apR R A = _ from by unfold apR; rw [if_neg c_19_0, if_pos c_19_1]]
          have hh : ∀ i, i < A.1 + 1 → H3 129 i = setF A.2.2.1 A.1 R.2.2.2.2.1 i ∧ H3 130 (3 * i) = setF A.2.2.2.1 A.1 R.2.2.2.2.2.2.1 i ∧ H3 130 (3 * i + 1) = setF A.2.2.2.2.1 A.1 R.2.2.2.2.2.1 i ∧ H3 130 (3 * i + 2) = setF A.2.2.2.2.2 A.1 R.2.2.2.2.2.2.2 i := fun i hi => by
            rw [e_H3]
            show hx 129 i = _ ∧ hx 130 (3 * i) = _ ∧ hx 130 (3 * i + 1) = _ ∧ hx 130 (3 * i + 2) = _
            rw [hN i, hO (3 * i), hO (3 * i + 1), hO (3 * i + 2)]
            unfold setF
            by_cases z : i = A.1
            · rw [if_pos z, if_pos z, if_pos z, if_pos z, if_pos z, if_pos (show 3 * A.1 ≤ 3 * i ∧ ((3 * i : Nat) : Int) < 3 * (A.1 : Int) + x3 by omega), if_pos (show 3 * A.1 ≤ 3 * i + 1 ∧ ((3 * i + 1 : Nat) : Int) < 3 * (A.1 : Int) + x3 by omega), if_pos (show 3 * A.1 ≤ 3 * i + 2 ∧ ((3 * i + 2 : Nat) : Int) < 3 * (A.1 : Int) + x3 by omega), show 3 * i - 3 * A.1 = 0 by omega, show 3 * i + 1 - 3 * A.1 = 1 by omega, show 3 * i + 2 - 3 * A.1 = 2 by omega]
              exact ⟨rfl, v3, v2, v4⟩
            · rw [if_neg z, if_neg z, if_neg z, if_neg z, if_neg z, if_neg (show ¬ (3 * A.1 ≤ 3 * i ∧ ((3 * i : Nat) : Int) < 3 * (A.1 : Int) + x3) by omega), if_neg (show ¬ (3 * A.1 ≤ 3 * i + 1 ∧ ((3 * i + 1 : Nat) : Int) < 3 * (A.1 : Int) + x3) by omega), if_neg (show ¬ (3 * A.1 ≤ 3 * i + 2 ∧ ((3 * i + 2 : Nat) : Int) < 3 * (A.1 : Int) + x3) by omega)]
              exact a3 i (by omega)
          exact ⟨rfl, ⟨by rw [e_H3, upd2_s, h0]; rfl, by rw [e_H3]; exact (hf 131 1 (by decide) (by decide)).trans a2, hh⟩, fun a b h1 h2 h3 => by rw [e_H3]; unfold upd2; rw [if_neg (by omega)]; exact hf a b h1 h2⟩
        · skip
          refine wp_aloadR_n 0 C dX12_tell_76 rfl rfl ?_
          refine wp_getR flX12_13 sh_128 rfl C dX12_tell_77 ?_
          refine wp_iconst (v := 3) C dX12_tell_80 rfl ?_
          refine wp_aloadR_n 0 C dX12_tell_81 rfl rfl ?_
          refine wp_getR flX12_17 sh_128 rfl C dX12_tell_82 ?_
          refine wp_iconst (v := 0) C dX12_tell_85 rfl ?_
          refine wp_iald sh_131 (by omega) C dX12_tell_86 ?_
          refine wp_top (show _ = hx 131 0 from rfl) ?_
          refine wp_imul C dX12_tell_87 ?_
          refine wp_iload_n 3 C dX12_tell_88 rfl rfl ?_
          refine wp_iadd C dX12_tell_89 ?_
          refine wp_aloadR_n 0 C dX12_tell_90 rfl rfl ?_
          refine wp_getR flX12_30 sh_128 rfl C dX12_tell_91 ?_
          refine wp_iconst (v := 5) C dX12_tell_94 rfl ?_
          refine wp_iload_n 1 C dX12_tell_95 rfl rfl ?_
          refine wp_imul C dX12_tell_96 ?_
          refine wp_iconst (v := 1) C dX12_tell_97 rfl ?_
          refine wp_iadd C dX12_tell_98 ?_
          refine wp_iload_n 3 C dX12_tell_99 rfl rfl ?_
          refine wp_iadd C dX12_tell_100 ?_
          refine wp_iald sh_135 (by omega) C dX12_tell_101 ?_
          refine wp_iast sh_130 (by omega) C dX12_tell_102 ?_
          obtain ⟨H4, e_H4⟩ : ∃ z : Hp, z = upd2 hx 130 ((3 * (hx 131 0)) + x3).toNat (hx 135 (((5 * li) + 1) + x3).toNat) := ⟨_, rfl⟩
          refine wp_heq e_H4 ?_
          obtain ⟨v5, e_v5⟩ : ∃ z : Int, z = x3 + (1) := ⟨_, rfl⟩
          refine wp_iinc (j := 3) (y := v5) (ls' := [(0, rv E 128), (1, iv li), (2, iv w2), (3, iv v5)]) [1, 2, 3, 0] C dX12_tell_103 rfl e_v5 (by decide) rfl ?_
          refine wp_goto (tgt := 71) C dX12_tell_106 (by decide) ?_
          exact ih9_71 v5 H4 (by omega) (by rw [e_H4]; exact h0) (fun b => by rw [e_H4, e_v5]; unfold upd2; by_cases w : b = (3 * hx 131 0 + x3).toNat; rw [if_pos ⟨rfl, w⟩, if_pos (by omega), hf 135 _ (by decide) (by decide), show (5 * li + 1 + x3).toNat = 5 * ln + 1 + (b - 3 * A.1) by omega]; rw [if_neg (fun z => w z.2), hO b]; by_cases z : 3 * A.1 ≤ b ∧ (b : Int) < 3 * (A.1 : Int) + x3; rw [if_pos z, if_pos (by omega)]; rw [if_neg z, if_neg (by omega)]) (fun b => by rw [e_H4]; unfold upd2; rw [if_neg (fun z => absurd z.1 (by decide))]; exact hN b) (fun a b h1 h2 => by rw [e_H4]; unfold upd2; rw [if_neg (fun z => h2 z.1)]; exact hf a b h1 h2) (by omega)
    have q71 : ∀ (x3 : Int) (hx : Hp), (0 ≤ x3 ∧ x3 ≤ 3) → (hx 131 0 = (A.1 : Int)) → (∀ b : Nat, hx 130 b = if 3 * A.1 ≤ b ∧ (b : Int) < 3 * (A.1 : Int) + x3 then h 135 (5 * ln + 1 + (b - 3 * A.1)) else h 130 b) → (∀ b : Nat, hx 129 b = setF (h 129) A.1 R.2.2.2.2.1 b) → (∀ a b, a ≠ 129 → a ≠ 130 → hx a b = h a b) → Wp G E 4 (fun v hx => v = none ∧ mH hx (apR R A) ∧ frA h hx) 71 [(0, rv E 128), (1, iv li), (2, iv w2), (3, iv x3)] [] hx := fun x3 hx h3 h0 hO hN hf => q710 _ x3 hx h3 h0 hO hN hf (Nat.lt_succ_self _)
    exact q71 0 H2 (by omega) (by rw [e_H2]; exact a1) (fun b => by rw [if_neg (by omega), e_H2]; unfold upd2; rw [if_neg (by omega)]) (fun b => by rw [e_H2]; unfold upd2 setF; by_cases w : b = A.1; rw [if_pos ⟨rfl, by omega⟩, if_pos w]; rw [if_neg (fun z => w (by omega)), if_neg w]) (fun a b h1 h2 => by rw [e_H2]; unfold upd2; rw [if_neg (fun z => h1 z.1)])
  by_cases c_19_2 : R.2.2.2.1 = 2
  · refine wp_tswIn (tgt := 120) (by omega) C dX12_tell_19 (by omega) (by omega) (by rw [c_19_2]; rfl) (by decide) ?_
    have wv : w2 = R.2.2.2.2.1 := by rw [e_w2]; exact r3 (Or.inr c_19_2)
    have hw2 : 0 ≤ w2 ∧ w2 < (A.1 : Int) := by rw [wv]; rcases ho with z | z | z | z <;> omega
    refine wp_aloadR_n 0 C dX12_tell_120 rfl rfl ?_
    refine wp_iload_n 2 C dX12_tell_121 rfl rfl ?_
    refine wp_callV (rest := []) (c_away E h A.1 a1 h20 w2 hw2) svX12_147 sh_128 (by decide) rfl rfl (Nat.le_of_ble_eq_true rfl) C dX12_tell_122 (fun r0 hx pf => ?_)
    obtain ⟨rfl, q0, q1, q2, q3⟩ := pf
    refine wp_vret C dX12_tell_125 ?_
    rw [show apR R A = _ from by unfold apR; rw [if_neg c_19_0, if_neg c_19_1, if_pos c_19_2]]
    have hh : ∀ i, i < A.1 - 1 → hx 129 i = shF A.2.2.1 R.2.2.2.2.1.toNat i ∧ hx 130 (3 * i) = shF A.2.2.2.1 R.2.2.2.2.1.toNat i ∧ hx 130 (3 * i + 1) = shF A.2.2.2.2.1 R.2.2.2.2.1.toNat i ∧ hx 130 (3 * i + 2) = shF A.2.2.2.2.2 R.2.2.2.2.1.toNat i := fun i hi => by
      have p0 := q2 i 0 (by omega) (by decide)
      have p1 := q2 i 1 (by omega) (by decide)
      have p2 := q2 i 2 (by omega) (by decide)
      rw [Nat.add_zero, Nat.add_zero] at p0
      rw [q1 i (by omega), p0, p1, p2, wv]
      unfold shF
      by_cases z : i < R.2.2.2.2.1.toNat
      · have zi : (i : Int) < R.2.2.2.2.1 := by omega
        rw [if_pos z, if_pos z, if_pos z, if_pos z, if_pos zi, if_pos zi, if_pos zi, if_pos zi]
        exact a3 i (by omega)
      · have zi : ¬ (i : Int) < R.2.2.2.2.1 := by omega
        rw [if_neg z, if_neg z, if_neg z, if_neg z, if_neg zi, if_neg zi, if_neg zi, if_neg zi]
        exact a3 (i + 1) (by omega)
    exact ⟨rfl, ⟨by rw [q0]; show _ = ((A.1 - 1 : Nat) : Int); omega, (q3 131 1 (by decide) (by decide) (by omega)).trans a2, hh⟩, fun a b h1 h2 h3 => q3 a b h1 h2 (by omega)⟩
  refine wp_tswOut (tgt := 126) (by omega) C dX12_tell_19 (by omega) (by decide) ?_
  refine wp_aloadR_n 0 C dX12_tell_126 rfl rfl ?_
  refine wp_getR flX12_17 sh_128 rfl C dX12_tell_127 ?_
  refine wp_iconst (v := 0) C dX12_tell_130 rfl ?_
  refine wp_iconst (v := 0) C dX12_tell_131 rfl ?_
  refine wp_iast sh_131 (by omega) C dX12_tell_132 ?_
  obtain ⟨H6, e_H6⟩ : ∃ z : Hp, z = upd2 h 131 0 0 := ⟨_, rfl⟩
  refine wp_heq e_H6 ?_
  refine wp_vret C dX12_tell_133 ?_
  rw [show apR R A = _ from by unfold apR; rw [if_neg c_19_0, if_neg c_19_1, if_neg c_19_2]]
  exact ⟨rfl, ⟨by rw [e_H6, upd2_s]; rfl, by rw [e_H6]; exact a2, fun i hi => absurd hi (Nat.not_lt_zero i)⟩, fun a b h1 h2 h3 => by rw [e_H6]; unfold upd2; rw [if_neg (by omega)]⟩


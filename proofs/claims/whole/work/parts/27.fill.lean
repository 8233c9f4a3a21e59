set_option maxRecDepth 100000 in
set_option maxHeartbeats 4000000 in
theorem c_fillSizes (E : En) (h : Hp) (hk : FK h) (hz : 0 ≤ h 1 4 ∧ h 1 4 ≤ 20) (hp : 2 ≤ h 1 5 ∧ h 1 5 ≤ 10) (hN : ∀ i : Nat, (i : Int) < h 1 4 → 0 ≤ h 2 i ∧ h 2 i ≤ 999999999999999) (hS : ∀ i : Nat, (i : Int) < h 1 4 → 0 ≤ h 3 i ∧ h 3 i ≤ 999999999999999) (hC : ∀ i : Nat, (i : Int) < h 1 4 → 0 ≤ h 4 i ∧ h 4 i ≤ 999999999999999) : Ct 4 yX3_fillSizes cX3_fillSizes 8 none E [rv E 28] h (fun r hx => r = none ∧ (∀ j : Nat, (j : Int) ≤ h 1 4 → ∀ r s : Int, 0 ≤ r ∧ r < h 1 5 → 0 ≤ s ∧ s < h 28 3 → szP h hx j r s) ∧ (∀ a b, a ≠ 27 → hx a b = h a b)) := by
  have hsd := hk.sd hp
  have hkd := hk.kd
  refine ct_intro (by decide) (Nat.le_of_ble_eq_true rfl) (fun G C => ?_)
  show Wp G E 8 (fun r hx => r = none ∧ (∀ j : Nat, (j : Int) ≤ h 1 4 → ∀ r s : Int, 0 ≤ r ∧ r < h 1 5 → 0 ≤ s ∧ s < h 28 3 → szP h hx j r s) ∧ (∀ a b, a ≠ 27 → hx a b = h a b)) 0 [(0, rv E 28)] [] h
  refine wp_aloadR_n 0 C dX3_fillSizes_0 rfl rfl ?_
  refine wp_getR flX3_18 sh_28 rfl C dX3_fillSizes_1 ?_
  refine wp_getI flX3_64 sh_1 rfl C dX3_fillSizes_4 ?_
  refine wp_bipush (v := 100) C dX3_fillSizes_7 rfl ?_
  refine wp_imul C dX3_fillSizes_9 ?_
  refine wp_nm (fun last e_last => ?_)
  refine wp_istore_n (ls' := [(0, rv E 28), (1, iv last)]) [1, 0] C dX3_fillSizes_10 rfl (by decide) rfl ?_
  refine wp_aloadR_n 0 C dX3_fillSizes_11 rfl rfl ?_
  refine wp_getR flX3_22 sh_28 rfl C dX3_fillSizes_12 ?_
  refine wp_iload_n 1 C dX3_fillSizes_15 rfl rfl ?_
  refine wp_iload_n 1 C dX3_fillSizes_16 rfl rfl ?_
  refine wp_bipush (v := 100) C dX3_fillSizes_17 rfl ?_
  refine wp_iadd C dX3_fillSizes_19 ?_
  refine wp_iconst (v := 0) C dX3_fillSizes_20 rfl ?_
  refine wp_callSu (rest := []) (c_fillR E h 27 6561 sh_27 last (last + 100) 0 (by omega)) ssX3_74 (by decide) rfl rfl (Nat.le_of_ble_eq_true rfl) C dX3_fillSizes_21 ?_
  show Wp G E 8 (fun r hx => r = none ∧ (∀ j : Nat, (j : Int) ≤ h 1 4 → ∀ r s : Int, 0 ≤ r ∧ r < h 1 5 → 0 ≤ s ∧ s < h 28 3 → szP h hx j r s) ∧ (∀ a b, a ≠ 27 → hx a b = h a b)) 24 [(0, rv E 28), (1, iv last)] [] (fillH h 27 last (last + 100) 0)
  obtain ⟨H1, e_H1⟩ : ∃ z : Hp, z = fillH h 27 last (last + 100) 0 := ⟨_, rfl⟩
  refine wp_heq e_H1 ?_
  have q45 : ∀ (hx : Hp), (hx = upd2 (fillH h 27 (h 1 4 * 100) (h 1 4 * 100 + 100) 0) 27 (h 1 4 * 100 + (if 4 ≤ h 28 2 then 1 else 0)).toNat 1) → Wp G E 8 (fun r hx => r = none ∧ (∀ j : Nat, (j : Int) ≤ h 1 4 → ∀ r s : Int, 0 ≤ r ∧ r < h 1 5 → 0 ≤ s ∧ s < h 28 3 → szP h hx j r s) ∧ (∀ a b, a ≠ 27 → hx a b = h a b)) 45 [(0, rv E 28), (1, iv last)] [] hx := by
    intro hx hb
    have hf : ∀ a b, a ≠ 27 → hx a b = h a b := fun a b hab => by rw [hb]; unfold upd2 fillH; rw [if_neg (fun z => hab z.1), if_neg (fun z => hab z.1)]
    have s1 : hx 1 4 = h 1 4 := hf 1 4 (by decide)
    have s2 : hx 1 5 = h 1 5 := hf 1 5 (by decide)
    have s3 : hx 28 2 = h 28 2 := hf 28 2 (by decide)
    have s4 : hx 28 3 = h 28 3 := hf 28 3 (by decide)
    have hw0 := fun r s hr hs => sz_last (r := r) (s := s) hk hp hz.1 hb hr hs
    refine wp_aloadR_n 0 C dX3_fillSizes_45 rfl rfl ?_
    refine wp_getR flX3_18 sh_28 rfl C dX3_fillSizes_46 ?_
    refine wp_getI flX3_64 sh_1 rfl C dX3_fillSizes_49 ?_
    refine wp_iconst (v := 1) C dX3_fillSizes_52 rfl ?_
    refine wp_isub C dX3_fillSizes_53 ?_
    refine wp_nm (fun x2s e_x2s => ?_)
    refine wp_istore_n (ls' := [(0, rv E 28), (1, iv last), (2, iv x2s)]) [1, 2, 0] C dX3_fillSizes_54 rfl (by decide) rfl ?_
    have q550 : ∀ n9 : Nat, ∀ (x2 : Int) (hx : Hp), (-1 ≤ x2 ∧ x2 < h 1 4) → (∀ j : Nat, x2 < (j : Int) → (j : Int) ≤ h 1 4 → ∀ r s : Int, 0 ≤ r ∧ r < h 1 5 → 0 ≤ s ∧ s < h 28 3 → szP h hx j r s) → (∀ a b, a ≠ 27 → hx a b = h a b) → (x2 + 1).toNat < n9 → Wp G E 8 (fun r hx => r = none ∧ (∀ j : Nat, (j : Int) ≤ h 1 4 → ∀ r s : Int, 0 ≤ r ∧ r < h 1 5 → 0 ≤ s ∧ s < h 28 3 → szP h hx j r s) ∧ (∀ a b, a ≠ 27 → hx a b = h a b)) 55 [(0, rv E 28), (1, iv last), (2, iv x2)] [] hx := by
      intro n9
      induction n9 with
      | zero => intro x2 hx hi hw hf hm9; exact absurd hm9 (Nat.not_lt_zero _)
      | succ n9 ih9 =>
        intro x2 hx hi hw hf hm9
        have ih9_55 := ih9
        have s1 : hx 1 4 = h 1 4 := hf 1 4 (by decide)
        have s2 : hx 1 5 = h 1 5 := hf 1 5 (by decide)
        have s3 : hx 28 2 = h 28 2 := hf 28 2 (by decide)
        have s4 : hx 28 3 = h 28 3 := hf 28 3 (by decide)
        refine wp_iload_n 2 C dX3_fillSizes_55 rfl rfl ?_
        refine wp_if_lt (tgt := 184) (by omega) C dX3_fillSizes_56 (by decide) (fun c_56 => ?_) (fun c_56 => ?_)
        · skip
          refine wp_vret C dX3_fillSizes_184 ?_
          exact ⟨rfl, fun j hj r s hr hs => hw j (by omega) hj r s hr hs, hf⟩
        · skip
          refine wp_iconst (v := 0) C dX3_fillSizes_59 rfl ?_
          refine wp_istore_n (ls' := [(0, rv E 28), (1, iv last), (2, iv x2), (3, iv 0)]) [1, 2, 3, 0] C dX3_fillSizes_60 rfl (by decide) rfl ?_
          have q610 : ∀ n9 : Nat, ∀ (x3 : Int) (hx : Hp), (0 ≤ x3 ∧ x3 ≤ h 1 5) → (∀ j : Nat, x2 < (j : Int) → (j : Int) ≤ h 1 4 → ∀ r s : Int, 0 ≤ r ∧ r < h 1 5 → 0 ≤ s ∧ s < h 28 3 → szP h hx j r s) → (∀ r s : Int, 0 ≤ r ∧ r < x3 → 0 ≤ s ∧ s < h 28 3 → szP h hx x2.toNat r s) → (∀ a b, a ≠ 27 → hx a b = h a b) → (h 1 5 - x3).toNat < n9 → Wp G E 8 (fun r hx => r = none ∧ (∀ j : Nat, (j : Int) ≤ h 1 4 → ∀ r s : Int, 0 ≤ r ∧ r < h 1 5 → 0 ≤ s ∧ s < h 28 3 → szP h hx j r s) ∧ (∀ a b, a ≠ 27 → hx a b = h a b)) 61 [(0, rv E 28), (1, iv last), (2, iv x2), (3, iv x3)] [] hx := by
            intro n9
            induction n9 with
            | zero => intro x3 hx hi3 hw hv hf hm9; exact absurd hm9 (Nat.not_lt_zero _)
            | succ n9 ih9 =>
              intro x3 hx hi3 hw hv hf hm9
              have ih9_61 := ih9
              have s1 : hx 1 4 = h 1 4 := hf 1 4 (by decide)
              have s2 : hx 1 5 = h 1 5 := hf 1 5 (by decide)
              have s3 : hx 28 2 = h 28 2 := hf 28 2 (by decide)
              have s4 : hx 28 3 = h 28 3 := hf 28 3 (by decide)
              have hmn := mod_r (h 2 x2.toNat) hp
              refine wp_iload_n 3 C dX3_fillSizes_61 rfl rfl ?_
              refine wp_aloadR_n 0 C dX3_fillSizes_62 rfl rfl ?_
              refine wp_getR flX3_18 sh_28 rfl C dX3_fillSizes_63 ?_
              refine wp_getI flX3_55 sh_1 rfl C dX3_fillSizes_66 ?_
              refine wp_icmp_ge (tgt := 178) (by omega) (by omega) C dX3_fillSizes_69 (by decide) (fun c_69 => ?_) (fun c_69 => ?_)
              · skip
                obtain ⟨y2, e_y2⟩ : ∃ z : Int, z = x2 + (-1) := ⟨_, rfl⟩
                refine wp_iinc (j := 2) (y := y2) (ls' := [(0, rv E 28), (1, iv last), (2, iv y2), (3, iv x3)]) [1, 2, 0, 3] C dX3_fillSizes_178 rfl e_y2 (by decide) rfl ?_
                refine wp_goto (tgt := 55) C dX3_fillSizes_181 (by decide) ?_
                refine wp_loc [0, 1, 2] rfl ?_
                exact ih9_55 y2 hx (by omega) (fun j h1 h2 r s hr hs => by rcases (show x2 < (j : Int) ∨ j = x2.toNat by omega) with q | rfl; exact hw j q h2 r s hr hs; exact hv r s (by omega) hs) (hf) (by omega)
              · skip
                refine wp_iload_n 3 C dX3_fillSizes_72 rfl rfl ?_
                refine wp_aloadR_n 0 C dX3_fillSizes_73 rfl rfl ?_
                refine wp_getR flX3_18 sh_28 rfl C dX3_fillSizes_74 ?_
                refine wp_iload_n 2 C dX3_fillSizes_77 rfl rfl ?_
                refine wp_callVp (rest := [iv x3]) (c_restOfNumber E hx x2 (by omega) (by rw [hf 2 _ (by decide)]; exact hN _ (by omega)) (by omega)) svX3_67 sh_1 (by decide) rfl rfl (Nat.le_of_ble_eq_true rfl) C dX3_fillSizes_78 ?_
                refine wp_top (show _ = h 2 x2.toNat % h 1 5 by rw [hf 2 _ (by decide), s2]) ?_
                refine wp_iadd C dX3_fillSizes_81 ?_
                refine wp_aloadR_n 0 C dX3_fillSizes_82 rfl rfl ?_
                refine wp_getR flX3_18 sh_28 rfl C dX3_fillSizes_83 ?_
                refine wp_getI flX3_55 sh_1 rfl C dX3_fillSizes_86 ?_
                refine wp_callSNp (rest := []) (c_turned E hx (x3 + (h 2 x2.toNat % h 1 5)) (hx 1 5) (by omega) (by omega)) snX3_70 (by decide) rfl rfl (Nat.le_of_ble_eq_true rfl) C dX3_fillSizes_89 ?_
                refine wp_nm (fun rw4 e_rw4 => ?_)
                refine wp_istore (ls' := [(0, rv E 28), (1, iv last), (2, iv x2), (3, iv x3), (4, iv rw4)]) [1, 2, 3, 4, 0] C dX3_fillSizes_92 (by decide) rfl ?_
                rw [s2] at e_rw4
                have hrw := trn_r (r := x3) (x := h 2 x2.toNat % h 1 5) (p := h 1 5) (by omega) hmn
                rw [← e_rw4] at hrw
                refine wp_iconst (v := 0) C dX3_fillSizes_94 rfl ?_
                refine wp_istore (ls' := [(0, rv E 28), (1, iv last), (2, iv x2), (3, iv x3), (4, iv rw4), (5, iv 0)]) [1, 2, 3, 4, 5, 0] C dX3_fillSizes_95 (by decide) rfl ?_
                have q970 : ∀ n9 : Nat, ∀ (x5 : Int) (hx : Hp), (0 ≤ x5 ∧ x5 ≤ h 28 3) → (∀ j : Nat, x2 < (j : Int) → (j : Int) ≤ h 1 4 → ∀ r s : Int, 0 ≤ r ∧ r < h 1 5 → 0 ≤ s ∧ s < h 28 3 → szP h hx j r s) → (∀ r s : Int, 0 ≤ r ∧ r < x3 → 0 ≤ s ∧ s < h 28 3 → szP h hx x2.toNat r s) → (∀ s : Int, 0 ≤ s ∧ s < x5 → szP h hx x2.toNat x3 s) → (∀ a b, a ≠ 27 → hx a b = h a b) → (h 28 3 - x5).toNat < n9 → Wp G E 8 (fun r hx => r = none ∧ (∀ j : Nat, (j : Int) ≤ h 1 4 → ∀ r s : Int, 0 ≤ r ∧ r < h 1 5 → 0 ≤ s ∧ s < h 28 3 → szP h hx j r s) ∧ (∀ a b, a ≠ 27 → hx a b = h a b)) 97 [(0, rv E 28), (1, iv last), (2, iv x2), (3, iv x3), (4, iv rw4), (5, iv x5)] [] hx := by
                  intro n9
                  induction n9 with
                  | zero => intro x5 hx hi5 hw hv hu hf hm9; exact absurd hm9 (Nat.not_lt_zero _)
                  | succ n9 ih9 =>
                    intro x5 hx hi5 hw hv hu hf hm9
                    have ih9_97 := ih9
                    have s1 : hx 1 4 = h 1 4 := hf 1 4 (by decide)
                    have s2 : hx 1 5 = h 1 5 := hf 1 5 (by decide)
                    have s3 : hx 28 2 = h 28 2 := hf 28 2 (by decide)
                    have s4 : hx 28 3 = h 28 3 := hf 28 3 (by decide)
                    have f3 : hx 3 = h 3 := funext fun b => hf 3 b (by decide)
                    have f4 : hx 4 = h 4 := funext fun b => hf 4 b (by decide)
                    have hkx : FK hx := by unfold FK; rw [s2, s3, s4]; exact hk
                    refine wp_iload 5 C dX3_fillSizes_97 rfl ?_
                    refine wp_aloadR_n 0 C dX3_fillSizes_99 rfl rfl ?_
                    refine wp_getI flX3_15 sh_28 rfl C dX3_fillSizes_100 ?_
                    refine wp_icmp_ge (tgt := 172) (by omega) (by omega) C dX3_fillSizes_103 (by decide) (fun c_103 => ?_) (fun c_103 => ?_)
                    · skip
                      obtain ⟨y3, e_y3⟩ : ∃ z : Int, z = x3 + (1) := ⟨_, rfl⟩
                      refine wp_iinc (j := 3) (y := y3) (ls' := [(0, rv E 28), (1, iv last), (2, iv x2), (3, iv y3), (4, iv rw4), (5, iv x5)]) [1, 2, 3, 0, 4, 5] C dX3_fillSizes_172 rfl e_y3 (by decide) rfl ?_
                      refine wp_goto (tgt := 61) C dX3_fillSizes_175 (by decide) ?_
                      refine wp_loc [0, 1, 2, 3] rfl ?_
                      exact ih9_61 y3 hx (by omega) (hw) (fun r s hr hs => by rcases (show r < x3 ∨ r = x3 by omega) with q | rfl; exact hv r s (by omega) hs; exact hu s (by omega)) (hf) (by omega)
                    · skip
                      have hsw := sdw_r (i := x2.toNat) hk hp (s := x5) (by omega)
                      have g1 := pl_r (sd := h 28 3) (r := x3) (s := x5) (p := h 1 5) (by omega) (by omega) (by omega) hsd
                      have g2 := pl_r (sd := h 28 3) (r := rw4) (s := sdw (h 3) (h 4) (h 1 5) (h 28 2) x5 x2.toNat) (p := h 1 5) hrw hsw (by omega) hsd
                      refine wp_aloadR_n 0 C dX3_fillSizes_106 rfl rfl ?_
                      refine wp_getR flX3_22 sh_28 rfl C dX3_fillSizes_107 ?_
                      refine wp_aloadR_n 0 C dX3_fillSizes_110 rfl rfl ?_
                      refine wp_iload_n 2 C dX3_fillSizes_111 rfl rfl ?_
                      refine wp_iconst (v := 1) C dX3_fillSizes_112 rfl ?_
                      refine wp_iadd C dX3_fillSizes_113 ?_
                      refine wp_iload_n 3 C dX3_fillSizes_114 rfl rfl ?_
                      refine wp_iload 5 C dX3_fillSizes_115 rfl ?_
                      refine wp_callVp (rest := [rv E 27]) (c_place E hx (x2 + 1) x3 x5) svX3_80 sh_28 (by decide) rfl rfl (Nat.le_of_ble_eq_true rfl) C dX3_fillSizes_117 ?_
                      refine wp_top (show _ = 100 * (x2 + 1) + pl (h 28 3) x3 x5 by rw [s4]) ?_
                      refine wp_iald sh_27 (by omega) C dX3_fillSizes_120 ?_
                      refine wp_nm (fun wo e_wo => ?_)
                      refine wp_istore (ls' := [(0, rv E 28), (1, iv last), (2, iv x2), (3, iv x3), (4, iv rw4), (5, iv x5), (6, iv wo)]) [1, 2, 3, 4, 5, 6, 0] C dX3_fillSizes_121 (by decide) rfl ?_
                      refine wp_aloadR_n 0 C dX3_fillSizes_123 rfl rfl ?_
                      refine wp_getR flX3_22 sh_28 rfl C dX3_fillSizes_124 ?_
                      refine wp_aloadR_n 0 C dX3_fillSizes_127 rfl rfl ?_
                      refine wp_iload_n 2 C dX3_fillSizes_128 rfl rfl ?_
                      refine wp_iconst (v := 1) C dX3_fillSizes_129 rfl ?_
                      refine wp_iadd C dX3_fillSizes_130 ?_
                      refine wp_iload 4 C dX3_fillSizes_131 rfl ?_
                      refine wp_aloadR_n 0 C dX3_fillSizes_133 rfl rfl ?_
                      refine wp_iload 5 C dX3_fillSizes_134 rfl ?_
                      refine wp_iload_n 2 C dX3_fillSizes_136 rfl rfl ?_
                      refine wp_callVp (rest := [iv rw4, iv (x2 + 1), rv E 28, rv E 27]) (c_sideWith E hx x5 x2 (by omega) (by omega) hkx (by omega) (by omega) (fun i hi => by rw [hf 3 _ (by decide)]; exact hS i (by omega)) (fun i hi => by rw [hf 4 _ (by decide)]; exact hC i (by omega))) svX3_84 sh_28 (by decide) rfl rfl (Nat.le_of_ble_eq_true rfl) C dX3_fillSizes_137 ?_
                      refine wp_top (show _ = sdw (h 3) (h 4) (h 1 5) (h 28 2) x5 x2.toNat by rw [f3, f4, s2, s3]) ?_
                      refine wp_callVp (rest := [rv E 27]) (c_place E hx (x2 + 1) rw4 (sdw (h 3) (h 4) (h 1 5) (h 28 2) x5 x2.toNat)) svX3_80 sh_28 (by decide) rfl rfl (Nat.le_of_ble_eq_true rfl) C dX3_fillSizes_140 ?_
                      refine wp_top (show _ = 100 * (x2 + 1) + pl (h 28 3) rw4 (sdw (h 3) (h 4) (h 1 5) (h 28 2) x5 x2.toNat) by rw [s4]) ?_
                      refine wp_iald sh_27 (by omega) C dX3_fillSizes_143 ?_
                      refine wp_nm (fun wi e_wi => ?_)
                      refine wp_istore (ls' := [(0, rv E 28), (1, iv last), (2, iv x2), (3, iv x3), (4, iv rw4), (5, iv x5), (6, iv wo), (7, iv wi)]) [1, 2, 3, 4, 5, 6, 7, 0] C dX3_fillSizes_144 (by decide) rfl ?_
                      refine wp_aloadR_n 0 C dX3_fillSizes_146 rfl rfl ?_
                      refine wp_getR flX3_22 sh_28 rfl C dX3_fillSizes_147 ?_
                      refine wp_aloadR_n 0 C dX3_fillSizes_150 rfl rfl ?_
                      refine wp_iload_n 2 C dX3_fillSizes_151 rfl rfl ?_
                      refine wp_iload_n 3 C dX3_fillSizes_152 rfl rfl ?_
                      refine wp_iload 5 C dX3_fillSizes_153 rfl ?_
                      refine wp_callVp (rest := [rv E 27]) (c_place E hx x2 x3 x5) svX3_80 sh_28 (by decide) rfl rfl (Nat.le_of_ble_eq_true rfl) C dX3_fillSizes_155 ?_
                      refine wp_top (show _ = 100 * x2 + pl (h 28 3) x3 x5 by rw [s4]) ?_
                      refine wp_iload 6 C dX3_fillSizes_158 rfl ?_
                      refine wp_iload 7 C dX3_fillSizes_160 rfl ?_
                      refine wp_iconst (v := 1) C dX3_fillSizes_162 rfl ?_
                      refine wp_ishl (by omega) C dX3_fillSizes_163 ?_
                      refine wp_top (show _ = wi * 2 by simp) ?_
                      refine wp_ior C dX3_fillSizes_164 ?_
                      refine wp_iast sh_27 (by omega) C dX3_fillSizes_165 ?_
                      obtain ⟨H2, e_H2⟩ : ∃ z : Hp, z = upd2 hx 27 (100 * x2 + pl (h 28 3) x3 x5).toNat (bOr wo (wi * 2)) := ⟨_, rfl⟩
                      refine wp_heq e_H2 ?_
                      have eH9 : H2 = upd2 hx 27 (100 * ((x2.toNat : Nat) : Int) + pl (h 28 3) x3 x5).toNat (bOr wo (wi * 2)) := by rw [e_H2, show ((x2.toNat : Nat) : Int) = x2 by omega]
                      have hst := sz_step (h := h) (hx := hx) (i := x2.toNat) (r := x3) (s := x5) (by omega) hz.2 (hw (x2.toNat + 1) (by omega) (by omega) x3 x5 (by omega) (by omega)) (hw (x2.toNat + 1) (by omega) (by omega) _ _ (by rw [← e_rw4]; exact hrw) hsw) wo wi (by rw [e_wo]; congr 1; omega) (by rw [e_wi, e_rw4]; congr 1; omega)
                      obtain ⟨y5, e_y5⟩ : ∃ z : Int, z = x5 + (1) := ⟨_, rfl⟩
                      refine wp_iinc (j := 5) (y := y5) (ls' := [(0, rv E 28), (1, iv last), (2, iv x2), (3, iv x3), (4, iv rw4), (5, iv y5), (6, iv wo), (7, iv wi)]) [1, 2, 3, 4, 5, 0, 6, 7] C dX3_fillSizes_166 rfl e_y5 (by decide) rfl ?_
                      refine wp_goto (tgt := 97) C dX3_fillSizes_169 (by decide) ?_
                      refine wp_loc [0, 1, 2, 3, 4, 5] rfl ?_
                      exact ih9_97 y5 H2 (by omega) (fun j h1 h2 r s hr hs => sz_upd hsd hp.2 (by omega) (by omega) hr hs eH9 (fun z => by omega) (hw j h1 h2 r s hr hs)) (fun r s hr hs => sz_upd hsd hp.2 (by omega) (by omega) (by omega) hs eH9 (fun z => by omega) (hv r s hr hs)) (fun s hs => by rcases (show s < x5 ∨ s = x5 by omega) with q | rfl; exact sz_upd hsd hp.2 (by omega) (by omega) (by omega) (by omega) eH9 (fun z => by omega) (hu s (by omega)); exact sz_new eH9 hst) (fun a b hab => by rw [e_H2]; unfold upd2; rw [if_neg (fun z => hab z.1)]; exact hf a b hab) (by omega)
                have q97 : ∀ (x5 : Int) (hx : Hp), (0 ≤ x5 ∧ x5 ≤ h 28 3) → (∀ j : Nat, x2 < (j : Int) → (j : Int) ≤ h 1 4 → ∀ r s : Int, 0 ≤ r ∧ r < h 1 5 → 0 ≤ s ∧ s < h 28 3 → szP h hx j r s) → (∀ r s : Int, 0 ≤ r ∧ r < x3 → 0 ≤ s ∧ s < h 28 3 → szP h hx x2.toNat r s) → (∀ s : Int, 0 ≤ s ∧ s < x5 → szP h hx x2.toNat x3 s) → (∀ a b, a ≠ 27 → hx a b = h a b) → Wp G E 8 (fun r hx => r = none ∧ (∀ j : Nat, (j : Int) ≤ h 1 4 → ∀ r s : Int, 0 ≤ r ∧ r < h 1 5 → 0 ≤ s ∧ s < h 28 3 → szP h hx j r s) ∧ (∀ a b, a ≠ 27 → hx a b = h a b)) 97 [(0, rv E 28), (1, iv last), (2, iv x2), (3, iv x3), (4, iv rw4), (5, iv x5)] [] hx := fun x5 hx hi5 hw hv hu hf => q970 _ x5 hx hi5 hw hv hu hf (Nat.lt_succ_self _)
                exact q97 0 hx (by omega) (hw) (hv) (fun s hs => absurd hs (by omega)) (hf)
          have q61 : ∀ (x3 : Int) (hx : Hp), (0 ≤ x3 ∧ x3 ≤ h 1 5) → (∀ j : Nat, x2 < (j : Int) → (j : Int) ≤ h 1 4 → ∀ r s : Int, 0 ≤ r ∧ r < h 1 5 → 0 ≤ s ∧ s < h 28 3 → szP h hx j r s) → (∀ r s : Int, 0 ≤ r ∧ r < x3 → 0 ≤ s ∧ s < h 28 3 → szP h hx x2.toNat r s) → (∀ a b, a ≠ 27 → hx a b = h a b) → Wp G E 8 (fun r hx => r = none ∧ (∀ j : Nat, (j : Int) ≤ h 1 4 → ∀ r s : Int, 0 ≤ r ∧ r < h 1 5 → 0 ≤ s ∧ s < h 28 3 → szP h hx j r s) ∧ (∀ a b, a ≠ 27 → hx a b = h a b)) 61 [(0, rv E 28), (1, iv last), (2, iv x2), (3, iv x3)] [] hx := fun x3 hx hi3 hw hv hf => q610 _ x3 hx hi3 hw hv hf (Nat.lt_succ_self _)
          exact q61 0 hx (by omega) (hw) (fun r s hr => absurd hr (by omega)) (hf)
    have q55 : ∀ (x2 : Int) (hx : Hp), (-1 ≤ x2 ∧ x2 < h 1 4) → (∀ j : Nat, x2 < (j : Int) → (j : Int) ≤ h 1 4 → ∀ r s : Int, 0 ≤ r ∧ r < h 1 5 → 0 ≤ s ∧ s < h 28 3 → szP h hx j r s) → (∀ a b, a ≠ 27 → hx a b = h a b) → Wp G E 8 (fun r hx => r = none ∧ (∀ j : Nat, (j : Int) ≤ h 1 4 → ∀ r s : Int, 0 ≤ r ∧ r < h 1 5 → 0 ≤ s ∧ s < h 28 3 → szP h hx j r s) ∧ (∀ a b, a ≠ 27 → hx a b = h a b)) 55 [(0, rv E 28), (1, iv last), (2, iv x2)] [] hx := fun x2 hx hi hw hf => q550 _ x2 hx hi hw hf (Nat.lt_succ_self _)
    exact q55 x2s hx (by omega) (fun j h1 h2 r s hr hs => by rw [show j = (h 1 4).toNat by omega]; exact hw0 r s hr hs) (hf)
  refine wp_aloadR_n 0 C dX3_fillSizes_24 rfl rfl ?_
  refine wp_getR flX3_22 sh_28 rfl C dX3_fillSizes_25 ?_
  refine wp_iload_n 1 C dX3_fillSizes_28 rfl rfl ?_
  refine wp_aloadR_n 0 C dX3_fillSizes_29 rfl rfl ?_
  refine wp_getI flX3_9 sh_28 rfl C dX3_fillSizes_30 ?_
  refine wp_top (rdf_ne e_H1 (by decide)) ?_
  refine wp_iconst (v := 4) C dX3_fillSizes_33 rfl ?_
  refine wp_icmp_lt (tgt := 41) (by omega) (by omega) C dX3_fillSizes_34 (by decide) (fun c_34 => ?_) (fun c_34 => ?_)
  · skip
    refine wp_iconst (v := 0) C dX3_fillSizes_41 rfl ?_
    refine wp_iadd C dX3_fillSizes_42 ?_
    refine wp_iconst (v := 1) C dX3_fillSizes_43 rfl ?_
    refine wp_iast sh_27 (by omega) C dX3_fillSizes_44 ?_
    obtain ⟨H3, e_H3⟩ : ∃ z : Hp, z = upd2 H1 27 (last + 0).toNat 1 := ⟨_, rfl⟩
    refine wp_heq e_H3 ?_
    exact q45 H3 (by rw [e_H3, e_H1, e_last, if_neg (by omega)])
  · skip
    refine wp_iconst (v := 1) C dX3_fillSizes_37 rfl ?_
    refine wp_goto (tgt := 42) C dX3_fillSizes_38 (by decide) ?_
    refine wp_iadd C dX3_fillSizes_42 ?_
    refine wp_iconst (v := 1) C dX3_fillSizes_43 rfl ?_
    refine wp_iast sh_27 (by omega) C dX3_fillSizes_44 ?_
    obtain ⟨H4, e_H4⟩ : ∃ z : Hp, z = upd2 H1 27 (last + 1).toNat 1 := ⟨_, rfl⟩
    refine wp_heq e_H4 ?_
    exact q45 H4 (by rw [e_H4, e_H1, e_last, if_pos (by omega)])

set_option maxRecDepth 100000 in
set_option maxHeartbeats 4000000 in
theorem c_pick (E : En) (h : Hp) (al : Int) (k : Nat) (hk1 : 1 ≤ k) (hk : FK h) (hA : 0 ≤ al ∧ al < 4194304) (hA0 : ¬ tb al 0) (hA1 : ∀ j : Nat, 1 ≤ j → (tb al j ↔ (if h 28 2 = 1 then j ≤ k else j = k))) (hz : 0 ≤ h 1 4 ∧ h 1 4 ≤ 20) (hp : 2 ≤ h 1 5 ∧ h 1 5 ≤ 10) (hN : ∀ i : Nat, (i : Int) < h 1 4 → 0 ≤ h 2 i ∧ h 2 i ≤ 999999999999999) (hS : ∀ i : Nat, (i : Int) < h 1 4 → 0 ≤ h 3 i ∧ h 3 i ≤ 999999999999999) (hC : ∀ i : Nat, (i : Int) < h 1 4 → 0 ≤ h 4 i ∧ h 4 i ≤ 999999999999999) (hall : ∀ j : Nat, (j : Int) ≤ h 1 4 → ∀ r s : Int, 0 ≤ r ∧ r < h 1 5 → 0 ≤ s ∧ s < h 28 3 → szP h h j r s) : Ct 4 yX3_pick cX3_pick 9 (some .int) E [rv E 28, iv al] h (Ret (iv (findS (h 2) (h 3) (h 4) (h 1 5) (h 28 2) (h 1 4).toNat k)) h) := by
  have hsd := hk.sd hp
  have hkd := hk.kd
  have g0 := pl_r (sd := h 28 3) (r := 0) (s := 0) (p := h 1 5) (by omega) (by omega) (by omega) hsd
  obtain ⟨z1, z2, z3⟩ := hall 0 (by omega) 0 0 (by omega) (by omega)
  have hm21 : (2 : Int) ^ ((h 1 4).toNat - 0 + 1) ≤ 2 ^ 21 := p2_mono (by omega)
  have e21 : (2 : Int) ^ 21 = 2097152 := by decide
  refine ct_intro (by decide) (Nat.le_of_ble_eq_true rfl) (fun G C => ?_)
  show Wp G E 9 (Ret (iv (findS (h 2) (h 3) (h 4) (h 1 5) (h 28 2) (h 1 4).toNat k)) h) 0 [(0, rv E 28), (1, iv al)] [] h
  refine wp_aloadR_n 0 C dX3_pick_0 rfl rfl ?_
  refine wp_getR flX3_22 sh_28 rfl C dX3_pick_1 ?_
  refine wp_aloadR_n 0 C dX3_pick_4 rfl rfl ?_
  refine wp_iconst (v := 0) C dX3_pick_5 rfl ?_
  refine wp_iconst (v := 0) C dX3_pick_6 rfl ?_
  refine wp_iconst (v := 0) C dX3_pick_7 rfl ?_
  refine wp_callVp (rest := [rv E 27]) (c_place E h 0 0 0) svX3_80 sh_28 (by decide) rfl rfl (Nat.le_of_ble_eq_true rfl) C dX3_pick_8 ?_
  refine wp_iald sh_27 (by omega) C dX3_pick_11 ?_
  refine wp_top (show _ = h 27 (100 * ((0 : Nat) : Int) + pl (h 28 3) 0 0).toNat by simp) ?_
  refine wp_iload_n 1 C dX3_pick_12 rfl rfl ?_
  refine wp_iand C dX3_pick_13 ?_
  have hr9 := bAnd_r (h 27 (100 * ((0 : Nat) : Int) + pl (h 28 3) 0 0).toNat) al
  have hne := tb_ne (a := bAnd (h 27 (100 * ((0 : Nat) : Int) + pl (h 28 3) 0 0).toNat) al) (by rw [bAnd_nat (by omega) (by omega)]; have := n_and_lt (a := (h 27 (100 * ((0 : Nat) : Int) + pl (h 28 3) 0 0).toNat).toNat) (b := al.toNat) (by omega); omega)
  have hQ : bAnd (h 27 (100 * ((0 : Nat) : Int) + pl (h 28 3) 0 0).toNat) al ≠ 0 ↔ anyQ (h 2) (h 3) (h 4) (h 1 5) (h 28 2) (h 1 4).toNat 0 k 0 0 := by
    rw [hne]
    constructor
    · rintro ⟨i, hi⟩
      obtain ⟨i1, i2⟩ := (tb_and (by omega) (by omega) i).mp hi
      cases i with
      | zero => exact absurd i2 hA0
      | succ i => exact ⟨i + 1, by omega, (hA1 (i + 1) (by omega)).mp i2, (z3 (i + 1)).mp i1⟩
    · rintro ⟨c, c1, c2, c3⟩
      exact ⟨c, (tb_and (by omega) (by omega) c).mpr ⟨(z3 c).mpr c3, (hA1 c c1).mpr c2⟩⟩
  have hgp := grA_pos (N := h 2) (Sc := h 3) (Cl := h 4) (p := h 1 5) (kd := h 28 2) (h 1 4).toNat 0 k 0 0
  have hgr := grA_r (N := h 2) (Sc := h 3) (Cl := h 4) (p := h 1 5) (kd := h 28 2) (h 1 4).toNat 0 k 0 0
  refine wp_if_ne (tgt := 19) (by omega) C dX3_pick_14 (by decide) (fun c_14 => ?_) (fun c_14 => ?_)
  · skip
    refine wp_iload_n 1 C dX3_pick_19 rfl rfl ?_
    refine wp_istore_n (ls' := [(0, rv E 28), (1, iv al), (2, iv al)]) [1, 2, 0] C dX3_pick_20 rfl (by decide) rfl ?_
    refine wp_iconst (v := 0) C dX3_pick_21 rfl ?_
    refine wp_istore_n (ls' := [(0, rv E 28), (1, iv al), (2, iv al), (3, iv 0)]) [1, 2, 3, 0] C dX3_pick_22 rfl (by decide) rfl ?_
    refine wp_iconst (v := 0) C dX3_pick_23 rfl ?_
    refine wp_istore (ls' := [(0, rv E 28), (1, iv al), (2, iv al), (3, iv 0), (4, iv 0)]) [1, 2, 3, 4, 0] C dX3_pick_24 (by decide) rfl ?_
    refine wp_iconst (v := 0) C dX3_pick_26 rfl ?_
    refine wp_istore (ls' := [(0, rv E 28), (1, iv al), (2, iv al), (3, iv 0), (4, iv 0), (5, iv 0)]) [1, 2, 3, 4, 5, 0] C dX3_pick_27 (by decide) rfl ?_
    refine wp_iconst (v := 0) C dX3_pick_29 rfl ?_
    refine wp_istore (ls' := [(0, rv E 28), (1, iv al), (2, iv al), (3, iv 0), (4, iv 0), (5, iv 0), (6, iv 0)]) [1, 2, 3, 4, 5, 6, 0] C dX3_pick_30 (by decide) rfl ?_
    have q320 : ∀ n9 : Nat, ∀ (x2 : Int) (x3 : Int) (x4 : Int) (x5 : Int) (x6 : Int) (c : Nat), (0 ≤ x6 ∧ x6 ≤ h 1 4) → (0 ≤ x4 ∧ x4 < h 1 5) → (0 ≤ x5 ∧ x5 < h 28 3) → (0 ≤ x3 ∧ x3 < 2 ^ x6.toNat) → (x3 + grA (h 2) (h 3) (h 4) (h 1 5) (h 28 2) ((h 1 4).toNat - x6.toNat) x6.toNat c x4 x5 = grA (h 2) (h 3) (h 4) (h 1 5) (h 28 2) (h 1 4).toNat 0 k 0 0) → ((0 ≤ x2 ∧ x2 < 4194304) ∧ ∀ j : Nat, 1 ≤ j → (tb x2 j ↔ (if h 28 2 = 1 then j ≤ c else j = c))) → (h 1 4 - x6).toNat < n9 → Wp G E 9 (Ret (iv (findS (h 2) (h 3) (h 4) (h 1 5) (h 28 2) (h 1 4).toNat k)) h) 32 [(0, rv E 28), (1, iv al), (2, iv x2), (3, iv x3), (4, iv x4), (5, iv x5), (6, iv x6)] [] h := by
      intro n9
      induction n9 with
      | zero => intro x2 x3 x4 x5 x6 c hi hr hs hl hg hb hm9; exact absurd hm9 (Nat.not_lt_zero _)
      | succ n9 ih9 =>
        intro x2 x3 x4 x5 x6 c hi hr hs hl hg hb hm9
        have ih9_32 := ih9
        refine wp_iload 6 C dX3_pick_32 rfl ?_
        refine wp_aloadR_n 0 C dX3_pick_34 rfl rfl ?_
        refine wp_getR flX3_18 sh_28 rfl C dX3_pick_35 ?_
        refine wp_getI flX3_64 sh_1 rfl C dX3_pick_38 ?_
        refine wp_icmp_ge (tgt := 127) (by omega) (by omega) C dX3_pick_41 (by decide) (fun c_41 => ?_) (fun c_41 => ?_)
        · skip
          refine wp_iload_n 3 C dX3_pick_127 rfl rfl ?_
          refine wp_iret C dX3_pick_128 ?_
          exact ret_iv (by rw [findS, if_neg (by have := hgp.mpr (hQ.mp c_14); omega), ← hg, show (h 1 4).toNat - x6.toNat = 0 by omega]; simp [grA])
        · skip
          have hmn := mod_r (h 2 x6.toNat) hp
          refine wp_iload 4 C dX3_pick_44 rfl ?_
          refine wp_aloadR_n 0 C dX3_pick_46 rfl rfl ?_
          refine wp_getR flX3_18 sh_28 rfl C dX3_pick_47 ?_
          refine wp_iload 6 C dX3_pick_50 rfl ?_
          refine wp_callVp (rest := [iv x4]) (c_restOfNumber E h x6 (by omega) (hN _ (by omega)) (by omega)) svX3_67 sh_1 (by decide) rfl rfl (Nat.le_of_ble_eq_true rfl) C dX3_pick_52 ?_
          refine wp_iadd C dX3_pick_55 ?_
          refine wp_aloadR_n 0 C dX3_pick_56 rfl rfl ?_
          refine wp_getR flX3_18 sh_28 rfl C dX3_pick_57 ?_
          refine wp_getI flX3_55 sh_1 rfl C dX3_pick_60 ?_
          refine wp_callSNp (rest := []) (c_turned E h (x4 + (h 2 x6.toNat % h 1 5)) (h 1 5) (by omega) (by omega)) snX3_70 (by decide) rfl rfl (Nat.le_of_ble_eq_true rfl) C dX3_pick_63 ?_
          refine wp_nm (fun rw7 e_rw7 => ?_)
          refine wp_istore (ls' := [(0, rv E 28), (1, iv al), (2, iv x2), (3, iv x3), (4, iv x4), (5, iv x5), (6, iv x6), (7, iv rw7)]) [1, 2, 3, 4, 5, 6, 7, 0] C dX3_pick_66 (by decide) rfl ?_
          have hrw := trn_r (r := x4) (x := h 2 x6.toNat % h 1 5) (p := h 1 5) hr hmn
          rw [← e_rw7] at hrw
          refine wp_aloadR_n 0 C dX3_pick_68 rfl rfl ?_
          refine wp_iload 5 C dX3_pick_69 rfl ?_
          refine wp_iload 6 C dX3_pick_71 rfl ?_
          refine wp_callVp (rest := []) (c_sideWith E h x5 x6 (by omega) (by omega) hk (by omega) (by omega) hS hC) svX3_84 sh_28 (by decide) rfl rfl (Nat.le_of_ble_eq_true rfl) C dX3_pick_73 ?_
          refine wp_nm (fun sw8 e_sw8 => ?_)
          refine wp_istore (ls' := [(0, rv E 28), (1, iv al), (2, iv x2), (3, iv x3), (4, iv x4), (5, iv x5), (6, iv x6), (7, iv rw7), (8, iv sw8)]) [1, 2, 3, 4, 5, 6, 7, 8, 0] C dX3_pick_76 (by decide) rfl ?_
          have hsw := sdw_r (i := x6.toNat) hk hp hs
          rw [← e_sw8] at hsw
          have g2 := pl_r (sd := h 28 3) (r := rw7) (s := sw8) (p := h 1 5) hrw hsw (by omega) hsd
          obtain ⟨w1, w2, w3⟩ := hall (x6.toNat + 1) (by omega) rw7 sw8 hrw hsw
          have hm20 : (2 : Int) ^ ((h 1 4).toNat - (x6.toNat + 1) + 1) ≤ 2 ^ 20 := p2_mono (by omega)
          have e20 : (2 : Int) ^ 20 = 1048576 := by decide
          refine wp_aloadR_n 0 C dX3_pick_78 rfl rfl ?_
          refine wp_getR flX3_22 sh_28 rfl C dX3_pick_79 ?_
          refine wp_aloadR_n 0 C dX3_pick_82 rfl rfl ?_
          refine wp_iload 6 C dX3_pick_83 rfl ?_
          refine wp_iconst (v := 1) C dX3_pick_85 rfl ?_
          refine wp_iadd C dX3_pick_86 ?_
          refine wp_iload 7 C dX3_pick_87 rfl ?_
          refine wp_iload 8 C dX3_pick_89 rfl ?_
          refine wp_callVp (rest := [rv E 27]) (c_place E h (x6 + 1) rw7 sw8) svX3_80 sh_28 (by decide) rfl rfl (Nat.le_of_ble_eq_true rfl) C dX3_pick_91 ?_
          refine wp_iald sh_27 (by omega) C dX3_pick_94 ?_
          refine wp_top (show _ = h 27 (100 * ((x6.toNat + 1 : Nat) : Int) + pl (h 28 3) rw7 sw8).toNat by congr 1; omega) ?_
          refine wp_iconst (v := 1) C dX3_pick_95 rfl ?_
          refine wp_ishl (by omega) C dX3_pick_96 ?_
          refine wp_top (show _ = h 27 (100 * ((x6.toNat + 1 : Nat) : Int) + pl (h 28 3) rw7 sw8).toNat * 2 by simp) ?_
          refine wp_iload_n 2 C dX3_pick_97 rfl rfl ?_
          refine wp_iand C dX3_pick_98 ?_
          have hr8 := bAnd_r (h 27 (100 * ((x6.toNat + 1 : Nat) : Int) + pl (h 28 3) rw7 sw8).toNat * 2) x2
          have hn8 := tb_ne (a := bAnd (h 27 (100 * ((x6.toNat + 1 : Nat) : Int) + pl (h 28 3) rw7 sw8).toNat * 2) x2) (by rw [bAnd_nat (by omega) (by omega)]; have := n_and_lt (a := (h 27 (100 * ((x6.toNat + 1 : Nat) : Int) + pl (h 28 3) rw7 sw8).toNat * 2).toNat) (b := x2.toNat) (by omega); omega)
          have htk : bAnd (h 27 (100 * ((x6.toNat + 1 : Nat) : Int) + pl (h 28 3) rw7 sw8).toNat * 2) x2 ≠ 0 ↔ tkA (h 2) (h 3) (h 4) (h 1 5) (h 28 2) ((h 1 4).toNat - x6.toNat - 1) x6.toNat c x4 x5 = true := by
            rw [hn8, tkA_iff]
            constructor
            · rintro ⟨i, hi⟩
              obtain ⟨i1, i2⟩ := (tb_and (by omega) (by omega) i).mp hi
              cases i with
              | zero => exact absurd i1 tb_dbl0
              | succ i => exact ⟨i, (hb.2 (i + 1) (by omega)).mp i2, by have q := (w3 i).mp (tb_dbl i |>.mp i1); rw [show (h 1 4).toNat - (x6.toNat + 1) = (h 1 4).toNat - x6.toNat - 1 by omega, e_rw7, e_sw8] at q; exact q⟩
            · rintro ⟨c2, h1, h2⟩
              exact ⟨c2 + 1, (tb_and (by omega) (by omega) _).mpr ⟨(tb_dbl c2).mpr ((w3 c2).mpr (by rw [show (h 1 4).toNat - (x6.toNat + 1) = (h 1 4).toNat - x6.toNat - 1 by omega, e_rw7, e_sw8]; exact h2)), (hb.2 (c2 + 1) (by omega)).mpr h1⟩⟩
          refine wp_if_eq (tgt := 121) (by omega) C dX3_pick_99 (by decide) (fun c_99 => ?_) (fun c_99 => ?_)
          · skip
            obtain ⟨v1, e_v1⟩ : ∃ z : Int, z = x6 + (1) := ⟨_, rfl⟩
            refine wp_iinc (j := 6) (y := v1) (ls' := [(0, rv E 28), (1, iv al), (2, iv x2), (3, iv x3), (4, iv x4), (5, iv x5), (6, iv v1), (7, iv rw7), (8, iv sw8)]) [1, 2, 3, 4, 5, 6, 0, 7, 8] C dX3_pick_121 rfl e_v1 (by decide) rfl ?_
            refine wp_goto (tgt := 32) C dX3_pick_124 (by decide) ?_
            refine wp_loc [0, 1, 2, 3, 4, 5, 6] rfl ?_
            exact ih9_32 x2 x3 x4 x5 v1 c (by omega) (by omega) (by omega) (by rw [e_v1, show (x6 + 1).toNat = x6.toNat + 1 by omega, p2_succ]; have := p2_pos x6.toNat; omega) (by rw [← hg, e_v1, show (x6 + 1).toNat = x6.toNat + 1 by omega, show (h 1 4).toNat - x6.toNat = ((h 1 4).toNat - (x6.toNat + 1)) + 1 by omega]; rw [grA, if_neg (by rw [show (h 1 4).toNat - (x6.toNat + 1) = (h 1 4).toNat - x6.toNat - 1 by omega]; exact fun z => absurd (htk.mpr z) (not_not_intro c_99))]) (hb) (by omega)
          · skip
            have tkc : 1 ≤ c := by obtain ⟨c2, h1, h2⟩ := tkA_iff.mp (htk.mp c_99); split at h1 <;> omega
            refine wp_iload_n 3 C dX3_pick_102 rfl rfl ?_
            refine wp_iconst (v := 1) C dX3_pick_103 rfl ?_
            refine wp_iload 6 C dX3_pick_104 rfl ?_
            refine wp_ishl (by omega) C dX3_pick_106 ?_
            refine wp_ior C dX3_pick_107 ?_
            refine wp_nm (fun lt3 e_lt3 => ?_)
            refine wp_istore_n (ls' := [(0, rv E 28), (1, iv al), (2, iv x2), (3, iv lt3), (4, iv x4), (5, iv x5), (6, iv x6), (7, iv rw7), (8, iv sw8)]) [1, 2, 3, 0, 4, 5, 6, 7, 8] C dX3_pick_108 rfl (by decide) rfl ?_
            refine wp_iload_n 2 C dX3_pick_109 rfl rfl ?_
            refine wp_iconst (v := 1) C dX3_pick_110 rfl ?_
            refine wp_ishr (by omega) (by omega) C dX3_pick_111 ?_
            refine wp_nm (fun lf2 e_lf2 => ?_)
            refine wp_istore_n (ls' := [(0, rv E 28), (1, iv al), (2, iv lf2), (3, iv lt3), (4, iv x4), (5, iv x5), (6, iv x6), (7, iv rw7), (8, iv sw8)]) [1, 2, 0, 3, 4, 5, 6, 7, 8] C dX3_pick_112 rfl (by decide) rfl ?_
            refine wp_iload 7 C dX3_pick_113 rfl ?_
            refine wp_istore (ls' := [(0, rv E 28), (1, iv al), (2, iv lf2), (3, iv lt3), (4, iv rw7), (5, iv x5), (6, iv x6), (7, iv rw7), (8, iv sw8)]) [1, 2, 3, 4, 0, 5, 6, 7, 8] C dX3_pick_115 (by decide) rfl ?_
            refine wp_iload 8 C dX3_pick_117 rfl ?_
            refine wp_istore (ls' := [(0, rv E 28), (1, iv al), (2, iv lf2), (3, iv lt3), (4, iv rw7), (5, iv sw8), (6, iv x6), (7, iv rw7), (8, iv sw8)]) [1, 2, 3, 4, 5, 0, 6, 7, 8] C dX3_pick_119 (by decide) rfl ?_
            obtain ⟨v2, e_v2⟩ : ∃ z : Int, z = x6 + (1) := ⟨_, rfl⟩
            refine wp_iinc (j := 6) (y := v2) (ls' := [(0, rv E 28), (1, iv al), (2, iv lf2), (3, iv lt3), (4, iv rw7), (5, iv sw8), (6, iv v2), (7, iv rw7), (8, iv sw8)]) [1, 2, 3, 4, 5, 6, 0, 7, 8] C dX3_pick_121 rfl e_v2 (by decide) rfl ?_
            refine wp_goto (tgt := 32) C dX3_pick_124 (by decide) ?_
            refine wp_loc [0, 1, 2, 3, 4, 5, 6] rfl ?_
            exact ih9_32 lf2 lt3 rw7 sw8 v2 (c - 1) (by omega) (by omega) (by omega) (by rw [e_v2, show (x6 + 1).toNat = x6.toNat + 1 by omega, p2_succ]; have := p2_pos x6.toNat; rw [e_lt3, show (1 : Int) * 2 ^ x6.toNat = 2 ^ x6.toNat by omega, bOr_add (by omega) hl]; omega) (by rw [← hg, e_v2, show (x6 + 1).toNat = x6.toNat + 1 by omega, show (h 1 4).toNat - x6.toNat = ((h 1 4).toNat - (x6.toNat + 1)) + 1 by omega]; rw [grA, if_pos (by rw [show (h 1 4).toNat - (x6.toNat + 1) = (h 1 4).toNat - x6.toNat - 1 by omega]; exact htk.mp c_99)]; rw [e_lt3, show (1 : Int) * 2 ^ x6.toNat = 2 ^ x6.toNat by omega, bOr_add (by omega) hl, e_rw7, e_sw8, Int.add_assoc]) (⟨by rw [e_lf2]; simp; omega, fun j hj => by rw [e_lf2, show x2 / 2 ^ (1 : Int).toNat = x2 / 2 by simp, tb_half, hb.2 (j + 1) (by omega)]; have hc1 := tkc; split <;> omega⟩) (by omega)
    have q32 : ∀ (x2 : Int) (x3 : Int) (x4 : Int) (x5 : Int) (x6 : Int) (c : Nat), (0 ≤ x6 ∧ x6 ≤ h 1 4) → (0 ≤ x4 ∧ x4 < h 1 5) → (0 ≤ x5 ∧ x5 < h 28 3) → (0 ≤ x3 ∧ x3 < 2 ^ x6.toNat) → (x3 + grA (h 2) (h 3) (h 4) (h 1 5) (h 28 2) ((h 1 4).toNat - x6.toNat) x6.toNat c x4 x5 = grA (h 2) (h 3) (h 4) (h 1 5) (h 28 2) (h 1 4).toNat 0 k 0 0) → ((0 ≤ x2 ∧ x2 < 4194304) ∧ ∀ j : Nat, 1 ≤ j → (tb x2 j ↔ (if h 28 2 = 1 then j ≤ c else j = c))) → Wp G E 9 (Ret (iv (findS (h 2) (h 3) (h 4) (h 1 5) (h 28 2) (h 1 4).toNat k)) h) 32 [(0, rv E 28), (1, iv al), (2, iv x2), (3, iv x3), (4, iv x4), (5, iv x5), (6, iv x6)] [] h := fun x2 x3 x4 x5 x6 c hi hr hs hl hg hb => q320 _ x2 x3 x4 x5 x6 c hi hr hs hl hg hb (Nat.lt_succ_self _)
    exact q32 al 0 0 0 0 k (by omega) (by omega) (by omega) (by simp) (by simp) (⟨by omega, hA1⟩)
  · skip
    refine wp_iconst (v := (-1)) C dX3_pick_17 rfl ?_
    refine wp_iret C dX3_pick_18 ?_
    exact ret_iv (by rw [findS, if_pos (by have := mt hgp.mp (fun z => absurd (hQ.mpr z) (not_not_intro c_14)); omega)])


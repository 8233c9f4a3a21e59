/-! ===== Turns: afterTaking, bestOf, comesTo, open, firstComesTo, leastBest; EvenTen.turns ===== -/
def cmP (E : En) (T : Nat → Bool) (n f : Nat) : Prop := ∀ (h : Hp) (own oth : Nat), turI T n h → own < 2 ^ n → oth < 2 ^ n → dj own oth → (f : Int) = (n : Int) - cntB (own : Int) n - cntB (oth : Int) n → Ct (3 * f) yX9_comesTo cX9_comesTo 5 (some .int) E [rv E 125, iv (own : Int), iv (oth : Int), iv (f : Int)] h (fun v hx => v = some (iv (vlT T n f own oth)) ∧ turI T n hx ∧ (∀ a b, a ≠ 27 → hx a b = h a b))
theorem or_lt {a b n : Nat} (ha : a < 2 ^ n) (hb : b < 2 ^ n) : a ||| b < 2 ^ n := Nat.or_lt_two_pow ha hb
set_option maxRecDepth 100000 in
set_option maxHeartbeats 4000000 in
theorem c_after0 (E : En) (h : Hp) (T : Nat → Bool) (n f : Nat) (hn8 : n ≤ 8) (IH : cmP E T n f) (i : Int) (hi : 0 ≤ i ∧ i < n) (own oth : Nat) (I : turI T n h) (ho : own < 2 ^ n) (ht : oth < 2 ^ n) (hd : dj own oth) (fr : Int) (hfr : fr = (f : Int) + 1) (hf : (f : Int) + 1 = (n : Int) - cntB (own : Int) n - cntB (oth : Int) n) (hbo : own.testBit i.toNat = false) (hbt : oth.testBit i.toNat = false) : Ct (3 * f + 1) yX9_afterTaking cX9_afterTaking 6 (some .int) E [rv E 125, iv i, iv (own : Int), iv (oth : Int), iv fr] h (fun v hx => v = some (iv (gT T n f own oth i.toNat)) ∧ turI T n hx ∧ (∀ a b, a ≠ 27 → hx a b = h a b)) := by
  have ho8 := p8 hn8 ho
  have hw := or_l ho (show i.toNat < n by omega)
  have hw8 := p8 hn8 hw
  have hT := I.2.1 _ hw
  refine ct_intro (by decide) (Nat.le_of_ble_eq_true rfl) (fun G C => ?_)
  show Wp G E 6 (fun v hx => v = some (iv (gT T n f own oth i.toNat)) ∧ turI T n hx ∧ (∀ a b, a ≠ 27 → hx a b = h a b)) 0 [(0, rv E 125), (1, iv i), (2, iv (own : Int)), (3, iv (oth : Int)), (4, iv fr)] [] h
  refine wp_iload_n 2 C dX9_afterTaking_0 rfl rfl ?_
  refine wp_iconst (v := 1) C dX9_afterTaking_1 rfl ?_
  refine wp_iload_n 1 C dX9_afterTaking_2 rfl rfl ?_
  refine wp_ishl (by omega) C dX9_afterTaking_3 ?_
  refine wp_ior C dX9_afterTaking_4 ?_
  refine wp_top (bOr_p (a := own) (j := i.toNat) (by omega) (by omega)) ?_
  refine wp_nm (fun w5 e_w5 => ?_)
  refine wp_istore (ls' := [(0, rv E 125), (1, iv i), (2, iv (own : Int)), (3, iv (oth : Int)), (4, iv fr), (5, iv w5)]) [1, 2, 3, 4, 5, 0] C dX9_afterTaking_5 (by decide) rfl ?_
  have hw5 : w5.toNat = own ||| 2 ^ i.toNat := by omega
  rw [← hw5] at hT
  refine wp_aloadR_n 0 C dX9_afterTaking_7 rfl rfl ?_
  refine wp_getR flX9_9 sh_125 rfl C dX9_afterTaking_8 ?_
  refine wp_iload 5 C dX9_afterTaking_11 rfl ?_
  refine wp_zald sh_126 (by omega) C dX9_afterTaking_13 ?_
  have hT1 := hT.1
  refine wp_if_eq (tgt := 21) (by omega) C dX9_afterTaking_14 (by decide) (fun c_14 => ?_) (fun c_14 => ?_)
  · skip
    refine wp_aloadR_n 0 C dX9_afterTaking_21 rfl rfl ?_
    refine wp_iload_n 3 C dX9_afterTaking_22 rfl rfl ?_
    refine wp_iload 5 C dX9_afterTaking_23 rfl ?_
    refine wp_iload 4 C dX9_afterTaking_25 rfl ?_
    refine wp_iconst (v := 1) C dX9_afterTaking_27 rfl ?_
    refine wp_isub C dX9_afterTaking_28 ?_
    have hIc := IH h oth (own ||| 2 ^ i.toNat) I ht hw (dj_or hd hbt) (by rw [cnt_or (by omega) hbo]; omega)
    rw [← e_w5, show (f : Int) = fr - 1 by omega] at hIc
    refine wp_callV (rest := []) (hIc) svX9_47 sh_125 (by omega) rfl rfl (Nat.le_of_ble_eq_true rfl) C dX9_afterTaking_29 (fun r0 hx pf => ?_)
    obtain ⟨rfl, I2, hf2⟩ := pf
    refine wp_ineg C dX9_afterTaking_32 ?_
    refine wp_iret C dX9_afterTaking_33 ?_
    exact ⟨by unfold gT; rw [if_neg (by rw [← hw5]; exact fun z => absurd (hT.2.mpr z) (by omega))], I2, hf2⟩
  · skip
    refine wp_iconst (v := 1) C dX9_afterTaking_17 rfl ?_
    refine wp_goto (tgt := 33) C dX9_afterTaking_18 (by decide) ?_
    refine wp_iret C dX9_afterTaking_33 ?_
    exact ⟨by unfold gT; rw [if_pos (by rw [← hw5]; exact hT.2.mp (by omega))], I, fun _ _ _ => rfl⟩

set_option maxRecDepth 100000 in
set_option maxHeartbeats 4000000 in
theorem c_best0 (E : En) (h : Hp) (T : Nat → Bool) (n f : Nat) (hn8 : n ≤ 8) (IH : cmP E T n f) (own oth : Nat) (I : turI T n h) (ho : own < 2 ^ n) (ht : oth < 2 ^ n) (hd : dj own oth) (fr : Int) (hfr : fr = (f : Int) + 1) (hf : (f : Int) + 1 = (n : Int) - cntB (own : Int) n - cntB (oth : Int) n) : Ct (3 * f + 2) yX9_bestOf cX9_bestOf 6 (some .int) E [rv E 125, iv (own : Int), iv (oth : Int), iv fr] h (fun v hx => v = some (iv (vlT T n (f + 1) own oth)) ∧ turI T n hx ∧ (∀ a b, a ≠ 27 → hx a b = h a b)) := by
  have hor := or_lt ho ht
  have hor8 := p8 hn8 hor
  have ho8 := p8 hn8 ho
  have ht8 := p8 hn8 ht
  refine ct_intro (by decide) (Nat.le_of_ble_eq_true rfl) (fun G C => ?_)
  show Wp G E 6 (fun v hx => v = some (iv (vlT T n (f + 1) own oth)) ∧ turI T n hx ∧ (∀ a b, a ≠ 27 → hx a b = h a b)) 0 [(0, rv E 125), (1, iv (own : Int)), (2, iv (oth : Int)), (3, iv fr)] [] h
  refine wp_iconst (v := (-1)) C dX9_bestOf_0 rfl ?_
  refine wp_istore (ls' := [(0, rv E 125), (1, iv (own : Int)), (2, iv (oth : Int)), (3, iv fr), (4, iv (-1))]) [1, 2, 3, 4, 0] C dX9_bestOf_1 (by decide) rfl ?_
  refine wp_iconst (v := 0) C dX9_bestOf_3 rfl ?_
  refine wp_istore (ls' := [(0, rv E 125), (1, iv (own : Int)), (2, iv (oth : Int)), (3, iv fr), (4, iv (-1)), (5, iv 0)]) [1, 2, 3, 4, 5, 0] C dX9_bestOf_4 (by decide) rfl ?_
  have q60 : ∀ n9 : Nat, ∀ (x4 : Int) (x5 : Int) (hx : Hp), (0 ≤ x5 ∧ x5 ≤ n) → (x4 = bestT (gT T n f own oth) (own ||| oth) x5.toNat) → (turI T n hx) → (∀ a b, a ≠ 27 → hx a b = h a b) → ((n : Int) - x5).toNat < n9 → Wp G E 6 (fun v hx => v = some (iv (vlT T n (f + 1) own oth)) ∧ turI T n hx ∧ (∀ a b, a ≠ 27 → hx a b = h a b)) 6 [(0, rv E 125), (1, iv (own : Int)), (2, iv (oth : Int)), (3, iv fr), (4, iv x4), (5, iv x5)] [] hx := by
    intro n9
    induction n9 with
    | zero => intro x4 x5 hx hi hx4 I2 hf2 hm9; exact absurd hm9 (Nat.not_lt_zero _)
    | succ n9 ih9 =>
      intro x4 x5 hx hi hx4 I2 hf2 hm9
      have ih9_6 := ih9
      have h4r := bestT_r (U := own ||| oth) (g := gT T n f own oth) gT_r x5.toNat
      have hsz := I2.1
      refine wp_iload 5 C dX9_bestOf_6 rfl ?_
      refine wp_aloadR_n 0 C dX9_bestOf_8 rfl rfl ?_
      refine wp_getR flX9_19 sh_125 rfl C dX9_bestOf_9 ?_
      refine wp_getI flX9_32 sh_1 rfl C dX9_bestOf_12 ?_
      refine wp_icmp_ge (tgt := 57) (by omega) (by omega) C dX9_bestOf_15 (by decide) (fun c_15 => ?_) (fun c_15 => ?_)
      · skip
        refine wp_iload 4 C dX9_bestOf_57 rfl ?_
        refine wp_iret C dX9_bestOf_59 ?_
        exact ⟨by rw [vlT_succ, hx4, show x5.toNat = n by omega], I2, hf2⟩
      · skip
        refine wp_iload 4 C dX9_bestOf_18 rfl ?_
        refine wp_iconst (v := 1) C dX9_bestOf_20 rfl ?_
        refine wp_icmp_ge (tgt := 57) (by omega) (by omega) C dX9_bestOf_21 (by decide) (fun c_21 => ?_) (fun c_21 => ?_)
        · skip
          refine wp_iload 4 C dX9_bestOf_57 rfl ?_
          refine wp_iret C dX9_bestOf_59 ?_
          exact ⟨by rw [vlT_succ, bestT_top gT_r (show bestT (gT T n f own oth) (own ||| oth) x5.toNat = 1 by omega) n (by omega), show x4 = 1 by omega], I2, hf2⟩
        · skip
          refine wp_iload_n 1 C dX9_bestOf_24 rfl rfl ?_
          refine wp_iload_n 2 C dX9_bestOf_25 rfl rfl ?_
          refine wp_ior C dX9_bestOf_26 ?_
          refine wp_top (bOr_N (a := own) (b := oth) (by omega) (by omega)) ?_
          refine wp_iload 5 C dX9_bestOf_27 rfl ?_
          refine wp_ishr (by omega) (by omega) C dX9_bestOf_29 ?_
          refine wp_iconst (v := 1) C dX9_bestOf_30 rfl ?_
          refine wp_iand C dX9_bestOf_31 ?_
          refine wp_top (bAnd_1 _) ?_
          refine wp_if_ne (tgt := 51) (by omega) C dX9_bestOf_32 (by decide) (fun c_32 => ?_) (fun c_32 => ?_)
          · skip
            obtain ⟨v1, e_v1⟩ : ∃ z : Int, z = x5 + (1) := ⟨_, rfl⟩
            refine wp_iinc (j := 5) (y := v1) (ls' := [(0, rv E 125), (1, iv (own : Int)), (2, iv (oth : Int)), (3, iv fr), (4, iv x4), (5, iv v1)]) [1, 2, 3, 4, 5, 0] C dX9_bestOf_51 rfl e_v1 (by decide) rfl ?_
            refine wp_goto (tgt := 6) C dX9_bestOf_54 (by decide) ?_
            exact ih9_6 x4 v1 hx (by omega) (by rw [e_v1, show (x5 + 1).toNat = x5.toNat + 1 by omega, bestT, if_pos (tbn (by omega))]; exact hx4) (by omega) (by omega) (by omega)
          · skip
            have hbf := tbn' (S := own ||| oth) (j := x5.toNat) (by omega)
            have hgr := gT_r (T := T) (n := n) (f := f) (own := own) (oth := oth) x5.toNat
            refine wp_iload 4 C dX9_bestOf_35 rfl ?_
            refine wp_aloadR_n 0 C dX9_bestOf_37 rfl rfl ?_
            refine wp_iload 5 C dX9_bestOf_38 rfl ?_
            refine wp_iload_n 1 C dX9_bestOf_40 rfl rfl ?_
            refine wp_iload_n 2 C dX9_bestOf_41 rfl rfl ?_
            refine wp_iload_n 3 C dX9_bestOf_42 rfl rfl ?_
            refine wp_callV (rest := [iv x4]) (c_after0 E hx T n f hn8 IH x5 (by omega) own oth I2 ho ht hd fr hfr hf (or_tbf.mp hbf).1 (or_tbf.mp hbf).2) svX9_55 sh_125 (by omega) rfl rfl (Nat.le_of_ble_eq_true rfl) C dX9_bestOf_43 (fun r0 hy pf => ?_)
            obtain ⟨rfl, I3, hf3⟩ := pf
            refine wp_max (by omega) (by omega) (mT (i := 838) (by decide +kernel) rfl) (mT (i := 455) (by decide +kernel) rfl) (mT (i := 19) (by decide +kernel) rfl) (mT (i := 456) (by decide +kernel) rfl) (Nat.le_of_ble_eq_true rfl) (by omega) C dX9_bestOf_46 ?_
            refine wp_nm (fun v2 e_v2 => ?_)
            refine wp_istore (ls' := [(0, rv E 125), (1, iv (own : Int)), (2, iv (oth : Int)), (3, iv fr), (4, iv v2), (5, iv x5)]) [1, 2, 3, 4, 0, 5] C dX9_bestOf_49 (by decide) rfl ?_
            obtain ⟨v3, e_v3⟩ : ∃ z : Int, z = x5 + (1) := ⟨_, rfl⟩
            refine wp_iinc (j := 5) (y := v3) (ls' := [(0, rv E 125), (1, iv (own : Int)), (2, iv (oth : Int)), (3, iv fr), (4, iv v2), (5, iv v3)]) [1, 2, 3, 4, 5, 0] C dX9_bestOf_51 rfl e_v3 (by decide) rfl ?_
            refine wp_goto (tgt := 6) C dX9_bestOf_54 (by decide) ?_
            exact ih9_6 v2 v3 hy (by omega) (by rw [e_v3, show (x5 + 1).toNat = x5.toNat + 1 by omega, bestT, if_neg (by rw [hbf]; decide), e_v2, hx4]) (I3) (fun a b h1 => (hf3 a b h1).trans (hf2 a b h1)) (by omega)
  have q6 : ∀ (x4 : Int) (x5 : Int) (hx : Hp), (0 ≤ x5 ∧ x5 ≤ n) → (x4 = bestT (gT T n f own oth) (own ||| oth) x5.toNat) → (turI T n hx) → (∀ a b, a ≠ 27 → hx a b = h a b) → Wp G E 6 (fun v hx => v = some (iv (vlT T n (f + 1) own oth)) ∧ turI T n hx ∧ (∀ a b, a ≠ 27 → hx a b = h a b)) 6 [(0, rv E 125), (1, iv (own : Int)), (2, iv (oth : Int)), (3, iv fr), (4, iv x4), (5, iv x5)] [] hx := fun x4 x5 hx hi hx4 I2 hf2 => q60 _ x4 x5 hx hi hx4 I2 hf2 (Nat.lt_succ_self _)
  exact q6 (-1) 0 h (by omega) (rfl) (I) (fun _ _ _ => rfl)

set_option maxRecDepth 100000 in
set_option maxHeartbeats 4000000 in
theorem c_comes1 (E : En) (h : Hp) (T : Nat → Bool) (n f : Nat) (hn8 : n ≤ 8) (IH : cmP E T n f) (own oth : Nat) (I : turI T n h) (ho : own < 2 ^ n) (ht : oth < 2 ^ n) (hd : dj own oth) (fr : Int) (hfr : fr = (f : Int) + 1) (hf : (f : Int) + 1 = (n : Int) - cntB (own : Int) n - cntB (oth : Int) n) : Ct (3 * f + 3) yX9_comesTo cX9_comesTo 5 (some .int) E [rv E 125, iv (own : Int), iv (oth : Int), iv fr] h (fun v hx => v = some (iv (vlT T n (f + 1) own oth)) ∧ turI T n hx ∧ (∀ a b, a ≠ 27 → hx a b = h a b)) := by
  have ho8 := p8 hn8 ho
  have ht8 := p8 hn8 ht
  have hcd := cdN_r hd n
  have h3n : ((3 ^ n : Nat) : Int) ≤ 6561 := by have := t8 hn8; omega
  have hkn := I.2.2.2 own oth ho ht hd
  rw [← hf, show ((f : Int) + 1).toNat = f + 1 by omega] at hkn
  have hvr := vlT_r (T := T) (n := n) (f + 1) own oth
  have hcr1 := cntB_r (own : Int) n
  have hcr2 := cntB_r (oth : Int) n
  refine ct_intro (by decide) (Nat.le_of_ble_eq_true rfl) (fun G C => ?_)
  show Wp G E 5 (fun v hx => v = some (iv (vlT T n (f + 1) own oth)) ∧ turI T n hx ∧ (∀ a b, a ≠ 27 → hx a b = h a b)) 0 [(0, rv E 125), (1, iv (own : Int)), (2, iv (oth : Int)), (3, iv fr)] [] h
  refine wp_iload_n 3 C dX9_comesTo_0 rfl rfl ?_
  refine wp_iconst (v := 1) C dX9_comesTo_1 rfl ?_
  refine wp_icmp_ge (tgt := 7) (by omega) (by omega) C dX9_comesTo_2 (by decide) (fun c_2 => ?_) (fun c_2 => ?_)
  · skip
    refine wp_aloadR_n 0 C dX9_comesTo_7 rfl rfl ?_
    refine wp_getR flX9_15 sh_125 rfl C dX9_comesTo_8 ?_
    refine wp_iload_n 1 C dX9_comesTo_11 rfl rfl ?_
    refine wp_iald sh_127 (by omega) C dX9_comesTo_12 ?_
    refine wp_iconst (v := 2) C dX9_comesTo_13 rfl ?_
    refine wp_aloadR_n 0 C dX9_comesTo_14 rfl rfl ?_
    refine wp_getR flX9_15 sh_125 rfl C dX9_comesTo_15 ?_
    refine wp_iload_n 2 C dX9_comesTo_18 rfl rfl ?_
    refine wp_iald sh_127 (by omega) C dX9_comesTo_19 ?_
    refine wp_imul C dX9_comesTo_20 ?_
    refine wp_iadd C dX9_comesTo_21 ?_
    refine wp_top (show _ = cdN own oth n by rw [Int.toNat_natCast, Int.toNat_natCast, I.2.2.1 own ho, I.2.2.1 oth ht]; rfl) ?_
    refine wp_nm (fun w4 e_w4 => ?_)
    refine wp_istore (ls' := [(0, rv E 125), (1, iv (own : Int)), (2, iv (oth : Int)), (3, iv fr), (4, iv w4)]) [1, 2, 3, 4, 0] C dX9_comesTo_22 (by decide) rfl ?_
    rw [← e_w4] at hkn hcd
    refine wp_aloadR_n 0 C dX9_comesTo_24 rfl rfl ?_
    refine wp_getR flX9_23 sh_125 rfl C dX9_comesTo_25 ?_
    refine wp_iload 4 C dX9_comesTo_28 rfl ?_
    refine wp_iald sh_27 (by omega) C dX9_comesTo_30 ?_
    refine wp_if_ne (tgt := 50) (by omega) C dX9_comesTo_31 (by decide) (fun c_31 => ?_) (fun c_31 => ?_)
    · skip
      refine wp_aloadR_n 0 C dX9_comesTo_50 rfl rfl ?_
      refine wp_getR flX9_23 sh_125 rfl C dX9_comesTo_51 ?_
      refine wp_iload 4 C dX9_comesTo_54 rfl ?_
      refine wp_iald sh_27 (by omega) C dX9_comesTo_56 ?_
      refine wp_iconst (v := 2) C dX9_comesTo_57 rfl ?_
      refine wp_isub C dX9_comesTo_58 ?_
      refine wp_iret C dX9_comesTo_59 ?_
      exact ⟨by rw [show h 27 w4.toNat - 2 = vlT T n (f + 1) own oth by omega], I, fun _ _ _ => rfl⟩
    · skip
      refine wp_aloadR_n 0 C dX9_comesTo_34 rfl rfl ?_
      refine wp_getR flX9_23 sh_125 rfl C dX9_comesTo_35 ?_
      refine wp_iload 4 C dX9_comesTo_38 rfl ?_
      refine wp_iconst (v := 2) C dX9_comesTo_40 rfl ?_
      refine wp_aloadR_n 0 C dX9_comesTo_41 rfl rfl ?_
      refine wp_iload_n 1 C dX9_comesTo_42 rfl rfl ?_
      refine wp_iload_n 2 C dX9_comesTo_43 rfl rfl ?_
      refine wp_iload_n 3 C dX9_comesTo_44 rfl rfl ?_
      refine wp_callV (rest := [iv 2, iv w4, rv E 27]) (c_best0 E h T n f hn8 IH own oth I ho ht hd fr hfr hf) svX9_59 sh_125 (by omega) rfl rfl (Nat.le_of_ble_eq_true rfl) C dX9_comesTo_45 (fun r0 hx pf => ?_)
      obtain ⟨rfl, I2, hf2⟩ := pf
      refine wp_iadd C dX9_comesTo_48 ?_
      refine wp_iast sh_27 (by omega) C dX9_comesTo_49 ?_
      obtain ⟨H1, e_H1⟩ : ∃ z : Hp, z = upd2 hx 27 w4.toNat (2 + (vlT T n (f + 1) own oth)) := ⟨_, rfl⟩
      refine wp_heq e_H1 ?_
      refine wp_aloadR_n 0 C dX9_comesTo_50 rfl rfl ?_
      refine wp_getR flX9_23 sh_125 rfl C dX9_comesTo_51 ?_
      refine wp_iload 4 C dX9_comesTo_54 rfl ?_
      refine wp_iald sh_27 (by omega) C dX9_comesTo_56 ?_
      refine wp_top (rdu_eq e_H1) ?_
      refine wp_iconst (v := 2) C dX9_comesTo_57 rfl ?_
      refine wp_isub C dX9_comesTo_58 ?_
      refine wp_iret C dX9_comesTo_59 ?_
      exact ⟨by rw [show 2 + vlT T n (f + 1) own oth - 2 = vlT T n (f + 1) own oth by omega], turI_of I2 (by rw [e_H1, e_w4]; exact knI_set (f := f + 1) I2.2.2.2 ho ht hd (by omega)) (fun a b h1 => by rw [e_H1]; unfold upd2; rw [if_neg (fun z => h1 z.1)]), fun a b h1 => by rw [e_H1]; unfold upd2; rw [if_neg (fun z => h1 z.1)]; exact hf2 a b h1⟩
  · skip
    omega

set_option maxRecDepth 100000 in
set_option maxHeartbeats 4000000 in
theorem c_comes0 (E : En) (h : Hp) (T : Nat → Bool) (n : Nat) (own oth : Nat) (I : turI T n h) : Ct 0 yX9_comesTo cX9_comesTo 5 (some .int) E [rv E 125, iv (own : Int), iv (oth : Int), iv 0] h (fun v hx => v = some (iv (vlT T n 0 own oth)) ∧ turI T n hx ∧ (∀ a b, a ≠ 27 → hx a b = h a b)) := by
  refine ct_intro (by decide) (Nat.le_of_ble_eq_true rfl) (fun G C => ?_)
  show Wp G E 5 (fun v hx => v = some (iv (vlT T n 0 own oth)) ∧ turI T n hx ∧ (∀ a b, a ≠ 27 → hx a b = h a b)) 0 [(0, rv E 125), (1, iv (own : Int)), (2, iv (oth : Int)), (3, iv 0)] [] h
  refine wp_iload_n 3 C dX9_comesTo_0 rfl rfl ?_
  refine wp_iconst (v := 1) C dX9_comesTo_1 rfl ?_
  refine wp_icmp_ge (tgt := 7) (by omega) (by omega) C dX9_comesTo_2 (by decide) (fun c_2 => ?_) (fun c_2 => ?_)
  · skip
    omega
  · skip
    refine wp_iconst (v := 0) C dX9_comesTo_5 rfl ?_
    refine wp_iret C dX9_comesTo_6 ?_
    exact ⟨rfl, I, fun _ _ _ => rfl⟩

theorem c_comes (E : En) (T : Nat → Bool) (n : Nat) (hn8 : n ≤ 8) : ∀ f : Nat, cmP E T n f
  | 0 => fun h own oth I _ _ _ _ => c_comes0 E h T n own oth I
  | f + 1 => fun h own oth I ho ht hd hf => by
    have := c_comes1 E h T n f hn8 (c_comes E T n hn8 f) own oth I ho ht hd (((f + 1 : Nat)) : Int) (by omega) (by omega)
    exact this

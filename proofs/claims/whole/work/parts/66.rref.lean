/-! ===== the reference: tokens, numbers, colours, words ===== -/
def TM (h : Hp) (tx : Nat → Int) (L : Nat) : Prop := h 128 6 = (L : Int) ∧ L ≤ 200 ∧ ∀ i, i < L → h 134 i = tx i ∧ 0 ≤ tx i ∧ tx i ≤ 255
def frM (h hx : Hp) : Prop := ∀ a b, ¬ (a = 128 ∧ 10 ≤ b ∧ b ≤ 12) → hx a b = h a b
theorem TM.of {h hx : Hp} {tx : Nat → Int} {L : Nat} (T : TM h tx L) (f1 : hx 128 6 = h 128 6) (f2 : ∀ b, hx 134 b = h 134 b) : TM hx tx L := ⟨f1.trans T.1, T.2.1, fun i hi => by rw [f2 i]; exact T.2.2 i hi⟩
theorem TM.fr {h hx : Hp} {tx : Nat → Int} {L : Nat} (T : TM h tx L) (f : frM h hx) : TM hx tx L := T.of (f 128 6 (by omega)) (fun b => f 134 b (by omega))
theorem frM_u {h hx : Hp} {b : Nat} {v : Int} (hb : 10 ≤ b ∧ b ≤ 12) (f : frM h hx) : frM h (upd2 hx 128 b v) := fun a c hab => by unfold upd2; rw [if_neg (by omega)]; exact f a c hab
def RM (h : Hp) (t : Nat × Nat) : Prop := h 128 11 = (t.1 : Int) ∧ h 128 12 = (t.2 : Int) ∧ h 128 10 = (t.2 : Int)
def wPk (w : Nat) : Int := [20596784, 525480, 820961, 16946931].getD w 0
theorem wPk_ok : ∀ w : Fin 4, ∀ i : Fin 5, i.val < lenL.getD w.val 0 → 96 + bAnd (wPk w.val / 2 ^ (5 * i.val)) 31 = wCh w.val i.val := by decide +kernel
theorem wPk_r : ∀ w : Fin 4, 0 ≤ wPk w.val ∧ wPk w.val ≤ 100000000 := by decide +kernel
set_option maxRecDepth 100000 in
set_option maxHeartbeats 4000000 in
theorem c_sort (E : En) (h : Hp) (c : Int) (hc : -2147483648 ≤ c ∧ c ≤ 2147483647) : Ct 0 yX12_sort cX12_sort 1 (some .int) E [iv c] h (Ret (iv (srt c)) h) := by
  refine ct_intro (by decide) (Nat.le_of_ble_eq_true rfl) (fun G C => ?_)
  show Wp G E 1 (Ret (iv (srt c)) h) 0 [(0, iv c)] [] h
  refine wp_iload_n 0 C dX12_sort_0 rfl rfl ?_
  refine wp_bipush (v := 97) C dX12_sort_1 rfl ?_
  refine wp_icmp_lt (tgt := 16) (by omega) (by omega) C dX12_sort_3 (by decide) (fun c_3 => ?_) (fun c_3 => ?_)
  · skip
    refine wp_iload_n 0 C dX12_sort_16 rfl rfl ?_
    refine wp_bipush (v := 48) C dX12_sort_17 rfl ?_
    refine wp_icmp_lt (tgt := 32) (by omega) (by omega) C dX12_sort_19 (by decide) (fun c_19 => ?_) (fun c_19 => ?_)
    · skip
      refine wp_iconst (v := 0) C dX12_sort_32 rfl ?_
      refine wp_iret C dX12_sort_33 ?_
      exact ret_iv (by unfold srt; split <;> (try split) <;> omega)
    · skip
      refine wp_iload_n 0 C dX12_sort_22 rfl rfl ?_
      refine wp_bipush (v := 57) C dX12_sort_23 rfl ?_
      refine wp_icmp_gt (tgt := 32) (by omega) (by omega) C dX12_sort_25 (by decide) (fun c_25 => ?_) (fun c_25 => ?_)
      · skip
        refine wp_iconst (v := 0) C dX12_sort_32 rfl ?_
        refine wp_iret C dX12_sort_33 ?_
        exact ret_iv (by unfold srt; split <;> (try split) <;> omega)
      · skip
        refine wp_iconst (v := 2) C dX12_sort_28 rfl ?_
        refine wp_goto (tgt := 33) C dX12_sort_29 (by decide) ?_
        refine wp_iret C dX12_sort_33 ?_
        exact ret_iv (by unfold srt; split <;> (try split) <;> omega)
  · skip
    refine wp_iload_n 0 C dX12_sort_6 rfl rfl ?_
    refine wp_bipush (v := 122) C dX12_sort_7 rfl ?_
    refine wp_icmp_gt (tgt := 16) (by omega) (by omega) C dX12_sort_9 (by decide) (fun c_9 => ?_) (fun c_9 => ?_)
    · skip
      refine wp_iload_n 0 C dX12_sort_16 rfl rfl ?_
      refine wp_bipush (v := 48) C dX12_sort_17 rfl ?_
      refine wp_icmp_lt (tgt := 32) (by omega) (by omega) C dX12_sort_19 (by decide) (fun c_19 => ?_) (fun c_19 => ?_)
      · skip
        refine wp_iconst (v := 0) C dX12_sort_32 rfl ?_
        refine wp_iret C dX12_sort_33 ?_
        exact ret_iv (by unfold srt; split <;> (try split) <;> omega)
      · skip
        refine wp_iload_n 0 C dX12_sort_22 rfl rfl ?_
        refine wp_bipush (v := 57) C dX12_sort_23 rfl ?_
        refine wp_icmp_gt (tgt := 32) (by omega) (by omega) C dX12_sort_25 (by decide) (fun c_25 => ?_) (fun c_25 => ?_)
        · skip
          refine wp_iconst (v := 0) C dX12_sort_32 rfl ?_
          refine wp_iret C dX12_sort_33 ?_
          exact ret_iv (by unfold srt; split <;> (try split) <;> omega)
        · skip
          refine wp_iconst (v := 2) C dX12_sort_28 rfl ?_
          refine wp_goto (tgt := 33) C dX12_sort_29 (by decide) ?_
          refine wp_iret C dX12_sort_33 ?_
          exact ret_iv (by unfold srt; split <;> (try split) <;> omega)
    · skip
      refine wp_iconst (v := 1) C dX12_sort_12 rfl ?_
      refine wp_goto (tgt := 33) C dX12_sort_13 (by decide) ?_
      refine wp_iret C dX12_sort_33 ?_
      exact ret_iv (by unfold srt; split <;> (try split) <;> omega)

set_option maxRecDepth 100000 in
set_option maxHeartbeats 4000000 in
theorem c_token (E : En) (h : Hp) (tx : Nat → Int) (L : Nat) (T : TM h tx L) (t : Nat × Nat) (h5 : h 128 10 = (t.2 : Int)) (ht : t.2 ≤ L) : Ct 1 yX12_token cX12_token 1 none E [rv E 128] h (fun v hx => v = none ∧ RM hx (nx tx L t) ∧ frM h hx) := by
  have hL := T.2.1
  refine ct_intro (by decide) (Nat.le_of_ble_eq_true rfl) (fun G C => ?_)
  show Wp G E 1 (fun v hx => v = none ∧ RM hx (nx tx L t) ∧ frM h hx) 0 [(0, rv E 128)] [] h
  have q38 : ∀ (q : Nat) (hx : Hp), (q = (tkS tx L t.2)) → (q ≤ L) → (hx 128 10 = (q : Int)) → (frM h hx) → Wp G E 1 (fun v hx => v = none ∧ RM hx (nx tx L t) ∧ frM h hx) 38 [(0, rv E 128)] [] hx := by
    intro q hx hqs hq h10 hf
    have TH := T.fr hf
    have hL1 := TH.1
    refine wp_aloadR_n 0 C dX12_token_38 rfl rfl ?_
    refine wp_aloadR_n 0 C dX12_token_39 rfl rfl ?_
    refine wp_getI flX12_79 sh_128 rfl C dX12_token_40 ?_
    refine wp_putI fpX12_82 sh_128 rfl C dX12_token_43 ?_
    obtain ⟨H1, e_H1⟩ : ∃ z : Hp, z = upd2 hx 128 11 (hx 128 10) := ⟨_, rfl⟩
    refine wp_heq e_H1 ?_
    have q710 : ∀ n9 : Nat, ∀ (e : Nat) (hy : Hp), (e ≤ L) → ((L ≤ q ∧ e = q) ∨ (q < e ∧ q < L ∧ scn (soP tx q) L e = tkE tx L t.2)) → (hy 128 11 = (q : Int)) → (hy 128 10 = (e : Int)) → (frM h hy) → L - e < n9 → Wp G E 1 (fun v hx => v = none ∧ RM hx (nx tx L t) ∧ frM h hx) 71 [(0, rv E 128)] [] hy := by
      intro n9
      induction n9 with
      | zero => intro e hy he hcs g11 g10 hfy hm9; exact absurd hm9 (Nat.not_lt_zero _)
      | succ n9 ih9 =>
        intro e hy he hcs g11 g10 hfy hm9
        have ih9_71 := ih9
        have Ty := T.fr hfy
        have hLy := Ty.1
        refine wp_aloadR_n 0 C dX12_token_71 rfl rfl ?_
        refine wp_getI flX12_79 sh_128 rfl C dX12_token_72 ?_
        refine wp_aloadR_n 0 C dX12_token_75 rfl rfl ?_
        refine wp_getI flX12_73 sh_128 rfl C dX12_token_76 ?_
        refine wp_icmp_ge (tgt := 137) (by omega) (by omega) C dX12_token_79 (by decide) (fun c_79 => ?_) (fun c_79 => ?_)
        · skip
          refine wp_aloadR_n 0 C dX12_token_137 rfl rfl ?_
          refine wp_aloadR_n 0 C dX12_token_138 rfl rfl ?_
          refine wp_getI flX12_79 sh_128 rfl C dX12_token_139 ?_
          refine wp_putI fpX12_89 sh_128 rfl C dX12_token_142 ?_
          obtain ⟨H2, e_H2⟩ : ∃ z : Hp, z = upd2 hy 128 12 (hy 128 10) := ⟨_, rfl⟩
          refine wp_heq e_H2 ?_
          refine wp_vret C dX12_token_145 ?_
          have e9 : tkE tx L t.2 = e := by rcases hcs with ⟨z1, z2⟩ | ⟨z1, z2, z3⟩; (unfold tkE; rw [← hqs, if_pos z1, z2]); rw [← z3, scn_f (fun z => absurd z.1 (by omega))]
          exact ⟨rfl, ⟨by rw [e_H2]; show hy 128 11 = (tkS tx L t.2 : Int); rw [← hqs]; exact g11, by rw [e_H2, upd2_s]; show hy 128 10 = (tkE tx L t.2 : Int); rw [e9]; exact g10, by rw [e_H2]; show hy 128 10 = (tkE tx L t.2 : Int); rw [e9]; exact g10⟩, by rw [e_H2]; exact frM_u (by decide) hfy⟩
        · skip
          refine wp_aloadR_n 0 C dX12_token_82 rfl rfl ?_
          refine wp_getR flX12_27 sh_128 rfl C dX12_token_83 ?_
          refine wp_aloadR_n 0 C dX12_token_86 rfl rfl ?_
          refine wp_getI flX12_82 sh_128 rfl C dX12_token_87 ?_
          refine wp_iald sh_134 (by omega) C dX12_token_90 ?_
          have htrq := Ty.2.2 q (by omega)
          refine wp_top (show _ = tx q by rw [show (hy 128 11).toNat = q by omega]; exact htrq.1) ?_
          refine wp_callSp (rest := []) (c_sort E hy (tx q) (by omega)) ssX12_85 (by decide) rfl rfl (Nat.le_of_ble_eq_true rfl) C dX12_token_91 ?_
          have hsr := srt_r (tx q)
          refine wp_if_le (tgt := 137) (by omega) C dX12_token_94 (by decide) (fun c_94 => ?_) (fun c_94 => ?_)
          · skip
            refine wp_aloadR_n 0 C dX12_token_137 rfl rfl ?_
            refine wp_aloadR_n 0 C dX12_token_138 rfl rfl ?_
            refine wp_getI flX12_79 sh_128 rfl C dX12_token_139 ?_
            refine wp_putI fpX12_89 sh_128 rfl C dX12_token_142 ?_
            obtain ⟨H3, e_H3⟩ : ∃ z : Hp, z = upd2 hy 128 12 (hy 128 10) := ⟨_, rfl⟩
            refine wp_heq e_H3 ?_
            refine wp_vret C dX12_token_145 ?_
            have e9 : tkE tx L t.2 = e := by rcases hcs with ⟨z1, z2⟩ | ⟨z1, z2, z3⟩; omega; rw [← z3, scn_f (fun z => (of_decide_eq_true z.2).1 (by omega))]
            exact ⟨rfl, ⟨by rw [e_H3]; show hy 128 11 = (tkS tx L t.2 : Int); rw [← hqs]; exact g11, by rw [e_H3, upd2_s]; show hy 128 10 = (tkE tx L t.2 : Int); rw [e9]; exact g10, by rw [e_H3]; show hy 128 10 = (tkE tx L t.2 : Int); rw [e9]; exact g10⟩, by rw [e_H3]; exact frM_u (by decide) hfy⟩
          · skip
            refine wp_aloadR_n 0 C dX12_token_97 rfl rfl ?_
            refine wp_getR flX12_27 sh_128 rfl C dX12_token_98 ?_
            refine wp_aloadR_n 0 C dX12_token_101 rfl rfl ?_
            refine wp_getI flX12_79 sh_128 rfl C dX12_token_102 ?_
            refine wp_iald sh_134 (by omega) C dX12_token_105 ?_
            have htre := Ty.2.2 e (by omega)
            refine wp_top (show _ = tx e by rw [show (hy 128 10).toNat = e by omega]; exact htre.1) ?_
            refine wp_callSp (rest := []) (c_sort E hy (tx e) (by omega)) ssX12_85 (by decide) rfl rfl (Nat.le_of_ble_eq_true rfl) C dX12_token_106 ?_
            refine wp_aloadR_n 0 C dX12_token_109 rfl rfl ?_
            refine wp_getR flX12_27 sh_128 rfl C dX12_token_110 ?_
            refine wp_aloadR_n 0 C dX12_token_113 rfl rfl ?_
            refine wp_getI flX12_82 sh_128 rfl C dX12_token_114 ?_
            refine wp_iald sh_134 (by omega) C dX12_token_117 ?_
            have htrq := Ty.2.2 q (by omega)
            refine wp_top (show _ = tx q by rw [show (hy 128 11).toNat = q by omega]; exact htrq.1) ?_
            refine wp_callSp (rest := [iv (srt (tx e))]) (c_sort E hy (tx q) (by omega)) ssX12_85 (by decide) rfl rfl (Nat.le_of_ble_eq_true rfl) C dX12_token_118 ?_
            have hse := srt_r (tx e)
            refine wp_icmp_ne (tgt := 137) (by omega) (by omega) C dX12_token_121 (by decide) (fun c_121 => ?_) (fun c_121 => ?_)
            · skip
              refine wp_aloadR_n 0 C dX12_token_137 rfl rfl ?_
              refine wp_aloadR_n 0 C dX12_token_138 rfl rfl ?_
              refine wp_getI flX12_79 sh_128 rfl C dX12_token_139 ?_
              refine wp_putI fpX12_89 sh_128 rfl C dX12_token_142 ?_
              obtain ⟨H4, e_H4⟩ : ∃ z : Hp, z = upd2 hy 128 12 (hy 128 10) := ⟨_, rfl⟩
              refine wp_heq e_H4 ?_
              refine wp_vret C dX12_token_145 ?_
              have e9 : tkE tx L t.2 = e := by rcases hcs with ⟨z1, z2⟩ | ⟨z1, z2, z3⟩; omega; rw [← z3, scn_f (fun z => c_121 (of_decide_eq_true z.2).2)]
              exact ⟨rfl, ⟨by rw [e_H4]; show hy 128 11 = (tkS tx L t.2 : Int); rw [← hqs]; exact g11, by rw [e_H4, upd2_s]; show hy 128 10 = (tkE tx L t.2 : Int); rw [e9]; exact g10, by rw [e_H4]; show hy 128 10 = (tkE tx L t.2 : Int); rw [e9]; exact g10⟩, by rw [e_H4]; exact frM_u (by decide) hfy⟩
            · skip
              refine wp_aloadR_n 0 C dX12_token_124 rfl rfl ?_
              refine wp_dup rfl C dX12_token_125 ?_
              refine wp_getI flX12_79 sh_128 rfl C dX12_token_126 ?_
              refine wp_iconst (v := 1) C dX12_token_129 rfl ?_
              refine wp_iadd C dX12_token_130 ?_
              refine wp_putI fpX12_79 sh_128 rfl C dX12_token_131 ?_
              obtain ⟨H5, e_H5⟩ : ∃ z : Hp, z = upd2 hy 128 10 ((hy 128 10) + 1) := ⟨_, rfl⟩
              refine wp_heq e_H5 ?_
              refine wp_goto (tgt := 71) C dX12_token_134 (by decide) ?_
              exact ih9_71 (e + 1) H5 (by omega) (Or.inr ⟨by omega, by omega, (scn_t (by omega) (decide_eq_true ⟨by omega, c_121⟩)).symm.trans (hcs.resolve_left (by omega)).2.2⟩) (by rw [e_H5]; exact g11) (by rw [e_H5, upd2_s, g10]; rfl) (by rw [e_H5]; exact frM_u (by decide) hfy) (by omega)
    have q71 : ∀ (e : Nat) (hy : Hp), (e ≤ L) → ((L ≤ q ∧ e = q) ∨ (q < e ∧ q < L ∧ scn (soP tx q) L e = tkE tx L t.2)) → (hy 128 11 = (q : Int)) → (hy 128 10 = (e : Int)) → (frM h hy) → Wp G E 1 (fun v hx => v = none ∧ RM hx (nx tx L t) ∧ frM h hx) 71 [(0, rv E 128)] [] hy := fun e hy he hcs g11 g10 hfy => q710 _ e hy he hcs g11 g10 hfy (Nat.lt_succ_self _)
    refine wp_aloadR_n 0 C dX12_token_46 rfl rfl ?_
    refine wp_dup rfl C dX12_token_47 ?_
    refine wp_getI flX12_79 sh_128 rfl C dX12_token_48 ?_
    refine wp_top (rdu_nj e_H1 (by decide)) ?_
    refine wp_aloadR_n 0 C dX12_token_51 rfl rfl ?_
    refine wp_getI flX12_79 sh_128 rfl C dX12_token_52 ?_
    refine wp_top (rdu_nj e_H1 (by decide)) ?_
    refine wp_aloadR_n 0 C dX12_token_55 rfl rfl ?_
    refine wp_getI flX12_73 sh_128 rfl C dX12_token_56 ?_
    refine wp_top (rdu_nj e_H1 (by decide)) ?_
    refine wp_icmp_ge (tgt := 66) (by omega) (by omega) C dX12_token_59 (by decide) (fun c_59 => ?_) (fun c_59 => ?_)
    · skip
      refine wp_iconst (v := 0) C dX12_token_66 rfl ?_
      refine wp_iadd C dX12_token_67 ?_
      refine wp_putI fpX12_79 sh_128 rfl C dX12_token_68 ?_
      obtain ⟨H6, e_H6⟩ : ∃ z : Hp, z = upd2 H1 128 10 ((hx 128 10) + 0) := ⟨_, rfl⟩
      refine wp_heq e_H6 ?_
      exact q71 q H6 (by omega) (Or.inl ⟨by omega, rfl⟩) (by rw [e_H6, e_H1]; exact h10) (by rw [e_H6, upd2_s, h10]; omega) (by rw [e_H6, e_H1]; exact frM_u (by decide) (frM_u (by decide) hf))
    · skip
      refine wp_iconst (v := 1) C dX12_token_62 rfl ?_
      refine wp_goto (tgt := 67) C dX12_token_63 (by decide) ?_
      refine wp_iadd C dX12_token_67 ?_
      refine wp_putI fpX12_79 sh_128 rfl C dX12_token_68 ?_
      obtain ⟨H7, e_H7⟩ : ∃ z : Hp, z = upd2 H1 128 10 ((hx 128 10) + 1) := ⟨_, rfl⟩
      refine wp_heq e_H7 ?_
      exact q71 (q + 1) H7 (by omega) (Or.inr ⟨by omega, by omega, by unfold tkE; rw [← hqs, if_neg (by omega)]⟩) (by rw [e_H7, e_H1]; exact h10) (by rw [e_H7, upd2_s, h10]; rfl) (by rw [e_H7, e_H1]; exact frM_u (by decide) (frM_u (by decide) hf))
  have q00 : ∀ n9 : Nat, ∀ (q : Nat) (hx : Hp), (q ≤ L) → (scn (bkP tx) L q = (tkS tx L t.2)) → (hx 128 10 = (q : Int)) → (frM h hx) → L - q < n9 → Wp G E 1 (fun v hx => v = none ∧ RM hx (nx tx L t) ∧ frM h hx) 0 [(0, rv E 128)] [] hx := by
    intro n9
    induction n9 with
    | zero => intro q hx hq hs h10 hf hm9; exact absurd hm9 (Nat.not_lt_zero _)
    | succ n9 ih9 =>
      intro q hx hq hs h10 hf hm9
      have ih9_0 := ih9
      have TH := T.fr hf
      have hL1 := TH.1
      refine wp_aloadR_n 0 C dX12_token_0 rfl rfl ?_
      refine wp_getI flX12_79 sh_128 rfl C dX12_token_1 ?_
      refine wp_aloadR_n 0 C dX12_token_4 rfl rfl ?_
      refine wp_getI flX12_73 sh_128 rfl C dX12_token_5 ?_
      refine wp_icmp_ge (tgt := 38) (by omega) (by omega) C dX12_token_8 (by decide) (fun c_8 => ?_) (fun c_8 => ?_)
      · skip
        exact q38 q hx (by rw [← hs]; exact (scn_f (fun z => absurd z.1 (by omega))).symm) (by omega) (h10) (hf)
      · skip
        refine wp_aloadR_n 0 C dX12_token_11 rfl rfl ?_
        refine wp_getR flX12_27 sh_128 rfl C dX12_token_12 ?_
        refine wp_aloadR_n 0 C dX12_token_15 rfl rfl ?_
        refine wp_getI flX12_79 sh_128 rfl C dX12_token_16 ?_
        refine wp_iald sh_134 (by omega) C dX12_token_19 ?_
        have htrq := TH.2.2 q (by omega)
        refine wp_top (show _ = tx q by rw [show (hx 128 10).toNat = q by omega]; exact htrq.1) ?_
        refine wp_bipush (v := 32) C dX12_token_20 rfl ?_
        refine wp_icmp_ne (tgt := 38) (by omega) (by omega) C dX12_token_22 (by decide) (fun c_22 => ?_) (fun c_22 => ?_)
        · skip
          exact q38 q hx (by rw [← hs]; exact (scn_f (fun z => c_22 (of_decide_eq_true z.2))).symm) (by omega) (h10) (hf)
        · skip
          refine wp_aloadR_n 0 C dX12_token_25 rfl rfl ?_
          refine wp_dup rfl C dX12_token_26 ?_
          refine wp_getI flX12_79 sh_128 rfl C dX12_token_27 ?_
          refine wp_iconst (v := 1) C dX12_token_30 rfl ?_
          refine wp_iadd C dX12_token_31 ?_
          refine wp_putI fpX12_79 sh_128 rfl C dX12_token_32 ?_
          obtain ⟨H8, e_H8⟩ : ∃ z : Hp, z = upd2 hx 128 10 ((hx 128 10) + 1) := ⟨_, rfl⟩
          refine wp_heq e_H8 ?_
          refine wp_goto (tgt := 0) C dX12_token_35 (by decide) ?_
          exact ih9_0 (q + 1) H8 (by omega) ((scn_t (by omega) (decide_eq_true c_22)).symm.trans hs) (by rw [e_H8, upd2_s, h10]; rfl) (by rw [e_H8]; exact frM_u (by decide) hf) (by omega)
  have q0 : ∀ (q : Nat) (hx : Hp), (q ≤ L) → (scn (bkP tx) L q = (tkS tx L t.2)) → (hx 128 10 = (q : Int)) → (frM h hx) → Wp G E 1 (fun v hx => v = none ∧ RM hx (nx tx L t) ∧ frM h hx) 0 [(0, rv E 128)] [] hx := fun q hx hq hs h10 hf => q00 _ q hx hq hs h10 hf (Nat.lt_succ_self _)
  exact q0 t.2 h (ht) (rfl) (h5) (fun _ _ _ => rfl)

set_option maxRecDepth 100000 in
set_option maxHeartbeats 4000000 in
theorem c_isWord (E : En) (h : Hp) (w : Nat) (hw4 : w < 4) (tx : Nat → Int) (L : Nat) (T : TM h tx L) (t : Nat × Nat) (D : RM h t) (B : tkB tx L t) (wd lt : Int) (hwd : wd = wPk w) (hlt : lt = (lenL.getD w 0 : Int)) : Ct 0 yX12_isWord cX12_isWord 5 (some .boolean) E [rv E 128, iv wd, iv lt] h (Ret (iv (bi (isW w tx t = true))) h) := by
  have hL := T.2.1
  have d1 := D.1
  have d2 := D.2.1
  have b1 := B.1
  have b2 := B.2.1
  have t6 := T.1
  have hlw := lenL_r (w := w) (by omega)
  have hpr := wPk_r ⟨w, hw4⟩
  simp only at hpr
  refine ct_intro (by decide) (Nat.le_of_ble_eq_true rfl) (fun G C => ?_)
  show Wp G E 5 (Ret (iv (bi (isW w tx t = true))) h) 0 [(0, rv E 128), (1, iv wd), (2, iv lt)] [] h
  have q220 : ∀ n9 : Nat, ∀ (x3 : Int) (x4 : Int), (x3 = 0 ∨ x3 = 1) → (0 ≤ x4 ∧ x4 ≤ lt) → (x3 = 1 → (t.2 = t.1 + lenL.getD w 0 ∧ wAll w tx t.1 x4.toNat = true)) → (x3 = 0 → isW w tx t = false) → (lt - x4).toNat < n9 → Wp G E 5 (Ret (iv (bi (isW w tx t = true))) h) 22 [(0, rv E 128), (1, iv wd), (2, iv lt), (3, iv x3), (4, iv x4)] [] h := by
    intro n9
    induction n9 with
    | zero => intro x3 x4 h3 h4 ha hn hm9; exact absurd hm9 (Nat.not_lt_zero _)
    | succ n9 ih9 =>
      intro x3 x4 h3 h4 ha hn hm9
      have ih9_22 := ih9
      refine wp_iload_n 3 C dX12_isWord_22 rfl rfl ?_
      refine wp_if_eq (tgt := 71) (by omega) C dX12_isWord_23 (by decide) (fun c_23 => ?_) (fun c_23 => ?_)
      · skip
        refine wp_iload_n 3 C dX12_isWord_71 rfl rfl ?_
        refine wp_zret (h3) C dX12_isWord_72 ?_
        exact ret_iv (by rw [show x3 = 0 by omega, bi_f (by rw [hn (by omega)]; decide)])
      · skip
        refine wp_iload 4 C dX12_isWord_26 rfl ?_
        refine wp_iload_n 2 C dX12_isWord_28 rfl rfl ?_
        refine wp_icmp_ge (tgt := 71) (by omega) (by omega) C dX12_isWord_29 (by decide) (fun c_29 => ?_) (fun c_29 => ?_)
        · skip
          refine wp_iload_n 3 C dX12_isWord_71 rfl rfl ?_
          refine wp_zret (h3) C dX12_isWord_72 ?_
          exact ret_iv (by rw [show x3 = 1 by omega, bi_t (by unfold isW; rw [decide_eq_true (ha (by omega)).1, Bool.true_and, show lenL.getD w 0 = x4.toNat by omega]; exact (ha (by omega)).2)])
        · skip
          have hxe := ha (by omega)
          have hxe1 := hxe.1
          have hte := T.2.2 (t.1 + x4.toNat) (by omega)
          have hpk := wPk_ok ⟨w, hw4⟩ ⟨x4.toNat, by omega⟩ (by show x4.toNat < lenL.getD w 0; omega)
          have hcr := wCh_r (w := w) (j := x4.toNat) (by omega) (by omega)
          refine wp_aloadR_n 0 C dX12_isWord_32 rfl rfl ?_
          refine wp_getR flX12_27 sh_128 rfl C dX12_isWord_33 ?_
          refine wp_aloadR_n 0 C dX12_isWord_36 rfl rfl ?_
          refine wp_getI flX12_82 sh_128 rfl C dX12_isWord_37 ?_
          refine wp_iload 4 C dX12_isWord_40 rfl ?_
          refine wp_iadd C dX12_isWord_42 ?_
          refine wp_iald sh_134 (by omega) C dX12_isWord_43 ?_
          refine wp_top (show _ = tx (t.1 + x4.toNat) by rw [show (h 128 11 + x4).toNat = t.1 + x4.toNat by omega]; exact hte.1) ?_
          refine wp_bipush (v := 96) C dX12_isWord_44 rfl ?_
          refine wp_iload_n 1 C dX12_isWord_46 rfl rfl ?_
          refine wp_iconst (v := 5) C dX12_isWord_47 rfl ?_
          refine wp_iload 4 C dX12_isWord_48 rfl ?_
          refine wp_imul C dX12_isWord_50 ?_
          refine wp_ishr (by omega) (by omega) C dX12_isWord_51 ?_
          refine wp_bipush (v := 31) C dX12_isWord_52 rfl ?_
          refine wp_iand C dX12_isWord_54 ?_
          refine wp_iadd C dX12_isWord_55 ?_
          refine wp_top (show _ = wCh w x4.toNat by rw [hwd, show (5 * x4).toNat = 5 * x4.toNat by omega]; exact hpk) ?_
          refine wp_icmp_ne (tgt := 63) (by omega) (by omega) C dX12_isWord_56 (by decide) (fun c_56 => ?_) (fun c_56 => ?_)
          · skip
            refine wp_iconst (v := 0) C dX12_isWord_63 rfl ?_
            refine wp_istore_n (ls' := [(0, rv E 128), (1, iv wd), (2, iv lt), (3, iv 0), (4, iv x4)]) [1, 2, 3, 0, 4] C dX12_isWord_64 rfl (by decide) rfl ?_
            obtain ⟨v1, e_v1⟩ : ∃ z : Int, z = x4 + (1) := ⟨_, rfl⟩
            refine wp_iinc (j := 4) (y := v1) (ls' := [(0, rv E 128), (1, iv wd), (2, iv lt), (3, iv 0), (4, iv v1)]) [1, 2, 3, 4, 0] C dX12_isWord_65 rfl e_v1 (by decide) rfl ?_
            refine wp_goto (tgt := 22) C dX12_isWord_68 (by decide) ?_
            exact ih9_22 0 v1 (by omega) (by omega) (fun z => absurd z (by decide)) (fun _ => by unfold isW; rw [wAll_f c_56 (lenL.getD w 0) (by omega), Bool.and_false]) (by omega)
          · skip
            refine wp_iconst (v := 1) C dX12_isWord_59 rfl ?_
            refine wp_goto (tgt := 64) C dX12_isWord_60 (by decide) ?_
            refine wp_istore_n (ls' := [(0, rv E 128), (1, iv wd), (2, iv lt), (3, iv 1), (4, iv x4)]) [1, 2, 3, 0, 4] C dX12_isWord_64 rfl (by decide) rfl ?_
            obtain ⟨v2, e_v2⟩ : ∃ z : Int, z = x4 + (1) := ⟨_, rfl⟩
            refine wp_iinc (j := 4) (y := v2) (ls' := [(0, rv E 128), (1, iv wd), (2, iv lt), (3, iv 1), (4, iv v2)]) [1, 2, 3, 4, 0] C dX12_isWord_65 rfl e_v2 (by decide) rfl ?_
            refine wp_goto (tgt := 22) C dX12_isWord_68 (by decide) ?_
            exact ih9_22 1 v2 (by omega) (by omega) (fun _ => ⟨hxe.1, by rw [e_v2, show (x4 + 1).toNat = x4.toNat + 1 by omega, wAll, hxe.2, Bool.true_and]; exact decide_eq_true c_56⟩) (fun z => absurd z (by decide)) (by omega)
  have q22 : ∀ (x3 : Int) (x4 : Int), (x3 = 0 ∨ x3 = 1) → (0 ≤ x4 ∧ x4 ≤ lt) → (x3 = 1 → (t.2 = t.1 + lenL.getD w 0 ∧ wAll w tx t.1 x4.toNat = true)) → (x3 = 0 → isW w tx t = false) → Wp G E 5 (Ret (iv (bi (isW w tx t = true))) h) 22 [(0, rv E 128), (1, iv wd), (2, iv lt), (3, iv x3), (4, iv x4)] [] h := fun x3 x4 h3 h4 ha hn => q220 _ x3 x4 h3 h4 ha hn (Nat.lt_succ_self _)
  refine wp_aloadR_n 0 C dX12_isWord_0 rfl rfl ?_
  refine wp_getI flX12_89 sh_128 rfl C dX12_isWord_1 ?_
  refine wp_aloadR_n 0 C dX12_isWord_4 rfl rfl ?_
  refine wp_getI flX12_82 sh_128 rfl C dX12_isWord_5 ?_
  refine wp_isub C dX12_isWord_8 ?_
  refine wp_iload_n 2 C dX12_isWord_9 rfl rfl ?_
  refine wp_icmp_ne (tgt := 17) (by omega) (by omega) C dX12_isWord_10 (by decide) (fun c_10 => ?_) (fun c_10 => ?_)
  · skip
    refine wp_iconst (v := 0) C dX12_isWord_17 rfl ?_
    refine wp_istore_n (ls' := [(0, rv E 128), (1, iv wd), (2, iv lt), (3, iv 0)]) [1, 2, 3, 0] C dX12_isWord_18 rfl (by decide) rfl ?_
    refine wp_iconst (v := 0) C dX12_isWord_19 rfl ?_
    refine wp_istore (ls' := [(0, rv E 128), (1, iv wd), (2, iv lt), (3, iv 0), (4, iv 0)]) [1, 2, 3, 4, 0] C dX12_isWord_20 (by decide) rfl ?_
    exact q22 0 0 (by omega) (by omega) (fun z => absurd z (by decide)) (fun _ => by unfold isW; rw [decide_eq_false (by omega), Bool.false_and])
  · skip
    refine wp_iconst (v := 1) C dX12_isWord_13 rfl ?_
    refine wp_goto (tgt := 18) C dX12_isWord_14 (by decide) ?_
    refine wp_istore_n (ls' := [(0, rv E 128), (1, iv wd), (2, iv lt), (3, iv 1)]) [1, 2, 3, 0] C dX12_isWord_18 rfl (by decide) rfl ?_
    refine wp_iconst (v := 0) C dX12_isWord_19 rfl ?_
    refine wp_istore (ls' := [(0, rv E 128), (1, iv wd), (2, iv lt), (3, iv 1), (4, iv 0)]) [1, 2, 3, 4, 0] C dX12_isWord_20 (by decide) rfl ?_
    exact q22 1 0 (by omega) (by omega) (fun _ => ⟨by omega, rfl⟩) (fun z => absurd z (by decide))

set_option maxRecDepth 100000 in
set_option maxHeartbeats 4000000 in
theorem c_wordOf (E : En) (h : Hp) (tx : Nat → Int) (L : Nat) (T : TM h tx L) (t : Nat × Nat) (D : RM h t) (B : tkB tx L t) : Ct 1 yX12_wordOf cX12_wordOf 1 (some .int) E [rv E 128] h (Ret (iv (wrdV tx t)) h) := by
  refine ct_intro (by decide) (Nat.le_of_ble_eq_true rfl) (fun G C => ?_)
  show Wp G E 1 (Ret (iv (wrdV tx t)) h) 0 [(0, rv E 128)] [] h
  refine wp_aloadR_n 0 C dX12_wordOf_0 rfl rfl ?_
  refine wp_ldc (v := 20596784) C (mT (i := 997) (by decide +kernel) rfl) dX12_wordOf_1 ?_
  refine wp_iconst (v := 5) C dX12_wordOf_3 rfl ?_
  refine wp_callVp (rest := []) (c_isWord E h 0 (by decide) tx L T t D B 20596784 5 (by decide) (by decide)) svX12_93 sh_128 (by decide) rfl rfl (Nat.le_of_ble_eq_true rfl) C dX12_wordOf_4 ?_
  refine wp_ifb_eq (tgt := 14) C dX12_wordOf_7 (by decide) (fun c_7 => ?_) (fun c_7 => ?_)
  · skip
    refine wp_aloadR_n 0 C dX12_wordOf_14 rfl rfl ?_
    refine wp_ldc (v := 525480) C (mT (i := 1002) (by decide +kernel) rfl) dX12_wordOf_15 ?_
    refine wp_iconst (v := 4) C dX12_wordOf_17 rfl ?_
    refine wp_callVp (rest := []) (c_isWord E h 1 (by decide) tx L T t D B 525480 4 (by decide) (by decide)) svX12_93 sh_128 (by decide) rfl rfl (Nat.le_of_ble_eq_true rfl) C dX12_wordOf_18 ?_
    refine wp_ifb_eq (tgt := 28) C dX12_wordOf_21 (by decide) (fun c_21 => ?_) (fun c_21 => ?_)
    · skip
      refine wp_aloadR_n 0 C dX12_wordOf_28 rfl rfl ?_
      refine wp_ldc (v := 820961) C (mT (i := 1003) (by decide +kernel) rfl) dX12_wordOf_29 ?_
      refine wp_iconst (v := 4) C dX12_wordOf_31 rfl ?_
      refine wp_callVp (rest := []) (c_isWord E h 2 (by decide) tx L T t D B 820961 4 (by decide) (by decide)) svX12_93 sh_128 (by decide) rfl rfl (Nat.le_of_ble_eq_true rfl) C dX12_wordOf_32 ?_
      refine wp_ifb_eq (tgt := 42) C dX12_wordOf_35 (by decide) (fun c_35 => ?_) (fun c_35 => ?_)
      · skip
        refine wp_aloadR_n 0 C dX12_wordOf_42 rfl rfl ?_
        refine wp_ldc (v := 16946931) C (mT (i := 1004) (by decide +kernel) rfl) dX12_wordOf_43 ?_
        refine wp_iconst (v := 5) C dX12_wordOf_45 rfl ?_
        refine wp_callVp (rest := []) (c_isWord E h 3 (by decide) tx L T t D B 16946931 5 (by decide) (by decide)) svX12_93 sh_128 (by decide) rfl rfl (Nat.le_of_ble_eq_true rfl) C dX12_wordOf_46 ?_
        refine wp_ifb_eq (tgt := 56) C dX12_wordOf_49 (by decide) (fun c_49 => ?_) (fun c_49 => ?_)
        · skip
          refine wp_iconst (v := (-1)) C dX12_wordOf_56 rfl ?_
          refine wp_iret C dX12_wordOf_57 ?_
          exact ret_iv (by unfold wrdV; rw [if_neg c_7, if_neg c_21, if_neg c_35, if_neg c_49])
        · skip
          refine wp_iconst (v := 3) C dX12_wordOf_52 rfl ?_
          refine wp_goto (tgt := 57) C dX12_wordOf_53 (by decide) ?_
          refine wp_iret C dX12_wordOf_57 ?_
          exact ret_iv (by unfold wrdV; rw [if_neg c_7, if_neg c_21, if_neg c_35, if_pos c_49])
      · skip
        refine wp_iconst (v := 2) C dX12_wordOf_38 rfl ?_
        refine wp_goto (tgt := 57) C dX12_wordOf_39 (by decide) ?_
        refine wp_iret C dX12_wordOf_57 ?_
        exact ret_iv (by unfold wrdV; rw [if_neg c_7, if_neg c_21, if_pos c_35])
    · skip
      refine wp_iconst (v := 1) C dX12_wordOf_24 rfl ?_
      refine wp_goto (tgt := 57) C dX12_wordOf_25 (by decide) ?_
      refine wp_iret C dX12_wordOf_57 ?_
      exact ret_iv (by unfold wrdV; rw [if_neg c_7, if_pos c_21])
  · skip
    refine wp_iconst (v := 0) C dX12_wordOf_10 rfl ?_
    refine wp_goto (tgt := 57) C dX12_wordOf_11 (by decide) ?_
    refine wp_iret C dX12_wordOf_57 ?_
    exact ret_iv (by unfold wrdV; rw [if_pos c_7])

set_option maxRecDepth 100000 in
set_option maxHeartbeats 4000000 in
theorem c_isNumber (E : En) (h : Hp) (tx : Nat → Int) (L : Nat) (T : TM h tx L) (t : Nat × Nat) (D : RM h t) (B : tkB tx L t) : Ct 1 yX12_isNumber cX12_isNumber 1 (some .boolean) E [rv E 128] h (Ret (iv (bi (t.1 < L ∧ 48 ≤ tx t.1 ∧ tx t.1 ≤ 57))) h) := by
  have hL := T.2.1
  have d1 := D.1
  have d2 := D.2.1
  have b1 := B.1
  have b2 := B.2.1
  have t6 := T.1
  refine ct_intro (by decide) (Nat.le_of_ble_eq_true rfl) (fun G C => ?_)
  show Wp G E 1 (Ret (iv (bi (t.1 < L ∧ 48 ≤ tx t.1 ∧ tx t.1 ≤ 57))) h) 0 [(0, rv E 128)] [] h
  refine wp_aloadR_n 0 C dX12_isNumber_0 rfl rfl ?_
  refine wp_getI flX12_82 sh_128 rfl C dX12_isNumber_1 ?_
  refine wp_aloadR_n 0 C dX12_isNumber_4 rfl rfl ?_
  refine wp_getI flX12_73 sh_128 rfl C dX12_isNumber_5 ?_
  refine wp_icmp_ge (tgt := 31) (by omega) (by omega) C dX12_isNumber_8 (by decide) (fun c_8 => ?_) (fun c_8 => ?_)
  · skip
    refine wp_iconst (v := 0) C dX12_isNumber_31 rfl ?_
    refine wp_zret (by first | exact bi_01 | omega) C dX12_isNumber_32 ?_
    exact ret_b0 (fun z => absurd z.1 (by omega))
  · skip
    refine wp_aloadR_n 0 C dX12_isNumber_11 rfl rfl ?_
    refine wp_getR flX12_27 sh_128 rfl C dX12_isNumber_12 ?_
    refine wp_aloadR_n 0 C dX12_isNumber_15 rfl rfl ?_
    refine wp_getI flX12_82 sh_128 rfl C dX12_isNumber_16 ?_
    refine wp_iald sh_134 (by omega) C dX12_isNumber_19 ?_
    have hte := T.2.2 t.1 (by omega)
    refine wp_top (show _ = tx t.1 by rw [show (h 128 11).toNat = t.1 by omega]; exact hte.1) ?_
    refine wp_callSp (rest := []) (c_sort E h (tx t.1) (by omega)) ssX12_85 (by decide) rfl rfl (Nat.le_of_ble_eq_true rfl) C dX12_isNumber_20 ?_
    have hsr := srt_r (tx t.1)
    refine wp_iconst (v := 2) C dX12_isNumber_23 rfl ?_
    refine wp_icmp_ne (tgt := 31) (by omega) (by omega) C dX12_isNumber_24 (by decide) (fun c_24 => ?_) (fun c_24 => ?_)
    · skip
      refine wp_iconst (v := 0) C dX12_isNumber_31 rfl ?_
      refine wp_zret (by first | exact bi_01 | omega) C dX12_isNumber_32 ?_
      exact ret_b0 (fun z => c_24 (srt_2.mpr z.2))
    · skip
      refine wp_iconst (v := 1) C dX12_isNumber_27 rfl ?_
      refine wp_goto (tgt := 32) C dX12_isNumber_28 (by decide) ?_
      refine wp_zret (by first | exact bi_01 | omega) C dX12_isNumber_32 ?_
      exact ret_b1 ⟨by omega, srt_2.mp c_24⟩

set_option maxRecDepth 100000 in
set_option maxHeartbeats 4000000 in
theorem c_numberH (E : En) (h : Hp) (tx : Nat → Int) (L : Nat) (T : TM h tx L) (t : Nat × Nat) (D : RM h t) (B : tkB tx L t) (dg : Nat) (hdg : dg ≤ 15) (dgi : Int) (hdi : dgi = (dg : Int)) : Ct 2 yX12_numberHere cX12_numberHere 5 (some .long) E [rv E 128, iv dgi] h (Ret (jv (numH tx L dg t)) h) := by
  have hL := T.2.1
  have d1 := D.1
  have d2 := D.2.1
  have b1 := B.1
  have b2 := B.2.1
  have t6 := T.1
  refine ct_intro (by decide) (Nat.le_of_ble_eq_true rfl) (fun G C => ?_)
  show Wp G E 5 (Ret (jv (numH tx L dg t)) h) 0 [(0, rv E 128), (1, iv dgi)] [] h
  refine wp_aloadR_n 0 C dX12_numberHere_0 rfl rfl ?_
  refine wp_callVp (rest := []) (c_isNumber E h tx L T t D B) svX12_100 sh_128 (by decide) rfl rfl (Nat.le_of_ble_eq_true rfl) C dX12_numberHere_1 ?_
  refine wp_ifb_eq (tgt := 20) C dX12_numberHere_4 (by decide) (fun c_4 => ?_) (fun c_4 => ?_)
  · skip
    refine wp_ldc2 (v := (-1)) C (mT (i := 1021) (by decide +kernel) rfl) dX12_numberHere_20 ?_
    refine wp_lret C dX12_numberHere_23 ?_
    exact ret_jv (by unfold numH; rw [if_neg (fun z => c_4 z.1)])
  · skip
    refine wp_aloadR_n 0 C dX12_numberHere_7 rfl rfl ?_
    refine wp_getI flX12_89 sh_128 rfl C dX12_numberHere_8 ?_
    refine wp_aloadR_n 0 C dX12_numberHere_11 rfl rfl ?_
    refine wp_getI flX12_82 sh_128 rfl C dX12_numberHere_12 ?_
    refine wp_isub C dX12_numberHere_15 ?_
    refine wp_iload_n 1 C dX12_numberHere_16 rfl rfl ?_
    refine wp_icmp_le (tgt := 24) (by omega) (by omega) C dX12_numberHere_17 (by decide) (fun c_17 => ?_) (fun c_17 => ?_)
    · skip
      refine wp_lconst (v := 0) C dX12_numberHere_24 rfl ?_
      refine wp_lstore_n (ls' := [(0, rv E 128), (1, iv dgi), (2, jv 0)]) [1, 2, 0] C dX12_numberHere_25 rfl (by decide) rfl ?_
      refine wp_aloadR_n 0 C dX12_numberHere_26 rfl rfl ?_
      refine wp_getI flX12_82 sh_128 rfl C dX12_numberHere_27 ?_
      refine wp_nm (fun v1 e_v1 => ?_)
      refine wp_istore (ls' := [(0, rv E 128), (1, iv dgi), (2, jv 0), (4, iv v1)]) [1, 2, 3, 0] C dX12_numberHere_30 (by decide) rfl ?_
      have q320 : ∀ n9 : Nat, ∀ (x2 : Int) (x4 : Int), ((t.1 : Int) ≤ x4 ∧ x4 ≤ t.2) → (x2 = numA tx t.1 (x4.toNat - t.1)) → ((t.2 : Int) - x4).toNat < n9 → Wp G E 5 (Ret (jv (numH tx L dg t)) h) 32 [(0, rv E 128), (1, iv dgi), (2, jv x2), (4, iv x4)] [] h := by
        intro n9
        induction n9 with
        | zero => intro x2 x4 h4 h2 hm9; exact absurd hm9 (Nat.not_lt_zero _)
        | succ n9 ih9 =>
          intro x2 x4 h4 h2 hm9
          have ih9_32 := ih9
          have hnr := numA_t (k := x4.toNat - t.1) B c_4.2 (by omega) (by omega)
          rw [← h2] at hnr
          refine wp_iload 3 C dX12_numberHere_32 rfl ?_
          refine wp_aloadR_n 0 C dX12_numberHere_34 rfl rfl ?_
          refine wp_getI flX12_89 sh_128 rfl C dX12_numberHere_35 ?_
          refine wp_icmp_ge (tgt := 66) (by omega) (by omega) C dX12_numberHere_38 (by decide) (fun c_38 => ?_) (fun c_38 => ?_)
          · skip
            refine wp_lload_n 2 C dX12_numberHere_66 rfl rfl ?_
            refine wp_lret C dX12_numberHere_67 ?_
            exact ret_jv (by unfold numH; rw [if_pos ⟨c_4, by omega⟩, h2, show x4.toNat = t.2 by omega])
          · skip
            refine wp_ldc2 (v := 10) C (mT (i := 1022) (by decide +kernel) rfl) dX12_numberHere_41 ?_
            refine wp_lload_n 2 C dX12_numberHere_44 rfl rfl ?_
            refine wp_lmul C dX12_numberHere_45 ?_
            refine wp_aloadR_n 0 C dX12_numberHere_46 rfl rfl ?_
            refine wp_getR flX12_27 sh_128 rfl C dX12_numberHere_47 ?_
            refine wp_iload 3 C dX12_numberHere_50 rfl ?_
            refine wp_iald sh_134 (by omega) C dX12_numberHere_52 ?_
            have hte := T.2.2 x4.toNat (by omega)
            refine wp_top (show _ = tx x4.toNat from hte.1) ?_
            refine wp_i2l (by omega) C dX12_numberHere_53 ?_
            refine wp_ladd C dX12_numberHere_54 ?_
            refine wp_ldc2 (v := 48) C (mT (i := 1023) (by decide +kernel) rfl) dX12_numberHere_55 ?_
            refine wp_lsub C dX12_numberHere_58 ?_
            refine wp_nml (fun v2 e_v2 => ?_)
            refine wp_lstore_n (ls' := [(0, rv E 128), (1, iv dgi), (2, jv v2), (4, iv x4)]) [1, 2, 0, 3] C dX12_numberHere_59 rfl (by decide) rfl ?_
            obtain ⟨v3, e_v3⟩ : ∃ z : Int, z = x4 + (1) := ⟨_, rfl⟩
            refine wp_iinc (j := 3) (y := v3) (ls' := [(0, rv E 128), (1, iv dgi), (2, jv v2), (4, iv v3)]) [1, 2, 3, 0] C dX12_numberHere_60 rfl e_v3 (by decide) rfl ?_
            refine wp_goto (tgt := 32) C dX12_numberHere_63 (by decide) ?_
            exact ih9_32 v2 v3 (by omega) (by rw [e_v2, e_v3, show (x4 + 1).toNat - t.1 = (x4.toNat - t.1) + 1 by omega, numA, ← h2, show t.1 + (x4.toNat - t.1) = x4.toNat by omega]; omega) (by omega)
      have q32 : ∀ (x2 : Int) (x4 : Int), ((t.1 : Int) ≤ x4 ∧ x4 ≤ t.2) → (x2 = numA tx t.1 (x4.toNat - t.1)) → Wp G E 5 (Ret (jv (numH tx L dg t)) h) 32 [(0, rv E 128), (1, iv dgi), (2, jv x2), (4, iv x4)] [] h := fun x2 x4 h4 h2 => q320 _ x2 x4 h4 h2 (Nat.lt_succ_self _)
      exact q32 0 v1 (by omega) (by rw [show (v1).toNat - t.1 = 0 by omega]; rfl)
    · skip
      refine wp_ldc2 (v := (-1)) C (mT (i := 1021) (by decide +kernel) rfl) dX12_numberHere_20 ?_
      refine wp_lret C dX12_numberHere_23 ?_
      exact ret_jv (by unfold numH; rw [if_neg (fun z => absurd z.2 (by omega))])

set_option maxRecDepth 100000 in
set_option maxHeartbeats 4000000 in
theorem c_colourH (E : En) (h : Hp) (tx : Nat → Int) (L : Nat) (T : TM h tx L) (t : Nat × Nat) (D : RM h t) (B : tkB tx L t) : Ct 0 yX12_colourHere cX12_colourHere 2 (some .int) E [rv E 128] h (Ret (iv (colH tx L t)) h) := by
  have hL := T.2.1
  have d1 := D.1
  have d2 := D.2.1
  have b1 := B.1
  have b2 := B.2.1
  have t6 := T.1
  refine ct_intro (by decide) (Nat.le_of_ble_eq_true rfl) (fun G C => ?_)
  show Wp G E 2 (Ret (iv (colH tx L t)) h) 0 [(0, rv E 128)] [] h
  have q37 : ∀ (x : Int), ((t.1 < L ∧ t.2 = t.1 + 1 ∧ x = tx t.1 ∧ 0 ≤ x ∧ x ≤ 255) ∨ (¬ (t.1 < L ∧ t.2 = t.1 + 1) ∧ x = 0)) → Wp G E 2 (Ret (iv (colH tx L t)) h) 37 [(0, rv E 128)] [iv x] h := by
    intro x hx
    refine wp_istore_n (ls' := [(0, rv E 128), (1, iv x)]) [1, 0] C dX12_colourHere_37 rfl (by decide) rfl ?_
    refine wp_iload_n 1 C dX12_colourHere_38 rfl rfl ?_
    refine wp_bipush (v := 114) C dX12_colourHere_39 rfl ?_
    refine wp_icmp_ne (tgt := 48) (by omega) (by omega) C dX12_colourHere_41 (by decide) (fun c_41 => ?_) (fun c_41 => ?_)
    · skip
      refine wp_iload_n 1 C dX12_colourHere_48 rfl rfl ?_
      refine wp_bipush (v := 103) C dX12_colourHere_49 rfl ?_
      refine wp_icmp_ne (tgt := 58) (by omega) (by omega) C dX12_colourHere_51 (by decide) (fun c_51 => ?_) (fun c_51 => ?_)
      · skip
        refine wp_iload_n 1 C dX12_colourHere_58 rfl rfl ?_
        refine wp_bipush (v := 98) C dX12_colourHere_59 rfl ?_
        refine wp_icmp_ne (tgt := 68) (by omega) (by omega) C dX12_colourHere_61 (by decide) (fun c_61 => ?_) (fun c_61 => ?_)
        · skip
          refine wp_iload_n 1 C dX12_colourHere_68 rfl rfl ?_
          refine wp_bipush (v := 121) C dX12_colourHere_69 rfl ?_
          refine wp_icmp_ne (tgt := 78) (by omega) (by omega) C dX12_colourHere_71 (by decide) (fun c_71 => ?_) (fun c_71 => ?_)
          · skip
            refine wp_iconst (v := (-1)) C dX12_colourHere_78 rfl ?_
            refine wp_iret C dX12_colourHere_79 ?_
            exact ret_iv (by unfold colH; rcases hx with ⟨z1, z2, z3, z4⟩ | ⟨z1, z2⟩; (rw [if_pos ⟨z1, z2⟩, ← z3]; split <;> (try split) <;> (try split) <;> (try split) <;> (try omega)); (rw [if_neg z1]; try omega))
          · skip
            refine wp_iconst (v := 3) C dX12_colourHere_74 rfl ?_
            refine wp_goto (tgt := 79) C dX12_colourHere_75 (by decide) ?_
            refine wp_iret C dX12_colourHere_79 ?_
            exact ret_iv (by unfold colH; rcases hx with ⟨z1, z2, z3, z4⟩ | ⟨z1, z2⟩; (rw [if_pos ⟨z1, z2⟩, ← z3]; split <;> (try split) <;> (try split) <;> (try split) <;> (try omega)); (rw [if_neg z1]; try omega))
        · skip
          refine wp_iconst (v := 2) C dX12_colourHere_64 rfl ?_
          refine wp_goto (tgt := 79) C dX12_colourHere_65 (by decide) ?_
          refine wp_iret C dX12_colourHere_79 ?_
          exact ret_iv (by unfold colH; rcases hx with ⟨z1, z2, z3, z4⟩ | ⟨z1, z2⟩; (rw [if_pos ⟨z1, z2⟩, ← z3]; split <;> (try split) <;> (try split) <;> (try split) <;> (try omega)); (rw [if_neg z1]; try omega))
      · skip
        refine wp_iconst (v := 1) C dX12_colourHere_54 rfl ?_
        refine wp_goto (tgt := 79) C dX12_colourHere_55 (by decide) ?_
        refine wp_iret C dX12_colourHere_79 ?_
        exact ret_iv (by unfold colH; rcases hx with ⟨z1, z2, z3, z4⟩ | ⟨z1, z2⟩; (rw [if_pos ⟨z1, z2⟩, ← z3]; split <;> (try split) <;> (try split) <;> (try split) <;> (try omega)); (rw [if_neg z1]; try omega))
    · skip
      refine wp_iconst (v := 0) C dX12_colourHere_44 rfl ?_
      refine wp_goto (tgt := 79) C dX12_colourHere_45 (by decide) ?_
      refine wp_iret C dX12_colourHere_79 ?_
      exact ret_iv (by unfold colH; rcases hx with ⟨z1, z2, z3, z4⟩ | ⟨z1, z2⟩; (rw [if_pos ⟨z1, z2⟩, ← z3]; split <;> (try split) <;> (try split) <;> (try split) <;> (try omega)); (rw [if_neg z1]; try omega))
  refine wp_aloadR_n 0 C dX12_colourHere_0 rfl rfl ?_
  refine wp_getI flX12_82 sh_128 rfl C dX12_colourHere_1 ?_
  refine wp_aloadR_n 0 C dX12_colourHere_4 rfl rfl ?_
  refine wp_getI flX12_73 sh_128 rfl C dX12_colourHere_5 ?_
  refine wp_icmp_ge (tgt := 36) (by omega) (by omega) C dX12_colourHere_8 (by decide) (fun c_8 => ?_) (fun c_8 => ?_)
  · skip
    refine wp_iconst (v := 0) C dX12_colourHere_36 rfl ?_
    exact q37 0 (Or.inr ⟨by omega, rfl⟩)
  · skip
    refine wp_aloadR_n 0 C dX12_colourHere_11 rfl rfl ?_
    refine wp_getI flX12_89 sh_128 rfl C dX12_colourHere_12 ?_
    refine wp_aloadR_n 0 C dX12_colourHere_15 rfl rfl ?_
    refine wp_getI flX12_82 sh_128 rfl C dX12_colourHere_16 ?_
    refine wp_isub C dX12_colourHere_19 ?_
    refine wp_iconst (v := 1) C dX12_colourHere_20 rfl ?_
    refine wp_icmp_ne (tgt := 36) (by omega) (by omega) C dX12_colourHere_21 (by decide) (fun c_21 => ?_) (fun c_21 => ?_)
    · skip
      refine wp_iconst (v := 0) C dX12_colourHere_36 rfl ?_
      exact q37 0 (Or.inr ⟨by omega, rfl⟩)
    · skip
      refine wp_aloadR_n 0 C dX12_colourHere_24 rfl rfl ?_
      refine wp_getR flX12_27 sh_128 rfl C dX12_colourHere_25 ?_
      refine wp_aloadR_n 0 C dX12_colourHere_28 rfl rfl ?_
      refine wp_getI flX12_82 sh_128 rfl C dX12_colourHere_29 ?_
      refine wp_iald sh_134 (by omega) C dX12_colourHere_32 ?_
      have hte := T.2.2 t.1 (by omega)
      refine wp_top (show _ = tx t.1 by rw [show (h 128 11).toNat = t.1 by omega]; exact hte.1) ?_
      refine wp_goto (tgt := 37) C dX12_colourHere_33 (by decide) ?_
      exact q37 (tx t.1) (Or.inl ⟨by omega, by omega, rfl, by omega, by omega⟩)


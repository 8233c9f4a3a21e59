/-! ===== Reader: tokens, numbers, colours, words ===== -/
def TX (h : Hp) (tx : Nat → Int) (L : Nat) : Prop := h 6 1 = (L : Int) ∧ L ≤ 200 ∧ ∀ i, i < L → h 7 i = tx i ∧ 0 ≤ tx i ∧ tx i ≤ 255
theorem TX.of {h hx : Hp} {tx : Nat → Int} {L : Nat} (T : TX h tx L) (f1 : hx 6 1 = h 6 1) (f2 : ∀ b, hx 7 b = h 7 b) : TX hx tx L := ⟨f1.trans T.1, T.2.1, fun i hi => by rw [f2 i]; exact T.2.2 i hi⟩
def frT (h hx : Hp) : Prop := ∀ a b, ¬ (a = 8 ∧ (b = 4 ∨ b = 5)) → hx a b = h a b
theorem TX.fr {h hx : Hp} {tx : Nat → Int} {L : Nat} (T : TX h tx L) (f : frT h hx) : TX hx tx L := T.of (f 6 1 (by omega)) (fun b => f 7 b (by omega))
theorem frT_4 {h hx : Hp} {v : Int} (f : frT h hx) : frT h (upd2 hx 8 4 v) := fun a b hab => by unfold upd2; rw [if_neg (by omega)]; exact f a b hab
theorem frT_5 {h hx : Hp} {v : Int} (f : frT h hx) : frT h (upd2 hx 8 5 v) := fun a b hab => by unfold upd2; rw [if_neg (by omega)]; exact f a b hab
theorem frT_0 {h : Hp} : frT h h := fun _ _ _ => rfl
theorem frT_t {h hx hy : Hp} (f : frT h hx) (g : frT hx hy) : frT h hy := fun a b hab => (g a b hab).trans (f a b hab)
def RD (h : Hp) (t : Nat × Nat) : Prop := h 8 4 = (t.1 : Int) ∧ h 8 5 = (t.2 : Int)
def txI (tx : Nat → Int) (L q : Nat) : Int := if q < L then tx q else -1
theorem c_atI (E : En) (h : Hp) (tx : Nat → Int) (L : Nat) (T : TX h tx L) (p : Int) (q : Nat) (hq : p = (q : Int)) (hq9 : q ≤ 400) : Ct 0 yX8_at cX8_at 2 (some .int) E [rv E 6, iv p] h (Ret (iv (txI tx L q)) h) := by
  have h1 := c_at E h p (by have := T.1; have := T.2.1; omega) (by omega)
  have e : txt h p = txI tx L q := by
    unfold txt txI
    rw [T.1]
    by_cases z : q < L
    · rw [if_pos z, if_pos (by omega), hq, Int.toNat_natCast]; exact (T.2.2 q z).1
    · rw [if_neg z, if_neg (by omega)]
  rw [e] at h1
  exact h1
theorem c_atT (E : En) (h : Hp) (tx : Nat → Int) (L : Nat) (T : TX h tx L) (p : Int) (q : Nat) (hq : p = (q : Int)) (hl : q < L) : Ct 0 yX8_at cX8_at 2 (some .int) E [rv E 6, iv p] h (Ret (iv (tx q)) h) := by
  have h1 := c_atI E h tx L T p q hq (by have := T.2.1; omega)
  unfold txI at h1
  rw [if_pos hl] at h1
  exact h1
set_option maxRecDepth 100000 in
set_option maxHeartbeats 4000000 in
theorem c_isDigit (E : En) (h : Hp) (a : Int) (ha : -2147483648 ≤ a ∧ a ≤ 2147483647) : Ct 1 yX6_isDigit cX6_isDigit 1 (some .boolean) E [iv a] h (Ret (iv (bi (48 ≤ a ∧ a ≤ 57))) h) := by
  refine ct_intro (by decide) (Nat.le_of_ble_eq_true rfl) (fun G C => ?_)
  show Wp G E 1 (Ret (iv (bi (48 ≤ a ∧ a ≤ 57))) h) 0 [(0, iv a)] [] h
  refine wp_iload_n 0 C dX6_isDigit_0 rfl rfl ?_
  refine wp_bipush (v := 48) C dX6_isDigit_1 rfl ?_
  refine wp_icmp_lt (tgt := 16) (by omega) (by omega) C dX6_isDigit_3 (by decide) (fun c_3 => ?_) (fun c_3 => ?_)
  · skip
    refine wp_iconst (v := 0) C dX6_isDigit_16 rfl ?_
    refine wp_zret (by first | exact bi_01 | omega) C dX6_isDigit_17 ?_
    exact ret_b0 (by omega)
  · skip
    refine wp_iload_n 0 C dX6_isDigit_6 rfl rfl ?_
    refine wp_bipush (v := 57) C dX6_isDigit_7 rfl ?_
    refine wp_icmp_gt (tgt := 16) (by omega) (by omega) C dX6_isDigit_9 (by decide) (fun c_9 => ?_) (fun c_9 => ?_)
    · skip
      refine wp_iconst (v := 0) C dX6_isDigit_16 rfl ?_
      refine wp_zret (by first | exact bi_01 | omega) C dX6_isDigit_17 ?_
      exact ret_b0 (by omega)
    · skip
      refine wp_iconst (v := 1) C dX6_isDigit_12 rfl ?_
      refine wp_goto (tgt := 17) C dX6_isDigit_13 (by decide) ?_
      refine wp_zret (by first | exact bi_01 | omega) C dX6_isDigit_17 ?_
      exact ret_b1 (by omega)

set_option maxRecDepth 100000 in
set_option maxHeartbeats 4000000 in
theorem c_isLetter (E : En) (h : Hp) (a : Int) (ha : -2147483648 ≤ a ∧ a ≤ 2147483647) : Ct 1 yX6_isLetter cX6_isLetter 1 (some .boolean) E [iv a] h (Ret (iv (bi (97 ≤ a ∧ a ≤ 122))) h) := by
  refine ct_intro (by decide) (Nat.le_of_ble_eq_true rfl) (fun G C => ?_)
  show Wp G E 1 (Ret (iv (bi (97 ≤ a ∧ a ≤ 122))) h) 0 [(0, iv a)] [] h
  refine wp_iload_n 0 C dX6_isLetter_0 rfl rfl ?_
  refine wp_bipush (v := 97) C dX6_isLetter_1 rfl ?_
  refine wp_icmp_lt (tgt := 16) (by omega) (by omega) C dX6_isLetter_3 (by decide) (fun c_3 => ?_) (fun c_3 => ?_)
  · skip
    refine wp_iconst (v := 0) C dX6_isLetter_16 rfl ?_
    refine wp_zret (by first | exact bi_01 | omega) C dX6_isLetter_17 ?_
    exact ret_b0 (by omega)
  · skip
    refine wp_iload_n 0 C dX6_isLetter_6 rfl rfl ?_
    refine wp_bipush (v := 122) C dX6_isLetter_7 rfl ?_
    refine wp_icmp_gt (tgt := 16) (by omega) (by omega) C dX6_isLetter_9 (by decide) (fun c_9 => ?_) (fun c_9 => ?_)
    · skip
      refine wp_iconst (v := 0) C dX6_isLetter_16 rfl ?_
      refine wp_zret (by first | exact bi_01 | omega) C dX6_isLetter_17 ?_
      exact ret_b0 (by omega)
    · skip
      refine wp_iconst (v := 1) C dX6_isLetter_12 rfl ?_
      refine wp_goto (tgt := 17) C dX6_isLetter_13 (by decide) ?_
      refine wp_zret (by first | exact bi_01 | omega) C dX6_isLetter_17 ?_
      exact ret_b1 (by omega)

set_option maxRecDepth 100000 in
set_option maxHeartbeats 4000000 in
theorem c_digH (E : En) (h : Hp) (tx : Nat → Int) (L : Nat) (T : TX h tx L) (q : Nat) (h4 : h 8 4 = (q : Int)) (hq9 : q ≤ 200) : Ct 2 yX6_isDigitHere cX6_isDigitHere 1 (some .boolean) E [rv E 8] h (Ret (iv (bi (q < L ∧ 48 ≤ tx q ∧ tx q ≤ 57))) h) := by
  have hxr : -1 ≤ txI tx L q ∧ txI tx L q ≤ 255 := by
    unfold txI; split
    · have := T.2.2 q (by assumption); omega
    · decide
  refine ct_intro (by decide) (Nat.le_of_ble_eq_true rfl) (fun G C => ?_)
  show Wp G E 1 (Ret (iv (bi (q < L ∧ 48 ≤ tx q ∧ tx q ≤ 57))) h) 0 [(0, rv E 8)] [] h
  refine wp_aloadR_n 0 C dX6_isDigitHere_0 rfl rfl ?_
  refine wp_getR flX6_33 sh_8 rfl C dX6_isDigitHere_1 ?_
  refine wp_aloadR_n 0 C dX6_isDigitHere_4 rfl rfl ?_
  refine wp_getI flX6_24 sh_8 rfl C dX6_isDigitHere_5 ?_
  refine wp_callVp (rest := []) (c_atI E h tx L T (h 8 4) q h4 (by omega)) svX6_49 sh_6 (by decide) rfl rfl (Nat.le_of_ble_eq_true rfl) C dX6_isDigitHere_8 ?_
  refine wp_callSp (rest := []) (c_isDigit E h (txI tx L q) (by omega)) ssX6_117 (by decide) rfl rfl (Nat.le_of_ble_eq_true rfl) C dX6_isDigitHere_11 ?_
  refine wp_zret (by first | exact bi_01 | omega) C dX6_isDigitHere_14 ?_
  exact ret_iv (bi_c (by unfold txI; split <;> omega))

set_option maxRecDepth 100000 in
set_option maxHeartbeats 4000000 in
theorem c_next (E : En) (h : Hp) (tx : Nat → Int) (L : Nat) (T : TX h tx L) (t : Nat × Nat) (h5 : h 8 5 = (t.2 : Int)) (ht : t.2 ≤ L) : Ct 3 yX6_nextToken cX6_nextToken 2 none E [rv E 8] h (fun v hx => v = none ∧ RD hx (nx tx L t) ∧ frT h hx) := by
  have hL := T.2.1
  refine ct_intro (by decide) (Nat.le_of_ble_eq_true rfl) (fun G C => ?_)
  show Wp G E 2 (fun v hx => v = none ∧ RD hx (nx tx L t) ∧ frT h hx) 0 [(0, rv E 8)] [] h
  refine wp_aloadR_n 0 C dX6_nextToken_0 rfl rfl ?_
  refine wp_aloadR_n 0 C dX6_nextToken_1 rfl rfl ?_
  refine wp_getI flX6_27 sh_8 rfl C dX6_nextToken_2 ?_
  refine wp_putI fpX6_24 sh_8 rfl C dX6_nextToken_5 ?_
  obtain ⟨H1, e_H1⟩ : ∃ z : Hp, z = upd2 h 8 4 (h 8 5) := ⟨_, rfl⟩
  refine wp_heq e_H1 ?_
  have q51 : ∀ (q : Nat) (hx : Hp), (q = (tkS tx L t.2)) → (q ≤ L) → (hx 8 4 = (q : Int)) → (frT h hx) → Wp G E 2 (fun v hx => v = none ∧ RD hx (nx tx L t) ∧ frT h hx) 51 [(0, rv E 8)] [] hx := by
    intro q hx hqs hq h4 hf
    have TH := T.fr hf
    have hL1 := TH.1
    refine wp_aloadR_n 0 C dX6_nextToken_51 rfl rfl ?_
    refine wp_aloadR_n 0 C dX6_nextToken_52 rfl rfl ?_
    refine wp_getI flX6_24 sh_8 rfl C dX6_nextToken_53 ?_
    refine wp_putI fpX6_27 sh_8 rfl C dX6_nextToken_56 ?_
    obtain ⟨H2, e_H2⟩ : ∃ z : Hp, z = upd2 hx 8 5 (hx 8 4) := ⟨_, rfl⟩
    refine wp_heq e_H2 ?_
    refine wp_aloadR_n 0 C dX6_nextToken_59 rfl rfl ?_
    refine wp_getI flX6_24 sh_8 rfl C dX6_nextToken_60 ?_
    refine wp_top (rdu_nj e_H2 (by decide)) ?_
    refine wp_aloadR_n 0 C dX6_nextToken_63 rfl rfl ?_
    refine wp_getR flX6_33 sh_8 rfl C dX6_nextToken_64 ?_
    refine wp_getI flX6_44 sh_6 rfl C dX6_nextToken_67 ?_
    refine wp_top (rdu_ne e_H2 (by decide)) ?_
    refine wp_icmp_lt (tgt := 74) (by omega) (by omega) C dX6_nextToken_70 (by decide) (fun c_70 => ?_) (fun c_70 => ?_)
    · skip
      have htr := T.2.2 q (by omega)
      have hqL : q < L := by omega
      refine wp_aloadR_n 0 C dX6_nextToken_74 rfl rfl ?_
      refine wp_dup rfl C dX6_nextToken_75 ?_
      refine wp_getI flX6_27 sh_8 rfl C dX6_nextToken_76 ?_
      refine wp_top (rdu_eq e_H2) ?_
      refine wp_iconst (v := 1) C dX6_nextToken_79 rfl ?_
      refine wp_iadd C dX6_nextToken_80 ?_
      refine wp_putI fpX6_27 sh_8 rfl C dX6_nextToken_81 ?_
      obtain ⟨H3, e_H3⟩ : ∃ z : Hp, z = upd2 H2 8 5 ((hx 8 4) + 1) := ⟨_, rfl⟩
      refine wp_heq e_H3 ?_
      have f7 : frT h H3 := by rw [e_H3, e_H2]; exact (frT_5 (frT_5 hf))
      have T7 := T.fr f7
      have g4 : H3 8 4 = (q : Int) := by rw [e_H3, e_H2]; exact h4
      have g5 : H3 8 5 = ((q + 1 : Nat) : Int) := by rw [e_H3, upd2_s, h4]; rfl
      refine wp_aloadR_n 0 C dX6_nextToken_84 rfl rfl ?_
      refine wp_getR flX6_33 sh_8 rfl C dX6_nextToken_85 ?_
      refine wp_aloadR_n 0 C dX6_nextToken_88 rfl rfl ?_
      refine wp_getI flX6_24 sh_8 rfl C dX6_nextToken_89 ?_
      refine wp_top ((rdu_nj e_H3 (by decide)).trans (rdu_nj e_H2 (by decide))) ?_
      refine wp_callVp (rest := []) (c_atT E H3 tx L T7 (hx 8 4) q h4 hqL) svX6_49 sh_6 (by decide) rfl rfl (Nat.le_of_ble_eq_true rfl) C dX6_nextToken_92 ?_
      refine wp_callSp (rest := []) (c_isLetter E H3 (tx q) (by omega)) ssX6_114 (by decide) rfl rfl (Nat.le_of_ble_eq_true rfl) C dX6_nextToken_95 ?_
      refine wp_nm (fun w1 e_w1 => ?_)
      refine wp_istore_n (ls' := [(0, rv E 8), (1, iv w1)]) [1, 0] C dX6_nextToken_98 rfl (by decide) rfl ?_
      have q1210 : ∀ n9 : Nat, ∀ (e : Nat) (hy : Hp), (q + 1 ≤ e ∧ e ≤ L) → (scn (soP tx q) L e = tkE tx L t.2) → (hy 8 4 = (q : Int)) → (hy 8 5 = (e : Int)) → (frT h hy) → ((w1 = 1 ∧ srt (tx q) = 1) ∨ (w1 = 0 ∧ srt (tx q) = 2)) → L - e < n9 → Wp G E 2 (fun v hx => v = none ∧ RD hx (nx tx L t) ∧ frT h hx) 121 [(0, rv E 8), (1, iv w1)] [] hy := by
        intro n9
        induction n9 with
        | zero => intro e hy he hs2 g4y g5y hfy hc hm9; exact absurd hm9 (Nat.not_lt_zero _)
        | succ n9 ih9 =>
          intro e hy he hs2 g4y g5y hfy hc hm9
          have ih9_121 := ih9
          have Ty := T.fr hfy
          have hLy := Ty.1
          refine wp_aloadR_n 0 C dX6_nextToken_121 rfl rfl ?_
          refine wp_getI flX6_27 sh_8 rfl C dX6_nextToken_122 ?_
          refine wp_aloadR_n 0 C dX6_nextToken_125 rfl rfl ?_
          refine wp_getR flX6_33 sh_8 rfl C dX6_nextToken_126 ?_
          refine wp_getI flX6_44 sh_6 rfl C dX6_nextToken_129 ?_
          refine wp_icmp_ge (tgt := 189) (by omega) (by omega) C dX6_nextToken_132 (by decide) (fun c_132 => ?_) (fun c_132 => ?_)
          · skip
            refine wp_vret C dX6_nextToken_189 ?_
            exact ⟨rfl, ⟨by show hy 8 4 = (tkS tx L t.2 : Int); rw [← hqs]; exact g4y, by show hy 8 5 = (tkE tx L t.2 : Int); rw [← hs2, scn_f (fun z => absurd z.1 (by omega))]; exact g5y⟩, hfy⟩
          · skip
            refine wp_iload_n 1 C dX6_nextToken_135 rfl rfl ?_
            refine wp_if_eq (tgt := 159) (by omega) C dX6_nextToken_136 (by decide) (fun c_136 => ?_) (fun c_136 => ?_)
            · skip
              refine wp_aloadR_n 0 C dX6_nextToken_159 rfl rfl ?_
              refine wp_getR flX6_33 sh_8 rfl C dX6_nextToken_160 ?_
              refine wp_aloadR_n 0 C dX6_nextToken_163 rfl rfl ?_
              refine wp_getI flX6_27 sh_8 rfl C dX6_nextToken_164 ?_
              have hte := T.2.2 e (by omega)
              refine wp_callVp (rest := []) (c_atT E hy tx L Ty (hy 8 5) e g5y (by omega)) svX6_49 sh_6 (by decide) rfl rfl (Nat.le_of_ble_eq_true rfl) C dX6_nextToken_167 ?_
              refine wp_callSp (rest := []) (c_isDigit E hy (tx e) (by omega)) ssX6_117 (by decide) rfl rfl (Nat.le_of_ble_eq_true rfl) C dX6_nextToken_170 ?_
              refine wp_ifb_eq (tgt := 189) C dX6_nextToken_173 (by decide) (fun c_173 => ?_) (fun c_173 => ?_)
              · skip
                refine wp_vret C dX6_nextToken_189 ?_
                exact ⟨rfl, ⟨by show hy 8 4 = (tkS tx L t.2 : Int); rw [← hqs]; exact g4y, by show hy 8 5 = (tkE tx L t.2 : Int); rw [← hs2, scn_f (fun z => absurd (of_decide_eq_true z.2) (fun y => c_173 (srt_2.mp (by omega))))]; exact g5y⟩, hfy⟩
              · skip
                refine wp_aloadR_n 0 C dX6_nextToken_176 rfl rfl ?_
                refine wp_dup rfl C dX6_nextToken_177 ?_
                refine wp_getI flX6_27 sh_8 rfl C dX6_nextToken_178 ?_
                refine wp_iconst (v := 1) C dX6_nextToken_181 rfl ?_
                refine wp_iadd C dX6_nextToken_182 ?_
                refine wp_putI fpX6_27 sh_8 rfl C dX6_nextToken_183 ?_
                obtain ⟨H4, e_H4⟩ : ∃ z : Hp, z = upd2 hy 8 5 ((hy 8 5) + 1) := ⟨_, rfl⟩
                refine wp_heq e_H4 ?_
                refine wp_goto (tgt := 121) C dX6_nextToken_186 (by decide) ?_
                exact ih9_121 (e + 1) H4 (by omega) ((scn_t (by omega) (decide_eq_true ⟨by omega, (by rw [srt_2.mpr c_173]; omega)⟩)).symm.trans hs2) (by rw [e_H4]; exact g4y) (by rw [e_H4, upd2_s, g5y]; rfl) (by rw [e_H4]; exact frT_5 hfy) (hc) (by omega)
            · skip
              refine wp_aloadR_n 0 C dX6_nextToken_139 rfl rfl ?_
              refine wp_getR flX6_33 sh_8 rfl C dX6_nextToken_140 ?_
              refine wp_aloadR_n 0 C dX6_nextToken_143 rfl rfl ?_
              refine wp_getI flX6_27 sh_8 rfl C dX6_nextToken_144 ?_
              have hte := T.2.2 e (by omega)
              refine wp_callVp (rest := []) (c_atT E hy tx L Ty (hy 8 5) e g5y (by omega)) svX6_49 sh_6 (by decide) rfl rfl (Nat.le_of_ble_eq_true rfl) C dX6_nextToken_147 ?_
              refine wp_callSp (rest := []) (c_isLetter E hy (tx e) (by omega)) ssX6_114 (by decide) rfl rfl (Nat.le_of_ble_eq_true rfl) C dX6_nextToken_150 ?_
              refine wp_ifb_eq (tgt := 189) C dX6_nextToken_153 (by decide) (fun c_153 => ?_) (fun c_153 => ?_)
              · skip
                refine wp_vret C dX6_nextToken_189 ?_
                exact ⟨rfl, ⟨by show hy 8 4 = (tkS tx L t.2 : Int); rw [← hqs]; exact g4y, by show hy 8 5 = (tkE tx L t.2 : Int); rw [← hs2, scn_f (fun z => absurd (of_decide_eq_true z.2) (fun y => c_153 (srt_1.mp (by omega))))]; exact g5y⟩, hfy⟩
              · skip
                refine wp_goto (tgt := 176) C dX6_nextToken_156 (by decide) ?_
                refine wp_aloadR_n 0 C dX6_nextToken_176 rfl rfl ?_
                refine wp_dup rfl C dX6_nextToken_177 ?_
                refine wp_getI flX6_27 sh_8 rfl C dX6_nextToken_178 ?_
                refine wp_iconst (v := 1) C dX6_nextToken_181 rfl ?_
                refine wp_iadd C dX6_nextToken_182 ?_
                refine wp_putI fpX6_27 sh_8 rfl C dX6_nextToken_183 ?_
                obtain ⟨H5, e_H5⟩ : ∃ z : Hp, z = upd2 hy 8 5 ((hy 8 5) + 1) := ⟨_, rfl⟩
                refine wp_heq e_H5 ?_
                refine wp_goto (tgt := 121) C dX6_nextToken_186 (by decide) ?_
                exact ih9_121 (e + 1) H5 (by omega) ((scn_t (by omega) (decide_eq_true ⟨by omega, (by rw [srt_1.mpr c_153]; omega)⟩)).symm.trans hs2) (by rw [e_H5]; exact g4y) (by rw [e_H5, upd2_s, g5y]; rfl) (by rw [e_H5]; exact frT_5 hfy) (hc) (by omega)
      have q121 : ∀ (e : Nat) (hy : Hp), (q + 1 ≤ e ∧ e ≤ L) → (scn (soP tx q) L e = tkE tx L t.2) → (hy 8 4 = (q : Int)) → (hy 8 5 = (e : Int)) → (frT h hy) → ((w1 = 1 ∧ srt (tx q) = 1) ∨ (w1 = 0 ∧ srt (tx q) = 2)) → Wp G E 2 (fun v hx => v = none ∧ RD hx (nx tx L t) ∧ frT h hx) 121 [(0, rv E 8), (1, iv w1)] [] hy := fun e hy he hs2 g4y g5y hfy hc => q1210 _ e hy he hs2 g4y g5y hfy hc (Nat.lt_succ_self _)
      have hw1 := bi_01 (p := 97 ≤ tx q ∧ tx q ≤ 122)
      rw [← e_w1] at hw1
      refine wp_iload_n 1 C dX6_nextToken_99 rfl rfl ?_
      refine wp_if_ne (tgt := 121) (by omega) C dX6_nextToken_100 (by decide) (fun c_100 => ?_) (fun c_100 => ?_)
      · skip
        exact q121 (q + 1) H3 (by omega) (by unfold tkE; rw [← hqs, if_neg (by omega)]) (g4) (g5) (f7) (Or.inl ⟨by have := (bi_01 (p := 97 ≤ tx q ∧ tx q ≤ 122)); omega, srt_1.mpr (bi_1.mp (by have := (bi_01 (p := 97 ≤ tx q ∧ tx q ≤ 122)); omega))⟩)
      · skip
        refine wp_aloadR_n 0 C dX6_nextToken_103 rfl rfl ?_
        refine wp_getR flX6_33 sh_8 rfl C dX6_nextToken_104 ?_
        refine wp_aloadR_n 0 C dX6_nextToken_107 rfl rfl ?_
        refine wp_getI flX6_24 sh_8 rfl C dX6_nextToken_108 ?_
        refine wp_top ((rdu_nj e_H3 (by decide)).trans (rdu_nj e_H2 (by decide))) ?_
        refine wp_callVp (rest := []) (c_atT E H3 tx L T7 (hx 8 4) q h4 hqL) svX6_49 sh_6 (by decide) rfl rfl (Nat.le_of_ble_eq_true rfl) C dX6_nextToken_111 ?_
        refine wp_callSp (rest := []) (c_isDigit E H3 (tx q) (by omega)) ssX6_117 (by decide) rfl rfl (Nat.le_of_ble_eq_true rfl) C dX6_nextToken_114 ?_
        refine wp_ifb_ne (tgt := 121) C dX6_nextToken_117 (by decide) (fun c_117 => ?_) (fun c_117 => ?_)
        · skip
          exact q121 (q + 1) H3 (by omega) (by unfold tkE; rw [← hqs, if_neg (by omega)]) (g4) (g5) (f7) (Or.inr ⟨c_100, srt_2.mpr c_117⟩)
        · skip
          refine wp_vret C dX6_nextToken_120 ?_
          exact ⟨rfl, ⟨by show H3 8 4 = (tkS tx L t.2 : Int); rw [← hqs]; exact g4, by show H3 8 5 = (tkE tx L t.2 : Int); unfold tkE; rw [← hqs, if_neg (by omega), scn_f (fun z => (of_decide_eq_true z.2).1 (by unfold srt; rw [if_neg (bi_0.mp (by omega)), if_neg c_117]))]; exact g5⟩, f7⟩
    · skip
      refine wp_vret C dX6_nextToken_73 ?_
      exact ⟨rfl, ⟨by rw [e_H2]; show hx 8 4 = (tkS tx L t.2 : Int); rw [← hqs]; exact h4, by rw [e_H2, upd2_s]; show hx 8 4 = (tkE tx L t.2 : Int); unfold tkE; rw [if_pos (by omega), ← hqs]; exact h4⟩, by rw [e_H2]; exact frT_5 hf⟩
  have q80 : ∀ n9 : Nat, ∀ (q : Nat) (hx : Hp), (q ≤ L) → (scn (bkP tx) L q = (tkS tx L t.2)) → (hx 8 4 = (q : Int)) → (frT h hx) → L - q < n9 → Wp G E 2 (fun v hx => v = none ∧ RD hx (nx tx L t) ∧ frT h hx) 8 [(0, rv E 8)] [] hx := by
    intro n9
    induction n9 with
    | zero => intro q hx hq hs h4 hf hm9; exact absurd hm9 (Nat.not_lt_zero _)
    | succ n9 ih9 =>
      intro q hx hq hs h4 hf hm9
      have ih9_8 := ih9
      have TH := T.fr hf
      have hL1 := TH.1
      refine wp_aloadR_n 0 C dX6_nextToken_8 rfl rfl ?_
      refine wp_getI flX6_24 sh_8 rfl C dX6_nextToken_9 ?_
      refine wp_aloadR_n 0 C dX6_nextToken_12 rfl rfl ?_
      refine wp_getR flX6_33 sh_8 rfl C dX6_nextToken_13 ?_
      refine wp_getI flX6_44 sh_6 rfl C dX6_nextToken_16 ?_
      refine wp_icmp_ge (tgt := 51) (by omega) (by omega) C dX6_nextToken_19 (by decide) (fun c_19 => ?_) (fun c_19 => ?_)
      · skip
        exact q51 q hx (by rw [← hs]; exact (scn_f (fun z => absurd z.1 (by omega))).symm) (by omega) (h4) (hf)
      · skip
        refine wp_aloadR_n 0 C dX6_nextToken_22 rfl rfl ?_
        refine wp_getR flX6_33 sh_8 rfl C dX6_nextToken_23 ?_
        refine wp_aloadR_n 0 C dX6_nextToken_26 rfl rfl ?_
        refine wp_getI flX6_24 sh_8 rfl C dX6_nextToken_27 ?_
        have htr := T.2.2 q (by omega)
        refine wp_callVp (rest := []) (c_atT E hx tx L TH (hx 8 4) q h4 (by omega)) svX6_49 sh_6 (by decide) rfl rfl (Nat.le_of_ble_eq_true rfl) C dX6_nextToken_30 ?_
        refine wp_bipush (v := 32) C dX6_nextToken_33 rfl ?_
        refine wp_icmp_ne (tgt := 51) (by omega) (by omega) C dX6_nextToken_35 (by decide) (fun c_35 => ?_) (fun c_35 => ?_)
        · skip
          exact q51 q hx (by rw [← hs]; exact (scn_f (fun z => c_35 (of_decide_eq_true z.2))).symm) (by omega) (h4) (hf)
        · skip
          refine wp_aloadR_n 0 C dX6_nextToken_38 rfl rfl ?_
          refine wp_dup rfl C dX6_nextToken_39 ?_
          refine wp_getI flX6_24 sh_8 rfl C dX6_nextToken_40 ?_
          refine wp_iconst (v := 1) C dX6_nextToken_43 rfl ?_
          refine wp_iadd C dX6_nextToken_44 ?_
          refine wp_putI fpX6_24 sh_8 rfl C dX6_nextToken_45 ?_
          obtain ⟨H6, e_H6⟩ : ∃ z : Hp, z = upd2 hx 8 4 ((hx 8 4) + 1) := ⟨_, rfl⟩
          refine wp_heq e_H6 ?_
          refine wp_goto (tgt := 8) C dX6_nextToken_48 (by decide) ?_
          exact ih9_8 (q + 1) H6 (by omega) ((scn_t (by omega) (decide_eq_true c_35)).symm.trans hs) (by rw [e_H6, upd2_s, h4]; rfl) (by rw [e_H6]; exact frT_4 hf) (by omega)
  have q8 : ∀ (q : Nat) (hx : Hp), (q ≤ L) → (scn (bkP tx) L q = (tkS tx L t.2)) → (hx 8 4 = (q : Int)) → (frT h hx) → Wp G E 2 (fun v hx => v = none ∧ RD hx (nx tx L t) ∧ frT h hx) 8 [(0, rv E 8)] [] hx := fun q hx hq hs h4 hf => q80 _ q hx hq hs h4 hf (Nat.lt_succ_self _)
  exact q8 t.2 H1 (ht) (rfl) (by rw [e_H1, upd2_s]; exact h5) (by rw [e_H1]; exact frT_4 frT_0)

set_option maxRecDepth 100000 in
set_option maxHeartbeats 4000000 in
theorem c_isHere (E : En) (h : Hp) (w : Nat) (hw5 : w < 5) (tx : Nat → Int) (L : Nat) (T : TX h tx L) (t : Nat × Nat) (D : RD h t) (B : tkB tx L t) : Ct 4 yX6_isHere cX6_isHere 3 (some .boolean) E [rv E 8, .ref (E.2.2.2.2.1 w)] h (Ret (iv (bi (isW w tx t = true))) h) := by
  have hL := T.2.1
  have d4 := D.1
  have d5 := D.2
  have b1 := B.1
  have b2 := B.2.1
  have hlw := lenL_r hw5
  refine ct_intro (by decide) (Nat.le_of_ble_eq_true rfl) (fun G C => ?_)
  show Wp G E 3 (Ret (iv (bi (isW w tx t = true))) h) 0 [(0, rv E 8), (1, .ref (E.2.2.2.2.1 w))] [] h
  refine wp_aloadR_n 0 C dX6_isHere_0 rfl rfl ?_
  refine wp_getI flX6_27 sh_8 rfl C dX6_isHere_1 ?_
  refine wp_aloadR_n 0 C dX6_isHere_4 rfl rfl ?_
  refine wp_getI flX6_24 sh_8 rfl C dX6_isHere_5 ?_
  refine wp_isub C dX6_isHere_8 ?_
  refine wp_aload_n 1 C dX6_isHere_9 rfl rfl ?_
  refine wp_callKp (rest := [iv ((h 8 5) - (h 8 4))]) (c_slen E h w hw5) skX6_108 hw5 (by decide) rfl rfl (Nat.le_of_ble_eq_true rfl) C dX6_isHere_10 ?_
  refine wp_icmp_eq (tgt := 18) (by omega) (by omega) C dX6_isHere_13 (by decide) (fun c_13 => ?_) (fun c_13 => ?_)
  · skip
    refine wp_iconst (v := 0) C dX6_isHere_18 rfl ?_
    refine wp_istore_n (ls' := [(0, rv E 8), (1, .ref (E.2.2.2.2.1 w)), (2, iv 0)]) [1, 2, 0] C dX6_isHere_19 rfl (by decide) rfl ?_
    have q200 : ∀ n9 : Nat, ∀ (x2 : Int), (0 ≤ x2 ∧ x2 ≤ (lenL.getD w 0 : Int)) → (wAll w tx t.1 x2.toNat = true) → ((lenL.getD w 0 : Int) - x2).toNat < n9 → Wp G E 3 (Ret (iv (bi (isW w tx t = true))) h) 20 [(0, rv E 8), (1, .ref (E.2.2.2.2.1 w)), (2, iv x2)] [] h := by
      intro n9
      induction n9 with
      | zero => intro x2 h2 ha hm9; exact absurd hm9 (Nat.not_lt_zero _)
      | succ n9 ih9 =>
        intro x2 h2 ha hm9
        have ih9_20 := ih9
        refine wp_iload_n 2 C dX6_isHere_20 rfl rfl ?_
        refine wp_aload_n 1 C dX6_isHere_21 rfl rfl ?_
        refine wp_callKp (rest := [iv x2]) (c_slen E h w hw5) skX6_108 hw5 (by decide) rfl rfl (Nat.le_of_ble_eq_true rfl) C dX6_isHere_22 ?_
        refine wp_icmp_ge (tgt := 57) (by omega) (by omega) C dX6_isHere_25 (by decide) (fun c_25 => ?_) (fun c_25 => ?_)
        · skip
          refine wp_iconst (v := 1) C dX6_isHere_57 rfl ?_
          refine wp_zret (by first | exact bi_01 | omega) C dX6_isHere_58 ?_
          exact ret_b1 (by unfold isW; rw [decide_eq_true (by omega), Bool.true_and, show lenL.getD w 0 = x2.toNat by omega]; exact ha)
        · skip
          refine wp_aloadR_n 0 C dX6_isHere_28 rfl rfl ?_
          refine wp_getR flX6_33 sh_8 rfl C dX6_isHere_29 ?_
          refine wp_aloadR_n 0 C dX6_isHere_32 rfl rfl ?_
          refine wp_getI flX6_24 sh_8 rfl C dX6_isHere_33 ?_
          refine wp_iload_n 2 C dX6_isHere_36 rfl rfl ?_
          refine wp_iadd C dX6_isHere_37 ?_
          have hte := T.2.2 (t.1 + x2.toNat) (by omega)
          have hcr := wCh_r (j := x2.toNat) hw5 (by omega)
          refine wp_callVp (rest := []) (c_atT E h tx L T (h 8 4 + x2) (t.1 + x2.toNat) (by omega) (by omega)) svX6_49 sh_6 (by decide) rfl rfl (Nat.le_of_ble_eq_true rfl) C dX6_isHere_38 ?_
          refine wp_aload_n 1 C dX6_isHere_41 rfl rfl ?_
          refine wp_iload_n 2 C dX6_isHere_42 rfl rfl ?_
          refine wp_callKp (rest := [iv (tx (t.1 + x2.toNat))]) (c_charAt E h w hw5 x2 (by omega)) skX6_110 hw5 (by decide) rfl rfl (Nat.le_of_ble_eq_true rfl) C dX6_isHere_43 ?_
          refine wp_icmp_eq (tgt := 51) (by omega) (by omega) C dX6_isHere_46 (by decide) (fun c_46 => ?_) (fun c_46 => ?_)
          · skip
            obtain ⟨v1, e_v1⟩ : ∃ z : Int, z = x2 + (1) := ⟨_, rfl⟩
            refine wp_iinc (j := 2) (y := v1) (ls' := [(0, rv E 8), (1, .ref (E.2.2.2.2.1 w)), (2, iv v1)]) [1, 2, 0] C dX6_isHere_51 rfl e_v1 (by decide) rfl ?_
            refine wp_goto (tgt := 20) C dX6_isHere_54 (by decide) ?_
            exact ih9_20 v1 (by omega) (by rw [e_v1, show (x2 + 1).toNat = x2.toNat + 1 by omega, wAll, ha, Bool.true_and]; exact decide_eq_true c_46) (by omega)
          · skip
            refine wp_iconst (v := 0) C dX6_isHere_49 rfl ?_
            refine wp_zret (by first | exact bi_01 | omega) C dX6_isHere_50 ?_
            exact ret_b0 (fun z => by unfold isW at z; rw [wAll_f c_46 (lenL.getD w 0) (by omega), Bool.and_false] at z; cases z)
    have q20 : ∀ (x2 : Int), (0 ≤ x2 ∧ x2 ≤ (lenL.getD w 0 : Int)) → (wAll w tx t.1 x2.toNat = true) → Wp G E 3 (Ret (iv (bi (isW w tx t = true))) h) 20 [(0, rv E 8), (1, .ref (E.2.2.2.2.1 w)), (2, iv x2)] [] h := fun x2 h2 ha => q200 _ x2 h2 ha (Nat.lt_succ_self _)
    exact q20 0 (by omega) (rfl)
  · skip
    refine wp_iconst (v := 0) C dX6_isHere_16 rfl ?_
    refine wp_zret (by first | exact bi_01 | omega) C dX6_isHere_17 ?_
    exact ret_b0 (fun z => by unfold isW at z; rw [Bool.and_eq_true] at z; have := of_decide_eq_true z.1; omega)

set_option maxRecDepth 100000 in
set_option maxHeartbeats 4000000 in
theorem c_wordH (E : En) (h : Hp) (tx : Nat → Int) (L : Nat) (T : TX h tx L) (t : Nat × Nat) (D : RD h t) (B : tkB tx L t) : Ct 5 yX6_wordHere cX6_wordHere 1 (some .int) E [rv E 8] h (Ret (iv (wrdV tx t)) h) := by
  refine ct_intro (by decide) (Nat.le_of_ble_eq_true rfl) (fun G C => ?_)
  show Wp G E 1 (Ret (iv (wrdV tx t)) h) 0 [(0, rv E 8)] [] h
  refine wp_aloadR_n 0 C dX6_wordHere_0 rfl rfl ?_
  refine wp_ldcS (i := 0) (by decide) C dX6_wordHere_1 ?_
  refine wp_callVp (rest := []) (c_isHere E h 0 (by decide) tx L T t D B) svX6_98 sh_8 (by decide) rfl rfl (Nat.le_of_ble_eq_true rfl) C dX6_wordHere_3 ?_
  refine wp_ifb_eq (tgt := 11) C dX6_wordHere_6 (by decide) (fun c_6 => ?_) (fun c_6 => ?_)
  · skip
    refine wp_aloadR_n 0 C dX6_wordHere_11 rfl rfl ?_
    refine wp_ldcS (i := 1) (by decide) C dX6_wordHere_12 ?_
    refine wp_callVp (rest := []) (c_isHere E h 1 (by decide) tx L T t D B) svX6_98 sh_8 (by decide) rfl rfl (Nat.le_of_ble_eq_true rfl) C dX6_wordHere_14 ?_
    refine wp_ifb_eq (tgt := 22) C dX6_wordHere_17 (by decide) (fun c_17 => ?_) (fun c_17 => ?_)
    · skip
      refine wp_aloadR_n 0 C dX6_wordHere_22 rfl rfl ?_
      refine wp_ldcS (i := 2) (by decide) C dX6_wordHere_23 ?_
      refine wp_callVp (rest := []) (c_isHere E h 2 (by decide) tx L T t D B) svX6_98 sh_8 (by decide) rfl rfl (Nat.le_of_ble_eq_true rfl) C dX6_wordHere_25 ?_
      refine wp_ifb_eq (tgt := 33) C dX6_wordHere_28 (by decide) (fun c_28 => ?_) (fun c_28 => ?_)
      · skip
        refine wp_aloadR_n 0 C dX6_wordHere_33 rfl rfl ?_
        refine wp_ldcS (i := 3) (by decide) C dX6_wordHere_34 ?_
        refine wp_callVp (rest := []) (c_isHere E h 3 (by decide) tx L T t D B) svX6_98 sh_8 (by decide) rfl rfl (Nat.le_of_ble_eq_true rfl) C dX6_wordHere_36 ?_
        refine wp_ifb_eq (tgt := 46) C dX6_wordHere_39 (by decide) (fun c_39 => ?_) (fun c_39 => ?_)
        · skip
          refine wp_iconst (v := (-1)) C dX6_wordHere_46 rfl ?_
          refine wp_iret C dX6_wordHere_47 ?_
          exact ret_iv (by unfold wrdV; rw [if_neg c_6, if_neg c_17, if_neg c_28, if_neg c_39])
        · skip
          refine wp_iconst (v := 3) C dX6_wordHere_42 rfl ?_
          refine wp_goto (tgt := 47) C dX6_wordHere_43 (by decide) ?_
          refine wp_iret C dX6_wordHere_47 ?_
          exact ret_iv (by unfold wrdV; rw [if_neg c_6, if_neg c_17, if_neg c_28, if_pos c_39])
      · skip
        refine wp_iconst (v := 2) C dX6_wordHere_31 rfl ?_
        refine wp_iret C dX6_wordHere_32 ?_
        exact ret_iv (by unfold wrdV; rw [if_neg c_6, if_neg c_17, if_pos c_28])
    · skip
      refine wp_iconst (v := 1) C dX6_wordHere_20 rfl ?_
      refine wp_iret C dX6_wordHere_21 ?_
      exact ret_iv (by unfold wrdV; rw [if_neg c_6, if_pos c_17])
  · skip
    refine wp_iconst (v := 0) C dX6_wordHere_9 rfl ?_
    refine wp_iret C dX6_wordHere_10 ?_
    exact ret_iv (by unfold wrdV; rw [if_pos c_6])

set_option maxRecDepth 100000 in
set_option maxHeartbeats 4000000 in
theorem c_readN (E : En) (h : Hp) (tx : Nat → Int) (L : Nat) (T : TX h tx L) (t : Nat × Nat) (D : RD h t) (B : tkB tx L t) (line : Int) (hln : 0 ≤ line ∧ line < 10) (slot : Int) (hsl : 0 ≤ slot ∧ slot < 4) (dg : Nat) (hdg : dg ≤ 15) (dgi lo hi : Int) (hdi : dgi = (dg : Int)) (hlo : 0 ≤ lo ∧ lo ≤ 1000) (hhi : -1000 ≤ hi ∧ hi ≤ 9000000000000000000) : Ct 4 yX6_readNumber cX6_readNumber 11 (some .boolean) E [rv E 8, iv line, iv slot, iv dgi, jv lo, jv hi] h (fun v hx => v = some (iv (bi (lo ≤ numH tx L dg t ∧ numH tx L dg t ≤ hi))) ∧ (((lo ≤ numH tx L dg t ∧ numH tx L dg t ≤ hi) ∧ hx (11 + line.toNat) slot.toNat = numH tx L dg t ∧ RD hx (nx tx L t) ∧ (∀ a b, ¬ (a = 8 ∧ (b = 4 ∨ b = 5)) → ¬ (a = 11 + line.toNat ∧ b = slot.toNat) → hx a b = h a b)) ∨ (¬ (lo ≤ numH tx L dg t ∧ numH tx L dg t ≤ hi) ∧ hx = h))) := by
  have hL := T.2.1
  have d4 := D.1
  have d5 := D.2
  have b1 := B.1
  have b2 := B.2.1
  refine ct_intro (by decide) (Nat.le_of_ble_eq_true rfl) (fun G C => ?_)
  show Wp G E 11 (fun v hx => v = some (iv (bi (lo ≤ numH tx L dg t ∧ numH tx L dg t ≤ hi))) ∧ (((lo ≤ numH tx L dg t ∧ numH tx L dg t ≤ hi) ∧ hx (11 + line.toNat) slot.toNat = numH tx L dg t ∧ RD hx (nx tx L t) ∧ (∀ a b, ¬ (a = 8 ∧ (b = 4 ∨ b = 5)) → ¬ (a = 11 + line.toNat ∧ b = slot.toNat) → hx a b = h a b)) ∨ (¬ (lo ≤ numH tx L dg t ∧ numH tx L dg t ≤ hi) ∧ hx = h))) 0 [(0, rv E 8), (1, iv line), (2, iv slot), (3, iv dgi), (4, jv lo), (6, jv hi)] [] h
  refine wp_aloadR_n 0 C dX6_readNumber_0 rfl rfl ?_
  refine wp_callVp (rest := []) (c_digH E h tx L T t.1 d4 (by omega)) svX6_79 sh_8 (by decide) rfl rfl (Nat.le_of_ble_eq_true rfl) C dX6_readNumber_1 ?_
  refine wp_ifb_eq (tgt := 20) C dX6_readNumber_4 (by decide) (fun c_4 => ?_) (fun c_4 => ?_)
  · skip
    refine wp_iconst (v := 0) C dX6_readNumber_20 rfl ?_
    refine wp_zret (by first | exact bi_01 | omega) C dX6_readNumber_21 ?_
    exact ⟨by rw [bi_f (show ¬ (lo ≤ numH tx L dg t ∧ numH tx L dg t ≤ hi) from (by unfold numH; rw [if_neg (fun z => c_4 z.1)]; omega))], Or.inr ⟨by unfold numH; rw [if_neg (fun z => c_4 z.1)]; omega, rfl⟩⟩
  · skip
    refine wp_aloadR_n 0 C dX6_readNumber_7 rfl rfl ?_
    refine wp_getI flX6_27 sh_8 rfl C dX6_readNumber_8 ?_
    refine wp_aloadR_n 0 C dX6_readNumber_11 rfl rfl ?_
    refine wp_getI flX6_24 sh_8 rfl C dX6_readNumber_12 ?_
    refine wp_isub C dX6_readNumber_15 ?_
    refine wp_iload_n 3 C dX6_readNumber_16 rfl rfl ?_
    refine wp_icmp_le (tgt := 22) (by omega) (by omega) C dX6_readNumber_17 (by decide) (fun c_17 => ?_) (fun c_17 => ?_)
    · skip
      refine wp_lconst (v := 0) C dX6_readNumber_22 rfl ?_
      refine wp_lstore (ls' := [(0, rv E 8), (1, iv line), (2, iv slot), (3, iv dgi), (4, jv lo), (6, jv hi), (8, jv 0)]) [1, 2, 3, 4, 5, 6, 0] C dX6_readNumber_23 (by decide) rfl ?_
      refine wp_aloadR_n 0 C dX6_readNumber_25 rfl rfl ?_
      refine wp_getI flX6_24 sh_8 rfl C dX6_readNumber_26 ?_
      refine wp_nm (fun v1 e_v1 => ?_)
      refine wp_istore (ls' := [(0, rv E 8), (1, iv line), (2, iv slot), (3, iv dgi), (4, jv lo), (6, jv hi), (8, jv 0), (10, iv v1)]) [1, 2, 3, 4, 5, 6, 7, 0] C dX6_readNumber_29 (by decide) rfl ?_
      have q310 : ∀ n9 : Nat, ∀ (x8 : Int) (x10 : Int), ((t.1 : Int) ≤ x10 ∧ x10 ≤ t.2) → (x8 = numA tx t.1 (x10.toNat - t.1)) → ((t.2 : Int) - x10).toNat < n9 → Wp G E 11 (fun v hx => v = some (iv (bi (lo ≤ numH tx L dg t ∧ numH tx L dg t ≤ hi))) ∧ (((lo ≤ numH tx L dg t ∧ numH tx L dg t ≤ hi) ∧ hx (11 + line.toNat) slot.toNat = numH tx L dg t ∧ RD hx (nx tx L t) ∧ (∀ a b, ¬ (a = 8 ∧ (b = 4 ∨ b = 5)) → ¬ (a = 11 + line.toNat ∧ b = slot.toNat) → hx a b = h a b)) ∨ (¬ (lo ≤ numH tx L dg t ∧ numH tx L dg t ≤ hi) ∧ hx = h))) 31 [(0, rv E 8), (1, iv line), (2, iv slot), (3, iv dgi), (4, jv lo), (6, jv hi), (8, jv x8), (10, iv x10)] [] h := by
        intro n9
        induction n9 with
        | zero => intro x8 x10 h10 h8 hm9; exact absurd hm9 (Nat.not_lt_zero _)
        | succ n9 ih9 =>
          intro x8 x10 h10 h8 hm9
          have ih9_31 := ih9
          have hnr := numA_t (k := x10.toNat - t.1) B c_4.2 (by omega) (by omega)
          rw [← h8] at hnr
          refine wp_iload 7 C dX6_readNumber_31 rfl ?_
          refine wp_aloadR_n 0 C dX6_readNumber_33 rfl rfl ?_
          refine wp_getI flX6_27 sh_8 rfl C dX6_readNumber_34 ?_
          refine wp_icmp_ge (tgt := 69) (by omega) (by omega) C dX6_readNumber_37 (by decide) (fun c_37 => ?_) (fun c_37 => ?_)
          · skip
            have hnh : numH tx L dg t = x8 := by unfold numH; rw [if_pos ⟨c_4, by omega⟩, h8, show x10.toNat = t.2 by omega]
            refine wp_lload 6 C dX6_readNumber_69 rfl ?_
            refine wp_lload 4 C dX6_readNumber_71 rfl ?_
            refine wp_lcmp_lt (tgt := 85) (by omega) (by omega) C dX6_readNumber_73 dX6_readNumber_74 (by decide) (fun c_73 => ?_) (fun c_73 => ?_)
            · skip
              refine wp_iconst (v := 0) C dX6_readNumber_85 rfl ?_
              refine wp_zret (by first | exact bi_01 | omega) C dX6_readNumber_86 ?_
              exact ⟨by rw [bi_f (show ¬ (lo ≤ numH tx L dg t ∧ numH tx L dg t ≤ hi) by omega)], Or.inr ⟨by omega, rfl⟩⟩
            · skip
              refine wp_lload 6 C dX6_readNumber_77 rfl ?_
              refine wp_lload 5 C dX6_readNumber_79 rfl ?_
              refine wp_lcmp_le (tgt := 87) (by omega) (by omega) C dX6_readNumber_81 dX6_readNumber_82 (by decide) (fun c_81 => ?_) (fun c_81 => ?_)
              · skip
                refine wp_aloadR_n 0 C dX6_readNumber_87 rfl rfl ?_
                refine wp_getR flX6_17 sh_8 rfl C dX6_readNumber_88 ?_
                refine wp_iload_n 1 C dX6_readNumber_91 rfl rfl ?_
                refine wp_aald sh_10 (Or.inr ⟨rfl, rfl, rfl⟩) (by omega) C dX6_readNumber_92 ?_
                refine wp_iload_n 2 C dX6_readNumber_93 rfl rfl ?_
                refine wp_lload 6 C dX6_readNumber_94 rfl ?_
                refine wp_last (shr_11 (by omega)) (by omega) C dX6_readNumber_96 ?_
                obtain ⟨H2, e_H2⟩ : ∃ z : Hp, z = upd2 h (11 + line.toNat) slot.toNat x8 := ⟨_, rfl⟩
                refine wp_heq e_H2 ?_
                refine wp_aloadR_n 0 C dX6_readNumber_97 rfl rfl ?_
                have TH : TX H2 tx L := T.of (by rw [e_H2]; unfold upd2; rw [if_neg (by omega)]) (fun b => by rw [e_H2]; unfold upd2; rw [if_neg (by omega)])
                have hH5 : H2 8 5 = (t.2 : Int) := by rw [e_H2]; unfold upd2; rw [if_neg (by omega)]; exact d5
                refine wp_callV (rest := []) (c_next E H2 tx L TH t hH5 b2) svX6_37 sh_8 (by decide) rfl rfl (Nat.le_of_ble_eq_true rfl) C dX6_readNumber_98 (fun r0 hx pf => ?_)
                obtain ⟨rfl, D2, f2⟩ := pf
                refine wp_iconst (v := 1) C dX6_readNumber_101 rfl ?_
                refine wp_zret (by first | exact bi_01 | omega) C dX6_readNumber_102 ?_
                exact ⟨by rw [bi_t (show lo ≤ numH tx L dg t ∧ numH tx L dg t ≤ hi by omega)], Or.inl ⟨by omega, by rw [f2 _ _ (by omega), e_H2, upd2_s, hnh], D2, fun a b h1 h2 => by rw [f2 a b h1, e_H2]; unfold upd2; rw [if_neg h2]⟩⟩
              · skip
                refine wp_iconst (v := 0) C dX6_readNumber_85 rfl ?_
                refine wp_zret (by first | exact bi_01 | omega) C dX6_readNumber_86 ?_
                exact ⟨by rw [bi_f (show ¬ (lo ≤ numH tx L dg t ∧ numH tx L dg t ≤ hi) by omega)], Or.inr ⟨by omega, rfl⟩⟩
          · skip
            refine wp_lload 6 C dX6_readNumber_40 rfl ?_
            refine wp_ldc2 (v := 10) C (mT (i := 419) (by decide +kernel) rfl) dX6_readNumber_42 ?_
            refine wp_lmul C dX6_readNumber_45 ?_
            refine wp_aloadR_n 0 C dX6_readNumber_46 rfl rfl ?_
            refine wp_getR flX6_33 sh_8 rfl C dX6_readNumber_47 ?_
            refine wp_iload 7 C dX6_readNumber_50 rfl ?_
            have hte := T.2.2 x10.toNat (by omega)
            refine wp_callVp (rest := [jv (x8 * 10)]) (c_atT E h tx L T x10 x10.toNat (by omega) (by omega)) svX6_49 sh_6 (by decide) rfl rfl (Nat.le_of_ble_eq_true rfl) C dX6_readNumber_52 ?_
            refine wp_i2l (by omega) C dX6_readNumber_55 ?_
            refine wp_ladd C dX6_readNumber_56 ?_
            refine wp_ldc2 (v := 48) C (mT (i := 428) (by decide +kernel) rfl) dX6_readNumber_57 ?_
            refine wp_lsub C dX6_readNumber_60 ?_
            refine wp_nml (fun v3 e_v3 => ?_)
            refine wp_lstore (ls' := [(0, rv E 8), (1, iv line), (2, iv slot), (3, iv dgi), (4, jv lo), (6, jv hi), (8, jv v3), (10, iv x10)]) [1, 2, 3, 4, 5, 6, 0, 7] C dX6_readNumber_61 (by decide) rfl ?_
            obtain ⟨v4, e_v4⟩ : ∃ z : Int, z = x10 + (1) := ⟨_, rfl⟩
            refine wp_iinc (j := 7) (y := v4) (ls' := [(0, rv E 8), (1, iv line), (2, iv slot), (3, iv dgi), (4, jv lo), (6, jv hi), (8, jv v3), (10, iv v4)]) [1, 2, 3, 4, 5, 6, 7, 0] C dX6_readNumber_63 rfl e_v4 (by decide) rfl ?_
            refine wp_goto (tgt := 31) C dX6_readNumber_66 (by decide) ?_
            exact ih9_31 v3 v4 (by omega) (by rw [e_v3, e_v4, show (x10 + 1).toNat - t.1 = (x10.toNat - t.1) + 1 by omega, numA, ← h8, show t.1 + (x10.toNat - t.1) = x10.toNat by omega]) (by omega)
      have q31 : ∀ (x8 : Int) (x10 : Int), ((t.1 : Int) ≤ x10 ∧ x10 ≤ t.2) → (x8 = numA tx t.1 (x10.toNat - t.1)) → Wp G E 11 (fun v hx => v = some (iv (bi (lo ≤ numH tx L dg t ∧ numH tx L dg t ≤ hi))) ∧ (((lo ≤ numH tx L dg t ∧ numH tx L dg t ≤ hi) ∧ hx (11 + line.toNat) slot.toNat = numH tx L dg t ∧ RD hx (nx tx L t) ∧ (∀ a b, ¬ (a = 8 ∧ (b = 4 ∨ b = 5)) → ¬ (a = 11 + line.toNat ∧ b = slot.toNat) → hx a b = h a b)) ∨ (¬ (lo ≤ numH tx L dg t ∧ numH tx L dg t ≤ hi) ∧ hx = h))) 31 [(0, rv E 8), (1, iv line), (2, iv slot), (3, iv dgi), (4, jv lo), (6, jv hi), (8, jv x8), (10, iv x10)] [] h := fun x8 x10 h10 h8 => q310 _ x8 x10 h10 h8 (Nat.lt_succ_self _)
      exact q31 0 v1 (by omega) (by rw [show (v1).toNat - t.1 = 0 by omega]; rfl)
    · skip
      refine wp_iconst (v := 0) C dX6_readNumber_20 rfl ?_
      refine wp_zret (by first | exact bi_01 | omega) C dX6_readNumber_21 ?_
      exact ⟨by rw [bi_f (show ¬ (lo ≤ numH tx L dg t ∧ numH tx L dg t ≤ hi) from (by unfold numH; rw [if_neg (fun z => absurd z.2 (by omega))]; omega))], Or.inr ⟨by unfold numH; rw [if_neg (fun z => absurd z.2 (by omega))]; omega, rfl⟩⟩

set_option maxRecDepth 100000 in
set_option maxHeartbeats 4000000 in
theorem c_readC (E : En) (h : Hp) (tx : Nat → Int) (L : Nat) (T : TX h tx L) (t : Nat × Nat) (D : RD h t) (B : tkB tx L t) (line : Int) (hln : 0 ≤ line ∧ line < 10) : Ct 5 yX6_readColour cX6_readColour 3 (some .boolean) E [rv E 8, iv line] h (fun v hx => v = some (iv (bi (¬ colH tx L t = -1))) ∧ ((¬ colH tx L t = -1 ∧ hx (11 + line.toNat) 1 = colH tx L t ∧ RD hx (nx tx L t) ∧ (∀ a b, ¬ (a = 8 ∧ (b = 4 ∨ b = 5)) → ¬ (a = 11 + line.toNat ∧ b = 1) → hx a b = h a b)) ∨ (colH tx L t = -1 ∧ hx = h))) := by
  have hL := T.2.1
  have d4 := D.1
  have d5 := D.2
  have b1 := B.1
  have b2 := B.2.1
  have hcr := colH_r tx L t
  refine ct_intro (by decide) (Nat.le_of_ble_eq_true rfl) (fun G C => ?_)
  show Wp G E 3 (fun v hx => v = some (iv (bi (¬ colH tx L t = -1))) ∧ ((¬ colH tx L t = -1 ∧ hx (11 + line.toNat) 1 = colH tx L t ∧ RD hx (nx tx L t) ∧ (∀ a b, ¬ (a = 8 ∧ (b = 4 ∨ b = 5)) → ¬ (a = 11 + line.toNat ∧ b = 1) → hx a b = h a b)) ∨ (colH tx L t = -1 ∧ hx = h))) 0 [(0, rv E 8), (1, iv line)] [] h
  refine wp_aloadR_n 0 C dX6_readColour_0 rfl rfl ?_
  refine wp_getI flX6_27 sh_8 rfl C dX6_readColour_1 ?_
  refine wp_aloadR_n 0 C dX6_readColour_4 rfl rfl ?_
  refine wp_getI flX6_24 sh_8 rfl C dX6_readColour_5 ?_
  refine wp_isub C dX6_readColour_8 ?_
  refine wp_iconst (v := 1) C dX6_readColour_9 rfl ?_
  refine wp_icmp_ne (tgt := 33) (by omega) (by omega) C dX6_readColour_10 (by decide) (fun c_10 => ?_) (fun c_10 => ?_)
  · skip
    refine wp_iconst (v := (-1)) C dX6_readColour_33 rfl ?_
    refine wp_top (show _ = colH tx L t by unfold colH; rw [if_neg (by omega)]) ?_
    refine wp_nm (fun w2 e_w2 => ?_)
    refine wp_istore_n (ls' := [(0, rv E 8), (1, iv line), (2, iv w2)]) [1, 2, 0] C dX6_readColour_34 rfl (by decide) rfl ?_
    refine wp_iload_n 2 C dX6_readColour_35 rfl rfl ?_
    refine wp_if_ge (tgt := 41) (by omega) C dX6_readColour_36 (by decide) (fun c_36 => ?_) (fun c_36 => ?_)
    · skip
      refine wp_aloadR_n 0 C dX6_readColour_41 rfl rfl ?_
      refine wp_getR flX6_17 sh_8 rfl C dX6_readColour_42 ?_
      refine wp_iload_n 1 C dX6_readColour_45 rfl rfl ?_
      refine wp_aald sh_10 (Or.inr ⟨rfl, rfl, rfl⟩) (by omega) C dX6_readColour_46 ?_
      refine wp_iconst (v := 1) C dX6_readColour_47 rfl ?_
      refine wp_iload_n 2 C dX6_readColour_48 rfl rfl ?_
      refine wp_i2l (by omega) C dX6_readColour_49 ?_
      refine wp_last (shr_11 (by omega)) (by omega) C dX6_readColour_50 ?_
      obtain ⟨H1, e_H1⟩ : ∃ z : Hp, z = upd2 h (11 + line.toNat) 1 w2 := ⟨_, rfl⟩
      refine wp_heq e_H1 ?_
      refine wp_aloadR_n 0 C dX6_readColour_51 rfl rfl ?_
      have TH : TX H1 tx L := T.of (by rw [e_H1]; unfold upd2; rw [if_neg (by omega)]) (fun b => by rw [e_H1]; unfold upd2; rw [if_neg (by omega)])
      have hH5 : H1 8 5 = (t.2 : Int) := by rw [e_H1]; unfold upd2; rw [if_neg (by omega)]; exact d5
      refine wp_callV (rest := []) (c_next E H1 tx L TH t hH5 b2) svX6_37 sh_8 (by decide) rfl rfl (Nat.le_of_ble_eq_true rfl) C dX6_readColour_52 (fun r0 hx pf => ?_)
      obtain ⟨rfl, D2, f2⟩ := pf
      refine wp_iconst (v := 1) C dX6_readColour_55 rfl ?_
      refine wp_zret (by first | exact bi_01 | omega) C dX6_readColour_56 ?_
      exact ⟨by rw [bi_t (show ¬ colH tx L t = -1 by omega)], Or.inl ⟨by omega, by rw [f2 _ _ (by omega), e_H1, upd2_s, e_w2], D2, fun a b h1 h2 => by rw [f2 a b h1, e_H1]; unfold upd2; rw [if_neg h2]⟩⟩
    · skip
      refine wp_iconst (v := 0) C dX6_readColour_39 rfl ?_
      refine wp_zret (by first | exact bi_01 | omega) C dX6_readColour_40 ?_
      exact ⟨by rw [bi_f (show ¬ ¬ colH tx L t = -1 by omega)], Or.inr ⟨by omega, rfl⟩⟩
  · skip
    refine wp_ldcS (i := 4) (by decide) C dX6_readColour_13 ?_
    refine wp_aloadR_n 0 C dX6_readColour_15 rfl rfl ?_
    refine wp_getR flX6_33 sh_8 rfl C dX6_readColour_16 ?_
    refine wp_aloadR_n 0 C dX6_readColour_19 rfl rfl ?_
    refine wp_getI flX6_24 sh_8 rfl C dX6_readColour_20 ?_
    have hte := T.2.2 t.1 (by omega)
    refine wp_callVp (rest := [.ref (E.2.2.2.2.1 4)]) (c_atT E h tx L T (h 8 4) t.1 d4 (by omega)) svX6_49 sh_6 (by decide) rfl rfl (Nat.le_of_ble_eq_true rfl) C dX6_readColour_23 ?_
    refine wp_i2c (by omega) C dX6_readColour_26 ?_
    refine wp_callKp (rest := []) (c_six E h 4 (by decide) (tx t.1) (by omega)) skX6_91 (by decide) (by decide) rfl rfl (Nat.le_of_ble_eq_true rfl) C dX6_readColour_27 ?_
    refine wp_goto (tgt := 34) C dX6_readColour_30 (by decide) ?_
    refine wp_top (show _ = colH tx L t by rw [col_ix]; unfold colH; rw [if_pos (show t.1 < L ∧ t.2 = t.1 + 1 by omega)]) ?_
    refine wp_nm (fun w2 e_w2 => ?_)
    refine wp_istore_n (ls' := [(0, rv E 8), (1, iv line), (2, iv w2)]) [1, 2, 0] C dX6_readColour_34 rfl (by decide) rfl ?_
    refine wp_iload_n 2 C dX6_readColour_35 rfl rfl ?_
    refine wp_if_ge (tgt := 41) (by omega) C dX6_readColour_36 (by decide) (fun c_36 => ?_) (fun c_36 => ?_)
    · skip
      refine wp_aloadR_n 0 C dX6_readColour_41 rfl rfl ?_
      refine wp_getR flX6_17 sh_8 rfl C dX6_readColour_42 ?_
      refine wp_iload_n 1 C dX6_readColour_45 rfl rfl ?_
      refine wp_aald sh_10 (Or.inr ⟨rfl, rfl, rfl⟩) (by omega) C dX6_readColour_46 ?_
      refine wp_iconst (v := 1) C dX6_readColour_47 rfl ?_
      refine wp_iload_n 2 C dX6_readColour_48 rfl rfl ?_
      refine wp_i2l (by omega) C dX6_readColour_49 ?_
      refine wp_last (shr_11 (by omega)) (by omega) C dX6_readColour_50 ?_
      obtain ⟨H2, e_H2⟩ : ∃ z : Hp, z = upd2 h (11 + line.toNat) 1 w2 := ⟨_, rfl⟩
      refine wp_heq e_H2 ?_
      refine wp_aloadR_n 0 C dX6_readColour_51 rfl rfl ?_
      have TH : TX H2 tx L := T.of (by rw [e_H2]; unfold upd2; rw [if_neg (by omega)]) (fun b => by rw [e_H2]; unfold upd2; rw [if_neg (by omega)])
      have hH5 : H2 8 5 = (t.2 : Int) := by rw [e_H2]; unfold upd2; rw [if_neg (by omega)]; exact d5
      refine wp_callV (rest := []) (c_next E H2 tx L TH t hH5 b2) svX6_37 sh_8 (by decide) rfl rfl (Nat.le_of_ble_eq_true rfl) C dX6_readColour_52 (fun r0 hx pf => ?_)
      obtain ⟨rfl, D2, f2⟩ := pf
      refine wp_iconst (v := 1) C dX6_readColour_55 rfl ?_
      refine wp_zret (by first | exact bi_01 | omega) C dX6_readColour_56 ?_
      exact ⟨by rw [bi_t (show ¬ colH tx L t = -1 by omega)], Or.inl ⟨by omega, by rw [f2 _ _ (by omega), e_H2, upd2_s, e_w2], D2, fun a b h1 h2 => by rw [f2 a b h1, e_H2]; unfold upd2; rw [if_neg h2]⟩⟩
    · skip
      refine wp_iconst (v := 0) C dX6_readColour_39 rfl ?_
      refine wp_zret (by first | exact bi_01 | omega) C dX6_readColour_40 ?_
      exact ⟨by rw [bi_f (show ¬ ¬ colH tx L t = -1 by omega)], Or.inr ⟨by omega, rfl⟩⟩


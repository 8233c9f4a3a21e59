/-! ===== Reader: readHeap, readLine, faultIn ===== -/
def lnQ (R : LR) (ln : Nat) (h hx : Hp) (v : Option Value) : Prop := v = some (iv (bi (R.1 = true))) ∧ hx 8 4 = (R.2.1.1 : Int) ∧ (R.1 = true → hx 8 5 = (R.2.1.2 : Int) ∧ hx 8 6 = R.2.2.1 ∧ hx (11 + ln) 0 = R.2.2.2.2.1 ∧ hx (11 + ln) 1 = R.2.2.2.2.2.1 ∧ hx (11 + ln) 2 = R.2.2.2.2.2.2.1 ∧ hx (11 + ln) 3 = R.2.2.2.2.2.2.2) ∧ (∀ a b, ¬ (a = 8 ∧ (b = 4 ∨ b = 5 ∨ b = 6)) → a ≠ 11 + ln → hx a b = h a b)
def stR (h hx : Hp) (ln : Nat) (t : Nat × Nat) (hp v c s k : Int) : Prop := RD hx t ∧ hx 8 6 = hp ∧ hx (11 + ln) 0 = v ∧ hx (11 + ln) 1 = c ∧ hx (11 + ln) 2 = s ∧ hx (11 + ln) 3 = k ∧ (∀ a b, ¬ (a = 8 ∧ (b = 4 ∨ b = 5 ∨ b = 6)) → a ≠ 11 + ln → hx a b = h a b)
theorem stR_T {h hx : Hp} {ln L : Nat} {t : Nat × Nat} {hp v c s k : Int} {tx : Nat → Int} (S : stR h hx ln t hp v c s k) (T : TX h tx L) : TX hx tx L := T.of (S.2.2.2.2.2.2 6 1 (by omega) (by omega)) (fun b => S.2.2.2.2.2.2 7 b (by omega) (by omega))
theorem stR_next {h hx hy : Hp} {ln : Nat} {t t2 : Nat × Nat} {hp v c s k : Int} (S : stR h hx ln t hp v c s k) (D : RD hy t2) (f : frT hx hy) : stR h hy ln t2 hp v c s k := by
  obtain ⟨s1, s2, s3, s4, s5, s6, s7⟩ := S
  exact ⟨D, (f 8 6 (by omega)).trans s2, (f _ 0 (by omega)).trans s3, (f _ 1 (by omega)).trans s4, (f _ 2 (by omega)).trans s5, (f _ 3 (by omega)).trans s6, fun a b h1 h2 => (f a b (by omega)).trans (s7 a b h1 h2)⟩
theorem stR_0 {h hx hy : Hp} {ln : Nat} {t t2 : Nat × Nat} {hp v v2 c s k : Int} (S : stR h hx ln t hp v c s k) (D : RD hy t2) (e : hy (11 + ln) 0 = v2) (f : ∀ a b, ¬ (a = 8 ∧ (b = 4 ∨ b = 5)) → ¬ (a = 11 + ln ∧ b = 0) → hy a b = hx a b) : stR h hy ln t2 hp v2 c s k := by
  obtain ⟨s1, s2, s3, s4, s5, s6, s7⟩ := S
  exact ⟨D, (f 8 6 (by omega) (by omega)).trans s2, e, (f _ 1 (by omega) (by omega)).trans s4, (f _ 2 (by omega) (by omega)).trans s5, (f _ 3 (by omega) (by omega)).trans s6, fun a b h1 h2 => (f a b (by omega) (by omega)).trans (s7 a b h1 h2)⟩
theorem stR_1 {h hx hy : Hp} {ln : Nat} {t t2 : Nat × Nat} {hp v v2 c s k : Int} (S : stR h hx ln t hp v c s k) (D : RD hy t2) (e : hy (11 + ln) 1 = v2) (f : ∀ a b, ¬ (a = 8 ∧ (b = 4 ∨ b = 5)) → ¬ (a = 11 + ln ∧ b = 1) → hy a b = hx a b) : stR h hy ln t2 hp v v2 s k := by
  obtain ⟨s1, s2, s3, s4, s5, s6, s7⟩ := S
  exact ⟨D, (f 8 6 (by omega) (by omega)).trans s2, (f _ 0 (by omega) (by omega)).trans s3, e, (f _ 2 (by omega) (by omega)).trans s5, (f _ 3 (by omega) (by omega)).trans s6, fun a b h1 h2 => (f a b (by omega) (by omega)).trans (s7 a b h1 h2)⟩
theorem stR_2 {h hx hy : Hp} {ln : Nat} {t t2 : Nat × Nat} {hp v v2 c s k : Int} (S : stR h hx ln t hp v c s k) (D : RD hy t2) (e : hy (11 + ln) 2 = v2) (f : ∀ a b, ¬ (a = 8 ∧ (b = 4 ∨ b = 5)) → ¬ (a = 11 + ln ∧ b = 2) → hy a b = hx a b) : stR h hy ln t2 hp v c v2 k := by
  obtain ⟨s1, s2, s3, s4, s5, s6, s7⟩ := S
  exact ⟨D, (f 8 6 (by omega) (by omega)).trans s2, (f _ 0 (by omega) (by omega)).trans s3, (f _ 1 (by omega) (by omega)).trans s4, e, (f _ 3 (by omega) (by omega)).trans s6, fun a b h1 h2 => (f a b (by omega) (by omega)).trans (s7 a b h1 h2)⟩
theorem stR_3 {h hx hy : Hp} {ln : Nat} {t t2 : Nat × Nat} {hp v v2 c s k : Int} (S : stR h hx ln t hp v c s k) (D : RD hy t2) (e : hy (11 + ln) 3 = v2) (f : ∀ a b, ¬ (a = 8 ∧ (b = 4 ∨ b = 5)) → ¬ (a = 11 + ln ∧ b = 3) → hy a b = hx a b) : stR h hy ln t2 hp v c s v2 := by
  obtain ⟨s1, s2, s3, s4, s5, s6, s7⟩ := S
  exact ⟨D, (f 8 6 (by omega) (by omega)).trans s2, (f _ 0 (by omega) (by omega)).trans s3, (f _ 1 (by omega) (by omega)).trans s4, (f _ 2 (by omega) (by omega)).trans s5, e, fun a b h1 h2 => (f a b (by omega) (by omega)).trans (s7 a b h1 h2)⟩
theorem lnQ_t {h hx : Hp} {ln : Nat} {t : Nat × Nat} {hp w v c s k : Int} (S : stR h hx ln t hp v c s k) : lnQ (true, t, hp, w, v, c, s, k) ln h hx (some (iv 1)) := by
  obtain ⟨s1, s2, s3, s4, s5, s6, s7⟩ := S
  exact ⟨by rw [bi_t rfl], s1.1, fun _ => ⟨s1.2, s2, s3, s4, s5, s6⟩, s7⟩
theorem lnQ_f {h hx : Hp} {ln : Nat} {t : Nat × Nat} {hp v c s k : Int} (S : stR h hx ln t hp v c s k) : lnQ (noL t) ln h hx (some (iv 0)) := by
  obtain ⟨s1, s2, s3, s4, s5, s6, s7⟩ := S
  exact ⟨by rw [bi_f (fun z => by cases z)], s1.1, (fun z => by cases z), s7⟩
set_option maxRecDepth 100000 in
set_option maxHeartbeats 4000000 in
theorem c_readH (E : En) (h : Hp) (tx : Nat → Int) (L : Nat) (T : TX h tx L) (t : Nat × Nat) (D : RD h t) (B : tkB tx L t) (line : Int) (hln : 0 ≤ line ∧ line < 10) (hp : Int) (h6 : h 8 6 = hp) (hhp : 0 ≤ hp ∧ hp ≤ 20) (z0 : ∀ j, j < 4 → h (11 + line.toNat) j = 0) : Ct 6 yX6_readHeap cX6_readHeap 2 (some .boolean) E [rv E 8, iv line] h (fun v hx => lnQ (heapR tx L hp t) line.toNat h hx v) := by
  have hL := T.2.1
  have S0 : stR h h line.toNat t hp 0 0 0 0 := ⟨D, h6, z0 0 (by decide), z0 1 (by decide), z0 2 (by decide), z0 3 (by decide), fun _ _ _ _ => rfl⟩
  have B1 : tkB tx L (nx tx L t) := nx_B B.2.1
  have B2 : tkB tx L (nx tx L (nx tx L t)) := nx_B B1.2.1
  have B3 : tkB tx L (nx tx L (nx tx L (nx tx L t))) := nx_B B2.2.1
  have B4 : tkB tx L (nx tx L (nx tx L (nx tx L (nx tx L t)))) := nx_B B3.2.1
  have B5 : tkB tx L (nx tx L (nx tx L (nx tx L (nx tx L (nx tx L t))))) := nx_B B4.2.1
  have hn1 := numH_r (d := 15) B1 (by decide)
  refine ct_intro (by decide) (Nat.le_of_ble_eq_true rfl) (fun G C => ?_)
  show Wp G E 2 (fun v hx => lnQ (heapR tx L hp t) line.toNat h hx v) 0 [(0, rv E 8), (1, iv line)] [] h
  refine wp_aloadR_n 0 C dX6_readHeap_0 rfl rfl ?_
  refine wp_getI flX6_30 sh_8 rfl C dX6_readHeap_1 ?_
  refine wp_bipush (v := 20) C dX6_readHeap_4 rfl ?_
  refine wp_icmp_lt (tgt := 11) (by omega) (by omega) C dX6_readHeap_6 (by decide) (fun c_6 => ?_) (fun c_6 => ?_)
  · skip
    refine wp_aloadR_n 0 C dX6_readHeap_11 rfl rfl ?_
    refine wp_dup rfl C dX6_readHeap_12 ?_
    refine wp_getI flX6_30 sh_8 rfl C dX6_readHeap_13 ?_
    refine wp_iconst (v := 1) C dX6_readHeap_16 rfl ?_
    refine wp_iadd C dX6_readHeap_17 ?_
    refine wp_putI fpX6_30 sh_8 rfl C dX6_readHeap_18 ?_
    obtain ⟨H1, e_H1⟩ : ∃ z : Hp, z = upd2 h 8 6 ((h 8 6) + 1) := ⟨_, rfl⟩
    refine wp_heq e_H1 ?_
    have S1 : stR h H1 line.toNat t (hp + 1) 0 0 0 0 := by
      refine ⟨⟨?_, ?_⟩, ?_, ?_, ?_, ?_, ?_, ?_⟩ <;> rw [e_H1]
      · exact D.1
      · exact D.2
      · rw [upd2_s, h6]
      · unfold upd2; rw [if_neg (by omega)]; exact z0 0 (by decide)
      · unfold upd2; rw [if_neg (by omega)]; exact z0 1 (by decide)
      · unfold upd2; rw [if_neg (by omega)]; exact z0 2 (by decide)
      · unfold upd2; rw [if_neg (by omega)]; exact z0 3 (by decide)
      · intro a b h1 h2; unfold upd2; rw [if_neg (by omega)]
    refine wp_aloadR_n 0 C dX6_readHeap_21 rfl rfl ?_
    refine wp_callV (rest := []) (c_next E H1 tx L (stR_T S1 T) t S1.1.2 B.2.1) svX6_37 sh_8 (by decide) rfl rfl (Nat.le_of_ble_eq_true rfl) C dX6_readHeap_22 (fun r0 hn1 pf => ?_)
    obtain ⟨rfl, D9, f9⟩ := pf
    have S1n := stR_next S1 D9 f9
    refine wp_aloadR_n 0 C dX6_readHeap_25 rfl rfl ?_
    refine wp_iload_n 1 C dX6_readHeap_26 rfl rfl ?_
    refine wp_iconst (v := 0) C dX6_readHeap_27 rfl ?_
    refine wp_bipush (v := 15) C dX6_readHeap_28 rfl ?_
    refine wp_lconst (v := 0) C dX6_readHeap_30 rfl ?_
    refine wp_ldc2 (v := 999999999999999) C (mT (i := 433) (by decide +kernel) rfl) dX6_readHeap_31 ?_
    refine wp_callV (rest := []) (c_readN E hn1 tx L (stR_T S1n T) (nx tx L t) S1n.1 B1 line hln 0 (by decide) 15 (by decide) 15 0 999999999999999 rfl (by decide) (by decide)) svX6_67 sh_8 (by decide) rfl rfl (Nat.le_of_ble_eq_true rfl) C dX6_readHeap_34 (fun r0 hy1 pf => ?_)
    obtain ⟨rfl, ha1⟩ := pf
    refine wp_ifb_eq (tgt := 94) C dX6_readHeap_37 (by decide) (fun c_37 => ?_) (fun c_37 => ?_)
    · skip
      refine wp_iconst (v := 0) C dX6_readHeap_94 rfl ?_
      refine wp_zret (by first | exact bi_01 | omega) C dX6_readHeap_95 ?_
      obtain ⟨-, e9⟩ := ha1.resolve_left (fun z => c_37 z.1)
      rw [e9]
      rw [show heapR tx L hp t = _ from by unfold heapR; rw [if_neg (show ¬ 20 ≤ hp by omega), if_pos (show ¬ 0 ≤ numH tx L 15 (nx tx L t) by omega)]]
      exact lnQ_f S1n
    · skip
      obtain ⟨o1, v1, D1, f1⟩ := ha1.resolve_right (fun z => z.1 c_37)
      have S2 := stR_0 S1n D1 v1 f1
      refine wp_aloadR_n 0 C dX6_readHeap_40 rfl rfl ?_
      refine wp_iload_n 1 C dX6_readHeap_41 rfl rfl ?_
      refine wp_callV (rest := []) (c_readC E hy1 tx L (stR_T S2 T) (nx tx L (nx tx L t)) S2.1 B2 line hln) svX6_76 sh_8 (by decide) rfl rfl (Nat.le_of_ble_eq_true rfl) C dX6_readHeap_42 (fun r0 hy2 pf => ?_)
      obtain ⟨rfl, ha2⟩ := pf
      refine wp_ifb_eq (tgt := 94) C dX6_readHeap_45 (by decide) (fun c_45 => ?_) (fun c_45 => ?_)
      · skip
        refine wp_iconst (v := 0) C dX6_readHeap_94 rfl ?_
        refine wp_zret (by first | exact bi_01 | omega) C dX6_readHeap_95 ?_
        obtain ⟨q9, e9⟩ := ha2.resolve_left (fun z => c_45 z.1)
        rw [e9]
        rw [show heapR tx L hp t = _ from by unfold heapR; rw [if_neg (show ¬ 20 ≤ hp by omega), if_neg (not_not_intro o1.1), if_pos q9]]
        exact lnQ_f S2
      · skip
        obtain ⟨o2, v2, D2, f2⟩ := ha2.resolve_right (fun z => c_45 z.1)
        have S3 := stR_1 S2 D2 v2 f2
        refine wp_aloadR_n 0 C dX6_readHeap_48 rfl rfl ?_
        refine wp_callVp (rest := []) (c_digH E hy2 tx L (stR_T S3 T) (nx tx L (nx tx L (nx tx L t))).1 S3.1.1 (by have := B3.1; have := B3.2.1; omega)) svX6_79 sh_8 (by decide) rfl rfl (Nat.le_of_ble_eq_true rfl) C dX6_readHeap_49 ?_
        refine wp_ifb_eq (tgt := 69) C dX6_readHeap_52 (by decide) (fun c_52 => ?_) (fun c_52 => ?_)
        · skip
          refine wp_aloadR_n 0 C dX6_readHeap_69 rfl rfl ?_
          refine wp_callVp (rest := []) (c_digH E hy2 tx L (stR_T S3 T) (nx tx L (nx tx L (nx tx L t))).1 S3.1.1 (by have := B3.1; have := B3.2.1; omega)) svX6_79 sh_8 (by decide) rfl rfl (Nat.le_of_ble_eq_true rfl) C dX6_readHeap_70 ?_
          refine wp_ifb_eq (tgt := 90) C dX6_readHeap_73 (by decide) (fun c_73 => ?_) (fun c_73 => ?_)
          · skip
            refine wp_iconst (v := 1) C dX6_readHeap_90 rfl ?_
            refine wp_goto (tgt := 95) C dX6_readHeap_91 (by decide) ?_
            refine wp_zret (by first | exact bi_01 | omega) C dX6_readHeap_95 ?_
            rw [show heapR tx L hp t = _ from by unfold heapR; rw [if_neg (show ¬ 20 ≤ hp by omega), if_neg (not_not_intro o1.1), if_neg o2, if_pos c_52]]
            exact lnQ_t S3
          · skip
            exact absurd c_73 c_52
        · skip
          refine wp_aloadR_n 0 C dX6_readHeap_55 rfl rfl ?_
          refine wp_iload_n 1 C dX6_readHeap_56 rfl rfl ?_
          refine wp_iconst (v := 2) C dX6_readHeap_57 rfl ?_
          refine wp_iconst (v := 3) C dX6_readHeap_58 rfl ?_
          refine wp_lconst (v := 0) C dX6_readHeap_59 rfl ?_
          refine wp_ldc2 (v := 999) C (mT (i := 498) (by decide +kernel) rfl) dX6_readHeap_60 ?_
          refine wp_callV (rest := []) (c_readN E hy2 tx L (stR_T S3 T) (nx tx L (nx tx L (nx tx L t))) S3.1 B3 line hln 2 (by decide) 3 (by decide) 3 0 999 rfl (by decide) (by decide)) svX6_67 sh_8 (by decide) rfl rfl (Nat.le_of_ble_eq_true rfl) C dX6_readHeap_63 (fun r0 hy3 pf => ?_)
          obtain ⟨rfl, ha3⟩ := pf
          refine wp_ifb_eq (tgt := 94) C dX6_readHeap_66 (by decide) (fun c_66 => ?_) (fun c_66 => ?_)
          · skip
            refine wp_iconst (v := 0) C dX6_readHeap_94 rfl ?_
            refine wp_zret (by first | exact bi_01 | omega) C dX6_readHeap_95 ?_
            obtain ⟨-, e9⟩ := ha3.resolve_left (fun z => c_66 z.1)
            rw [e9]
            rw [show heapR tx L hp t = _ from by unfold heapR; rw [if_neg (show ¬ 20 ≤ hp by omega), if_neg (not_not_intro o1.1), if_neg o2, if_neg (not_not_intro c_52), if_pos c_66]]
            exact lnQ_f S3
          · skip
            obtain ⟨o3, v3, D3, f3⟩ := ha3.resolve_right (fun z => z.1 c_66)
            have S4 := stR_2 S3 D3 v3 f3
            refine wp_aloadR_n 0 C dX6_readHeap_69 rfl rfl ?_
            refine wp_callVp (rest := []) (c_digH E hy3 tx L (stR_T S4 T) (nx tx L (nx tx L (nx tx L (nx tx L t)))).1 S4.1.1 (by have := B4.1; have := B4.2.1; omega)) svX6_79 sh_8 (by decide) rfl rfl (Nat.le_of_ble_eq_true rfl) C dX6_readHeap_70 ?_
            refine wp_ifb_eq (tgt := 90) C dX6_readHeap_73 (by decide) (fun c_73 => ?_) (fun c_73 => ?_)
            · skip
              refine wp_iconst (v := 1) C dX6_readHeap_90 rfl ?_
              refine wp_goto (tgt := 95) C dX6_readHeap_91 (by decide) ?_
              refine wp_zret (by first | exact bi_01 | omega) C dX6_readHeap_95 ?_
              rw [show heapR tx L hp t = _ from by unfold heapR; rw [if_neg (show ¬ 20 ≤ hp by omega), if_neg (not_not_intro o1.1), if_neg o2, if_neg (not_not_intro c_52), if_neg (not_not_intro o3), if_pos c_73]]
              exact lnQ_t S4
            · skip
              refine wp_aloadR_n 0 C dX6_readHeap_76 rfl rfl ?_
              refine wp_iload_n 1 C dX6_readHeap_77 rfl rfl ?_
              refine wp_iconst (v := 3) C dX6_readHeap_78 rfl ?_
              refine wp_iconst (v := 3) C dX6_readHeap_79 rfl ?_
              refine wp_lconst (v := 0) C dX6_readHeap_80 rfl ?_
              refine wp_ldc2 (v := 99) C (mT (i := 499) (by decide +kernel) rfl) dX6_readHeap_81 ?_
              refine wp_callV (rest := []) (c_readN E hy3 tx L (stR_T S4 T) (nx tx L (nx tx L (nx tx L (nx tx L t)))) S4.1 B4 line hln 3 (by decide) 3 (by decide) 3 0 99 rfl (by decide) (by decide)) svX6_67 sh_8 (by decide) rfl rfl (Nat.le_of_ble_eq_true rfl) C dX6_readHeap_84 (fun r0 hy4 pf => ?_)
              obtain ⟨rfl, ha4⟩ := pf
              refine wp_ifb_eq (tgt := 94) C dX6_readHeap_87 (by decide) (fun c_87 => ?_) (fun c_87 => ?_)
              · skip
                refine wp_iconst (v := 0) C dX6_readHeap_94 rfl ?_
                refine wp_zret (by first | exact bi_01 | omega) C dX6_readHeap_95 ?_
                obtain ⟨-, e9⟩ := ha4.resolve_left (fun z => c_87 z.1)
                rw [e9]
                rw [show heapR tx L hp t = _ from by unfold heapR; rw [if_neg (show ¬ 20 ≤ hp by omega), if_neg (not_not_intro o1.1), if_neg o2, if_neg (not_not_intro c_52), if_neg (not_not_intro o3), if_neg (not_not_intro c_73), if_pos c_87]]
                exact lnQ_f S4
              · skip
                refine wp_iconst (v := 1) C dX6_readHeap_90 rfl ?_
                refine wp_goto (tgt := 95) C dX6_readHeap_91 (by decide) ?_
                refine wp_zret (by first | exact bi_01 | omega) C dX6_readHeap_95 ?_
                obtain ⟨o4, v4, D4, f4⟩ := ha4.resolve_right (fun z => z.1 c_87)
                have S5 := stR_3 S4 D4 v4 f4
                rw [show heapR tx L hp t = _ from by unfold heapR; rw [if_neg (show ¬ 20 ≤ hp by omega), if_neg (not_not_intro o1.1), if_neg o2, if_neg (not_not_intro c_52), if_neg (not_not_intro o3), if_neg (not_not_intro c_73), if_neg (not_not_intro o4)]]
                exact lnQ_t S5
  · skip
    refine wp_iconst (v := 0) C dX6_readHeap_9 rfl ?_
    refine wp_zret (by first | exact bi_01 | omega) C dX6_readHeap_10 ?_
    rw [show heapR tx L hp t = _ from by unfold heapR; rw [if_pos (show 20 ≤ hp by omega)]]
    exact lnQ_f S0

def lnW (R : LR) (ln : Nat) (h hx : Hp) (v : Option Value) : Prop := v = some (iv (bi (R.1 = true))) ∧ hx 8 4 = (R.2.1.1 : Int) ∧ (R.1 = true → hx 8 5 = (R.2.1.2 : Int) ∧ hx 8 6 = R.2.2.1 ∧ hx 9 ln = R.2.2.2.1 ∧ hx (11 + ln) 0 = R.2.2.2.2.1 ∧ hx (11 + ln) 1 = R.2.2.2.2.2.1 ∧ hx (11 + ln) 2 = R.2.2.2.2.2.2.1 ∧ hx (11 + ln) 3 = R.2.2.2.2.2.2.2) ∧ (∀ a b, ¬ (a = 8 ∧ (b = 4 ∨ b = 5 ∨ b = 6)) → a ≠ 11 + ln → ¬ (a = 9 ∧ b = ln) → hx a b = h a b)
theorem lnW_of {R : LR} {ln : Nat} {h h2 hx : Hp} {v : Option Value} {w : Int} (Q : lnQ R ln h2 hx v) (hw : h2 9 ln = w) (hR : R.1 = true → R.2.2.2.1 = w) (f : ∀ a b, a ≠ 11 + ln → ¬ (a = 9 ∧ b = ln) → h2 a b = h a b) : lnW R ln h hx v := by
  obtain ⟨q1, q2, q3, q4⟩ := Q
  refine ⟨q1, q2, fun z => ?_, fun a b h1 h3 h4 => (q4 a b h1 h3).trans (f a b h3 h4)⟩
  obtain ⟨a1, a2, a3, a4, a5, a6⟩ := q3 z
  exact ⟨a1, a2, by rw [q4 9 ln (by omega) (by omega), hw, hR z], a3, a4, a5, a6⟩
theorem heapR_w {tx : Nat → Int} {L : Nat} {hp : Int} {t : Nat × Nat} (h : (heapR tx L hp t).1 = true) : (heapR tx L hp t).2.2.2.1 = 1 := by
  unfold heapR noL at h ⊢
  split at h
  · cases h
  rename_i z1
  rw [if_neg z1]
  split at h
  · cases h
  rename_i z2
  rw [if_neg z2]
  split at h
  · cases h
  rename_i z3
  rw [if_neg z3]
  split at h
  · rename_i z4
    rw [if_pos z4]
  rename_i z4
  rw [if_neg z4]
  split at h
  · cases h
  rename_i z5
  rw [if_neg z5]
  split at h
  · rename_i z6
    rw [if_pos z6]
  rename_i z6
  rw [if_neg z6]
  split at h
  · cases h
  rename_i z7
  rw [if_neg z7]
theorem wrdV_r (tx : Nat → Int) (t : Nat × Nat) : -1 ≤ wrdV tx t ∧ wrdV tx t ≤ 3 := by
  unfold wrdV
  split <;> (try split) <;> (try split) <;> (try split) <;> decide
theorem lnQ_b {h hx : Hp} {ln : Nat} {t t2 : Nat × Nat} {hp w v c s k hp2 v2 c2 s2 k2 : Int} {p : Prop} [Decidable p] {v9 : Option Value} (hv : v9 = some (iv (bi p))) (h1 : p → stR h hx ln t hp v c s k) (h2 : ¬ p → stR h hx ln t2 hp2 v2 c2 s2 k2) : lnQ (if p then (true, t, hp, w, v, c, s, k) else noL t2) ln h hx v9 := by
  by_cases q : p
  · rw [if_pos q, hv, bi_t q]; exact lnQ_t (h1 q)
  · rw [if_neg q, hv, bi_f q]; exact lnQ_f (h2 q)
set_option maxRecDepth 100000 in
set_option maxHeartbeats 4000000 in
theorem c_readL (E : En) (h : Hp) (tx : Nat → Int) (L : Nat) (T : TX h tx L) (t : Nat × Nat) (D : RD h t) (B : tkB tx L t) (line : Int) (hln : 0 ≤ line ∧ line < 10) (hp : Int) (h6 : h 8 6 = hp) (hhp : 0 ≤ hp ∧ hp ≤ 20) : Ct 7 yX6_readLine cX6_readLine 2 (some .boolean) E [rv E 8, iv line] h (fun v hx => lnW (lineR tx L hp t) line.toNat h hx v) := by
  have hL := T.2.1
  have hwr := wrdV_r tx t
  have B1 : tkB tx L (nx tx L t) := nx_B B.2.1
  refine ct_intro (by decide) (Nat.le_of_ble_eq_true rfl) (fun G C => ?_)
  show Wp G E 2 (fun v hx => lnW (lineR tx L hp t) line.toNat h hx v) 0 [(0, rv E 8), (1, iv line)] [] h
  refine wp_aloadR_n 0 C dX6_readLine_0 rfl rfl ?_
  refine wp_getR flX6_17 sh_8 rfl C dX6_readLine_1 ?_
  refine wp_iload_n 1 C dX6_readLine_4 rfl rfl ?_
  refine wp_aald sh_10 (Or.inr ⟨rfl, rfl, rfl⟩) (by omega) C dX6_readLine_5 ?_
  refine wp_lconst (v := 0) C dX6_readLine_6 rfl ?_
  refine wp_callSu (rest := []) (c_fillJ E h (11 + line.toNat) 4 (shr_11 (by omega)) 0) ssX6_53 (by decide) rfl rfl (Nat.le_of_ble_eq_true rfl) C dX6_readLine_7 ?_
  show Wp G E 2 (fun v hx => lnW (lineR tx L hp t) line.toNat h hx v) 10 [(0, rv E 8), (1, iv line)] [] (fillH h (11 + line.toNat) 0 4 0)
  obtain ⟨H1, e_H1⟩ : ∃ z : Hp, z = fillH h (11 + line.toNat) 0 4 0 := ⟨_, rfl⟩
  refine wp_heq e_H1 ?_
  refine wp_aloadR_n 0 C dX6_readLine_10 rfl rfl ?_
  refine wp_getR flX6_9 sh_8 rfl C dX6_readLine_11 ?_
  refine wp_iload_n 1 C dX6_readLine_14 rfl rfl ?_
  have T1 : TX H1 tx L := T.of (by rw [e_H1]; unfold fillH; rw [if_neg (by omega)]) (fun b => by rw [e_H1]; unfold fillH; rw [if_neg (by omega)])
  have D1 : RD H1 t := by unfold RD; rw [e_H1]; unfold fillH; rw [if_neg (by omega), if_neg (by omega)]; exact D
  refine wp_aloadR_n 0 C dX6_readLine_15 rfl rfl ?_
  refine wp_callVp (rest := [iv line, rv E 9]) (c_wordH E H1 tx L T1 t D1 B) svX6_59 sh_8 (by decide) rfl rfl (Nat.le_of_ble_eq_true rfl) C dX6_readLine_16 ?_
  refine wp_iast sh_9 (by omega) C dX6_readLine_19 ?_
  obtain ⟨H2, e_H2⟩ : ∃ z : Hp, z = upd2 H1 9 line.toNat (wrdV tx t) := ⟨_, rfl⟩
  refine wp_heq e_H2 ?_
  have S0 : stR H2 H2 line.toNat t hp 0 0 0 0 := ⟨⟨(by rw [e_H2, e_H1]; unfold upd2 fillH; rw [if_neg (by omega), if_neg (by omega)]; exact D.1), (by rw [e_H2, e_H1]; unfold upd2 fillH; rw [if_neg (by omega), if_neg (by omega)]; exact D.2)⟩, (by rw [e_H2, e_H1]; unfold upd2 fillH; rw [if_neg (by omega), if_neg (by omega)]; exact h6), by rw [e_H2, e_H1]; unfold upd2 fillH; rw [if_neg (by omega), if_pos (by omega)], by rw [e_H2, e_H1]; unfold upd2 fillH; rw [if_neg (by omega), if_pos (by omega)], by rw [e_H2, e_H1]; unfold upd2 fillH; rw [if_neg (by omega), if_pos (by omega)], by rw [e_H2, e_H1]; unfold upd2 fillH; rw [if_neg (by omega), if_pos (by omega)], fun _ _ _ _ => rfl⟩
  have T2 : TX H2 tx L := T.of (by rw [e_H2, e_H1]; unfold upd2 fillH; rw [if_neg (by omega), if_neg (by omega)]) (fun b => by rw [e_H2, e_H1]; unfold upd2 fillH; rw [if_neg (by omega), if_neg (by omega)])
  have w9 : H2 9 line.toNat = wrdV tx t := rdu_eq e_H2
  have fr2 : ∀ a b, a ≠ 11 + line.toNat → ¬ (a = 9 ∧ b = line.toNat) → H2 a b = h a b := fun a b h1 h2 => by rw [e_H2, e_H1]; unfold upd2 fillH; rw [if_neg h2, if_neg (fun z => h1 z.1)]
  refine wp_aloadR_n 0 C dX6_readLine_20 rfl rfl ?_
  refine wp_getR flX6_9 sh_8 rfl C dX6_readLine_21 ?_
  refine wp_iload_n 1 C dX6_readLine_24 rfl rfl ?_
  refine wp_iald sh_9 (by omega) C dX6_readLine_25 ?_
  refine wp_top (rdu_eq e_H2) ?_
  by_cases c_26_0 : (wrdV tx t) = 0
  · refine wp_tswIn (tgt := 56) (by omega) C dX6_readLine_26 (by omega) (by omega) (by rw [c_26_0]; rfl) (by decide) ?_
    refine wp_aloadR_n 0 C dX6_readLine_56 rfl rfl ?_
    refine wp_callV (rest := []) (c_next E H2 tx L (stR_T S0 T2) t S0.1.2 B.2.1) svX6_37 sh_8 (by decide) rfl rfl (Nat.le_of_ble_eq_true rfl) C dX6_readLine_57 (fun r0 hn1 pf => ?_)
    obtain ⟨rfl, D9, f9⟩ := pf
    have S1n := stR_next S0 D9 f9
    have q8 := S1n.2.1
    refine wp_aloadR_n 0 C dX6_readLine_60 rfl rfl ?_
    refine wp_iload_n 1 C dX6_readLine_61 rfl rfl ?_
    refine wp_iconst (v := 0) C dX6_readLine_62 rfl ?_
    refine wp_iconst (v := 3) C dX6_readLine_63 rfl ?_
    refine wp_ldc2 (v := 2) C (mT (i := 418) (by decide +kernel) rfl) dX6_readLine_64 ?_
    refine wp_ldc2 (v := 10) C (mT (i := 419) (by decide +kernel) rfl) dX6_readLine_67 ?_
    refine wp_callV (rest := []) (c_readN E hn1 tx L (stR_T S1n T2) (nx tx L t) S1n.1 B1 line hln 0 (by decide) 3 (by decide) 3 2 (10) rfl (by decide) (by omega)) svX6_67 sh_8 (by decide) rfl rfl (Nat.le_of_ble_eq_true rfl) C dX6_readLine_70 (fun r0 hy1 pf => ?_)
    obtain ⟨rfl, ha1⟩ := pf
    refine wp_zret (by first | exact bi_01 | omega) C dX6_readLine_73 ?_
    rw [show lineR tx L hp t = _ from by unfold lineR; rw [if_pos c_26_0]]
    exact lnW_of (lnQ_b (hp2 := hp) (v2 := 0) (c2 := 0) (s2 := 0) (k2 := 0) rfl (fun o => by obtain ⟨-, v1, D1, f1⟩ := ha1.resolve_right (fun z => z.1 o); exact stR_0 S1n D1 v1 f1) (fun o => by obtain ⟨-, e9⟩ := ha1.resolve_left (fun z => o z.1); rw [e9]; exact S1n)) w9 (fun z => by split at z; rename_i y; rw [if_pos y, c_26_0]; cases z) fr2
  by_cases c_26_1 : (wrdV tx t) = 1
  · refine wp_tswIn (tgt := 74) (by omega) C dX6_readLine_26 (by omega) (by omega) (by rw [c_26_1]; rfl) (by decide) ?_
    refine wp_aloadR_n 0 C dX6_readLine_74 rfl rfl ?_
    refine wp_iload_n 1 C dX6_readLine_75 rfl rfl ?_
    refine wp_callV (rest := []) (c_readH E H2 tx L T2 t S0.1 B line hln hp S0.2.1 hhp (fun j hj => by rcases (show j = 0 ∨ j = 1 ∨ j = 2 ∨ j = 3 by omega) with rfl | rfl | rfl | rfl; exact S0.2.2.1; exact S0.2.2.2.1; exact S0.2.2.2.2.1; exact S0.2.2.2.2.2.1)) svX6_71 sh_8 (by decide) rfl rfl (Nat.le_of_ble_eq_true rfl) C dX6_readLine_76 (fun r0 hy1 pf => ?_)
    obtain ⟨r9, pf2, pf3⟩ := pf
    subst r9
    have Q9 := And.intro (rfl : some (iv (bi ((heapR tx L hp t).1 = true))) = _) (And.intro pf2 pf3)
    refine wp_zret (by first | exact bi_01 | omega) C dX6_readLine_79 ?_
    rw [show lineR tx L hp t = _ from by unfold lineR; rw [if_neg c_26_0, if_pos c_26_1]]
    exact lnW_of (Q9) w9 (fun z => by rw [heapR_w z, c_26_1]) fr2
  by_cases c_26_2 : (wrdV tx t) = 2
  · refine wp_tswIn (tgt := 80) (by omega) C dX6_readLine_26 (by omega) (by omega) (by rw [c_26_2]; rfl) (by decide) ?_
    refine wp_aloadR_n 0 C dX6_readLine_80 rfl rfl ?_
    refine wp_callV (rest := []) (c_next E H2 tx L (stR_T S0 T2) t S0.1.2 B.2.1) svX6_37 sh_8 (by decide) rfl rfl (Nat.le_of_ble_eq_true rfl) C dX6_readLine_81 (fun r0 hn1 pf => ?_)
    obtain ⟨rfl, D9, f9⟩ := pf
    have S1n := stR_next S0 D9 f9
    have q8 := S1n.2.1
    refine wp_aloadR_n 0 C dX6_readLine_84 rfl rfl ?_
    refine wp_dup rfl C dX6_readLine_85 ?_
    refine wp_getI flX6_30 sh_8 rfl C dX6_readLine_86 ?_
    refine wp_iconst (v := 1) C dX6_readLine_89 rfl ?_
    refine wp_isub C dX6_readLine_90 ?_
    refine wp_putI fpX6_30 sh_8 rfl C dX6_readLine_91 ?_
    obtain ⟨H3, e_H3⟩ : ∃ z : Hp, z = upd2 hn1 8 6 ((hn1 8 6) - 1) := ⟨_, rfl⟩
    refine wp_heq e_H3 ?_
    have S2n : stR H2 H3 line.toNat (nx tx L t) (hp - 1) 0 0 0 0 := by
      obtain ⟨s1, s2, s3, s4, s5, s6, s7⟩ := S1n
      refine ⟨⟨?_, ?_⟩, ?_, ?_, ?_, ?_, ?_, ?_⟩ <;> rw [e_H3]
      · exact s1.1
      · exact s1.2
      · rw [upd2_s, s2]
      · unfold upd2; rw [if_neg (by omega)]; exact s3
      · unfold upd2; rw [if_neg (by omega)]; exact s4
      · unfold upd2; rw [if_neg (by omega)]; exact s5
      · unfold upd2; rw [if_neg (by omega)]; exact s6
      · intro a b h1 h2; unfold upd2; rw [if_neg (by omega)]; exact s7 a b h1 h2
    refine wp_aloadR_n 0 C dX6_readLine_94 rfl rfl ?_
    refine wp_iload_n 1 C dX6_readLine_95 rfl rfl ?_
    refine wp_iconst (v := 0) C dX6_readLine_96 rfl ?_
    refine wp_iconst (v := 3) C dX6_readLine_97 rfl ?_
    refine wp_lconst (v := 0) C dX6_readLine_98 rfl ?_
    refine wp_aloadR_n 0 C dX6_readLine_99 rfl rfl ?_
    refine wp_getI flX6_30 sh_8 rfl C dX6_readLine_100 ?_
    refine wp_top (rdu_eq e_H3) ?_
    refine wp_i2l (by omega) C dX6_readLine_103 ?_
    refine wp_callV (rest := []) (c_readN E H3 tx L (stR_T S2n T2) (nx tx L t) S2n.1 B1 line hln 0 (by decide) 3 (by decide) 3 0 (((hn1 8 6) - 1)) rfl (by decide) (by omega)) svX6_67 sh_8 (by decide) rfl rfl (Nat.le_of_ble_eq_true rfl) C dX6_readLine_104 (fun r0 hy1 pf => ?_)
    obtain ⟨rfl, ha1⟩ := pf
    refine wp_zret (by first | exact bi_01 | omega) C dX6_readLine_107 ?_
    rw [show lineR tx L hp t = _ from by unfold lineR; rw [if_neg c_26_0, if_neg c_26_1, if_pos c_26_2]]
    exact lnW_of (lnQ_b (hp2 := hp - 1) (v2 := 0) (c2 := 0) (s2 := 0) (k2 := 0) (by rw [q8]) (fun o => by rw [← q8] at o; obtain ⟨-, v1, D1, f1⟩ := ha1.resolve_right (fun z => z.1 o); exact stR_0 S2n D1 v1 f1) (fun o => by rw [← q8] at o; obtain ⟨-, e9⟩ := ha1.resolve_left (fun z => o z.1); rw [e9]; exact S2n)) w9 (fun z => by split at z; rename_i y; rw [if_pos y, c_26_2]; cases z) fr2
  by_cases c_26_3 : (wrdV tx t) = 3
  · refine wp_tswIn (tgt := 108) (by omega) C dX6_readLine_26 (by omega) (by omega) (by rw [c_26_3]; rfl) (by decide) ?_
    refine wp_aloadR_n 0 C dX6_readLine_108 rfl rfl ?_
    refine wp_callV (rest := []) (c_next E H2 tx L (stR_T S0 T2) t S0.1.2 B.2.1) svX6_37 sh_8 (by decide) rfl rfl (Nat.le_of_ble_eq_true rfl) C dX6_readLine_109 (fun r0 hn1 pf => ?_)
    obtain ⟨rfl, D9, f9⟩ := pf
    have S1n := stR_next S0 D9 f9
    have q8 := S1n.2.1
    refine wp_aloadR_n 0 C dX6_readLine_112 rfl rfl ?_
    refine wp_iconst (v := 0) C dX6_readLine_113 rfl ?_
    refine wp_putI fpX6_30 sh_8 rfl C dX6_readLine_114 ?_
    obtain ⟨H4, e_H4⟩ : ∃ z : Hp, z = upd2 hn1 8 6 0 := ⟨_, rfl⟩
    refine wp_heq e_H4 ?_
    have S3n : stR H2 H4 line.toNat (nx tx L t) 0 0 0 0 0 := by
      obtain ⟨s1, s2, s3, s4, s5, s6, s7⟩ := S1n
      refine ⟨⟨?_, ?_⟩, ?_, ?_, ?_, ?_, ?_, ?_⟩ <;> rw [e_H4]
      · exact s1.1
      · exact s1.2
      · rw [upd2_s]
      · unfold upd2; rw [if_neg (by omega)]; exact s3
      · unfold upd2; rw [if_neg (by omega)]; exact s4
      · unfold upd2; rw [if_neg (by omega)]; exact s5
      · unfold upd2; rw [if_neg (by omega)]; exact s6
      · intro a b h1 h2; unfold upd2; rw [if_neg (by omega)]; exact s7 a b h1 h2
    refine wp_iconst (v := 1) C dX6_readLine_117 rfl ?_
    refine wp_zret (by first | exact bi_01 | omega) C dX6_readLine_118 ?_
    rw [show lineR tx L hp t = _ from by unfold lineR; rw [if_neg c_26_0, if_neg c_26_1, if_neg c_26_2, if_pos c_26_3]]
    exact lnW_of (lnQ_t S3n) w9 (fun _ => by rw [c_26_3]) fr2
  refine wp_tswOut (tgt := 119) (by omega) C dX6_readLine_26 (by omega) (by decide) ?_
  refine wp_iconst (v := 0) C dX6_readLine_119 rfl ?_
  refine wp_zret (by first | exact bi_01 | omega) C dX6_readLine_120 ?_
  rw [show lineR tx L hp t = _ from by unfold lineR; rw [if_neg c_26_0, if_neg c_26_1, if_neg c_26_2, if_neg c_26_3]]
  exact lnW_of (lnQ_f S0) w9 (fun z => by cases z) fr2

def cRec (hx : Hp) (j : Nat) (R : LR) : Prop := hx 9 j = R.2.2.2.1 ∧ hx (11 + j) 0 = R.2.2.2.2.1 ∧ hx (11 + j) 1 = R.2.2.2.2.2.1 ∧ hx (11 + j) 2 = R.2.2.2.2.2.2.1 ∧ hx (11 + j) 3 = R.2.2.2.2.2.2.2
theorem cRec_of {h hx : Hp} {j : Nat} {R : LR} (c : cRec h j R) (h9 : hx 9 j = h 9 j) (h11 : ∀ b, hx (11 + j) b = h (11 + j) b) : cRec hx j R := ⟨h9.trans c.1, (h11 0).trans c.2.1, (h11 1).trans c.2.2.1, (h11 2).trans c.2.2.2.1, (h11 3).trans c.2.2.2.2⟩
def frR (h hx : Hp) : Prop := ∀ a b, a ≠ 8 → a ≠ 9 → ¬ (11 ≤ a ∧ a < 21) → hx a b = h a b
theorem fltV_t {tx : Nat → Int} {L : Nat} {hp : Int} {i : Nat} (h : (lnR tx L hp i).1 = true ∧ L ≤ (lnR tx L hp i).2.1.1) : fltV tx L hp i = -1 := if_pos h
theorem fltV_f {tx : Nat → Int} {L : Nat} {hp : Int} {i : Nat} (h : ¬ ((lnR tx L hp i).1 = true ∧ L ≤ (lnR tx L hp i).2.1.1)) : fltV tx L hp i = ((lnR tx L hp i).2.1.1 : Int) := if_neg h
def fltC (tx : Nat → Int) (L : Nat) (hp : Int) (h hx : Hp) (v : Option Value) : Prop := ∃ I, fltP tx L hp I ∧ v = some (iv (fltV tx L hp I)) ∧ (fltV tx L hp I = -1 → hx 8 2 = (I : Int) + 1 ∧ ∀ j, j ≤ I → cRec hx j (lnR tx L hp j)) ∧ frR h hx
set_option maxRecDepth 100000 in
set_option maxHeartbeats 4000000 in
theorem c_faultIn (E : En) (h : Hp) (tx : Nat → Int) (L : Nat) (T : TX h tx L) (hp : Int) (hhp : 0 ≤ hp ∧ hp ≤ 20) : Ct 8 yX6_faultIn cX6_faultIn 3 (some .int) E [rv E 8, iv hp] h (fun v hx => fltC tx L hp h hx v) := by
  have hL := T.2.1
  refine ct_intro (by decide) (Nat.le_of_ble_eq_true rfl) (fun G C => ?_)
  show Wp G E 3 (fun v hx => fltC tx L hp h hx v) 0 [(0, rv E 8), (1, iv hp)] [] h
  refine wp_aloadR_n 0 C dX6_faultIn_0 rfl rfl ?_
  refine wp_iload_n 1 C dX6_faultIn_1 rfl rfl ?_
  refine wp_putI fpX6_30 sh_8 rfl C dX6_faultIn_2 ?_
  obtain ⟨H1, e_H1⟩ : ∃ z : Hp, z = upd2 h 8 6 hp := ⟨_, rfl⟩
  refine wp_heq e_H1 ?_
  refine wp_aloadR_n 0 C dX6_faultIn_5 rfl rfl ?_
  refine wp_iconst (v := 0) C dX6_faultIn_6 rfl ?_
  refine wp_putI fpX6_20 sh_8 rfl C dX6_faultIn_7 ?_
  obtain ⟨H2, e_H2⟩ : ∃ z : Hp, z = upd2 H1 8 2 0 := ⟨_, rfl⟩
  refine wp_heq e_H2 ?_
  refine wp_aloadR_n 0 C dX6_faultIn_10 rfl rfl ?_
  refine wp_iconst (v := 0) C dX6_faultIn_11 rfl ?_
  refine wp_putI fpX6_27 sh_8 rfl C dX6_faultIn_12 ?_
  obtain ⟨H3, e_H3⟩ : ∃ z : Hp, z = upd2 H2 8 5 0 := ⟨_, rfl⟩
  refine wp_heq e_H3 ?_
  have T0 : TX H3 tx L := T.of (by rw [e_H3, e_H2, e_H1]; rfl) (fun b => by rw [e_H3, e_H2, e_H1]; unfold upd2; rw [if_neg (by omega), if_neg (by omega), if_neg (by omega)])
  have fr0 : frR h H3 := fun a b h1 _ _ => by rw [e_H3, e_H2, e_H1]; unfold upd2; rw [if_neg (fun z => h1 z.1), if_neg (fun z => h1 z.1), if_neg (fun z => h1 z.1)]
  have g5 : H3 8 5 = (((0, 0) : Nat × Nat).2 : Int) := by rw [e_H3]; rfl
  have g6 : H3 8 6 = hp := by rw [e_H3, e_H2, e_H1]; rfl
  refine wp_aloadR_n 0 C dX6_faultIn_15 rfl rfl ?_
  refine wp_callV (rest := []) (c_next E H3 tx L T0 (0, 0) g5 (Nat.zero_le _)) svX6_37 sh_8 (by decide) rfl rfl (Nat.le_of_ble_eq_true rfl) C dX6_faultIn_16 (fun r0 hx0 pf => ?_)
  obtain ⟨rfl, D0, f0⟩ := pf
  have fr1 : frR h hx0 := fun a b h1 h2 h3 => (f0 a b (by omega)).trans (fr0 a b h1 h2 h3)
  refine wp_iconst (v := 0) C dX6_faultIn_19 rfl ?_
  refine wp_istore_n (ls' := [(0, rv E 8), (1, iv hp), (2, iv 0)]) [1, 2, 0] C dX6_faultIn_20 rfl (by decide) rfl ?_
  have q210 : ∀ n9 : Nat, ∀ (x2 : Int) (hx : Hp), (0 ≤ x2 ∧ x2 ≤ 9) → (RD hx (seqR tx L hp x2.toNat).1) → (hx 8 6 = (seqR tx L hp x2.toNat).2) → (∀ j, j < x2.toNat → goP tx L hp j) → (∀ j, j < x2.toNat → cRec hx j (lnR tx L hp j)) → (frR h hx) → (9 - x2).toNat < n9 → Wp G E 3 (fun v hx => fltC tx L hp h hx v) 21 [(0, rv E 8), (1, iv hp), (2, iv x2)] [] hx := by
    intro n9
    induction n9 with
    | zero => intro x2 hx hi hD h6 hgo hrc hf hm9; exact absurd hm9 (Nat.not_lt_zero _)
    | succ n9 ih9 =>
      intro x2 hx hi hD h6 hgo hrc hf hm9
      have ih9_21 := ih9
      have Tx := T.of (hf 6 1 (by omega) (by omega) (by omega)) (fun b => hf 7 b (by omega) (by omega) (by omega))
      have hBx := seqR_B (tx := tx) (L := L) (hp := hp) x2.toNat
      have hpx := seqR_hp (tx := tx) (L := L) hhp x2.toNat (fun j hj => (hgo j hj).1)
      have hlB := lnR_B (tx := tx) (L := L) (hp := hp) x2.toNat
      have hlB1 := hlB.1
      have hlB2 := hlB.2.1
      refine wp_iload_n 2 C dX6_faultIn_21 rfl rfl ?_
      refine wp_bipush (v := 10) C dX6_faultIn_22 rfl ?_
      refine wp_icmp_ge (tgt := 100) (by omega) (by omega) C dX6_faultIn_24 (by decide) (fun c_24 => ?_) (fun c_24 => ?_)
      · skip
        omega
      · skip
        refine wp_aloadR_n 0 C dX6_faultIn_27 rfl rfl ?_
        refine wp_iload_n 2 C dX6_faultIn_28 rfl rfl ?_
        refine wp_callV (rest := []) (c_readL E hx tx L Tx (seqR tx L hp x2.toNat).1 hD hBx x2 (by omega) (seqR tx L hp x2.toNat).2 h6 hpx) svX6_40 sh_8 (by decide) rfl rfl (Nat.le_of_ble_eq_true rfl) C dX6_faultIn_29 (fun r0 hy pf => ?_)
        have pf9 : lnW (lnR tx L hp x2.toNat) x2.toNat hx hy r0 := pf
        obtain ⟨rfl, q4, q5, q6⟩ := pf9
        have Ty := Tx.of (q6 6 1 (by omega) (by omega) (by omega)) (fun b => q6 7 b (by omega) (by omega) (by omega))
        have hLy := Ty.1
        have hfy : frR h hy := fun a b h1 h2 h3 => (q6 a b (by omega) (by omega) (by omega)).trans (hf a b h1 h2 h3)
        refine wp_ifb_ne (tgt := 40) C dX6_faultIn_32 (by decide) (fun c_32 => ?_) (fun c_32 => ?_)
        · skip
          obtain ⟨q5a, q5b, q5c, q5d, q5e, q5f, q5g⟩ := q5 c_32
          refine wp_aloadR_n 0 C dX6_faultIn_40 rfl rfl ?_
          refine wp_getI flX6_24 sh_8 rfl C dX6_faultIn_41 ?_
          refine wp_aloadR_n 0 C dX6_faultIn_44 rfl rfl ?_
          refine wp_getR flX6_33 sh_8 rfl C dX6_faultIn_45 ?_
          refine wp_getI flX6_44 sh_6 rfl C dX6_faultIn_48 ?_
          refine wp_icmp_lt (tgt := 63) (by omega) (by omega) C dX6_faultIn_51 (by decide) (fun c_51 => ?_) (fun c_51 => ?_)
          · skip
            have hlt : (lnR tx L hp x2.toNat).2.1.1 < L := by omega
            have hte := T.2.2 (lnR tx L hp x2.toNat).2.1.1 hlt
            refine wp_aloadR_n 0 C dX6_faultIn_63 rfl rfl ?_
            refine wp_getR flX6_33 sh_8 rfl C dX6_faultIn_64 ?_
            refine wp_aloadR_n 0 C dX6_faultIn_67 rfl rfl ?_
            refine wp_getI flX6_24 sh_8 rfl C dX6_faultIn_68 ?_
            refine wp_callVp (rest := []) (c_atT E hy tx L Ty (hy 8 4) (lnR tx L hp x2.toNat).2.1.1 q4 hlt) svX6_49 sh_6 (by decide) rfl rfl (Nat.le_of_ble_eq_true rfl) C dX6_faultIn_71 ?_
            refine wp_bipush (v := 59) C dX6_faultIn_74 rfl ?_
            refine wp_icmp_ne (tgt := 85) (by omega) (by omega) C dX6_faultIn_76 (by decide) (fun c_76 => ?_) (fun c_76 => ?_)
            · skip
              refine wp_aloadR_n 0 C dX6_faultIn_85 rfl rfl ?_
              refine wp_getI flX6_24 sh_8 rfl C dX6_faultIn_86 ?_
              refine wp_iret C dX6_faultIn_89 ?_
              exact ⟨x2.toNat, ⟨by omega, hgo, fun z => c_76 z.2.2.1⟩, by rw [fltV_f (fun z => absurd z.2 (by omega)), q4], fun z => by rw [fltV_f (fun y => absurd y.2 (by omega))] at z; omega, hfy⟩
            · skip
              refine wp_iload_n 2 C dX6_faultIn_79 rfl rfl ?_
              refine wp_bipush (v := 9) C dX6_faultIn_80 rfl ?_
              refine wp_icmp_ne (tgt := 90) (by omega) (by omega) C dX6_faultIn_82 (by decide) (fun c_82 => ?_) (fun c_82 => ?_)
              · skip
                refine wp_aloadR_n 0 C dX6_faultIn_90 rfl rfl ?_
                refine wp_callV (rest := []) (c_next E hy tx L Ty (lnR tx L hp x2.toNat).2.1 q5a hlB2) svX6_37 sh_8 (by decide) rfl rfl (Nat.le_of_ble_eq_true rfl) C dX6_faultIn_91 (fun r0 hz pf => ?_)
                obtain ⟨rfl, D3, f3⟩ := pf
                obtain ⟨v4, e_v4⟩ : ∃ z : Int, z = x2 + (1) := ⟨_, rfl⟩
                refine wp_iinc (j := 2) (y := v4) (ls' := [(0, rv E 8), (1, iv hp), (2, iv v4)]) [1, 2, 0] C dX6_faultIn_94 rfl e_v4 (by decide) rfl ?_
                refine wp_goto (tgt := 21) C dX6_faultIn_97 (by decide) ?_
                exact ih9_21 v4 hz (by omega) (by rw [e_v4, show (x2 + 1).toNat = x2.toNat + 1 by omega, seqR_s]; exact D3) (by rw [e_v4, show (x2 + 1).toNat = x2.toNat + 1 by omega, seqR_s]; show hz 8 6 = (lnR tx L hp x2.toNat).2.2.1; rw [f3 8 6 (by omega)]; exact q5b) (fun j hj => by rw [e_v4, show (x2 + 1).toNat = x2.toNat + 1 by omega] at hj; rcases (show j < x2.toNat ∨ j = x2.toNat by omega) with q | rfl; exact hgo j q; exact ⟨c_32, hlt, by omega, by omega⟩) (fun j hj => by rw [e_v4, show (x2 + 1).toNat = x2.toNat + 1 by omega] at hj; rcases (show j < x2.toNat ∨ j = x2.toNat by omega) with q | q; exact cRec_of (cRec_of (hrc j q) (q6 9 j (by omega) (by omega) (by omega)) (fun b => q6 _ b (by omega) (by omega) (by omega))) (f3 9 j (by omega)) (fun b => f3 _ b (by omega)); rw [q]; exact cRec_of ⟨q5c, q5d, q5e, q5f, q5g⟩ (f3 9 _ (by omega)) (fun b => f3 _ b (by omega))) (fun a b h1 h2 h3 => (f3 a b (by omega)).trans ((q6 a b (by omega) (by omega) (by omega)).trans (hf a b h1 h2 h3))) (by omega)
              · skip
                refine wp_aloadR_n 0 C dX6_faultIn_85 rfl rfl ?_
                refine wp_getI flX6_24 sh_8 rfl C dX6_faultIn_86 ?_
                refine wp_iret C dX6_faultIn_89 ?_
                exact ⟨x2.toNat, ⟨by omega, hgo, fun z => absurd z.2.2.2 (by omega)⟩, by rw [fltV_f (fun z => absurd z.2 (by omega)), q4], fun z => by rw [fltV_f (fun y => absurd y.2 (by omega))] at z; omega, hfy⟩
          · skip
            refine wp_aloadR_n 0 C dX6_faultIn_54 rfl rfl ?_
            refine wp_iload_n 2 C dX6_faultIn_55 rfl rfl ?_
            refine wp_iconst (v := 1) C dX6_faultIn_56 rfl ?_
            refine wp_iadd C dX6_faultIn_57 ?_
            refine wp_putI fpX6_20 sh_8 rfl C dX6_faultIn_58 ?_
            obtain ⟨H5, e_H5⟩ : ∃ z : Hp, z = upd2 hy 8 2 (x2 + 1) := ⟨_, rfl⟩
            refine wp_heq e_H5 ?_
            refine wp_iconst (v := (-1)) C dX6_faultIn_61 rfl ?_
            refine wp_iret C dX6_faultIn_62 ?_
            exact ⟨x2.toNat, ⟨by omega, hgo, fun z => absurd z.2.1 (by omega)⟩, by rw [fltV_t ⟨c_32, by omega⟩], fun _ => ⟨by rw [e_H5, upd2_s]; omega, fun j hj => by rcases (show j < x2.toNat ∨ j = x2.toNat by omega) with q | q; exact cRec_of (cRec_of (hrc j q) (q6 9 j (by omega) (by omega) (by omega)) (fun b => q6 _ b (by omega) (by omega) (by omega))) (by rw [e_H5]; unfold upd2; rw [if_neg (by omega)]) (fun b => by rw [e_H5]; unfold upd2; rw [if_neg (by omega)]); rw [q]; exact cRec_of ⟨q5c, q5d, q5e, q5f, q5g⟩ (by rw [e_H5]; unfold upd2; rw [if_neg (by omega)]) (fun b => by rw [e_H5]; unfold upd2; rw [if_neg (by omega)])⟩, fun a b h1 h2 h3 => by rw [e_H5]; unfold upd2; rw [if_neg (fun z => h1 z.1)]; exact hfy a b h1 h2 h3⟩
        · skip
          refine wp_aloadR_n 0 C dX6_faultIn_35 rfl rfl ?_
          refine wp_getI flX6_24 sh_8 rfl C dX6_faultIn_36 ?_
          refine wp_iret C dX6_faultIn_39 ?_
          exact ⟨x2.toNat, ⟨by omega, hgo, fun z => c_32 z.1⟩, by rw [fltV_f (fun z => c_32 z.1), q4], fun z => by rw [fltV_f (fun y => c_32 y.1)] at z; omega, hfy⟩
  have q21 : ∀ (x2 : Int) (hx : Hp), (0 ≤ x2 ∧ x2 ≤ 9) → (RD hx (seqR tx L hp x2.toNat).1) → (hx 8 6 = (seqR tx L hp x2.toNat).2) → (∀ j, j < x2.toNat → goP tx L hp j) → (∀ j, j < x2.toNat → cRec hx j (lnR tx L hp j)) → (frR h hx) → Wp G E 3 (fun v hx => fltC tx L hp h hx v) 21 [(0, rv E 8), (1, iv hp), (2, iv x2)] [] hx := fun x2 hx hi hD h6 hgo hrc hf => q210 _ x2 hx hi hD h6 hgo hrc hf (Nat.lt_succ_self _)
  exact q21 0 hx0 (by omega) (D0) ((f0 8 6 (by omega)).trans g6) (fun j hj => absurd hj (by omega)) (fun j hj => absurd hj (by omega)) (fr1)


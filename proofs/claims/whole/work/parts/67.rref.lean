/-! ===== the reference: reads, lines, fault ===== -/
def fmH (h hx : Hp) (rm : Nat) : Prop := ∀ a b, ¬ (a = 128 ∧ 10 ≤ b ∧ b ≤ 12) → ¬ (a = 135 ∧ 5 * rm + 1 ≤ b ∧ b ≤ 5 * rm + 3) → ¬ (a = 136 ∧ b = rm) → hx a b = h a b
theorem fmH_0 {h : Hp} {rm : Nat} : fmH h h rm := fun _ _ _ _ _ => rfl
theorem fmH_f {h hx hy : Hp} {rm : Nat} (f : fmH h hx rm) (g : frM hx hy) : fmH h hy rm := fun a b h1 h2 h3 => (g a b h1).trans (f a b h1 h2 h3)
theorem fmH_u {h hx : Hp} {rm b : Nat} {v : Int} (hb : 5 * rm + 1 ≤ b ∧ b ≤ 5 * rm + 3) (f : fmH h hx rm) : fmH h (upd2 hx 135 b v) rm := fun a c h1 h2 h3 => by unfold upd2; rw [if_neg (by omega)]; exact f a c h1 h2 h3
theorem fmH_r {h hx hy : Hp} {rm k : Nat} (hk : k ≤ 2) (f : fmH h hx rm) (g : ∀ a b, ¬ (a = 128 ∧ 10 ≤ b ∧ b ≤ 12) → ¬ (a = 135 ∧ b = 5 * rm + 1 + k) → hy a b = hx a b) : fmH h hy rm := fun a b h1 h2 h3 => (g a b h1 (by omega)).trans (f a b h1 h2 h3)
theorem fmH_T {h hx : Hp} {rm L : Nat} {tx : Nat → Int} (f : fmH h hx rm) (T : TM h tx L) : TM hx tx L := T.of (f 128 6 (by omega) (by omega) (by omega)) (fun b => f 134 b (by omega) (by omega) (by omega))
theorem fmH_9 {h hx : Hp} {rm : Nat} (f : fmH h hx rm) {r : Int} (e : h 128 9 = r) : hx 128 9 = r := (f 128 9 (by omega) (by omega) (by omega)).trans e
def lmQ (R : LR) (rm : Nat) (h hx : Hp) (v : Option Value) : Prop := v = some (iv (bi (R.1 = true))) ∧ hx 128 11 = (R.2.1.1 : Int) ∧ (R.1 = true → RM hx R.2.1 ∧ (R.2.2.2.1 = 1 → hx 136 rm = R.2.2.2.2.1 ∧ hx 135 (5 * rm + 2) = R.2.2.2.2.2.1 ∧ hx 135 (5 * rm + 1) = R.2.2.2.2.2.2.1 ∧ hx 135 (5 * rm + 3) = R.2.2.2.2.2.2.2) ∧ (R.2.2.2.1 = 0 ∨ R.2.2.2.1 = 2 → hx 135 (5 * rm + 1) = R.2.2.2.2.1)) ∧ fmH h hx rm
theorem lmQ_f {h hx : Hp} {rm : Nat} {t : Nat × Nat} (D : RM hx t) (f : fmH h hx rm) : lmQ (noL t) rm h hx (some (iv 0)) := ⟨by rw [bi_f (fun z => by cases z)], D.1, (fun z => by cases z), f⟩
theorem lmQ_t {h hx : Hp} {rm : Nat} {t : Nat × Nat} {hp v c s k : Int} (D : RM hx t) (h1 : hx 136 rm = v) (h2 : hx 135 (5 * rm + 2) = c) (h3 : hx 135 (5 * rm + 1) = s) (h4 : hx 135 (5 * rm + 3) = k) (f : fmH h hx rm) : lmQ (true, t, hp, 1, v, c, s, k) rm h hx (some (iv 1)) := ⟨by rw [bi_t rfl], D.1, (fun _ => ⟨D, (fun _ => ⟨h1, h2, h3, h4⟩), (fun z => by rcases z with y | y <;> cases y)⟩), f⟩
set_option maxRecDepth 100000 in
set_option maxHeartbeats 4000000 in
theorem c_reads (E : En) (h : Hp) (tx : Nat → Int) (L : Nat) (T : TM h tx L) (t : Nat × Nat) (D : RM h t) (B : tkB tx L t) (rm : Nat) (hr : h 128 9 = (rm : Int)) (hr9 : rm < 10) (k lo hi : Int) (hk : 0 ≤ k ∧ k ≤ 2) (hlo : 0 ≤ lo ∧ lo ≤ 1000) (hhi : -1000 ≤ hi ∧ hi ≤ 1000000) : Ct 3 yX12_reads cX12_reads 6 (some .boolean) E [rv E 128, iv k, iv lo, iv hi] h (fun v hx => v = some (iv (bi (lo ≤ numH tx L 3 t ∧ numH tx L 3 t ≤ hi))) ∧ (((lo ≤ numH tx L 3 t ∧ numH tx L 3 t ≤ hi) ∧ hx 135 (5 * rm + 1 + k.toNat) = numH tx L 3 t ∧ RM hx (nx tx L t) ∧ (∀ a b, ¬ (a = 128 ∧ 10 ≤ b ∧ b ≤ 12) → ¬ (a = 135 ∧ b = 5 * rm + 1 + k.toNat) → hx a b = h a b)) ∨ (¬ (lo ≤ numH tx L 3 t ∧ numH tx L 3 t ≤ hi) ∧ hx = h))) := by
  have hL := T.2.1
  have d1 := D.1
  have d2 := D.2.1
  have b1 := B.1
  have b2 := B.2.1
  have t6 := T.1
  have hn3 := numH_3 B
  refine ct_intro (by decide) (Nat.le_of_ble_eq_true rfl) (fun G C => ?_)
  show Wp G E 6 (fun v hx => v = some (iv (bi (lo ≤ numH tx L 3 t ∧ numH tx L 3 t ≤ hi))) ∧ (((lo ≤ numH tx L 3 t ∧ numH tx L 3 t ≤ hi) ∧ hx 135 (5 * rm + 1 + k.toNat) = numH tx L 3 t ∧ RM hx (nx tx L t) ∧ (∀ a b, ¬ (a = 128 ∧ 10 ≤ b ∧ b ≤ 12) → ¬ (a = 135 ∧ b = 5 * rm + 1 + k.toNat) → hx a b = h a b)) ∨ (¬ (lo ≤ numH tx L 3 t ∧ numH tx L 3 t ≤ hi) ∧ hx = h))) 0 [(0, rv E 128), (1, iv k), (2, iv lo), (3, iv hi)] [] h
  refine wp_aloadR_n 0 C dX12_reads_0 rfl rfl ?_
  refine wp_iconst (v := 3) C dX12_reads_1 rfl ?_
  refine wp_callVp (rest := []) (c_numberH E h tx L T t D B 3 (by decide) 3 rfl) svX12_110 sh_128 (by decide) rfl rfl (Nat.le_of_ble_eq_true rfl) C dX12_reads_2 ?_
  refine wp_nml (fun w4 e_w4 => ?_)
  refine wp_lstore (ls' := [(0, rv E 128), (1, iv k), (2, iv lo), (3, iv hi), (4, jv w4)]) [1, 2, 3, 4, 0] C dX12_reads_5 (by decide) rfl ?_
  refine wp_lload 4 C dX12_reads_7 rfl ?_
  refine wp_iload_n 2 C dX12_reads_9 rfl rfl ?_
  refine wp_i2l (by omega) C dX12_reads_10 ?_
  refine wp_iload_n 3 C dX12_reads_11 rfl rfl ?_
  refine wp_i2l (by omega) C dX12_reads_12 ?_
  refine wp_callSp (rest := []) (c_in E h w4 lo hi (by omega) (by omega) (by omega)) ssX12_69 (by decide) rfl rfl (Nat.le_of_ble_eq_true rfl) C dX12_reads_13 ?_
  refine wp_ifb_ne (tgt := 21) C dX12_reads_16 (by decide) (fun c_16 => ?_) (fun c_16 => ?_)
  · skip
    refine wp_aloadR_n 0 C dX12_reads_21 rfl rfl ?_
    refine wp_getR flX12_30 sh_128 rfl C dX12_reads_22 ?_
    refine wp_iconst (v := 5) C dX12_reads_25 rfl ?_
    refine wp_aloadR_n 0 C dX12_reads_26 rfl rfl ?_
    refine wp_getI flX12_114 sh_128 rfl C dX12_reads_27 ?_
    refine wp_imul C dX12_reads_30 ?_
    refine wp_iconst (v := 1) C dX12_reads_31 rfl ?_
    refine wp_iadd C dX12_reads_32 ?_
    refine wp_iload_n 1 C dX12_reads_33 rfl rfl ?_
    refine wp_iadd C dX12_reads_34 ?_
    refine wp_lload 4 C dX12_reads_35 rfl ?_
    refine wp_l2i C dX12_reads_37 ?_
    refine wp_iast sh_135 (by omega) C dX12_reads_38 ?_
    obtain ⟨H1, e_H1⟩ : ∃ z : Hp, z = upd2 h 135 (((5 * (h 128 9)) + 1) + k).toNat w4 := ⟨_, rfl⟩
    refine wp_heq e_H1 ?_
    refine wp_aloadR_n 0 C dX12_reads_39 rfl rfl ?_
    have ix9 : (5 * h 128 9 + 1 + k).toNat = 5 * rm + 1 + k.toNat := by omega
    rw [ix9] at e_H1
    have TH : TM H1 tx L := T.of (by rw [e_H1]; unfold upd2; rw [if_neg (by omega)]) (fun b => by rw [e_H1]; unfold upd2; rw [if_neg (by omega)])
    have hH : H1 128 10 = (t.2 : Int) := by rw [e_H1]; exact D.2.2
    refine wp_callV (rest := []) (c_token E H1 tx L TH t hH b2) svX12_117 sh_128 (by decide) rfl rfl (Nat.le_of_ble_eq_true rfl) C dX12_reads_40 (fun r0 hx pf => ?_)
    obtain ⟨rfl, D2, f2⟩ := pf
    refine wp_iconst (v := 1) C dX12_reads_43 rfl ?_
    refine wp_zret (by first | exact bi_01 | omega) C dX12_reads_44 ?_
    exact ⟨by rw [bi_t (show lo ≤ numH tx L 3 t ∧ numH tx L 3 t ≤ hi by omega)], Or.inl ⟨by omega, by rw [f2 _ _ (by omega), e_H1, upd2_s, e_w4], D2, fun a b h1 h2 => by rw [f2 a b h1, e_H1]; unfold upd2; rw [if_neg h2]⟩⟩
  · skip
    refine wp_iconst (v := 0) C dX12_reads_19 rfl ?_
    refine wp_zret (by first | exact bi_01 | omega) C dX12_reads_20 ?_
    exact ⟨by rw [bi_f (show ¬ (lo ≤ numH tx L 3 t ∧ numH tx L 3 t ≤ hi) by omega)], Or.inr ⟨by omega, rfl⟩⟩

set_option maxRecDepth 100000 in
set_option maxHeartbeats 4000000 in
theorem c_readsHeap (E : En) (h : Hp) (tx : Nat → Int) (L : Nat) (T : TM h tx L) (t : Nat × Nat) (D : RM h (nx tx L t)) (B : tkB tx L t) (rm : Nat) (hr : h 128 9 = (rm : Int)) (hr9 : rm < 10) (hp : Int) (hhp : 0 ≤ hp ∧ hp < 20) : Ct 4 yX12_readsHeap cX12_readsHeap 4 (some .boolean) E [rv E 128] h (fun v hx => lmQ (heapR tx L hp t) rm h hx v) := by
  have hL := T.2.1
  have B1 : tkB tx L (nx tx L t) := nx_B B.2.1
  have B2 : tkB tx L (nx tx L (nx tx L t)) := nx_B B1.2.1
  have B3 : tkB tx L (nx tx L (nx tx L (nx tx L t))) := nx_B B2.2.1
  have B4 : tkB tx L (nx tx L (nx tx L (nx tx L (nx tx L t)))) := nx_B B3.2.1
  have B5 : tkB tx L (nx tx L (nx tx L (nx tx L (nx tx L (nx tx L t))))) := nx_B B4.2.1
  have hn1 := numH_r (d := 15) B1 (by decide)
  have hc2 := colH_r tx L (nx tx L (nx tx L t))
  refine ct_intro (by decide) (Nat.le_of_ble_eq_true rfl) (fun G C => ?_)
  show Wp G E 4 (fun v hx => lmQ (heapR tx L hp t) rm h hx v) 0 [(0, rv E 128)] [] h
  refine wp_aloadR_n 0 C dX12_readsHeap_0 rfl rfl ?_
  refine wp_bipush (v := 15) C dX12_readsHeap_1 rfl ?_
  refine wp_callVp (rest := []) (c_numberH E h tx L T (nx tx L t) D B1 15 (by decide) 15 rfl) svX12_110 sh_128 (by decide) rfl rfl (Nat.le_of_ble_eq_true rfl) C dX12_readsHeap_3 ?_
  refine wp_nml (fun w1 e_w1 => ?_)
  refine wp_lstore_n (ls' := [(0, rv E 128), (1, jv w1)]) [1, 0] C dX12_readsHeap_6 rfl (by decide) rfl ?_
  refine wp_lload_n 1 C dX12_readsHeap_7 rfl rfl ?_
  refine wp_ldc2 (v := (-1)) C (mT (i := 1021) (by decide +kernel) rfl) dX12_readsHeap_8 ?_
  refine wp_lcmp_ne (tgt := 17) (by omega) (by omega) C dX12_readsHeap_11 dX12_readsHeap_12 (by decide) (fun c_11 => ?_) (fun c_11 => ?_)
  · skip
    refine wp_aloadR_n 0 C dX12_readsHeap_17 rfl rfl ?_
    refine wp_getR flX12_33 sh_128 rfl C dX12_readsHeap_18 ?_
    refine wp_aloadR_n 0 C dX12_readsHeap_21 rfl rfl ?_
    refine wp_getI flX12_114 sh_128 rfl C dX12_readsHeap_22 ?_
    refine wp_lload_n 1 C dX12_readsHeap_25 rfl rfl ?_
    refine wp_last sh_136 (by omega) C dX12_readsHeap_26 ?_
    obtain ⟨H1, e_H1⟩ : ∃ z : Hp, z = upd2 h 136 (h 128 9).toNat w1 := ⟨_, rfl⟩
    refine wp_heq e_H1 ?_
    refine wp_aloadR_n 0 C dX12_readsHeap_27 rfl rfl ?_
    rw [show (h 128 9).toNat = rm by omega] at e_H1
    have fF : fmH h H1 rm := fun a b h1 h2 h3 => by rw [e_H1]; unfold upd2; rw [if_neg h3]
    have hat : H1 128 10 = ((nx tx L t).2 : Int) := by rw [e_H1]; exact D.2.2
    have v1 : H1 136 rm = numH tx L 15 (nx tx L t) := by rw [e_H1, upd2_s, e_w1]
    refine wp_callV (rest := []) (c_token E H1 tx L (fmH_T fF T) (nx tx L t) hat B1.2.1) svX12_117 sh_128 (by decide) rfl rfl (Nat.le_of_ble_eq_true rfl) C dX12_readsHeap_28 (fun r0 hx1 pf => ?_)
    obtain ⟨rfl, D2, g1⟩ := pf
    have f2 := fmH_f fF g1
    have r2 := fmH_9 f2 hr
    have v1a : hx1 136 rm = _ := (g1 136 rm (by omega)).trans v1
    refine wp_aloadR_n 0 C dX12_readsHeap_31 rfl rfl ?_
    refine wp_callVp (rest := []) (c_colourH E hx1 tx L (fmH_T f2 T) (nx tx L (nx tx L t)) D2 B2) svX12_120 sh_128 (by decide) rfl rfl (Nat.le_of_ble_eq_true rfl) C dX12_readsHeap_32 ?_
    refine wp_nm (fun w3 e_w3 => ?_)
    refine wp_istore_n (ls' := [(0, rv E 128), (1, jv w1), (3, iv w3)]) [1, 2, 0] C dX12_readsHeap_35 rfl (by decide) rfl ?_
    refine wp_iload_n 2 C dX12_readsHeap_36 rfl rfl ?_
    refine wp_iconst (v := (-1)) C dX12_readsHeap_37 rfl ?_
    refine wp_icmp_ne (tgt := 43) (by omega) (by omega) C dX12_readsHeap_38 (by decide) (fun c_38 => ?_) (fun c_38 => ?_)
    · skip
      refine wp_aloadR_n 0 C dX12_readsHeap_43 rfl rfl ?_
      refine wp_getR flX12_30 sh_128 rfl C dX12_readsHeap_44 ?_
      refine wp_iconst (v := 5) C dX12_readsHeap_47 rfl ?_
      refine wp_aloadR_n 0 C dX12_readsHeap_48 rfl rfl ?_
      refine wp_getI flX12_114 sh_128 rfl C dX12_readsHeap_49 ?_
      refine wp_imul C dX12_readsHeap_52 ?_
      refine wp_iconst (v := 2) C dX12_readsHeap_53 rfl ?_
      refine wp_iadd C dX12_readsHeap_54 ?_
      refine wp_iload_n 2 C dX12_readsHeap_55 rfl rfl ?_
      refine wp_iast sh_135 (by omega) C dX12_readsHeap_56 ?_
      obtain ⟨H2, e_H2⟩ : ∃ z : Hp, z = upd2 hx1 135 ((5 * (hx1 128 9)) + 2).toNat w3 := ⟨_, rfl⟩
      refine wp_heq e_H2 ?_
      refine wp_aloadR_n 0 C dX12_readsHeap_57 rfl rfl ?_
      refine wp_getR flX12_30 sh_128 rfl C dX12_readsHeap_58 ?_
      refine wp_iconst (v := 5) C dX12_readsHeap_61 rfl ?_
      refine wp_aloadR_n 0 C dX12_readsHeap_62 rfl rfl ?_
      refine wp_getI flX12_114 sh_128 rfl C dX12_readsHeap_63 ?_
      refine wp_top (rdu_ne e_H2 (by decide)) ?_
      refine wp_imul C dX12_readsHeap_66 ?_
      refine wp_iconst (v := 1) C dX12_readsHeap_67 rfl ?_
      refine wp_iadd C dX12_readsHeap_68 ?_
      refine wp_iconst (v := 0) C dX12_readsHeap_69 rfl ?_
      refine wp_iast sh_135 (by omega) C dX12_readsHeap_70 ?_
      obtain ⟨H3, e_H3⟩ : ∃ z : Hp, z = upd2 H2 135 ((5 * (hx1 128 9)) + 1).toNat 0 := ⟨_, rfl⟩
      refine wp_heq e_H3 ?_
      refine wp_aloadR_n 0 C dX12_readsHeap_71 rfl rfl ?_
      refine wp_getR flX12_30 sh_128 rfl C dX12_readsHeap_72 ?_
      refine wp_iconst (v := 5) C dX12_readsHeap_75 rfl ?_
      refine wp_aloadR_n 0 C dX12_readsHeap_76 rfl rfl ?_
      refine wp_getI flX12_114 sh_128 rfl C dX12_readsHeap_77 ?_
      refine wp_top ((rdu_ne e_H3 (by decide)).trans (rdu_ne e_H2 (by decide))) ?_
      refine wp_imul C dX12_readsHeap_80 ?_
      refine wp_iconst (v := 3) C dX12_readsHeap_81 rfl ?_
      refine wp_iadd C dX12_readsHeap_82 ?_
      refine wp_iconst (v := 0) C dX12_readsHeap_83 rfl ?_
      refine wp_iast sh_135 (by omega) C dX12_readsHeap_84 ?_
      obtain ⟨H4, e_H4⟩ : ∃ z : Hp, z = upd2 H3 135 ((5 * (hx1 128 9)) + 3).toNat 0 := ⟨_, rfl⟩
      refine wp_heq e_H4 ?_
      refine wp_aloadR_n 0 C dX12_readsHeap_85 rfl rfl ?_
      rw [show (5 * hx1 128 9 + 2).toNat = 5 * rm + 2 by omega] at e_H2
      rw [show (5 * hx1 128 9 + 1).toNat = 5 * rm + 1 by omega] at e_H3
      rw [show (5 * hx1 128 9 + 3).toNat = 5 * rm + 3 by omega] at e_H4
      have fF : fmH h H4 rm := by rw [e_H4, e_H3, e_H2]; exact fmH_u (by omega) (fmH_u (by omega) (fmH_u (by omega) f2))
      have hat : H4 128 10 = ((nx tx L (nx tx L t)).2 : Int) := by rw [e_H4, e_H3, e_H2]; exact D2.2.2
      have u1 : H4 136 rm = numH tx L 15 (nx tx L t) := by rw [e_H4, e_H3, e_H2]; exact v1a
      have u2 : H4 135 (5 * rm + 2) = colH tx L (nx tx L (nx tx L t)) := by rw [e_H4, e_H3, e_H2]; unfold upd2; rw [if_neg (by omega), if_neg (by omega), if_pos ⟨rfl, rfl⟩, e_w3]
      have u3 : H4 135 (5 * rm + 1) = 0 := by rw [e_H4, e_H3, e_H2]; unfold upd2; rw [if_neg (by omega), if_pos ⟨rfl, rfl⟩]
      have u4 : H4 135 (5 * rm + 3) = 0 := by rw [e_H4, upd2_s]
      refine wp_callV (rest := []) (c_token E H4 tx L (fmH_T fF T) (nx tx L (nx tx L t)) hat B2.2.1) svX12_117 sh_128 (by decide) rfl rfl (Nat.le_of_ble_eq_true rfl) C dX12_readsHeap_86 (fun r0 hx2 pf => ?_)
      obtain ⟨rfl, D3, g2⟩ := pf
      have f3 := fmH_f fF g2
      have r3 := fmH_9 f3 hr
      have p1 : hx2 136 rm = _ := (g2 136 rm (by omega)).trans u1
      have p2 : hx2 135 (5 * rm + 2) = _ := (g2 135 _ (by omega)).trans u2
      have p3 : hx2 135 (5 * rm + 1) = _ := (g2 135 _ (by omega)).trans u3
      have p4 : hx2 135 (5 * rm + 3) = _ := (g2 135 _ (by omega)).trans u4
      refine wp_aloadR_n 0 C dX12_readsHeap_89 rfl rfl ?_
      refine wp_callVp (rest := []) (c_isNumber E hx2 tx L (fmH_T f3 T) (nx tx L (nx tx L (nx tx L t))) D3 B3) svX12_100 sh_128 (by decide) rfl rfl (Nat.le_of_ble_eq_true rfl) C dX12_readsHeap_90 ?_
      refine wp_ifb_ne (tgt := 98) C dX12_readsHeap_93 (by decide) (fun c_93 => ?_) (fun c_93 => ?_)
      · skip
        refine wp_aloadR_n 0 C dX12_readsHeap_98 rfl rfl ?_
        refine wp_iconst (v := 0) C dX12_readsHeap_99 rfl ?_
        refine wp_iconst (v := 0) C dX12_readsHeap_100 rfl ?_
        refine wp_sipush (v := 999) C dX12_readsHeap_101 rfl ?_
        refine wp_callV (rest := []) (c_reads E hx2 tx L (fmH_T f3 T) (nx tx L (nx tx L (nx tx L t))) D3 B3 rm r3 hr9 0 0 999 (by decide) (by decide) (by decide)) svX12_124 sh_128 (by decide) rfl rfl (Nat.le_of_ble_eq_true rfl) C dX12_readsHeap_104 (fun r0 hy1 pf => ?_)
        obtain ⟨rfl, ha1⟩ := pf
        refine wp_ifb_eq (tgt := 132) C dX12_readsHeap_107 (by decide) (fun c_107 => ?_) (fun c_107 => ?_)
        · skip
          refine wp_iconst (v := 0) C dX12_readsHeap_132 rfl ?_
          refine wp_zret (by first | exact bi_01 | omega) C dX12_readsHeap_133 ?_
          obtain ⟨-, e9⟩ := ha1.resolve_left (fun z => c_107 z.1)
          rw [e9]
          rw [show heapR tx L hp t = _ from by unfold heapR; rw [if_neg (show ¬ 20 ≤ hp by omega), if_neg (not_not_intro (show 0 ≤ numH tx L 15 (nx tx L t) by omega)), if_neg (show ¬ colH tx L (nx tx L (nx tx L t)) = -1 by omega), if_neg (not_not_intro c_93), if_pos c_107]]
          exact lmQ_f D3 f3
        · skip
          obtain ⟨o3, s3, D4, g4⟩ := ha1.resolve_right (fun z => z.1 c_107)
          have f4 := fmH_r (k := 0) (by decide) f3 g4
          have r4 := fmH_9 f4 hr
          have q1 : hy1 136 rm = _ := (g4 136 rm (by omega) (by omega)).trans p1
          have q2 : hy1 135 (5 * rm + 2) = _ := (g4 135 _ (by omega) (fun z => absurd z.2 (by show ¬ 5 * rm + 2 = 5 * rm + 1 + 0; omega))).trans p2
          have q3 : hy1 135 (5 * rm + 1) = numH tx L 3 (nx tx L (nx tx L (nx tx L t))) := s3
          have q4 : hy1 135 (5 * rm + 3) = _ := (g4 135 _ (by omega) (fun z => absurd z.2 (by show ¬ 5 * rm + 3 = 5 * rm + 1 + 0; omega))).trans p4
          refine wp_aloadR_n 0 C dX12_readsHeap_110 rfl rfl ?_
          refine wp_callVp (rest := []) (c_isNumber E hy1 tx L (fmH_T f4 T) (nx tx L (nx tx L (nx tx L (nx tx L t)))) D4 B4) svX12_100 sh_128 (by decide) rfl rfl (Nat.le_of_ble_eq_true rfl) C dX12_readsHeap_111 ?_
          refine wp_ifb_eq (tgt := 128) C dX12_readsHeap_114 (by decide) (fun c_114 => ?_) (fun c_114 => ?_)
          · skip
            refine wp_iconst (v := 1) C dX12_readsHeap_128 rfl ?_
            refine wp_goto (tgt := 133) C dX12_readsHeap_129 (by decide) ?_
            refine wp_zret (by first | exact bi_01 | omega) C dX12_readsHeap_133 ?_
            rw [show heapR tx L hp t = _ from by unfold heapR; rw [if_neg (show ¬ 20 ≤ hp by omega), if_neg (not_not_intro (show 0 ≤ numH tx L 15 (nx tx L t) by omega)), if_neg (show ¬ colH tx L (nx tx L (nx tx L t)) = -1 by omega), if_neg (not_not_intro c_93), if_neg (not_not_intro o3), if_pos c_114]]
            exact lmQ_t D4 q1 q2 q3 q4 f4
          · skip
            refine wp_aloadR_n 0 C dX12_readsHeap_117 rfl rfl ?_
            refine wp_iconst (v := 2) C dX12_readsHeap_118 rfl ?_
            refine wp_iconst (v := 0) C dX12_readsHeap_119 rfl ?_
            refine wp_bipush (v := 99) C dX12_readsHeap_120 rfl ?_
            refine wp_callV (rest := []) (c_reads E hy1 tx L (fmH_T f4 T) (nx tx L (nx tx L (nx tx L (nx tx L t)))) D4 B4 rm r4 hr9 2 0 99 (by decide) (by decide) (by decide)) svX12_124 sh_128 (by decide) rfl rfl (Nat.le_of_ble_eq_true rfl) C dX12_readsHeap_122 (fun r0 hy2 pf => ?_)
            obtain ⟨rfl, ha2⟩ := pf
            refine wp_ifb_eq (tgt := 132) C dX12_readsHeap_125 (by decide) (fun c_125 => ?_) (fun c_125 => ?_)
            · skip
              refine wp_iconst (v := 0) C dX12_readsHeap_132 rfl ?_
              refine wp_zret (by first | exact bi_01 | omega) C dX12_readsHeap_133 ?_
              obtain ⟨-, e9⟩ := ha2.resolve_left (fun z => c_125 z.1)
              rw [e9]
              rw [show heapR tx L hp t = _ from by unfold heapR; rw [if_neg (show ¬ 20 ≤ hp by omega), if_neg (not_not_intro (show 0 ≤ numH tx L 15 (nx tx L t) by omega)), if_neg (show ¬ colH tx L (nx tx L (nx tx L t)) = -1 by omega), if_neg (not_not_intro c_93), if_neg (not_not_intro o3), if_neg (not_not_intro c_114), if_pos c_125]]
              exact lmQ_f D4 f4
            · skip
              refine wp_iconst (v := 1) C dX12_readsHeap_128 rfl ?_
              refine wp_goto (tgt := 133) C dX12_readsHeap_129 (by decide) ?_
              refine wp_zret (by first | exact bi_01 | omega) C dX12_readsHeap_133 ?_
              obtain ⟨o4, s4, D5, g5⟩ := ha2.resolve_right (fun z => z.1 c_125)
              have f5 := fmH_r (k := 2) (by decide) f4 g5
              rw [show heapR tx L hp t = _ from by unfold heapR; rw [if_neg (show ¬ 20 ≤ hp by omega), if_neg (not_not_intro (show 0 ≤ numH tx L 15 (nx tx L t) by omega)), if_neg (show ¬ colH tx L (nx tx L (nx tx L t)) = -1 by omega), if_neg (not_not_intro c_93), if_neg (not_not_intro o3), if_neg (not_not_intro c_114), if_neg (not_not_intro o4)]]
              exact lmQ_t D5 ((g5 136 rm (by omega) (by omega)).trans q1) ((g5 135 _ (by omega) (fun z => absurd z.2 (by show ¬ 5 * rm + 2 = 5 * rm + 1 + 2; omega))).trans q2) ((g5 135 _ (by omega) (fun z => absurd z.2 (by show ¬ 5 * rm + 1 = 5 * rm + 1 + 2; omega))).trans q3) s4 f5
      · skip
        refine wp_iconst (v := 1) C dX12_readsHeap_96 rfl ?_
        refine wp_zret (by first | exact bi_01 | omega) C dX12_readsHeap_97 ?_
        rw [show heapR tx L hp t = _ from by unfold heapR; rw [if_neg (show ¬ 20 ≤ hp by omega), if_neg (not_not_intro (show 0 ≤ numH tx L 15 (nx tx L t) by omega)), if_neg (show ¬ colH tx L (nx tx L (nx tx L t)) = -1 by omega), if_pos c_93]]
        exact lmQ_t D3 p1 p2 p3 p4 f3
    · skip
      refine wp_iconst (v := 0) C dX12_readsHeap_41 rfl ?_
      refine wp_zret (by first | exact bi_01 | omega) C dX12_readsHeap_42 ?_
      rw [show heapR tx L hp t = _ from by unfold heapR; rw [if_neg (show ¬ 20 ≤ hp by omega), if_neg (not_not_intro (show 0 ≤ numH tx L 15 (nx tx L t) by omega)), if_pos (show colH tx L (nx tx L (nx tx L t)) = -1 by omega)]]
      exact lmQ_f D2 f2
  · skip
    refine wp_iconst (v := 0) C dX12_readsHeap_15 rfl ?_
    refine wp_zret (by first | exact bi_01 | omega) C dX12_readsHeap_16 ?_
    rw [show heapR tx L hp t = _ from by unfold heapR; rw [if_neg (show ¬ 20 ≤ hp by omega), if_pos (show ¬ 0 ≤ numH tx L 15 (nx tx L t) by omega)]]
    exact lmQ_f D fmH_0

theorem lmQ_b {h hx : Hp} {rm : Nat} {t t2 : Nat × Nat} {hp w v c s k : Int} {p : Prop} [Decidable p] {v9 : Option Value} (hw : w = 0 ∨ w = 2) (hv : v9 = some (iv (bi p))) (h1 : p → RM hx t ∧ hx 135 (5 * rm + 1) = v) (h2 : ¬ p → RM hx t2) (f : fmH h hx rm) : lmQ (if p then (true, t, hp, w, v, c, s, k) else noL t2) rm h hx v9 := by
  by_cases q : p
  · rw [if_pos q, hv, bi_t q]
    exact ⟨by rw [bi_t rfl], (h1 q).1.1, (fun _ => ⟨(h1 q).1, (fun z => by have z9 : w = 1 := z; omega), fun _ => (h1 q).2⟩), f⟩
  · rw [if_neg q, hv, bi_f q]; exact lmQ_f (h2 q) f
set_option maxRecDepth 100000 in
set_option maxHeartbeats 4000000 in
theorem c_readsRest (E : En) (h : Hp) (tx : Nat → Int) (L : Nat) (T : TM h tx L) (t : Nat × Nat) (D : RM h (nx tx L t)) (B : tkB tx L t) (rm : Nat) (hr : h 128 9 = (rm : Int)) (hr9 : rm < 10) (hp : Int) (hhp : 0 ≤ hp ∧ hp ≤ 20) (h13 : h 128 13 = hp) (w : Int) (hw : w = wrdV tx t) (hw0 : ¬ w = -1) (hw1 : w = 1 → hp < 20) : Ct 5 yX12_readsRest cX12_readsRest 2 (some .boolean) E [rv E 128, iv w] h (fun v hx => lmQ (lineR tx L hp t) rm h hx v) := by
  have hL := T.2.1
  have hwr := wrdV_r tx t
  have B1 : tkB tx L (nx tx L t) := nx_B B.2.1
  refine ct_intro (by decide) (Nat.le_of_ble_eq_true rfl) (fun G C => ?_)
  show Wp G E 2 (fun v hx => lmQ (lineR tx L hp t) rm h hx v) 0 [(0, rv E 128), (1, iv w)] [] h
  refine wp_iload_n 1 C dX12_readsRest_0 rfl rfl ?_
  by_cases c_1_0 : w = 0
  · refine wp_tswIn (tgt := 28) (by omega) C dX12_readsRest_1 (by omega) (by omega) (by rw [c_1_0]; rfl) (by decide) ?_
    refine wp_aloadR_n 0 C dX12_readsRest_28 rfl rfl ?_
    refine wp_iconst (v := 0) C dX12_readsRest_29 rfl ?_
    refine wp_iconst (v := 2) C dX12_readsRest_30 rfl ?_
    refine wp_bipush (v := 10) C dX12_readsRest_31 rfl ?_
    refine wp_callV (rest := []) (c_reads E h tx L T (nx tx L t) D B1 rm hr hr9 0 2 (10) (by decide) (by decide) (by omega)) svX12_124 sh_128 (by decide) rfl rfl (Nat.le_of_ble_eq_true rfl) C dX12_readsRest_33 (fun r0 hx pf => ?_)
    obtain ⟨rfl, ha1⟩ := pf
    have fx : fmH h hx rm := by rcases ha1 with ⟨-, -, -, g⟩ | ⟨-, e⟩; exact fmH_r (k := 0) (by decide) fmH_0 g; rw [e]; exact fmH_0
    refine wp_zret (by first | exact bi_01 | omega) C dX12_readsRest_36 ?_
    have w0 : wrdV tx t = 0 := by omega
    rw [show lineR tx L hp t = _ from by unfold lineR; rw [if_pos w0]]
    exact lmQ_b (Or.inl rfl) rfl (fun p => by obtain ⟨-, s1, D2, -⟩ := ha1.resolve_right (fun z => z.1 p); exact ⟨D2, s1⟩) (fun p => by obtain ⟨-, e9⟩ := ha1.resolve_left (fun z => p z.1); rw [e9]; exact D) fx
  by_cases c_1_1 : w = 1
  · refine wp_tswIn (tgt := 37) (by omega) C dX12_readsRest_1 (by omega) (by omega) (by rw [c_1_1]; rfl) (by decide) ?_
    refine wp_aloadR_n 0 C dX12_readsRest_37 rfl rfl ?_
    refine wp_callV (rest := []) (c_readsHeap E h tx L T t D B rm hr hr9 hp (by omega)) svX12_128 sh_128 (by decide) rfl rfl (Nat.le_of_ble_eq_true rfl) C dX12_readsRest_38 (fun r0 hx pf => ?_)
    obtain ⟨r9, pf2, pf3⟩ := pf
    subst r9
    have Q9 := And.intro (rfl : some (iv (bi ((heapR tx L hp t).1 = true))) = _) (And.intro pf2 pf3)
    refine wp_zret (by first | exact bi_01 | omega) C dX12_readsRest_41 ?_
    have w0 : ¬ wrdV tx t = 0 := by omega
    have w1 : wrdV tx t = 1 := by omega
    rw [show lineR tx L hp t = _ from by unfold lineR; rw [if_neg w0, if_pos w1]]
    exact Q9
  by_cases c_1_2 : w = 2
  · refine wp_tswIn (tgt := 42) (by omega) C dX12_readsRest_1 (by omega) (by omega) (by rw [c_1_2]; rfl) (by decide) ?_
    refine wp_aloadR_n 0 C dX12_readsRest_42 rfl rfl ?_
    refine wp_iconst (v := 0) C dX12_readsRest_43 rfl ?_
    refine wp_iconst (v := 0) C dX12_readsRest_44 rfl ?_
    refine wp_aloadR_n 0 C dX12_readsRest_45 rfl rfl ?_
    refine wp_getI flX12_131 sh_128 rfl C dX12_readsRest_46 ?_
    refine wp_iconst (v := 1) C dX12_readsRest_49 rfl ?_
    refine wp_isub C dX12_readsRest_50 ?_
    refine wp_callV (rest := []) (c_reads E h tx L T (nx tx L t) D B1 rm hr hr9 0 0 (h 128 13 - 1) (by decide) (by decide) (by omega)) svX12_124 sh_128 (by decide) rfl rfl (Nat.le_of_ble_eq_true rfl) C dX12_readsRest_51 (fun r0 hx pf => ?_)
    obtain ⟨rfl, ha1⟩ := pf
    have fx : fmH h hx rm := by rcases ha1 with ⟨-, -, -, g⟩ | ⟨-, e⟩; exact fmH_r (k := 0) (by decide) fmH_0 g; rw [e]; exact fmH_0
    refine wp_zret (by first | exact bi_01 | omega) C dX12_readsRest_54 ?_
    have w0 : ¬ wrdV tx t = 0 := by omega
    have w1 : ¬ wrdV tx t = 1 := by omega
    have w2 : wrdV tx t = 2 := by omega
    rw [show lineR tx L hp t = _ from by unfold lineR; rw [if_neg w0, if_neg w1, if_pos w2]]
    exact lmQ_b (Or.inr rfl) (by rw [h13]) (fun p => by rw [← h13] at p; obtain ⟨-, s1, D2, -⟩ := ha1.resolve_right (fun z => z.1 p); exact ⟨D2, s1⟩) (fun p => by rw [← h13] at p; obtain ⟨-, e9⟩ := ha1.resolve_left (fun z => p z.1); rw [e9]; exact D) fx
  refine wp_tswOut (tgt := 55) (by omega) C dX12_readsRest_1 (by omega) (by decide) ?_
  refine wp_iconst (v := 1) C dX12_readsRest_55 rfl ?_
  refine wp_zret (by first | exact bi_01 | omega) C dX12_readsRest_56 ?_
  have w0 : ¬ wrdV tx t = 0 := by omega
  have w1 : ¬ wrdV tx t = 1 := by omega
  have w2 : ¬ wrdV tx t = 2 := by omega
  have w3 : wrdV tx t = 3 := by omega
  rw [show lineR tx L hp t = _ from by unfold lineR; rw [if_neg w0, if_neg w1, if_neg w2, if_pos w3]]
  exact ⟨by rw [bi_t rfl], D.1, (fun _ => ⟨D, (fun z => by cases z), (fun z => by rcases z with y | y <;> cases y)⟩), fmH_0⟩

def mRec (hx : Hp) (j : Nat) (R : LR) : Prop := hx 135 (5 * j) = R.2.2.2.1 ∧ (R.2.2.2.1 = 1 → hx 136 j = R.2.2.2.2.1 ∧ hx 135 (5 * j + 2) = R.2.2.2.2.2.1 ∧ hx 135 (5 * j + 1) = R.2.2.2.2.2.2.1 ∧ hx 135 (5 * j + 3) = R.2.2.2.2.2.2.2) ∧ (R.2.2.2.1 = 0 ∨ R.2.2.2.1 = 2 → hx 135 (5 * j + 1) = R.2.2.2.2.1)
theorem mRec_of {h hx : Hp} {j : Nat} {R : LR} (c : mRec h j R) (h1 : ∀ b, 5 * j ≤ b → b ≤ 5 * j + 3 → hx 135 b = h 135 b) (h2 : hx 136 j = h 136 j) : mRec hx j R := ⟨(h1 _ (by omega) (by omega)).trans c.1, fun z => ⟨h2.trans (c.2.1 z).1, (h1 _ (by omega) (by omega)).trans (c.2.1 z).2.1, (h1 _ (by omega) (by omega)).trans (c.2.1 z).2.2.1, (h1 _ (by omega) (by omega)).trans (c.2.1 z).2.2.2⟩, fun z => (h1 _ (by omega) (by omega)).trans (c.2.2 z)⟩
def frL (h hx : Hp) (rm : Nat) : Prop := ∀ a b, ¬ (a = 128 ∧ 9 ≤ b ∧ b ≤ 13) → ¬ (a = 135 ∧ 5 * rm ≤ b ∧ b ≤ 5 * rm + 3) → ¬ (a = 136 ∧ b = rm) → hx a b = h a b
def lmL (R : LR) (rm : Nat) (h hx : Hp) (v : Option Value) : Prop := v = some (iv (bi (R.1 = true))) ∧ hx 128 11 = (R.2.1.1 : Int) ∧ (R.1 = true → RM hx R.2.1 ∧ hx 128 13 = R.2.2.1 ∧ hx 128 9 = (rm : Int) + 1 ∧ mRec hx rm R) ∧ frL h hx rm
theorem lineR_w {tx : Nat → Int} {L : Nat} {hp : Int} {t : Nat × Nat} (h : (lineR tx L hp t).1 = true) : (lineR tx L hp t).2.2.2.1 = wrdV tx t := by
  unfold lineR at h ⊢
  split at h
  · rename_i z1
    rw [if_pos z1]
    split at h
    · rename_i z2; rw [if_pos z2, z1]
    · cases h
  rename_i z1
  rw [if_neg z1]
  split at h
  · rename_i z2; rw [if_pos z2, z2]; exact heapR_w h
  rename_i z2
  rw [if_neg z2]
  split at h
  · rename_i z3
    rw [if_pos z3]
    split at h
    · rename_i z4; rw [if_pos z4, z3]
    · cases h
  rename_i z3
  rw [if_neg z3]
  split at h
  · rename_i z4; rw [if_pos z4, z4]
  · cases h
set_option maxRecDepth 100000 in
set_option maxHeartbeats 4000000 in
theorem c_readsLine (E : En) (h : Hp) (tx : Nat → Int) (L : Nat) (T : TM h tx L) (t : Nat × Nat) (D : RM h t) (B : tkB tx L t) (rm : Nat) (hr : h 128 9 = (rm : Int)) (hr9 : rm < 10) (hp : Int) (hhp : 0 ≤ hp ∧ hp ≤ 20) (h13 : h 128 13 = hp) : Ct 6 yX12_readsLine cX12_readsLine 2 (some .boolean) E [rv E 128] h (fun v hx => lmL (lineR tx L hp t) rm h hx v) := by
  have hL := T.2.1
  have d1 := D.1
  have d2 := D.2.1
  have b1 := B.1
  have b2 := B.2.1
  have t6 := T.1
  have hwr := wrdV_r tx t
  have B1 : tkB tx L (nx tx L t) := nx_B b2
  have lok := lineR_ok (hp := hp) B
  refine ct_intro (by decide) (Nat.le_of_ble_eq_true rfl) (fun G C => ?_)
  show Wp G E 2 (fun v hx => lmL (lineR tx L hp t) rm h hx v) 0 [(0, rv E 128)] [] h
  refine wp_aloadR_n 0 C dX12_readsLine_0 rfl rfl ?_
  refine wp_callVp (rest := []) (c_wordOf E h tx L T t D B) svX12_134 sh_128 (by decide) rfl rfl (Nat.le_of_ble_eq_true rfl) C dX12_readsLine_1 ?_
  refine wp_nm (fun w1 e_w1 => ?_)
  refine wp_istore_n (ls' := [(0, rv E 128), (1, iv w1)]) [1, 0] C dX12_readsLine_4 rfl (by decide) rfl ?_
  have q26 : (¬ w1 = -1) → (w1 = 1 → hp < 20) → Wp G E 2 (fun v hx => lmL (lineR tx L hp t) rm h hx v) 26 [(0, rv E 128), (1, iv w1)] [] h := by
    intro hw0 hw1
    refine wp_aloadR_n 0 C dX12_readsLine_26 rfl rfl ?_
    refine wp_callV (rest := []) (c_token E h tx L T t D.2.2 b2) svX12_117 sh_128 (by decide) rfl rfl (Nat.le_of_ble_eq_true rfl) C dX12_readsLine_27 (fun r0 hx1 pf => ?_)
    obtain ⟨rfl, D1, g1⟩ := pf
    have n9 : hx1 128 9 = (rm : Int) := (g1 128 9 (by omega)).trans hr
    have n13 : hx1 128 13 = hp := (g1 128 13 (by omega)).trans h13
    refine wp_aloadR_n 0 C dX12_readsLine_30 rfl rfl ?_
    refine wp_getR flX12_30 sh_128 rfl C dX12_readsLine_31 ?_
    refine wp_iconst (v := 5) C dX12_readsLine_34 rfl ?_
    refine wp_aloadR_n 0 C dX12_readsLine_35 rfl rfl ?_
    refine wp_getI flX12_114 sh_128 rfl C dX12_readsLine_36 ?_
    refine wp_imul C dX12_readsLine_39 ?_
    refine wp_iload_n 1 C dX12_readsLine_40 rfl rfl ?_
    refine wp_iast sh_135 (by omega) C dX12_readsLine_41 ?_
    obtain ⟨H1, e_H1⟩ : ∃ z : Hp, z = upd2 hx1 135 (5 * (hx1 128 9)).toNat w1 := ⟨_, rfl⟩
    refine wp_heq e_H1 ?_
    refine wp_aloadR_n 0 C dX12_readsLine_42 rfl rfl ?_
    refine wp_iload_n 1 C dX12_readsLine_43 rfl rfl ?_
    rw [show (5 * hx1 128 9).toNat = 5 * rm by omega] at e_H1
    have T2 : TM H1 tx L := (T.fr g1).of (by rw [e_H1]; rfl) (fun b => by rw [e_H1]; unfold upd2; rw [if_neg (by omega)])
    have D2 : RM H1 (nx tx L t) := by rw [e_H1]; exact D1
    have m9 : H1 128 9 = (rm : Int) := by rw [e_H1]; exact n9
    have m13 : H1 128 13 = hp := by rw [e_H1]; exact n13
    have mw : H1 135 (5 * rm) = w1 := by rw [e_H1, upd2_s]
    refine wp_callV (rest := []) (c_readsRest E H1 tx L T2 t D2 B rm m9 hr9 hp hhp m13 w1 e_w1 hw0 hw1) svX12_137 sh_128 (by decide) rfl rfl (Nat.le_of_ble_eq_true rfl) C dX12_readsLine_44 (fun r0 hx2 pf => ?_)
    obtain ⟨rfl, k1, k2, k3⟩ := pf
    have fr2 : frL h hx2 rm := fun a b h1 h2 h3 => (k3 a b (by omega) (by omega) h3).trans (by rw [e_H1]; unfold upd2; rw [if_neg (by omega)]; exact g1 a b (by omega))
    have kw : hx2 135 (5 * rm) = w1 := (k3 135 _ (by omega) (by omega) (by omega)).trans mw
    have k9 : hx2 128 9 = (rm : Int) := (k3 128 9 (by omega) (by omega) (by omega)).trans m9
    have k13 : hx2 128 13 = hp := (k3 128 13 (by omega) (by omega) (by omega)).trans m13
    refine wp_ifb_ne (tgt := 52) C dX12_readsLine_47 (by decide) (fun c_47 => ?_) (fun c_47 => ?_)
    · skip
      obtain ⟨D3, k4, k5⟩ := k2 c_47
      have lo := lok c_47
      have lw := lineR_w c_47
      refine wp_aloadR_n 0 C dX12_readsLine_52 rfl rfl ?_
      refine wp_iload_n 1 C dX12_readsLine_53 rfl rfl ?_
      refine wp_iconst (v := 3) C dX12_readsLine_54 rfl ?_
      refine wp_icmp_ne (tgt := 62) (by omega) (by omega) C dX12_readsLine_55 (by decide) (fun c_55 => ?_) (fun c_55 => ?_)
      · skip
        refine wp_iload_n 1 C dX12_readsLine_62 rfl rfl ?_
        refine wp_iconst (v := 1) C dX12_readsLine_63 rfl ?_
        refine wp_icmp_ne (tgt := 76) (by omega) (by omega) C dX12_readsLine_64 (by decide) (fun c_64 => ?_) (fun c_64 => ?_)
        · skip
          refine wp_iload_n 1 C dX12_readsLine_76 rfl rfl ?_
          refine wp_iconst (v := 2) C dX12_readsLine_77 rfl ?_
          refine wp_icmp_ne (tgt := 90) (by omega) (by omega) C dX12_readsLine_78 (by decide) (fun c_78 => ?_) (fun c_78 => ?_)
          · skip
            refine wp_aloadR_n 0 C dX12_readsLine_90 rfl rfl ?_
            refine wp_getI flX12_131 sh_128 rfl C dX12_readsLine_91 ?_
            refine wp_putI fpX12_131 sh_128 rfl C dX12_readsLine_94 ?_
            obtain ⟨H2, e_H2⟩ : ∃ z : Hp, z = upd2 hx2 128 13 (hx2 128 13) := ⟨_, rfl⟩
            refine wp_heq e_H2 ?_
            refine wp_aloadR_n 0 C dX12_readsLine_97 rfl rfl ?_
            refine wp_dup rfl C dX12_readsLine_98 ?_
            refine wp_getI flX12_114 sh_128 rfl C dX12_readsLine_99 ?_
            refine wp_top (rdu_nj e_H2 (by decide)) ?_
            refine wp_iconst (v := 1) C dX12_readsLine_102 rfl ?_
            refine wp_iadd C dX12_readsLine_103 ?_
            refine wp_putI fpX12_114 sh_128 rfl C dX12_readsLine_104 ?_
            obtain ⟨H3, e_H3⟩ : ∃ z : Hp, z = upd2 H2 128 9 ((hx2 128 9) + 1) := ⟨_, rfl⟩
            refine wp_heq e_H3 ?_
            refine wp_iconst (v := 1) C dX12_readsLine_107 rfl ?_
            refine wp_zret (by first | exact bi_01 | omega) C dX12_readsLine_108 ?_
            exact ⟨by rw [bi_t c_47], by rw [e_H3, e_H2]; unfold upd2; rw [if_neg (by omega), if_neg (by omega)]; exact k1, fun _ => ⟨⟨by rw [e_H3, e_H2]; unfold upd2; rw [if_neg (by omega), if_neg (by omega)]; exact D3.1, by rw [e_H3, e_H2]; unfold upd2; rw [if_neg (by omega), if_neg (by omega)]; exact D3.2.1, by rw [e_H3, e_H2]; unfold upd2; rw [if_neg (by omega), if_neg (by omega)]; exact D3.2.2⟩, by rw [e_H3, e_H2]; show _ = (lineR tx L hp t).2.2.1; (first | (show upd2 (upd2 _ _ _ _) _ _ _ 128 13 = _; unfold upd2; rw [if_neg (by omega), if_pos ⟨rfl, rfl⟩])); rcases lo with z | z | z | z <;> omega, by rw [e_H3, upd2_s]; omega, mRec_of (h := hx2) ⟨by rw [kw, lw, e_w1], k4, k5⟩ (fun b _ _ => by rw [e_H3, e_H2]; unfold upd2; rw [if_neg (by omega), if_neg (by omega)]) (by rw [e_H3, e_H2]; unfold upd2; rw [if_neg (by omega), if_neg (by omega)])⟩, fun a b h1 h2 h3 => by rw [e_H3, e_H2]; unfold upd2; rw [if_neg (by omega), if_neg (by omega)]; exact fr2 a b h1 h2 h3⟩
          · skip
            refine wp_aloadR_n 0 C dX12_readsLine_81 rfl rfl ?_
            refine wp_getI flX12_131 sh_128 rfl C dX12_readsLine_82 ?_
            refine wp_iconst (v := 1) C dX12_readsLine_85 rfl ?_
            refine wp_isub C dX12_readsLine_86 ?_
            refine wp_goto (tgt := 94) C dX12_readsLine_87 (by decide) ?_
            refine wp_putI fpX12_131 sh_128 rfl C dX12_readsLine_94 ?_
            obtain ⟨H4, e_H4⟩ : ∃ z : Hp, z = upd2 hx2 128 13 ((hx2 128 13) - 1) := ⟨_, rfl⟩
            refine wp_heq e_H4 ?_
            refine wp_aloadR_n 0 C dX12_readsLine_97 rfl rfl ?_
            refine wp_dup rfl C dX12_readsLine_98 ?_
            refine wp_getI flX12_114 sh_128 rfl C dX12_readsLine_99 ?_
            refine wp_top (rdu_nj e_H4 (by decide)) ?_
            refine wp_iconst (v := 1) C dX12_readsLine_102 rfl ?_
            refine wp_iadd C dX12_readsLine_103 ?_
            refine wp_putI fpX12_114 sh_128 rfl C dX12_readsLine_104 ?_
            obtain ⟨H5, e_H5⟩ : ∃ z : Hp, z = upd2 H4 128 9 ((hx2 128 9) + 1) := ⟨_, rfl⟩
            refine wp_heq e_H5 ?_
            refine wp_iconst (v := 1) C dX12_readsLine_107 rfl ?_
            refine wp_zret (by first | exact bi_01 | omega) C dX12_readsLine_108 ?_
            exact ⟨by rw [bi_t c_47], by rw [e_H5, e_H4]; unfold upd2; rw [if_neg (by omega), if_neg (by omega)]; exact k1, fun _ => ⟨⟨by rw [e_H5, e_H4]; unfold upd2; rw [if_neg (by omega), if_neg (by omega)]; exact D3.1, by rw [e_H5, e_H4]; unfold upd2; rw [if_neg (by omega), if_neg (by omega)]; exact D3.2.1, by rw [e_H5, e_H4]; unfold upd2; rw [if_neg (by omega), if_neg (by omega)]; exact D3.2.2⟩, by rw [e_H5, e_H4]; show _ = (lineR tx L hp t).2.2.1; (first | (show upd2 (upd2 _ _ _ _) _ _ _ 128 13 = _; unfold upd2; rw [if_neg (by omega), if_pos ⟨rfl, rfl⟩])); rcases lo with z | z | z | z <;> omega, by rw [e_H5, upd2_s]; omega, mRec_of (h := hx2) ⟨by rw [kw, lw, e_w1], k4, k5⟩ (fun b _ _ => by rw [e_H5, e_H4]; unfold upd2; rw [if_neg (by omega), if_neg (by omega)]) (by rw [e_H5, e_H4]; unfold upd2; rw [if_neg (by omega), if_neg (by omega)])⟩, fun a b h1 h2 h3 => by rw [e_H5, e_H4]; unfold upd2; rw [if_neg (by omega), if_neg (by omega)]; exact fr2 a b h1 h2 h3⟩
        · skip
          refine wp_aloadR_n 0 C dX12_readsLine_67 rfl rfl ?_
          refine wp_getI flX12_131 sh_128 rfl C dX12_readsLine_68 ?_
          refine wp_iconst (v := 1) C dX12_readsLine_71 rfl ?_
          refine wp_iadd C dX12_readsLine_72 ?_
          refine wp_goto (tgt := 94) C dX12_readsLine_73 (by decide) ?_
          refine wp_putI fpX12_131 sh_128 rfl C dX12_readsLine_94 ?_
          obtain ⟨H6, e_H6⟩ : ∃ z : Hp, z = upd2 hx2 128 13 ((hx2 128 13) + 1) := ⟨_, rfl⟩
          refine wp_heq e_H6 ?_
          refine wp_aloadR_n 0 C dX12_readsLine_97 rfl rfl ?_
          refine wp_dup rfl C dX12_readsLine_98 ?_
          refine wp_getI flX12_114 sh_128 rfl C dX12_readsLine_99 ?_
          refine wp_top (rdu_nj e_H6 (by decide)) ?_
          refine wp_iconst (v := 1) C dX12_readsLine_102 rfl ?_
          refine wp_iadd C dX12_readsLine_103 ?_
          refine wp_putI fpX12_114 sh_128 rfl C dX12_readsLine_104 ?_
          obtain ⟨H7, e_H7⟩ : ∃ z : Hp, z = upd2 H6 128 9 ((hx2 128 9) + 1) := ⟨_, rfl⟩
          refine wp_heq e_H7 ?_
          refine wp_iconst (v := 1) C dX12_readsLine_107 rfl ?_
          refine wp_zret (by first | exact bi_01 | omega) C dX12_readsLine_108 ?_
          exact ⟨by rw [bi_t c_47], by rw [e_H7, e_H6]; unfold upd2; rw [if_neg (by omega), if_neg (by omega)]; exact k1, fun _ => ⟨⟨by rw [e_H7, e_H6]; unfold upd2; rw [if_neg (by omega), if_neg (by omega)]; exact D3.1, by rw [e_H7, e_H6]; unfold upd2; rw [if_neg (by omega), if_neg (by omega)]; exact D3.2.1, by rw [e_H7, e_H6]; unfold upd2; rw [if_neg (by omega), if_neg (by omega)]; exact D3.2.2⟩, by rw [e_H7, e_H6]; show _ = (lineR tx L hp t).2.2.1; (first | (show upd2 (upd2 _ _ _ _) _ _ _ 128 13 = _; unfold upd2; rw [if_neg (by omega), if_pos ⟨rfl, rfl⟩])); rcases lo with z | z | z | z <;> omega, by rw [e_H7, upd2_s]; omega, mRec_of (h := hx2) ⟨by rw [kw, lw, e_w1], k4, k5⟩ (fun b _ _ => by rw [e_H7, e_H6]; unfold upd2; rw [if_neg (by omega), if_neg (by omega)]) (by rw [e_H7, e_H6]; unfold upd2; rw [if_neg (by omega), if_neg (by omega)])⟩, fun a b h1 h2 h3 => by rw [e_H7, e_H6]; unfold upd2; rw [if_neg (by omega), if_neg (by omega)]; exact fr2 a b h1 h2 h3⟩
      · skip
        refine wp_iconst (v := 0) C dX12_readsLine_58 rfl ?_
        refine wp_goto (tgt := 94) C dX12_readsLine_59 (by decide) ?_
        refine wp_putI fpX12_131 sh_128 rfl C dX12_readsLine_94 ?_
        obtain ⟨H8, e_H8⟩ : ∃ z : Hp, z = upd2 hx2 128 13 0 := ⟨_, rfl⟩
        refine wp_heq e_H8 ?_
        refine wp_aloadR_n 0 C dX12_readsLine_97 rfl rfl ?_
        refine wp_dup rfl C dX12_readsLine_98 ?_
        refine wp_getI flX12_114 sh_128 rfl C dX12_readsLine_99 ?_
        refine wp_top (rdu_nj e_H8 (by decide)) ?_
        refine wp_iconst (v := 1) C dX12_readsLine_102 rfl ?_
        refine wp_iadd C dX12_readsLine_103 ?_
        refine wp_putI fpX12_114 sh_128 rfl C dX12_readsLine_104 ?_
        obtain ⟨H9, e_H9⟩ : ∃ z : Hp, z = upd2 H8 128 9 ((hx2 128 9) + 1) := ⟨_, rfl⟩
        refine wp_heq e_H9 ?_
        refine wp_iconst (v := 1) C dX12_readsLine_107 rfl ?_
        refine wp_zret (by first | exact bi_01 | omega) C dX12_readsLine_108 ?_
        exact ⟨by rw [bi_t c_47], by rw [e_H9, e_H8]; unfold upd2; rw [if_neg (by omega), if_neg (by omega)]; exact k1, fun _ => ⟨⟨by rw [e_H9, e_H8]; unfold upd2; rw [if_neg (by omega), if_neg (by omega)]; exact D3.1, by rw [e_H9, e_H8]; unfold upd2; rw [if_neg (by omega), if_neg (by omega)]; exact D3.2.1, by rw [e_H9, e_H8]; unfold upd2; rw [if_neg (by omega), if_neg (by omega)]; exact D3.2.2⟩, by rw [e_H9, e_H8]; show _ = (lineR tx L hp t).2.2.1; (first | (show upd2 (upd2 _ _ _ _) _ _ _ 128 13 = _; unfold upd2; rw [if_neg (by omega), if_pos ⟨rfl, rfl⟩])); rcases lo with z | z | z | z <;> omega, by rw [e_H9, upd2_s]; omega, mRec_of (h := hx2) ⟨by rw [kw, lw, e_w1], k4, k5⟩ (fun b _ _ => by rw [e_H9, e_H8]; unfold upd2; rw [if_neg (by omega), if_neg (by omega)]) (by rw [e_H9, e_H8]; unfold upd2; rw [if_neg (by omega), if_neg (by omega)])⟩, fun a b h1 h2 h3 => by rw [e_H9, e_H8]; unfold upd2; rw [if_neg (by omega), if_neg (by omega)]; exact fr2 a b h1 h2 h3⟩
    · skip
      refine wp_iconst (v := 0) C dX12_readsLine_50 rfl ?_
      refine wp_zret (by first | exact bi_01 | omega) C dX12_readsLine_51 ?_
      exact ⟨by rw [bi_f c_47], k1, fun z => absurd z c_47, fr2⟩
  refine wp_iload_n 1 C dX12_readsLine_5 rfl rfl ?_
  refine wp_iconst (v := (-1)) C dX12_readsLine_6 rfl ?_
  refine wp_icmp_eq (tgt := 24) (by omega) (by omega) C dX12_readsLine_7 (by decide) (fun c_7 => ?_) (fun c_7 => ?_)
  · skip
    refine wp_iconst (v := 0) C dX12_readsLine_24 rfl ?_
    refine wp_zret (by first | exact bi_01 | omega) C dX12_readsLine_25 ?_
    rw [show lineR tx L hp t = noL t from by unfold lineR; rw [if_neg (by omega), if_neg (by omega), if_neg (by omega), if_neg (by omega)]]
    exact ⟨by rw [bi_f (fun z => by cases z)], d1, (fun z => by cases z), fun _ _ _ _ _ => rfl⟩
  · skip
    refine wp_iload_n 1 C dX12_readsLine_10 rfl rfl ?_
    refine wp_iconst (v := 1) C dX12_readsLine_11 rfl ?_
    refine wp_icmp_ne (tgt := 26) (by omega) (by omega) C dX12_readsLine_12 (by decide) (fun c_12 => ?_) (fun c_12 => ?_)
    · skip
      exact q26  (c_7) (fun z => absurd z c_12)
    · skip
      refine wp_aloadR_n 0 C dX12_readsLine_15 rfl rfl ?_
      refine wp_getI flX12_131 sh_128 rfl C dX12_readsLine_16 ?_
      refine wp_bipush (v := 20) C dX12_readsLine_19 rfl ?_
      refine wp_icmp_ne (tgt := 26) (by omega) (by omega) C dX12_readsLine_21 (by decide) (fun c_21 => ?_) (fun c_21 => ?_)
      · skip
        exact q26  (c_7) (fun _ => by omega)
      · skip
        refine wp_iconst (v := 0) C dX12_readsLine_24 rfl ?_
        refine wp_zret (by first | exact bi_01 | omega) C dX12_readsLine_25 ?_
        rw [show lineR tx L hp t = noL t from by unfold lineR; rw [if_neg (by omega), if_pos (by omega)]; unfold heapR; rw [if_pos (by omega)]]
        exact ⟨by rw [bi_f (fun z => by cases z)], d1, (fun z => by cases z), fun _ _ _ _ _ => rfl⟩


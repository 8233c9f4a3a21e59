/-! ===== the reference: market ===== -/
theorem mH_MH {h : Hp} {A : HA} (hA : okA A) (m : mH h A) : MH h A.1 A.2.1 A.2.2.1 A.2.2.2.1 A.2.2.2.2.1 A.2.2.2.2.2 := by
  obtain ⟨a1, a2, a3⟩ := hA
  obtain ⟨m1, m2, m3⟩ := m
  exact ⟨m1, a1, m2, a2, fun i hi => ⟨(m3 i hi).1, (a3 i hi).1⟩, fun i hi => ⟨(m3 i hi).2.1, (a3 i hi).2.1⟩, fun i hi => ⟨(m3 i hi).2.2.1, (a3 i hi).2.2.1⟩, fun i hi => ⟨(m3 i hi).2.2.2, (a3 i hi).2.2.2⟩⟩
def mkM (tx : Nat → Int) (L : Nat) (A : HA) (h hx : Hp) (v : Option Value) : Prop := ∃ I, fltP tx L (A.1 : Int) I ∧ ((¬ fltV tx L (A.1 : Int) I = -1 ∧ v = some (iv (-4)) ∧ frF h hx) ∨ (fltV tx L (A.1 : Int) I = -1 ∧ v = some (iv ((I : Int) + 1)) ∧ mH hx (apS tx L (A.1 : Int) A (I + 1)) ∧ hx 131 2 = 0 ∧ hx 133 0 = 0 ∧ hx 133 1 = 0 ∧ hx 128 6 = 0 ∧ (∀ a b, a ≠ 129 → a ≠ 130 → ¬ (a = 131 ∧ b ≤ 2) → a ≠ 133 → a ≠ 135 → a ≠ 136 → ¬ (a = 128 ∧ (b = 6 ∨ (9 ≤ b ∧ b ≤ 13))) → hx a b = h a b)))
set_option maxRecDepth 100000 in
set_option maxHeartbeats 4000000 in
theorem m_market (E : En) (h : Hp) (tx : Nat → Int) (L : Nat) (T : TM h tx L) (A : HA) (hA : okA A) (hm : mH h A) : Ct 8 yX12_market cX12_market 2 (some .int) E [rv E 128] h (fun v hx => mkM tx L A h hx v) := by
  have hL := T.2.1
  have hA20 := hA.1
  refine ct_intro (by decide) (Nat.le_of_ble_eq_true rfl) (fun G C => ?_)
  show Wp G E 2 (fun v hx => mkM tx L A h hx v) 0 [(0, rv E 128)] [] h
  refine wp_aloadR_n 0 C dX12_market_0 rfl rfl ?_
  refine wp_callV (rest := []) (m_fault E h A.1 A.2.1 A.2.2.1 A.2.2.2.1 A.2.2.2.2.1 A.2.2.2.2.2 (mH_MH hA hm) tx L T) svX12_151 sh_128 (by decide) rfl rfl (Nat.le_of_ble_eq_true rfl) C dX12_market_1 (fun r0 hx pf => ?_)
  obtain ⟨I, hI, rfl, hr, hf⟩ := pf
  have hI9 := hI.1
  have hvr := fltV_r (tx := tx) (L := L) (hp := (A.1 : Int)) I
  refine wp_iconst (v := (-1)) C dX12_market_4 rfl ?_
  refine wp_icmp_eq (tgt := 11) (by omega) (by omega) C dX12_market_5 (by decide) (fun c_5 => ?_) (fun c_5 => ?_)
  · skip
    obtain ⟨hr1, hr2⟩ := hr c_5
    have hall := flt_all hI c_5
    refine wp_iconst (v := 0) C dX12_market_11 rfl ?_
    refine wp_istore_n (ls' := [(0, rv E 128), (1, iv 0)]) [1, 0] C dX12_market_12 rfl (by decide) rfl ?_
    have q130 : ∀ n9 : Nat, ∀ (x1 : Int) (hy : Hp), (0 ≤ x1 ∧ x1 ≤ (I : Int) + 1) → (mH hy (apS tx L (A.1 : Int) A x1.toNat)) → (frA hx hy) → ((I : Int) + 1 - x1).toNat < n9 → Wp G E 2 (fun v hx => mkM tx L A h hx v) 13 [(0, rv E 128), (1, iv x1)] [] hy := by
      intro n9
      induction n9 with
      | zero => intro x1 hy hi hmy hfy hm9; exact absurd hm9 (Nat.not_lt_zero _)
      | succ n9 ih9 =>
        intro x1 hy hi hmy hfy hm9
        have ih9_13 := ih9
        have h9 : hy 128 9 = (I : Int) + 1 := (hfy 128 9 (by omega) (by omega) (by omega)).trans hr1
        refine wp_iload_n 1 C dX12_market_13 rfl rfl ?_
        refine wp_aloadR_n 0 C dX12_market_14 rfl rfl ?_
        refine wp_getI flX12_114 sh_128 rfl C dX12_market_15 ?_
        refine wp_icmp_ge (tgt := 32) (by omega) (by omega) C dX12_market_18 (by decide) (fun c_18 => ?_) (fun c_18 => ?_)
        · skip
          refine wp_aloadR_n 0 C dX12_market_32 rfl rfl ?_
          refine wp_getR flX12_17 sh_128 rfl C dX12_market_33 ?_
          refine wp_iconst (v := 2) C dX12_market_36 rfl ?_
          refine wp_iconst (v := 0) C dX12_market_37 rfl ?_
          refine wp_iast sh_131 (by omega) C dX12_market_38 ?_
          obtain ⟨H1, e_H1⟩ : ∃ z : Hp, z = upd2 hy 131 2 0 := ⟨_, rfl⟩
          refine wp_heq e_H1 ?_
          refine wp_aloadR_n 0 C dX12_market_39 rfl rfl ?_
          refine wp_getR flX12_23 sh_128 rfl C dX12_market_40 ?_
          refine wp_iconst (v := 0) C dX12_market_43 rfl ?_
          refine wp_iconst (v := 0) C dX12_market_44 rfl ?_
          refine wp_zast sh_133 (by omega) (by first | exact bi_01 | omega) C dX12_market_45 ?_
          obtain ⟨H2, e_H2⟩ : ∃ z : Hp, z = upd2 H1 133 0 0 := ⟨_, rfl⟩
          refine wp_heq e_H2 ?_
          refine wp_aloadR_n 0 C dX12_market_46 rfl rfl ?_
          refine wp_getR flX12_23 sh_128 rfl C dX12_market_47 ?_
          refine wp_iconst (v := 1) C dX12_market_50 rfl ?_
          refine wp_iconst (v := 0) C dX12_market_51 rfl ?_
          refine wp_zast sh_133 (by omega) (by first | exact bi_01 | omega) C dX12_market_52 ?_
          obtain ⟨H3, e_H3⟩ : ∃ z : Hp, z = upd2 H2 133 1 0 := ⟨_, rfl⟩
          refine wp_heq e_H3 ?_
          refine wp_aloadR_n 0 C dX12_market_53 rfl rfl ?_
          refine wp_iconst (v := 0) C dX12_market_54 rfl ?_
          refine wp_putI fpX12_73 sh_128 rfl C dX12_market_55 ?_
          obtain ⟨H4, e_H4⟩ : ∃ z : Hp, z = upd2 H3 128 6 0 := ⟨_, rfl⟩
          refine wp_heq e_H4 ?_
          refine wp_aloadR_n 0 C dX12_market_58 rfl rfl ?_
          refine wp_getI flX12_114 sh_128 rfl C dX12_market_59 ?_
          refine wp_top ((rdu_nj e_H4 (by decide)).trans ((rdu_ne e_H3 (by decide)).trans ((rdu_ne e_H2 (by decide)).trans (rdu_ne e_H1 (by decide))))) ?_
          refine wp_iret C dX12_market_62 ?_
          rw [show x1.toNat = I + 1 by omega] at hmy
          exact ⟨I, hI, Or.inr ⟨c_5, by rw [h9], ⟨by rw [e_H4, e_H3, e_H2, e_H1]; unfold upd2; rw [if_neg (by omega), if_neg (by omega), if_neg (by omega), if_neg (by omega)]; exact hmy.1, by rw [e_H4, e_H3, e_H2, e_H1]; unfold upd2; rw [if_neg (by omega), if_neg (by omega), if_neg (by omega), if_neg (by omega)]; exact hmy.2.1, fun i hi => ⟨by rw [e_H4, e_H3, e_H2, e_H1]; unfold upd2; rw [if_neg (by omega), if_neg (by omega), if_neg (by omega), if_neg (by omega)]; exact (hmy.2.2 i hi).1, by rw [e_H4, e_H3, e_H2, e_H1]; unfold upd2; rw [if_neg (by omega), if_neg (by omega), if_neg (by omega), if_neg (by omega)]; exact (hmy.2.2 i hi).2.1, by rw [e_H4, e_H3, e_H2, e_H1]; unfold upd2; rw [if_neg (by omega), if_neg (by omega), if_neg (by omega), if_neg (by omega)]; exact (hmy.2.2 i hi).2.2.1, by rw [e_H4, e_H3, e_H2, e_H1]; unfold upd2; rw [if_neg (by omega), if_neg (by omega), if_neg (by omega), if_neg (by omega)]; exact (hmy.2.2 i hi).2.2.2⟩⟩, by rw [e_H4, e_H3, e_H2, e_H1]; rfl, by rw [e_H4, e_H3, e_H2, e_H1]; rfl, by rw [e_H4, e_H3, e_H2, e_H1]; rfl, by rw [e_H4, e_H3, e_H2, e_H1]; rfl, fun a b h1 h2 h3 h4 h5 h6 h7 => by rw [e_H4, e_H3, e_H2, e_H1]; unfold upd2; rw [if_neg (by omega), if_neg (by omega), if_neg (by omega), if_neg (by omega)]; rw [hfy a b h1 h2 (by omega)]; exact hf a b (by omega) h5 h6⟩⟩
        · skip
          have hok := lnR_ok (hall x1.toNat (by omega))
          have hrec : mRec hy x1.toNat (lnR tx L (A.1 : Int) x1.toNat) := mRec_of (hr2 x1.toNat (by omega)) (fun b _ _ => hfy 135 b (by omega) (by omega) (by omega)) (hfy 136 _ (by omega) (by omega) (by omega))
          have hap := apS_ok (tx := tx) (L := L) hA rfl x1.toNat (fun j hj => hall j (by omega))
          refine wp_aloadR_n 0 C dX12_market_21 rfl rfl ?_
          refine wp_iload_n 1 C dX12_market_22 rfl rfl ?_
          refine wp_callV (rest := []) (c_tell E hy (apS tx L (A.1 : Int) A x1.toNat) (lnR tx L (A.1 : Int) x1.toNat) (seqR tx L (A.1 : Int) x1.toNat).2 x1.toNat x1 (by omega) (by omega) hrec hok hmy hap.2 hap.1.1) svX12_154 sh_128 (by decide) rfl rfl (Nat.le_of_ble_eq_true rfl) C dX12_market_23 (fun r0 hz pf => ?_)
          obtain ⟨rfl, s1, s2⟩ := pf
          obtain ⟨v5, e_v5⟩ : ∃ z : Int, z = x1 + (1) := ⟨_, rfl⟩
          refine wp_iinc (j := 1) (y := v5) (ls' := [(0, rv E 128), (1, iv v5)]) [1, 0] C dX12_market_26 rfl e_v5 (by decide) rfl ?_
          refine wp_goto (tgt := 13) C dX12_market_29 (by decide) ?_
          exact ih9_13 v5 hz (by omega) (by rw [e_v5, show (x1 + 1).toNat = x1.toNat + 1 by omega]; exact s1) (fun a b h1 h2 h3 => (s2 a b h1 h2 h3).trans (hfy a b h1 h2 h3)) (by omega)
    have q13 : ∀ (x1 : Int) (hy : Hp), (0 ≤ x1 ∧ x1 ≤ (I : Int) + 1) → (mH hy (apS tx L (A.1 : Int) A x1.toNat)) → (frA hx hy) → Wp G E 2 (fun v hx => mkM tx L A h hx v) 13 [(0, rv E 128), (1, iv x1)] [] hy := fun x1 hy hi hmy hfy => q130 _ x1 hy hi hmy hfy (Nat.lt_succ_self _)
    exact q13 0 hx (by omega) (by show mH hx A; exact ⟨(hf 131 0 (by omega) (by omega) (by omega)).trans hm.1, (hf 131 1 (by omega) (by omega) (by omega)).trans hm.2.1, fun i hi => by rw [hf 129 i (by omega) (by omega) (by omega), hf 130 _ (by omega) (by omega) (by omega), hf 130 _ (by omega) (by omega) (by omega), hf 130 _ (by omega) (by omega) (by omega)]; exact hm.2.2 i hi⟩) (fun _ _ _ _ _ => rfl)
  · skip
    refine wp_bipush (v := (-4)) C dX12_market_8 rfl ?_
    refine wp_iret C dX12_market_10 ?_
    exact ⟨I, hI, Or.inl ⟨c_5, rfl, hf⟩⟩


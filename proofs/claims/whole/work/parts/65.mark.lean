/-! ===== EvenTen: fault, market ===== -/
theorem fltV_r {tx : Nat → Int} {L : Nat} {hp : Int} (i : Nat) : -1 ≤ fltV tx L hp i ∧ fltV tx L hp i ≤ L := by
  have b := lnR_B (tx := tx) (L := L) (hp := hp) i
  have b1 := b.1
  have b2 := b.2.1
  unfold fltV
  split <;> omega
theorem fltV_m {tx : Nat → Int} {L : Nat} {hp : Int} {i : Nat} (h : fltV tx L hp i = -1) : (lnR tx L hp i).1 = true := by
  unfold fltV at h
  split at h
  · rename_i z; exact z.1
  · omega
theorem flt_all {tx : Nat → Int} {L : Nat} {hp : Int} {I : Nat} (hI : fltP tx L hp I) (h : fltV tx L hp I = -1) : ∀ j, j ≤ I → (lnR tx L hp j).1 = true := fun j hj => by
  rcases (show j < I ∨ j = I by omega) with z | z
  · exact (hI.2.1 j z).1
  · rw [z]; exact fltV_m h
def mkQ (tx : Nat → Int) (L : Nat) (A : HA) (h hx : Hp) (v : Option Value) : Prop := ∃ I, fltP tx L (A.1 : Int) I ∧ ((¬ fltV tx L (A.1 : Int) I = -1 ∧ v = some (iv (-4)) ∧ frR h hx) ∨ (fltV tx L (A.1 : Int) I = -1 ∧ v = some (iv ((I : Int) + 1)) ∧ cH hx (apS tx L (A.1 : Int) A (I + 1)) ∧ hx 6 1 = 0 ∧ hx 21 1 = 0 ∧ hx 26 0 = -1 ∧ hx 26 1 = -1 ∧ (∀ a b, ¬ (1 ≤ a ∧ a ≤ 5) → a ≠ 8 → a ≠ 9 → ¬ (11 ≤ a ∧ a < 21) → ¬ (a = 6 ∧ b = 1) → ¬ (a = 21 ∧ b = 1) → a ≠ 26 → hx a b = h a b)))
set_option maxRecDepth 100000 in
set_option maxHeartbeats 4000000 in
theorem x_fault (E : En) (h : Hp) (tx : Nat → Int) (L : Nat) (T : TX h tx L) (hz : 0 ≤ h 1 4 ∧ h 1 4 ≤ 20) : Ct 9 yX11_fault cX11_fault 1 (some .int) E [rv E 0] h (fun v hx => fltC tx L (h 1 4) h hx v) := by
  refine ct_intro (by decide) (Nat.le_of_ble_eq_true rfl) (fun G C => ?_)
  show Wp G E 1 (fun v hx => fltC tx L (h 1 4) h hx v) 0 [(0, rv E 0)] [] h
  refine wp_aloadR_n 0 C dX11_fault_0 rfl rfl ?_
  refine wp_getR flX11_28 sh_0 rfl C dX11_fault_1 ?_
  refine wp_aloadR_n 0 C dX11_fault_4 rfl rfl ?_
  refine wp_getR flX11_10 sh_0 rfl C dX11_fault_5 ?_
  refine wp_getI flX11_104 sh_1 rfl C dX11_fault_8 ?_
  refine wp_callV (rest := []) (c_faultIn E h tx L T (h 1 4) hz) svX11_107 sh_8 (by decide) rfl rfl (Nat.le_of_ble_eq_true rfl) C dX11_fault_11 (fun r0 hx pf => ?_)
  obtain ⟨I, hI, rfl, hr, hf⟩ := pf
  refine wp_iret C dX11_fault_14 ?_
  exact ⟨I, hI, rfl, hr, hf⟩

set_option maxRecDepth 100000 in
set_option maxHeartbeats 4000000 in
theorem x_market (E : En) (h : Hp) (tx : Nat → Int) (L : Nat) (T : TX h tx L) (A : HA) (hA : okA A) (hc : cH h A) : Ct 9 yX11_market cX11_market 2 (some .int) E [rv E 0] h (fun v hx => mkQ tx L A h hx v) := by
  have e14 := hc.1
  have hA20 := hA.1
  have hL := T.2.1
  refine ct_intro (by decide) (Nat.le_of_ble_eq_true rfl) (fun G C => ?_)
  show Wp G E 2 (fun v hx => mkQ tx L A h hx v) 0 [(0, rv E 0)] [] h
  refine wp_aloadR_n 0 C dX11_market_0 rfl rfl ?_
  refine wp_getR flX11_28 sh_0 rfl C dX11_market_1 ?_
  refine wp_aloadR_n 0 C dX11_market_4 rfl rfl ?_
  refine wp_getR flX11_10 sh_0 rfl C dX11_market_5 ?_
  refine wp_getI flX11_104 sh_1 rfl C dX11_market_8 ?_
  have hct := c_faultIn E h tx L T (A.1 : Int) (by omega)
  rw [← e14] at hct
  refine wp_callV (rest := []) (hct) svX11_107 sh_8 (by decide) rfl rfl (Nat.le_of_ble_eq_true rfl) C dX11_market_11 (fun r0 hx pf => ?_)
  rw [e14] at pf
  obtain ⟨I, hI, rfl, hr, hf⟩ := pf
  have hI9 := hI.1
  have hvr := fltV_r (tx := tx) (L := L) (hp := (A.1 : Int)) I
  refine wp_iconst (v := (-1)) C dX11_market_14 rfl ?_
  refine wp_icmp_eq (tgt := 21) (by omega) (by omega) C dX11_market_15 (by decide) (fun c_15 => ?_) (fun c_15 => ?_)
  · skip
    obtain ⟨hr1, hr2⟩ := hr c_15
    have hall := flt_all hI c_15
    refine wp_iconst (v := 0) C dX11_market_21 rfl ?_
    refine wp_istore_n (ls' := [(0, rv E 0), (1, iv 0)]) [1, 0] C dX11_market_22 rfl (by decide) rfl ?_
    have q230 : ∀ n9 : Nat, ∀ (x1 : Int) (hy : Hp), (0 ≤ x1 ∧ x1 ≤ (I : Int) + 1) → (cH hy (apS tx L (A.1 : Int) A x1.toNat)) → (∀ a b, ¬ (1 ≤ a ∧ a ≤ 5) → hy a b = hx a b) → ((I : Int) + 1 - x1).toNat < n9 → Wp G E 2 (fun v hx => mkQ tx L A h hx v) 23 [(0, rv E 0), (1, iv x1)] [] hy := by
      intro n9
      induction n9 with
      | zero => intro x1 hy hi hcy hfy hm9; exact absurd hm9 (Nat.not_lt_zero _)
      | succ n9 ih9 =>
        intro x1 hy hi hcy hfy hm9
        have ih9_23 := ih9
        have h82 : hy 8 2 = (I : Int) + 1 := (hfy 8 2 (by omega)).trans hr1
        refine wp_iload_n 1 C dX11_market_23 rfl rfl ?_
        refine wp_aloadR_n 0 C dX11_market_24 rfl rfl ?_
        refine wp_getR flX11_28 sh_0 rfl C dX11_market_25 ?_
        refine wp_getI flX11_111 sh_8 rfl C dX11_market_28 ?_
        refine wp_icmp_ge (tgt := 65) (by omega) (by omega) C dX11_market_31 (by decide) (fun c_31 => ?_) (fun c_31 => ?_)
        · skip
          refine wp_aloadR_n 0 C dX11_market_65 rfl rfl ?_
          refine wp_getR flX11_19 sh_0 rfl C dX11_market_66 ?_
          refine wp_iconst (v := 0) C dX11_market_69 rfl ?_
          refine wp_putI fpX11_100 sh_6 rfl C dX11_market_70 ?_
          obtain ⟨H1, e_H1⟩ : ∃ z : Hp, z = upd2 hy 6 1 0 := ⟨_, rfl⟩
          refine wp_heq e_H1 ?_
          refine wp_aloadR_n 0 C dX11_market_73 rfl rfl ?_
          refine wp_getR flX11_35 sh_0 rfl C dX11_market_74 ?_
          refine wp_callVu (rest := []) (c_forget E H1) svX11_126 sh_21 (by decide) rfl rfl (Nat.le_of_ble_eq_true rfl) C dX11_market_77 ?_
          show Wp G E 2 (fun v hx => mkQ tx L A h hx v) 80 [(0, rv E 0), (1, iv x1)] [] (fillH (upd2 H1 21 1 0) 26 0 2 (-1))
          obtain ⟨H2, e_H2⟩ : ∃ z : Hp, z = fillH (upd2 H1 21 1 0) 26 0 2 (-1) := ⟨_, rfl⟩
          refine wp_heq e_H2 ?_
          refine wp_aloadR_n 0 C dX11_market_80 rfl rfl ?_
          refine wp_getR flX11_28 sh_0 rfl C dX11_market_81 ?_
          refine wp_getI flX11_111 sh_8 rfl C dX11_market_84 ?_
          refine wp_top (rdf_ne e_H2 (by decide)) ?_
          refine wp_top (show _ = (I : Int) + 1 by first | (rw [e_H1]; exact h82) | (show upd2 H1 21 1 0 8 2 = _; unfold upd2; rw [if_neg (by omega), e_H1]; exact h82)) ?_
          refine wp_iret C dX11_market_87 ?_
          rw [show x1.toNat = I + 1 by omega] at hcy
          exact ⟨I, hI, Or.inr ⟨c_15, rfl, ⟨by rw [e_H2]; unfold fillH upd2; rw [if_neg (by omega), if_neg (by omega), e_H1]; unfold upd2; rw [if_neg (by omega)]; exact hcy.1, by rw [e_H2]; unfold fillH upd2; rw [if_neg (by omega), if_neg (by omega), e_H1]; unfold upd2; rw [if_neg (by omega)]; exact hcy.2.1, fun i hi => ⟨by rw [e_H2]; unfold fillH upd2; rw [if_neg (by omega), if_neg (by omega), e_H1]; unfold upd2; rw [if_neg (by omega)]; exact (hcy.2.2 i hi).1, by rw [e_H2]; unfold fillH upd2; rw [if_neg (by omega), if_neg (by omega), e_H1]; unfold upd2; rw [if_neg (by omega)]; exact (hcy.2.2 i hi).2.1, by rw [e_H2]; unfold fillH upd2; rw [if_neg (by omega), if_neg (by omega), e_H1]; unfold upd2; rw [if_neg (by omega)]; exact (hcy.2.2 i hi).2.2.1, by rw [e_H2]; unfold fillH upd2; rw [if_neg (by omega), if_neg (by omega), e_H1]; unfold upd2; rw [if_neg (by omega)]; exact (hcy.2.2 i hi).2.2.2⟩⟩, by rw [e_H2]; unfold fillH; rw [if_neg (by omega)]; unfold upd2; rw [if_neg (by omega), e_H1]; exact upd2_s, by rw [e_H2]; unfold fillH; rw [if_neg (by omega)]; exact upd2_s, by rw [e_H2]; unfold fillH; rw [if_pos (by omega)], by rw [e_H2]; unfold fillH; rw [if_pos (by omega)], fun a b h1 h2 h3 h4 h5 h6 h7 => by rw [e_H2]; unfold fillH; rw [if_neg (by omega)]; unfold upd2; rw [if_neg (by omega), e_H1]; unfold upd2; rw [if_neg (by omega), hfy a b h1]; exact hf a b h2 h3 h4⟩⟩
        · skip
          have hok := lnR_ok (hall x1.toNat (by omega))
          have hrec : cRec hy x1.toNat (lnR tx L (A.1 : Int) x1.toNat) := cRec_of (hr2 x1.toNat (by omega)) (hfy 9 _ (by omega)) (fun b => hfy _ b (by omega))
          have hap := apS_ok (tx := tx) (L := L) hA rfl x1.toNat (fun j hj => hall j (by omega))
          have hy14 := hcy.1
          have hap1 := hap.1.1
          have hap2 := hap.2
          have hr0 := hrec.2.1
          have hwb : 0 ≤ (lnR tx L (A.1 : Int) x1.toNat).2.2.2.1 ∧ (lnR tx L (A.1 : Int) x1.toNat).2.2.2.1 ≤ 3 := by rcases hok with z | z | z | z <;> omega
          have hw1 : (lnR tx L (A.1 : Int) x1.toNat).2.2.2.1 = 1 → hy 1 4 < 20 := by rcases hok with z | z | z | z <;> omega
          have hw2 : (lnR tx L (A.1 : Int) x1.toNat).2.2.2.1 = 2 → 0 ≤ hy (11 + x1.toNat) 0 ∧ hy (11 + x1.toNat) 0 < hy 1 4 := by rcases hok with z | z | z | z <;> omega
          refine wp_aloadR_n 0 C dX11_market_34 rfl rfl ?_
          refine wp_getR flX11_10 sh_0 rfl C dX11_market_35 ?_
          refine wp_aloadR_n 0 C dX11_market_38 rfl rfl ?_
          refine wp_getR flX11_28 sh_0 rfl C dX11_market_39 ?_
          refine wp_getR flX11_114 sh_8 rfl C dX11_market_42 ?_
          refine wp_iload_n 1 C dX11_market_45 rfl rfl ?_
          refine wp_iald sh_9 (by omega) C dX11_market_46 ?_
          refine wp_top (show _ = (lnR tx L (A.1 : Int) x1.toNat).2.2.2.1 by exact hrec.1) ?_
          refine wp_aloadR_n 0 C dX11_market_47 rfl rfl ?_
          refine wp_getR flX11_28 sh_0 rfl C dX11_market_48 ?_
          refine wp_getR flX11_118 sh_8 rfl C dX11_market_51 ?_
          refine wp_iload_n 1 C dX11_market_54 rfl rfl ?_
          refine wp_aald sh_10 (Or.inr ⟨rfl, rfl, rfl⟩) (by omega) C dX11_market_55 ?_
          refine wp_callVu (rest := []) (c_obey E hy (lnR tx L (A.1 : Int) x1.toNat).2.2.2.1 (11 + x1.toNat) (shr_11 (by omega)) (by omega) hwb (by omega) hw1 hw2) svX11_122 sh_1 (by decide) rfl rfl (Nat.le_of_ble_eq_true rfl) C dX11_market_56 ?_
          show Wp G E 2 (fun v hx => mkQ tx L A h hx v) 59 [(0, rv E 0), (1, iv x1)] [] (obeyH hy (lnR tx L (A.1 : Int) x1.toNat).2.2.2.1 (11 + x1.toNat))
          obtain ⟨H3, e_H3⟩ : ∃ z : Hp, z = obeyH hy (lnR tx L (A.1 : Int) x1.toNat).2.2.2.1 (11 + x1.toNat) := ⟨_, rfl⟩
          refine wp_heq e_H3 ?_
          obtain ⟨v4, e_v4⟩ : ∃ z : Int, z = x1 + (1) := ⟨_, rfl⟩
          refine wp_iinc (j := 1) (y := v4) (ls' := [(0, rv E 0), (1, iv v4)]) [1, 0] C dX11_market_59 rfl e_v4 (by decide) rfl ?_
          refine wp_goto (tgt := 23) C dX11_market_62 (by decide) ?_
          exact ih9_23 v4 H3 (by omega) (by rw [e_v4, show (x1 + 1).toNat = x1.toNat + 1 by omega, e_H3]; exact obey_A hok hrec hcy hap.2 hap.1.1) (fun a b h1 => by rw [e_H3, obey_ne h1]; exact hfy a b h1) (by omega)
    have q23 : ∀ (x1 : Int) (hy : Hp), (0 ≤ x1 ∧ x1 ≤ (I : Int) + 1) → (cH hy (apS tx L (A.1 : Int) A x1.toNat)) → (∀ a b, ¬ (1 ≤ a ∧ a ≤ 5) → hy a b = hx a b) → Wp G E 2 (fun v hx => mkQ tx L A h hx v) 23 [(0, rv E 0), (1, iv x1)] [] hy := fun x1 hy hi hcy hfy => q230 _ x1 hy hi hcy hfy (Nat.lt_succ_self _)
    exact q23 0 hx (by omega) (by show cH hx A; exact ⟨(hf 1 4 (by omega) (by omega) (by omega)).trans hc.1, (hf 1 5 (by omega) (by omega) (by omega)).trans hc.2.1, fun i hi => by rw [hf 2 i (by omega) (by omega) (by omega), hf 3 i (by omega) (by omega) (by omega), hf 4 i (by omega) (by omega) (by omega), hf 5 i (by omega) (by omega) (by omega)]; exact hc.2.2 i hi⟩) (fun _ _ _ => rfl)
  · skip
    refine wp_bipush (v := (-4)) C dX11_market_18 rfl ?_
    refine wp_iret C dX11_market_20 ?_
    exact ⟨I, hI, Or.inl ⟨c_15, rfl, hf⟩⟩


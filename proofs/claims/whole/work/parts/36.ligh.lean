/-! ===== Lightest: offer, extend ===== -/
def offC (h : Hp) (c r lot s : Int) : Prop := (h (54 + c.toNat) r.toNat = -1 ∨ s < h (76 + c.toNat) r.toNat ∨ (s = h (76 + c.toNat) r.toNat ∧ ahdB lot.toNat (h (54 + c.toNat) r.toNat).toNat = true))
def offH (h : Hp) (c r lot s : Int) : Hp := upd2 (upd2 h (54 + c.toNat) r.toNat lot) (76 + c.toNat) r.toNat s
set_option maxRecDepth 100000 in
set_option maxHeartbeats 4000000 in
theorem c_offer (E : En) (h : Hp) (c r lot s : Int) (hc : 0 ≤ c ∧ c ≤ 20) (hr : 0 ≤ r ∧ r < 10) (hlot : 0 ≤ lot ∧ lot ≤ 1048575) (hs : 0 ≤ s ∧ s ≤ 99999999999999999) (hh : h (54 + c.toNat) r.toNat = -1 ∨ (0 ≤ h (54 + c.toNat) r.toNat ∧ h (54 + c.toNat) r.toNat ≤ 1048575 ∧ 0 ≤ h (76 + c.toNat) r.toNat ∧ h (76 + c.toNat) r.toNat ≤ 99999999999999999)) : Ct 1 yX5_offer cX5_offer 9 none E [rv E 52, iv c, iv r, iv lot, jv s] h (fun v hx => v = none ∧ ((offC h c r lot s ∧ hx = offH h c r lot s) ∨ (¬ offC h c r lot s ∧ hx = h))) := by
  refine ct_intro (by decide) (Nat.le_of_ble_eq_true rfl) (fun G C => ?_)
  show Wp G E 9 (fun v hx => v = none ∧ ((offC h c r lot s ∧ hx = offH h c r lot s) ∨ (¬ offC h c r lot s ∧ hx = h))) 0 [(0, rv E 52), (1, iv c), (2, iv r), (3, iv lot), (4, jv s)] [] h
  refine wp_aloadR_n 0 C dX5_offer_0 rfl rfl ?_
  refine wp_getR flX5_11 sh_52 rfl C dX5_offer_1 ?_
  refine wp_iload_n 1 C dX5_offer_4 rfl rfl ?_
  refine wp_aald sh_53 (Or.inl ⟨rfl, rfl, rfl⟩) (by omega) C dX5_offer_5 ?_
  refine wp_iload_n 2 C dX5_offer_6 rfl rfl ?_
  refine wp_iald (shr_54 (by omega)) (by omega) C dX5_offer_7 ?_
  refine wp_nm (fun hd6 e_hd6 => ?_)
  refine wp_istore (ls' := [(0, rv E 52), (1, iv c), (2, iv r), (3, iv lot), (4, jv s), (6, iv hd6)]) [1, 2, 3, 4, 5, 0] C dX5_offer_8 (by decide) rfl ?_
  refine wp_aloadR_n 0 C dX5_offer_10 rfl rfl ?_
  refine wp_getR flX5_18 sh_52 rfl C dX5_offer_11 ?_
  refine wp_iload_n 1 C dX5_offer_14 rfl rfl ?_
  refine wp_aald sh_75 (Or.inr ⟨rfl, rfl, rfl⟩) (by omega) C dX5_offer_15 ?_
  refine wp_iload_n 2 C dX5_offer_16 rfl rfl ?_
  refine wp_lald (shr_76 (by omega)) (by omega) C dX5_offer_17 ?_
  refine wp_nml (fun ls7 e_ls7 => ?_)
  refine wp_lstore (ls' := [(0, rv E 52), (1, iv c), (2, iv r), (3, iv lot), (4, jv s), (6, iv hd6), (7, jv ls7)]) [1, 2, 3, 4, 5, 6, 0] C dX5_offer_18 (by decide) rfl ?_
  rw [← e_hd6, ← e_ls7] at hh
  refine wp_iload 5 C dX5_offer_20 rfl ?_
  refine wp_iconst (v := (-1)) C dX5_offer_22 rfl ?_
  refine wp_icmp_eq (tgt := 51) (by omega) (by omega) C dX5_offer_23 (by decide) (fun c_23 => ?_) (fun c_23 => ?_)
  · skip
    refine wp_aloadR_n 0 C dX5_offer_51 rfl rfl ?_
    refine wp_getR flX5_11 sh_52 rfl C dX5_offer_52 ?_
    refine wp_iload_n 1 C dX5_offer_55 rfl rfl ?_
    refine wp_aald sh_53 (Or.inl ⟨rfl, rfl, rfl⟩) (by omega) C dX5_offer_56 ?_
    refine wp_iload_n 2 C dX5_offer_57 rfl rfl ?_
    refine wp_iload_n 3 C dX5_offer_58 rfl rfl ?_
    refine wp_iast (shr_54 (by omega)) (by omega) C dX5_offer_59 ?_
    obtain ⟨H1, e_H1⟩ : ∃ z : Hp, z = upd2 h (54 + c.toNat) r.toNat lot := ⟨_, rfl⟩
    refine wp_heq e_H1 ?_
    refine wp_aloadR_n 0 C dX5_offer_60 rfl rfl ?_
    refine wp_getR flX5_18 sh_52 rfl C dX5_offer_61 ?_
    refine wp_iload_n 1 C dX5_offer_64 rfl rfl ?_
    refine wp_aald sh_75 (Or.inr ⟨rfl, rfl, rfl⟩) (by omega) C dX5_offer_65 ?_
    refine wp_iload_n 2 C dX5_offer_66 rfl rfl ?_
    refine wp_lload 4 C dX5_offer_67 rfl ?_
    refine wp_last (shr_76 (by omega)) (by omega) C dX5_offer_69 ?_
    obtain ⟨H2, e_H2⟩ : ∃ z : Hp, z = upd2 H1 (76 + c.toNat) r.toNat s := ⟨_, rfl⟩
    refine wp_heq e_H2 ?_
    refine wp_vret C dX5_offer_70 ?_
    exact ⟨rfl, Or.inl ⟨by unfold offC; rw [← e_hd6, ← e_ls7]; exact Or.inl c_23, by subst e_H2 e_H1; rfl⟩⟩
  · skip
    refine wp_lload 4 C dX5_offer_26 rfl ?_
    refine wp_lload 6 C dX5_offer_28 rfl ?_
    refine wp_lcmp_lt (tgt := 51) (by omega) (by omega) C dX5_offer_30 dX5_offer_31 (by decide) (fun c_30 => ?_) (fun c_30 => ?_)
    · skip
      refine wp_aloadR_n 0 C dX5_offer_51 rfl rfl ?_
      refine wp_getR flX5_11 sh_52 rfl C dX5_offer_52 ?_
      refine wp_iload_n 1 C dX5_offer_55 rfl rfl ?_
      refine wp_aald sh_53 (Or.inl ⟨rfl, rfl, rfl⟩) (by omega) C dX5_offer_56 ?_
      refine wp_iload_n 2 C dX5_offer_57 rfl rfl ?_
      refine wp_iload_n 3 C dX5_offer_58 rfl rfl ?_
      refine wp_iast (shr_54 (by omega)) (by omega) C dX5_offer_59 ?_
      obtain ⟨H3, e_H3⟩ : ∃ z : Hp, z = upd2 h (54 + c.toNat) r.toNat lot := ⟨_, rfl⟩
      refine wp_heq e_H3 ?_
      refine wp_aloadR_n 0 C dX5_offer_60 rfl rfl ?_
      refine wp_getR flX5_18 sh_52 rfl C dX5_offer_61 ?_
      refine wp_iload_n 1 C dX5_offer_64 rfl rfl ?_
      refine wp_aald sh_75 (Or.inr ⟨rfl, rfl, rfl⟩) (by omega) C dX5_offer_65 ?_
      refine wp_iload_n 2 C dX5_offer_66 rfl rfl ?_
      refine wp_lload 4 C dX5_offer_67 rfl ?_
      refine wp_last (shr_76 (by omega)) (by omega) C dX5_offer_69 ?_
      obtain ⟨H4, e_H4⟩ : ∃ z : Hp, z = upd2 H3 (76 + c.toNat) r.toNat s := ⟨_, rfl⟩
      refine wp_heq e_H4 ?_
      refine wp_vret C dX5_offer_70 ?_
      exact ⟨rfl, Or.inl ⟨by unfold offC; rw [← e_hd6, ← e_ls7]; exact Or.inr (Or.inl c_30), by subst e_H4 e_H3; rfl⟩⟩
    · skip
      refine wp_lload 4 C dX5_offer_34 rfl ?_
      refine wp_lload 6 C dX5_offer_36 rfl ?_
      refine wp_lcmp_ne (tgt := 70) (by omega) (by omega) C dX5_offer_38 dX5_offer_39 (by decide) (fun c_38 => ?_) (fun c_38 => ?_)
      · skip
        refine wp_vret C dX5_offer_70 ?_
        exact ⟨rfl, Or.inr ⟨by unfold offC; rw [← e_hd6, ← e_ls7]; exact fun z => z.elim c_23 (fun y => y.elim c_30 (fun x => c_38 x.1)), rfl⟩⟩
      · skip
        refine wp_iload_n 3 C dX5_offer_42 rfl rfl ?_
        refine wp_iload 5 C dX5_offer_43 rfl ?_
        refine wp_callSNp (rest := []) (c_isAhead E h lot hd6 (by omega) (by omega) (ahdB lot.toNat hd6.toNat = true) (ahdB_iff (by omega) (by omega))) snX5_67 (by decide) rfl rfl (Nat.le_of_ble_eq_true rfl) C dX5_offer_45 ?_
        refine wp_ifb_eq (tgt := 70) C dX5_offer_48 (by decide) (fun c_48 => ?_) (fun c_48 => ?_)
        · skip
          refine wp_vret C dX5_offer_70 ?_
          exact ⟨rfl, Or.inr ⟨by unfold offC; rw [← e_hd6, ← e_ls7]; exact fun z => z.elim c_23 (fun y => y.elim c_30 (fun x => c_48 x.2)), rfl⟩⟩
        · skip
          refine wp_aloadR_n 0 C dX5_offer_51 rfl rfl ?_
          refine wp_getR flX5_11 sh_52 rfl C dX5_offer_52 ?_
          refine wp_iload_n 1 C dX5_offer_55 rfl rfl ?_
          refine wp_aald sh_53 (Or.inl ⟨rfl, rfl, rfl⟩) (by omega) C dX5_offer_56 ?_
          refine wp_iload_n 2 C dX5_offer_57 rfl rfl ?_
          refine wp_iload_n 3 C dX5_offer_58 rfl rfl ?_
          refine wp_iast (shr_54 (by omega)) (by omega) C dX5_offer_59 ?_
          obtain ⟨H5, e_H5⟩ : ∃ z : Hp, z = upd2 h (54 + c.toNat) r.toNat lot := ⟨_, rfl⟩
          refine wp_heq e_H5 ?_
          refine wp_aloadR_n 0 C dX5_offer_60 rfl rfl ?_
          refine wp_getR flX5_18 sh_52 rfl C dX5_offer_61 ?_
          refine wp_iload_n 1 C dX5_offer_64 rfl rfl ?_
          refine wp_aald sh_75 (Or.inr ⟨rfl, rfl, rfl⟩) (by omega) C dX5_offer_65 ?_
          refine wp_iload_n 2 C dX5_offer_66 rfl rfl ?_
          refine wp_lload 4 C dX5_offer_67 rfl ?_
          refine wp_last (shr_76 (by omega)) (by omega) C dX5_offer_69 ?_
          obtain ⟨H6, e_H6⟩ : ∃ z : Hp, z = upd2 H5 (76 + c.toNat) r.toNat s := ⟨_, rfl⟩
          refine wp_heq e_H6 ?_
          refine wp_vret C dX5_offer_70 ?_
          exact ⟨rfl, Or.inl ⟨by unfold offC; rw [← e_hd6, ← e_ls7]; exact Or.inr (Or.inr ⟨by omega, c_48⟩), by subst e_H6 e_H5; rfl⟩⟩

theorem cOk_bd {N w : Nat → Int} {p r L S : Int} {i c : Nat} (hi : i ≤ 20) (hw : ∀ j, j < i → 0 ≤ w j ∧ w j ≤ 999999999999999) (h : cOk N w p i c r L S) : L = -1 ∨ (0 ≤ L ∧ L ≤ 1048575 ∧ 0 ≤ S ∧ S ≤ 20000000000000000) := by
  rcases h with ⟨h1, -⟩ | ⟨l, h1, h2, h3, -⟩
  · exact Or.inl h1
  · have hb := sumB_0 (f := w) (lot := (l : Int)) i hw
    have hl := h3.1
    have hp : 2 ^ i ≤ 2 ^ 20 := Nat.pow_le_pow_right (by decide) hi
    have e20 : (2 : Nat) ^ 20 = 1048576 := rfl
    right
    refine ⟨by omega, by omega, by omega, ?_⟩
    rw [h2]
    have : (i : Int) * 999999999999999 ≤ 20 * 999999999999999 := by omega
    omega
set_option maxRecDepth 100000 in
set_option maxHeartbeats 4000000 in
theorem c_extend (E : En) (h : Hp) (c i wt : Int) (w : Nat → Int) (hwb : ∀ j : Nat, (j : Int) < h 1 4 → 0 ≤ w j ∧ w j ≤ 999999999999999) (hc : 1 ≤ c ∧ c ≤ 20) (hi : 0 ≤ i ∧ i < h 1 4) (hwt : wt = w i.toNat) (hz : 0 ≤ h 1 4 ∧ h 1 4 ≤ 20) (hp : 2 ≤ h 1 5 ∧ h 1 5 ≤ 10) (hN : ∀ i : Nat, (i : Int) < h 1 4 → 0 ≤ h 2 i ∧ h 2 i ≤ 999999999999999) (hA : ∀ r : Int, 0 ≤ r ∧ r < h 1 5 → cOk (h 2) w (h 1 5) i.toNat (c.toNat - 1) r (h (54 + (c.toNat - 1)) r.toNat) (h (76 + (c.toNat - 1)) r.toNat)) (hB : ∀ r : Int, 0 ≤ r ∧ r < h 1 5 → cOk (h 2) w (h 1 5) i.toNat c.toNat r (h (54 + c.toNat) r.toNat) (h (76 + c.toNat) r.toNat)) : Ct 3 yX5_extend cX5_extend 9 none E [rv E 52, iv c, iv i, jv wt] h (fun v hx => v = none ∧ (∀ r : Int, 0 ≤ r ∧ r < h 1 5 → cOk (h 2) w (h 1 5) (i.toNat + 1) c.toNat r (hx (54 + c.toNat) r.toNat) (hx (76 + c.toNat) r.toNat)) ∧ (∀ a b, a ≠ 54 + c.toNat → a ≠ 76 + c.toNat → hx a b = h a b)) := by
  refine ct_intro (by decide) (Nat.le_of_ble_eq_true rfl) (fun G C => ?_)
  show Wp G E 9 (fun v hx => v = none ∧ (∀ r : Int, 0 ≤ r ∧ r < h 1 5 → cOk (h 2) w (h 1 5) (i.toNat + 1) c.toNat r (hx (54 + c.toNat) r.toNat) (hx (76 + c.toNat) r.toNat)) ∧ (∀ a b, a ≠ 54 + c.toNat → a ≠ 76 + c.toNat → hx a b = h a b)) 0 [(0, rv E 52), (1, iv c), (2, iv i), (3, jv wt)] [] h
  refine wp_aloadR_n 0 C dX5_extend_0 rfl rfl ?_
  refine wp_getR flX5_21 sh_52 rfl C dX5_extend_1 ?_
  refine wp_iload_n 2 C dX5_extend_4 rfl rfl ?_
  refine wp_callVp (rest := []) (c_restOfNumber E h i (by omega) (hN _ (by omega)) (by omega)) svX5_53 sh_1 (by decide) rfl rfl (Nat.le_of_ble_eq_true rfl) C dX5_extend_5 ?_
  refine wp_nm (fun num e_num => ?_)
  refine wp_istore (ls' := [(0, rv E 52), (1, iv c), (2, iv i), (3, jv wt), (5, iv num)]) [1, 2, 3, 4, 0] C dX5_extend_8 (by decide) rfl ?_
  refine wp_iconst (v := 0) C dX5_extend_10 rfl ?_
  refine wp_istore (ls' := [(0, rv E 52), (1, iv c), (2, iv i), (3, jv wt), (5, iv num), (6, iv 0)]) [1, 2, 3, 4, 5, 0] C dX5_extend_11 (by decide) rfl ?_
  have hnm : 0 ≤ num ∧ num < h 1 5 := by rw [e_num]; exact mod_r _ hp
  have q130 : ∀ n9 : Nat, ∀ (x6 : Int) (hx : Hp), (0 ≤ x6 ∧ x6 ≤ h 1 5) → (∀ r : Int, 0 ≤ r ∧ r < h 1 5 → (sbm r num (h 1 5) < x6 → cOk (h 2) w (h 1 5) (i.toNat + 1) c.toNat r (hx (54 + c.toNat) r.toNat) (hx (76 + c.toNat) r.toNat)) ∧ (¬ sbm r num (h 1 5) < x6 → cOk (h 2) w (h 1 5) i.toNat c.toNat r (hx (54 + c.toNat) r.toNat) (hx (76 + c.toNat) r.toNat))) → (∀ a b, a ≠ 54 + c.toNat → a ≠ 76 + c.toNat → hx a b = h a b) → (h 1 5 - x6).toNat < n9 → Wp G E 9 (fun v hx => v = none ∧ (∀ r : Int, 0 ≤ r ∧ r < h 1 5 → cOk (h 2) w (h 1 5) (i.toNat + 1) c.toNat r (hx (54 + c.toNat) r.toNat) (hx (76 + c.toNat) r.toNat)) ∧ (∀ a b, a ≠ 54 + c.toNat → a ≠ 76 + c.toNat → hx a b = h a b)) 13 [(0, rv E 52), (1, iv c), (2, iv i), (3, jv wt), (5, iv num), (6, iv x6)] [] hx := by
    intro n9
    induction n9 with
    | zero => intro x6 hx hi6 hv hf hm9; exact absurd hm9 (Nat.not_lt_zero _)
    | succ n9 ih9 =>
      intro x6 hx hi6 hv hf hm9
      have ih9_13 := ih9
      have s2 : hx 1 5 = h 1 5 := hf 1 5 (by omega) (by omega)
      have hnm : 0 ≤ num ∧ num < h 1 5 := by rw [e_num]; exact mod_r _ hp
      refine wp_iload 5 C dX5_extend_13 rfl ?_
      refine wp_aloadR_n 0 C dX5_extend_15 rfl rfl ?_
      refine wp_getR flX5_21 sh_52 rfl C dX5_extend_16 ?_
      refine wp_getI flX5_57 sh_1 rfl C dX5_extend_19 ?_
      refine wp_icmp_ge (tgt := 93) (by omega) (by omega) C dX5_extend_22 (by decide) (fun c_22 => ?_) (fun c_22 => ?_)
      · skip
        refine wp_vret C dX5_extend_93 ?_
        exact ⟨rfl, fun r hr => (hv r hr).1 (by have := sbm_r (r := r) (x := num) (p := h 1 5) hr hnm; omega), hf⟩
      · skip
        refine wp_aloadR_n 0 C dX5_extend_25 rfl rfl ?_
        refine wp_getR flX5_11 sh_52 rfl C dX5_extend_26 ?_
        refine wp_iload_n 1 C dX5_extend_29 rfl rfl ?_
        refine wp_iconst (v := 1) C dX5_extend_30 rfl ?_
        refine wp_isub C dX5_extend_31 ?_
        refine wp_aald sh_53 (Or.inl ⟨rfl, rfl, rfl⟩) (by omega) C dX5_extend_32 ?_
        refine wp_iload 5 C dX5_extend_33 rfl ?_
        refine wp_iald (shr_54 (by omega)) (by omega) C dX5_extend_35 ?_
        refine wp_top (show _ = h (54 + (c.toNat - 1)) x6.toNat by rw [show (c - 1).toNat = c.toNat - 1 by omega]; exact hf _ _ (by omega) (by omega)) ?_
        refine wp_nm (fun lo7 e_lo7 => ?_)
        refine wp_istore (ls' := [(0, rv E 52), (1, iv c), (2, iv i), (3, jv wt), (5, iv num), (6, iv x6), (7, iv lo7)]) [1, 2, 3, 4, 5, 6, 0] C dX5_extend_36 (by decide) rfl ?_
        refine wp_iload 5 C dX5_extend_38 rfl ?_
        refine wp_iload 4 C dX5_extend_40 rfl ?_
        refine wp_iadd C dX5_extend_42 ?_
        refine wp_aloadR_n 0 C dX5_extend_43 rfl rfl ?_
        refine wp_getR flX5_21 sh_52 rfl C dX5_extend_44 ?_
        refine wp_getI flX5_57 sh_1 rfl C dX5_extend_47 ?_
        refine wp_callSNp (rest := []) (c_turned E hx (x6 + num) (hx 1 5) (by omega) (by omega)) snX5_60 (by decide) rfl rfl (Nat.le_of_ble_eq_true rfl) C dX5_extend_50 ?_
        refine wp_nm (fun wt8 e_wt8 => ?_)
        refine wp_istore (ls' := [(0, rv E 52), (1, iv c), (2, iv i), (3, jv wt), (5, iv num), (6, iv x6), (7, iv lo7), (8, iv wt8)]) [1, 2, 3, 4, 5, 6, 7, 0] C dX5_extend_53 (by decide) rfl ?_
        rw [s2] at e_wt8
        have hwr := trn_r (r := x6) (x := num) (p := h 1 5) (by omega) hnm
        rw [← e_wt8] at hwr
        have hA6 := hA x6 (by omega)
        have hsw : sbm wt8 num (h 1 5) = x6 := (sbm_trn (r := x6) (by omega) hnm hwr).mpr e_wt8
        rw [← e_lo7] at hA6
        have hlb := cOk_bd (by omega) (fun j hj => hwb j (by omega)) hA6
        refine wp_iload 6 C dX5_extend_55 rfl ?_
        refine wp_iconst (v := (-1)) C dX5_extend_57 rfl ?_
        refine wp_icmp_eq (tgt := 87) (by omega) (by omega) C dX5_extend_58 (by decide) (fun c_58 => ?_) (fun c_58 => ?_)
        · skip
          have hno : ∀ l, ¬ vl (h 2) (h 1 5) i.toNat (c.toNat - 1) x6 l := hA6.elim (fun z => z.2) (fun ⟨l, z, _⟩ => absurd c_58 (by omega))
          obtain ⟨y6, e_y6⟩ : ∃ z : Int, z = x6 + (1) := ⟨_, rfl⟩
          refine wp_iinc (j := 5) (y := y6) (ls' := [(0, rv E 52), (1, iv c), (2, iv i), (3, jv wt), (5, iv num), (6, iv y6), (7, iv lo7), (8, iv wt8)]) [1, 2, 3, 4, 5, 0, 6, 7] C dX5_extend_87 rfl e_y6 (by decide) rfl ?_
          refine wp_goto (tgt := 13) C dX5_extend_90 (by decide) ?_
          have hnm : 0 ≤ num ∧ num < h 1 5 := by rw [e_num]; exact mod_r _ hp
          refine wp_loc [0, 1, 2, 3, 4, 5] rfl ?_
          exact ih9_13 y6 hx (by omega) (fun r hr => by have q2 := sbm_trn (r := x6) (x := num) (w := r) (p := h 1 5) (by omega) hnm hr; by_cases q : r = wt8; subst q; refine ⟨fun _ => ?_, fun z => absurd (q2.mpr e_wt8) (by omega)⟩; exact cOk_skip hp hr ((hv _ hr).2 (by rw [q2.mpr e_wt8]; omega)) (Or.inr (by rw [← e_num, q2.mpr e_wt8]; exact hno)); have q3 : ¬ sbm r num (h 1 5) = x6 := fun z => q (by rw [e_wt8]; exact q2.mp z); exact ⟨fun z => (hv r hr).1 (by omega), fun z => (hv r hr).2 (by omega)⟩) (hf) (by omega)
        · skip
          obtain ⟨l1, el, es, hbt⟩ : ∃ l : Nat, lo7 = l ∧ h (76 + (c.toNat - 1)) x6.toNat = sumB w (l : Int) i.toNat ∧ bt (h 2) w (h 1 5) i.toNat (c.toNat - 1) x6 l := hA6.elim (fun z => absurd z.1 c_58) id
          have hl1 := hbt.1.1
          have hpw : 2 ^ i.toNat ≤ 2 ^ 19 := Nat.pow_le_pow_right (by decide) (by omega)
          have e19 : (2 : Nat) ^ 19 = 524288 := rfl
          have hpc := p2_cast i.toNat
          have hsb := sumB_0 (f := w) (lot := (l1 : Int)) i.toNat (fun j hj => hwb j (by omega))
          have hsi : (i.toNat : Int) * 999999999999999 ≤ 20 * 999999999999999 := by omega
          have hw9 := hwb i.toNat (by omega)
          have hcell := (hv wt8 hwr).2 (by omega)
          have hcb := cOk_bd (by omega) (fun j hj => hwb j (by omega)) hcell
          refine wp_aloadR_n 0 C dX5_extend_61 rfl rfl ?_
          refine wp_iload_n 1 C dX5_extend_62 rfl rfl ?_
          refine wp_iload 7 C dX5_extend_63 rfl ?_
          refine wp_iload 6 C dX5_extend_65 rfl ?_
          refine wp_iconst (v := 1) C dX5_extend_67 rfl ?_
          refine wp_iload_n 2 C dX5_extend_68 rfl rfl ?_
          refine wp_ishl (by omega) C dX5_extend_69 ?_
          refine wp_ior C dX5_extend_70 ?_
          refine wp_top (show _ = ((l1 + 2 ^ i.toNat : Nat) : Int) by rw [el, Int.one_mul, bOr_add (by omega) (by omega)]; omega) ?_
          refine wp_aloadR_n 0 C dX5_extend_71 rfl rfl ?_
          refine wp_getR flX5_18 sh_52 rfl C dX5_extend_72 ?_
          refine wp_iload_n 1 C dX5_extend_75 rfl rfl ?_
          refine wp_iconst (v := 1) C dX5_extend_76 rfl ?_
          refine wp_isub C dX5_extend_77 ?_
          refine wp_aald sh_75 (Or.inr ⟨rfl, rfl, rfl⟩) (by omega) C dX5_extend_78 ?_
          refine wp_iload 5 C dX5_extend_79 rfl ?_
          refine wp_lald (shr_76 (by omega)) (by omega) C dX5_extend_81 ?_
          refine wp_topl (show _ = h (76 + (c.toNat - 1)) x6.toNat by rw [show (c - 1).toNat = c.toNat - 1 by omega]; exact hf _ _ (by omega) (by omega)) ?_
          refine wp_lload_n 3 C dX5_extend_82 rfl rfl ?_
          refine wp_ladd C dX5_extend_83 ?_
          refine wp_topl (show _ = sumB w (l1 : Int) i.toNat + w i.toNat by rw [es, hwt]) ?_
          refine wp_callV (rest := []) (c_offer E hx c wt8 ((l1 + 2 ^ i.toNat : Nat) : Int) (sumB w (l1 : Int) i.toNat + w i.toNat) (by omega) (by omega) (by omega) (by omega) (by omega)) svX5_63 sh_52 (by decide) rfl rfl (Nat.le_of_ble_eq_true rfl) C dX5_extend_84 (fun r0 hy pf => ?_)
          obtain ⟨rfl, hpf⟩ := pf
          have hfy : ∀ a b, a ≠ 54 + c.toNat → a ≠ 76 + c.toNat → hy a b = h a b := fun a b h1 h2 => by rcases hpf with ⟨-, rfl⟩ | ⟨-, rfl⟩; rw [← hf a b h1 h2]; unfold offH upd2; rw [if_neg (fun z => h2 z.1), if_neg (fun z => h1 z.1)]; exact hf a b h1 h2
          have hne : ∀ r : Int, 0 ≤ r ∧ r < h 1 5 → r ≠ wt8 → hy (54 + c.toNat) r.toNat = hx (54 + c.toNat) r.toNat ∧ hy (76 + c.toNat) r.toNat = hx (76 + c.toNat) r.toNat := fun r hr hn => by rcases hpf with ⟨-, rfl⟩ | ⟨-, rfl⟩; unfold offH upd2; exact ⟨by rw [if_neg (fun z => by omega), if_neg (fun z => by omega)], by rw [if_neg (fun z => by omega), if_neg (fun z => by omega)]⟩; exact ⟨rfl, rfl⟩
          have hofr := cOk_offer (l1 := l1) hp hwr (by omega) (by omega) hcell (by rw [← e_num, hsw]; exact hbt)
          have hat : cOk (h 2) w (h 1 5) (i.toNat + 1) c.toNat wt8 (hy (54 + c.toNat) wt8.toNat) (hy (76 + c.toNat) wt8.toNat) := by
            rcases hpf with ⟨hq, rfl⟩ | ⟨hq, rfl⟩
            · have h54 : offH hx c wt8 ((l1 + 2 ^ i.toNat : Nat) : Int) (sumB w (l1 : Int) i.toNat + w i.toNat) (54 + c.toNat) wt8.toNat = ((l1 + 2 ^ i.toNat : Nat) : Int) := by unfold offH upd2; rw [if_neg (fun z => by omega), if_pos ⟨rfl, rfl⟩]
              have h76 : offH hx c wt8 ((l1 + 2 ^ i.toNat : Nat) : Int) (sumB w (l1 : Int) i.toNat + w i.toNat) (76 + c.toNat) wt8.toNat = sumB w (l1 : Int) i.toNat + w i.toNat := by unfold offH upd2; rw [if_pos ⟨rfl, rfl⟩]
              rw [h54, h76]
              unfold offC at hq
              rw [Int.toNat_natCast] at hq
              exact hofr.1 hq
            · unfold offC at hq
              rw [Int.toNat_natCast] at hq
              exact hofr.2 hq
          obtain ⟨y6, e_y6⟩ : ∃ z : Int, z = x6 + (1) := ⟨_, rfl⟩
          refine wp_iinc (j := 5) (y := y6) (ls' := [(0, rv E 52), (1, iv c), (2, iv i), (3, jv wt), (5, iv num), (6, iv y6), (7, iv lo7), (8, iv wt8)]) [1, 2, 3, 4, 5, 0, 6, 7] C dX5_extend_87 rfl e_y6 (by decide) rfl ?_
          have hvy : ∀ r : Int, 0 ≤ r ∧ r < h 1 5 → (sbm r num (h 1 5) < y6 → cOk (h 2) w (h 1 5) (i.toNat + 1) c.toNat r (hy (54 + c.toNat) r.toNat) (hy (76 + c.toNat) r.toNat)) ∧ (¬ sbm r num (h 1 5) < y6 → cOk (h 2) w (h 1 5) i.toNat c.toNat r (hy (54 + c.toNat) r.toNat) (hy (76 + c.toNat) r.toNat)) := fun r hr => by
            by_cases q : r = wt8
            · subst q
              exact ⟨fun _ => hat, fun z => absurd hsw (by omega)⟩
            · have q2 := sbm_trn (r := x6) (x := num) (w := r) (p := h 1 5) (by omega) hnm hr
              have q3 : ¬ sbm r num (h 1 5) = x6 := fun z => q (by rw [e_wt8]; exact q2.mp z)
              rw [(hne r hr q).1, (hne r hr q).2]
              exact ⟨fun z => (hv r hr).1 (by omega), fun z => (hv r hr).2 (by omega)⟩
          refine wp_goto (tgt := 13) C dX5_extend_90 (by decide) ?_
          have hnm : 0 ≤ num ∧ num < h 1 5 := by rw [e_num]; exact mod_r _ hp
          refine wp_loc [0, 1, 2, 3, 4, 5] rfl ?_
          exact ih9_13 y6 hy (by omega) (hvy) (hfy) (by omega)
  have q13 : ∀ (x6 : Int) (hx : Hp), (0 ≤ x6 ∧ x6 ≤ h 1 5) → (∀ r : Int, 0 ≤ r ∧ r < h 1 5 → (sbm r num (h 1 5) < x6 → cOk (h 2) w (h 1 5) (i.toNat + 1) c.toNat r (hx (54 + c.toNat) r.toNat) (hx (76 + c.toNat) r.toNat)) ∧ (¬ sbm r num (h 1 5) < x6 → cOk (h 2) w (h 1 5) i.toNat c.toNat r (hx (54 + c.toNat) r.toNat) (hx (76 + c.toNat) r.toNat))) → (∀ a b, a ≠ 54 + c.toNat → a ≠ 76 + c.toNat → hx a b = h a b) → Wp G E 9 (fun v hx => v = none ∧ (∀ r : Int, 0 ≤ r ∧ r < h 1 5 → cOk (h 2) w (h 1 5) (i.toNat + 1) c.toNat r (hx (54 + c.toNat) r.toNat) (hx (76 + c.toNat) r.toNat)) ∧ (∀ a b, a ≠ 54 + c.toNat → a ≠ 76 + c.toNat → hx a b = h a b)) 13 [(0, rv E 52), (1, iv c), (2, iv i), (3, jv wt), (5, iv num), (6, iv x6)] [] hx := fun x6 hx hi6 hv hf => q130 _ x6 hx hi6 hv hf (Nat.lt_succ_self _)
  exact q13 0 h (by omega) (fun r hr => ⟨fun z => absurd z (by have := sbm_r (r := r) (x := num) (p := h 1 5) hr hnm; omega), fun _ => hB r hr⟩) (fun a b _ _ => rfl)


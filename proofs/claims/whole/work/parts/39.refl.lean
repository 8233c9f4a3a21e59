/-! ===== the reference: light, cheap ===== -/
def wOf (N Cs : Nat → Int) (b : Int) : Nat → Int := fun i => if b = 1 then Cs i else N i
theorem wOf_0 {N Cs : Nat → Int} : wOf N Cs 0 = N := funext fun i => if_neg (by decide)
theorem wOf_1 {N Cs : Nat → Int} : wOf N Cs 1 = Cs := funext fun i => if_pos rfl
theorem farI_v : farI = 1152921504606846976 := rfl
theorem lsA_r {N w : Nat → Int} {p r : Int} {m i c : Nat} (hp : 2 ≤ p ∧ p ≤ 10) (hr : 0 ≤ r ∧ r < p) (hm : m ≤ 20) (hw : ∀ j, i ≤ j → j < i + m → 0 ≤ w j ∧ w j ≤ 999999999999999) : (0 ≤ lsA N w p m i c r ∧ lsA N w p m i c r ≤ 19999999999999980) ∨ lsA N w p m i c r = 1152921504606846976 := by
  rcases lsA_main (N := N) (w := w) hp m i c r hr hm hw with ⟨h, -⟩ | ⟨h, -⟩
  · exact Or.inr h
  · left; omega
theorem wtA_z {N w : Nat → Int} {p r : Int} {m i c : Nat} (h : c = 0) : wtA N w p m i c r = 1152921504606846976 := by unfold wtA; rw [if_pos h]; rfl
theorem wtA_f {N w : Nat → Int} {p r : Int} {m i c : Nat} (h : lsA N w p m (i + 1) (c - 1) (sbm r (N i % p) p) = 1152921504606846976) : wtA N w p m i c r = 1152921504606846976 := by unfold wtA; rw [if_pos (show _ = farI from h)]; split <;> rfl
theorem wtA_n {N w : Nat → Int} {p r : Int} {m i c : Nat} (h0 : c ≠ 0) (h : ¬ lsA N w p m (i + 1) (c - 1) (sbm r (N i % p) p) = 1152921504606846976) : wtA N w p m i c r = lsA N w p m (i + 1) (c - 1) (sbm r (N i % p) p) + w i := by unfold wtA; rw [if_neg h0, if_neg (show ¬ _ = farI from h)]
theorem wtA_r {N w : Nat → Int} {p r : Int} {m i c : Nat} (hp : 2 ≤ p ∧ p ≤ 10) (hr : 0 ≤ r ∧ r < p) (hm : m < 20) (hw : ∀ j, i ≤ j → j < i + m + 1 → 0 ≤ w j ∧ w j ≤ 999999999999999) : (0 ≤ wtA N w p m i c r ∧ wtA N w p m i c r ≤ 20999999999999979 ∧ c ≠ 0 ∧ ¬ lsA N w p m (i + 1) (c - 1) (sbm r (N i % p) p) = 1152921504606846976) ∨ wtA N w p m i c r = 1152921504606846976 := by
  have hx := mod_r (N i) hp
  have hw0 := hw i (Nat.le_refl i) (by omega)
  have B := lsA_r (N := N) (w := w) (c := c - 1) (i := i + 1) (m := m) hp (sbm_r hr hx) (by omega) (fun j h1 h2 => hw j (by omega) (by omega))
  by_cases h0 : c = 0
  · exact Or.inr (wtA_z h0)
  · by_cases h1 : lsA N w p m (i + 1) (c - 1) (sbm r (N i % p) p) = 1152921504606846976
    · exact Or.inr (wtA_f h1)
    · left
      rw [wtA_n h0 h1]
      exact ⟨by omega, by omega, h0, h1⟩
theorem lig_ref {N w : Nat → Int} {p what a : Int} {n k : Nat} (hp : 2 ≤ p ∧ p ≤ 10) (hn : n ≤ 20) (hw : ∀ j, j < n → 0 ≤ w j ∧ w j ≤ 999999999999999) (h : (lsA N w p n 0 k 0 = 1152921504606846976 ∧ a = -1) ∨ (¬ lsA N w p n 0 k 0 = 1152921504606846976 ∧ a = if what = 0 then (glA N w p n 0 k 0 : Int) else lsA N w p n 0 k 0)) : ligP N w p n k what a := by
  have eW : ∀ (f : Nat → Int) (l : Nat), sumW f l 0 n = sumB f (l : Int) n := fun f l => by
    have h := sumB_W (f := f) (l := l) n 0
    simp only [sumB, Nat.zero_add, Int.zero_add] at h
    exact h
  have A := lsA_main (N := N) (w := w) hp n 0 k 0 (by omega) hn (fun j _ h2 => hw j (by omega))
  rcases h with ⟨h1, h2⟩ | ⟨h1, h2⟩
  · left
    refine ⟨h2, fun l hl => ?_⟩
    rcases A with ⟨-, a2⟩ | ⟨a1, -⟩
    · exact a2 l (svl_vl.mpr hl)
    · omega
  · right
    rcases A with ⟨a1, -⟩ | ⟨a1, a2, a3, a4⟩
    · exact absurd a1 h1
    · refine ⟨glA N w p n 0 k 0, ⟨svl_vl.mp a2, fun l' hl' => ?_⟩, ?_⟩
      · rcases a4 l' (svl_vl.mpr hl') with z | z | ⟨z1, z2⟩
        · exact Or.inl z
        · right
          left
          rw [← eW, ← eW, a3]
          exact z
        · right
          right
          refine ⟨?_, z2⟩
          rw [← eW, ← eW, a3]
          exact z1
      · rw [h2, ← eW, a3]
set_option maxRecDepth 100000 in
set_option maxHeartbeats 4000000 in
theorem c_ownOf (E : En) (h : Hp) (n : Nat) (p : Int) (N Sc Cl Cs : Nat → Int) (M0 : MH h n p N Sc Cl Cs) (i b : Int) (hi : 0 ≤ i ∧ i < n) (hb : b = 0 ∨ b = 1) : Ct 0 yX12_ownOf cX12_ownOf 3 (some .long) E [rv E 128, iv i, iv b] h (Ret (jv (wOf N Cs b i.toNat)) h) := by
  obtain ⟨m0, m1, m2, m3, mN, mS, mC, mK⟩ := id M0
  obtain ⟨k1, k2, k3⟩ := mN i.toNat (by omega)
  obtain ⟨j1, j2, j3⟩ := mK i.toNat (by omega)
  refine ct_intro (by decide) (Nat.le_of_ble_eq_true rfl) (fun G C => ?_)
  show Wp G E 3 (Ret (jv (wOf N Cs b i.toNat)) h) 0 [(0, rv E 128), (1, iv i), (2, iv b)] [] h
  refine wp_iload_n 2 C dX12_ownOf_0 rfl rfl ?_
  refine wp_if_eq (tgt := 18) (by omega) C dX12_ownOf_1 (by decide) (fun c_1 => ?_) (fun c_1 => ?_)
  · skip
    refine wp_aloadR_n 0 C dX12_ownOf_18 rfl rfl ?_
    refine wp_getR flX12_7 sh_128 rfl C dX12_ownOf_19 ?_
    refine wp_iload_n 1 C dX12_ownOf_22 rfl rfl ?_
    refine wp_lald sh_129 (by omega) C dX12_ownOf_23 ?_
    refine wp_lret C dX12_ownOf_24 ?_
    exact ret_jv (by unfold wOf; rw [if_neg (by omega)]; exact k1)
  · skip
    refine wp_aloadR_n 0 C dX12_ownOf_4 rfl rfl ?_
    refine wp_getR flX12_13 sh_128 rfl C dX12_ownOf_5 ?_
    refine wp_iconst (v := 3) C dX12_ownOf_8 rfl ?_
    refine wp_iload_n 1 C dX12_ownOf_9 rfl rfl ?_
    refine wp_imul C dX12_ownOf_10 ?_
    refine wp_iconst (v := 2) C dX12_ownOf_11 rfl ?_
    refine wp_iadd C dX12_ownOf_12 ?_
    refine wp_iald sh_130 (by omega) C dX12_ownOf_13 ?_
    refine wp_top (show _ = Cs i.toNat by rw [show (3 * i + 2).toNat = 3 * i.toNat + 2 by omega]; exact j1) ?_
    refine wp_i2l (by omega) C dX12_ownOf_14 ?_
    refine wp_goto (tgt := 24) C dX12_ownOf_15 (by decide) ?_
    refine wp_lret C dX12_ownOf_24 ?_
    exact ret_jv (by unfold wOf; rw [if_pos (by omega)])

set_option maxRecDepth 100000 in
set_option maxHeartbeats 4000000 in
theorem c_withOf (E : En) (h : Hp) (n : Nat) (p : Int) (N Sc Cl Cs : Nat → Int) (M0 : MH h n p N Sc Cl Cs) (i c r b : Int) (hi : 0 ≤ i ∧ i < n) (hc : 0 ≤ c ∧ c ≤ 20) (hr : 0 ≤ r ∧ r < p) (hb : b = 0 ∨ b = 1) (he : c ≠ 0 → h 139 (210 * (i.toNat + 1) + 10 * (c.toNat - 1) + (sbm r (N i.toNat % p) p).toNat) = lsA N (wOf N Cs b) p (n - (i.toNat + 1)) (i.toNat + 1) (c.toNat - 1) (sbm r (N i.toNat % p) p)) : Ct 2 yX12_withOf cX12_withOf 8 (some .long) E [rv E 128, iv i, iv c, iv r, iv b] h (Ret (jv (wtA N (wOf N Cs b) p (n - (i.toNat + 1)) i.toNat c.toNat r)) h) := by
  obtain ⟨m0, m1, m2, m3, mN, mS, mC, mK⟩ := id M0
  have hw : ∀ j, j < n → 0 ≤ wOf N Cs b j ∧ wOf N Cs b j ≤ 999999999999999 := fun j hj => by
    have h1 := mN j hj
    have h2 := mK j hj
    unfold wOf
    split <;> omega
  have hmi := mod_r (N i.toNat) m3
  have hsb := sbm_r (r := r) (x := N i.toNat % p) (p := p) (by omega) hmi
  have hlr := lsA_r (N := N) (w := wOf N Cs b) (m := n - (i.toNat + 1)) (i := i.toNat + 1) (c := c.toNat - 1) m3 hsb (by omega) (fun j h1 h2 => hw j (by omega))
  refine ct_intro (by decide) (Nat.le_of_ble_eq_true rfl) (fun G C => ?_)
  show Wp G E 8 (Ret (jv (wtA N (wOf N Cs b) p (n - (i.toNat + 1)) i.toNat c.toNat r)) h) 0 [(0, rv E 128), (1, iv i), (2, iv c), (3, iv r), (4, iv b)] [] h
  refine wp_aloadR_n 0 C dX12_withOf_0 rfl rfl ?_
  refine wp_callVp (rest := []) (c_parts E h n p N Sc Cl Cs M0) svX12_157 sh_128 (by decide) rfl rfl (Nat.le_of_ble_eq_true rfl) C dX12_withOf_1 ?_
  refine wp_istore (ls' := [(0, rv E 128), (1, iv i), (2, iv c), (3, iv r), (4, iv b), (5, iv p)]) [1, 2, 3, 4, 5, 0] C dX12_withOf_4 (by decide) rfl ?_
  refine wp_iload_n 2 C dX12_withOf_6 rfl rfl ?_
  refine wp_if_ne (tgt := 16) (by omega) C dX12_withOf_7 (by decide) (fun c_7 => ?_) (fun c_7 => ?_)
  · skip
    refine wp_aloadR_n 0 C dX12_withOf_16 rfl rfl ?_
    refine wp_getR flX12_43 sh_128 rfl C dX12_withOf_17 ?_
    refine wp_sipush (v := 210) C dX12_withOf_20 rfl ?_
    refine wp_iload_n 1 C dX12_withOf_23 rfl rfl ?_
    refine wp_iconst (v := 1) C dX12_withOf_24 rfl ?_
    refine wp_iadd C dX12_withOf_25 ?_
    refine wp_imul C dX12_withOf_26 ?_
    refine wp_bipush (v := 10) C dX12_withOf_27 rfl ?_
    refine wp_iload_n 2 C dX12_withOf_29 rfl rfl ?_
    refine wp_iconst (v := 1) C dX12_withOf_30 rfl ?_
    refine wp_isub C dX12_withOf_31 ?_
    refine wp_imul C dX12_withOf_32 ?_
    refine wp_iadd C dX12_withOf_33 ?_
    refine wp_iload_n 3 C dX12_withOf_34 rfl rfl ?_
    refine wp_iload 5 C dX12_withOf_35 rfl ?_
    refine wp_iadd C dX12_withOf_37 ?_
    refine wp_aloadR_n 0 C dX12_withOf_38 rfl rfl ?_
    refine wp_iload_n 1 C dX12_withOf_39 rfl rfl ?_
    refine wp_callVp (rest := [iv (r + p), iv ((210 * (i + 1)) + (10 * (c - 1))), rv E 139]) (c_mrestOf E h n p N Sc Cl Cs M0 i (by omega)) svX12_162 sh_128 (by decide) rfl rfl (Nat.le_of_ble_eq_true rfl) C dX12_withOf_40 ?_
    refine wp_isub C dX12_withOf_43 ?_
    refine wp_iload 5 C dX12_withOf_44 rfl ?_
    refine wp_irem (by omega) (by omega) C dX12_withOf_46 ?_
    refine wp_top (tm_sbm (by omega) hmi) ?_
    refine wp_iadd C dX12_withOf_47 ?_
    refine wp_lald sh_139 (by omega) C dX12_withOf_48 ?_
    refine wp_topl (show _ = lsA N (wOf N Cs b) p (n - (i.toNat + 1)) (i.toNat + 1) (c.toNat - 1) (sbm r (N i.toNat % p) p) by rw [← he c_7]; congr 1; omega) ?_
    refine wp_nml (fun rs e_rs => ?_)
    refine wp_lstore (ls' := [(0, rv E 128), (1, iv i), (2, iv c), (3, iv r), (4, iv b), (5, iv p), (6, jv rs)]) [1, 2, 3, 4, 5, 6, 0] C dX12_withOf_49 (by decide) rfl ?_
    refine wp_lload 6 C dX12_withOf_51 rfl ?_
    refine wp_ldc2 (v := 1152921504606846976) C (mT (i := 1149) (by decide +kernel) rfl) dX12_withOf_53 ?_
    refine wp_lcmp_ne (tgt := 66) (by omega) (by omega) C dX12_withOf_56 dX12_withOf_57 (by decide) (fun c_56 => ?_) (fun c_56 => ?_)
    · skip
      refine wp_lload 6 C dX12_withOf_66 rfl ?_
      refine wp_aloadR_n 0 C dX12_withOf_68 rfl rfl ?_
      refine wp_iload_n 1 C dX12_withOf_69 rfl rfl ?_
      refine wp_iload 4 C dX12_withOf_70 rfl ?_
      refine wp_callVp (rest := [jv rs]) (c_ownOf E h n p N Sc Cl Cs M0 i b hi hb) svX12_231 sh_128 (by decide) rfl rfl (Nat.le_of_ble_eq_true rfl) C dX12_withOf_72 ?_
      refine wp_ladd C dX12_withOf_75 ?_
      refine wp_lret C dX12_withOf_76 ?_
      exact ret_jv (by rw [e_rs]; exact (wtA_n (by omega) (by omega)).symm)
    · skip
      refine wp_ldc2 (v := 1152921504606846976) C (mT (i := 1149) (by decide +kernel) rfl) dX12_withOf_60 ?_
      refine wp_goto (tgt := 76) C dX12_withOf_63 (by decide) ?_
      refine wp_lret C dX12_withOf_76 ?_
      exact ret_jv (wtA_f (by omega)).symm
  · skip
    refine wp_ldc2 (v := 1152921504606846976) C (mT (i := 1149) (by decide +kernel) rfl) dX12_withOf_10 ?_
    refine wp_goto (tgt := 49) C dX12_withOf_13 (by decide) ?_
    refine wp_lstore (ls' := [(0, rv E 128), (1, iv i), (2, iv c), (3, iv r), (4, iv b), (5, iv p), (6, jv 1152921504606846976)]) [1, 2, 3, 4, 5, 6, 0] C dX12_withOf_49 (by decide) rfl ?_
    refine wp_lload 6 C dX12_withOf_51 rfl ?_
    refine wp_ldc2 (v := 1152921504606846976) C (mT (i := 1149) (by decide +kernel) rfl) dX12_withOf_53 ?_
    refine wp_lcmp_ne (tgt := 66) (by omega) (by omega) C dX12_withOf_56 dX12_withOf_57 (by decide) (fun c_56 => ?_) (fun c_56 => ?_)
    · skip
      refine wp_lload 6 C dX12_withOf_66 rfl ?_
      refine wp_aloadR_n 0 C dX12_withOf_68 rfl rfl ?_
      refine wp_iload_n 1 C dX12_withOf_69 rfl rfl ?_
      refine wp_iload 4 C dX12_withOf_70 rfl ?_
      refine wp_callVp (rest := [jv 1152921504606846976]) (c_ownOf E h n p N Sc Cl Cs M0 i b hi hb) svX12_231 sh_128 (by decide) rfl rfl (Nat.le_of_ble_eq_true rfl) C dX12_withOf_72 ?_
      refine wp_ladd C dX12_withOf_75 ?_
      refine wp_lret C dX12_withOf_76 ?_
      exact absurd rfl c_56
    · skip
      refine wp_ldc2 (v := 1152921504606846976) C (mT (i := 1149) (by decide +kernel) rfl) dX12_withOf_60 ?_
      refine wp_goto (tgt := 76) C dX12_withOf_63 (by decide) ?_
      refine wp_lret C dX12_withOf_76 ?_
      exact ret_jv (wtA_z (by omega)).symm

set_option maxRecDepth 100000 in
set_option maxHeartbeats 4000000 in
theorem c_layLeast (E : En) (h : Hp) (n : Nat) (p : Int) (N Sc Cl Cs : Nat → Int) (M0 : MH h n p N Sc Cl Cs) (b : Int) (hb : b = 0 ∨ b = 1) : Ct 3 yX12_layLeast cX12_layLeast 11 none E [rv E 128, iv b] h (fun v hx => v = none ∧ (∀ j : Nat, j ≤ n → ∀ c : Nat, c < 21 → ∀ r : Nat, (r : Int) < p → hx 139 (210 * j + 10 * c + r) = lsA N (wOf N Cs b) p (n - j) j c r) ∧ (∀ a b, a ≠ 139 → hx a b = h a b)) := by
  obtain ⟨m0, m1, m2, m3, mN, mS, mC, mK⟩ := id M0
  have hw : ∀ j, j < n → 0 ≤ wOf N Cs b j ∧ wOf N Cs b j ≤ 999999999999999 := fun j hj => by
    have h1 := mN j hj
    have h2 := mK j hj
    unfold wOf
    split <;> omega
  refine ct_intro (by decide) (Nat.le_of_ble_eq_true rfl) (fun G C => ?_)
  show Wp G E 11 (fun v hx => v = none ∧ (∀ j : Nat, j ≤ n → ∀ c : Nat, c < 21 → ∀ r : Nat, (r : Int) < p → hx 139 (210 * j + 10 * c + r) = lsA N (wOf N Cs b) p (n - j) j c r) ∧ (∀ a b, a ≠ 139 → hx a b = h a b)) 0 [(0, rv E 128), (1, iv b)] [] h
  refine wp_aloadR_n 0 C dX12_layLeast_0 rfl rfl ?_
  refine wp_callVp (rest := []) (c_heaps E h n p N Sc Cl Cs M0) svX12_141 sh_128 (by decide) rfl rfl (Nat.le_of_ble_eq_true rfl) C dX12_layLeast_1 ?_
  refine wp_istore_n (ls' := [(0, rv E 128), (1, iv b), (2, iv (n : Int))]) [1, 2, 0] C dX12_layLeast_4 rfl (by decide) rfl ?_
  refine wp_aloadR_n 0 C dX12_layLeast_5 rfl rfl ?_
  refine wp_callVp (rest := []) (c_parts E h n p N Sc Cl Cs M0) svX12_157 sh_128 (by decide) rfl rfl (Nat.le_of_ble_eq_true rfl) C dX12_layLeast_6 ?_
  refine wp_istore_n (ls' := [(0, rv E 128), (1, iv b), (2, iv (n : Int)), (3, iv p)]) [1, 2, 3, 0] C dX12_layLeast_9 rfl (by decide) rfl ?_
  refine wp_iconst (v := 0) C dX12_layLeast_10 rfl ?_
  refine wp_istore (ls' := [(0, rv E 128), (1, iv b), (2, iv (n : Int)), (3, iv p), (4, iv 0)]) [1, 2, 3, 4, 0] C dX12_layLeast_11 (by decide) rfl ?_
  have q130 : ∀ n9 : Nat, ∀ (x4 : Int) (hx : Hp), (0 ≤ x4 ∧ x4 ≤ 210) → (∀ d : Nat, (d : Int) < x4 → hx 139 (210 * n + d) = if d = 0 then 0 else 1152921504606846976) → (∀ a b, a ≠ 139 → hx a b = h a b) → (210 - x4).toNat < n9 → Wp G E 11 (fun v hx => v = none ∧ (∀ j : Nat, j ≤ n → ∀ c : Nat, c < 21 → ∀ r : Nat, (r : Int) < p → hx 139 (210 * j + 10 * c + r) = lsA N (wOf N Cs b) p (n - j) j c r) ∧ (∀ a b, a ≠ 139 → hx a b = h a b)) 13 [(0, rv E 128), (1, iv b), (2, iv (n : Int)), (3, iv p), (4, iv x4)] [] hx := by
    intro n9
    induction n9 with
    | zero => intro x4 hx hi hb0 hf hm9; exact absurd hm9 (Nat.not_lt_zero _)
    | succ n9 ih9 =>
      intro x4 hx hi hb0 hf hm9
      have ih9_13 := ih9
      refine wp_iload 4 C dX12_layLeast_13 rfl ?_
      refine wp_sipush (v := 210) C dX12_layLeast_15 rfl ?_
      refine wp_icmp_ge (tgt := 52) (by omega) (by omega) C dX12_layLeast_18 (by decide) (fun c_18 => ?_) (fun c_18 => ?_)
      · skip
        refine wp_iload_n 2 C dX12_layLeast_52 rfl rfl ?_
        refine wp_iconst (v := 1) C dX12_layLeast_53 rfl ?_
        refine wp_isub C dX12_layLeast_54 ?_
        refine wp_nm (fun y4s e_y4s => ?_)
        refine wp_istore (ls' := [(0, rv E 128), (1, iv b), (2, iv (n : Int)), (3, iv p), (4, iv y4s)]) [1, 2, 3, 4, 0] C dX12_layLeast_55 (by decide) rfl ?_
        have q570 : ∀ n9 : Nat, ∀ (x4 : Int) (hx : Hp), (-1 ≤ x4 ∧ x4 < n) → (∀ j : Nat, x4 < (j : Int) → j ≤ n → ∀ c : Nat, c < 21 → ∀ r : Nat, (r : Int) < p → hx 139 (210 * j + 10 * c + r) = lsA N (wOf N Cs b) p (n - j) j c r) → (∀ a b, a ≠ 139 → hx a b = h a b) → (x4 + 1).toNat < n9 → Wp G E 11 (fun v hx => v = none ∧ (∀ j : Nat, j ≤ n → ∀ c : Nat, c < 21 → ∀ r : Nat, (r : Int) < p → hx 139 (210 * j + 10 * c + r) = lsA N (wOf N Cs b) p (n - j) j c r) ∧ (∀ a b, a ≠ 139 → hx a b = h a b)) 57 [(0, rv E 128), (1, iv b), (2, iv (n : Int)), (3, iv p), (4, iv x4)] [] hx := by
          intro n9
          induction n9 with
          | zero => intro x4 hx hi hww hf hm9; exact absurd hm9 (Nat.not_lt_zero _)
          | succ n9 ih9 =>
            intro x4 hx hi hww hf hm9
            have ih9_57 := ih9
            refine wp_iload 4 C dX12_layLeast_57 rfl ?_
            refine wp_if_lt (tgt := 171) (by omega) C dX12_layLeast_59 (by decide) (fun c_59 => ?_) (fun c_59 => ?_)
            · skip
              refine wp_vret C dX12_layLeast_171 ?_
              exact ⟨rfl, fun j hj c hc r hr => hww j (by omega) hj c hc r hr, hf⟩
            · skip
              refine wp_iconst (v := 0) C dX12_layLeast_62 rfl ?_
              refine wp_istore (ls' := [(0, rv E 128), (1, iv b), (2, iv (n : Int)), (3, iv p), (4, iv x4), (5, iv 0)]) [1, 2, 3, 4, 5, 0] C dX12_layLeast_63 (by decide) rfl ?_
              have q650 : ∀ n9 : Nat, ∀ (x5 : Int) (hx : Hp), (0 ≤ x5 ∧ x5 ≤ 21) → (∀ j : Nat, x4 < (j : Int) → j ≤ n → ∀ c : Nat, c < 21 → ∀ r : Nat, (r : Int) < p → hx 139 (210 * j + 10 * c + r) = lsA N (wOf N Cs b) p (n - j) j c r) → (∀ c : Nat, (c : Int) < x5 → ∀ r : Nat, (r : Int) < p → hx 139 (210 * x4.toNat + 10 * c + r) = lsA N (wOf N Cs b) p (n - x4.toNat) x4.toNat c r) → (∀ a b, a ≠ 139 → hx a b = h a b) → (21 - x5).toNat < n9 → Wp G E 11 (fun v hx => v = none ∧ (∀ j : Nat, j ≤ n → ∀ c : Nat, c < 21 → ∀ r : Nat, (r : Int) < p → hx 139 (210 * j + 10 * c + r) = lsA N (wOf N Cs b) p (n - j) j c r) ∧ (∀ a b, a ≠ 139 → hx a b = h a b)) 65 [(0, rv E 128), (1, iv b), (2, iv (n : Int)), (3, iv p), (4, iv x4), (5, iv x5)] [] hx := by
                intro n9
                induction n9 with
                | zero => intro x5 hx hi5 hww hc0 hf hm9; exact absurd hm9 (Nat.not_lt_zero _)
                | succ n9 ih9 =>
                  intro x5 hx hi5 hww hc0 hf hm9
                  have ih9_65 := ih9
                  refine wp_iload 5 C dX12_layLeast_65 rfl ?_
                  refine wp_bipush (v := 21) C dX12_layLeast_67 rfl ?_
                  refine wp_icmp_ge (tgt := 165) (by omega) (by omega) C dX12_layLeast_69 (by decide) (fun c_69 => ?_) (fun c_69 => ?_)
                  · skip
                    obtain ⟨y4m, e_y4m⟩ : ∃ z : Int, z = x4 + (-1) := ⟨_, rfl⟩
                    refine wp_iinc (j := 4) (y := y4m) (ls' := [(0, rv E 128), (1, iv b), (2, iv (n : Int)), (3, iv p), (4, iv y4m), (5, iv x5)]) [1, 2, 3, 4, 0, 5] C dX12_layLeast_165 rfl e_y4m (by decide) rfl ?_
                    refine wp_goto (tgt := 57) C dX12_layLeast_168 (by decide) ?_
                    refine wp_loc [0, 1, 2, 3, 4] rfl ?_
                    exact ih9_57 y4m hx (by omega) (fun j h1 h2 c hc r hr => by rcases (show x4 < (j : Int) ∨ j = x4.toNat by omega) with q | rfl; exact hww j q h2 c hc r hr; exact hc0 c (by omega) r hr) (hf) (by omega)
                  · skip
                    refine wp_iconst (v := 0) C dX12_layLeast_72 rfl ?_
                    refine wp_istore (ls' := [(0, rv E 128), (1, iv b), (2, iv (n : Int)), (3, iv p), (4, iv x4), (5, iv x5), (6, iv 0)]) [1, 2, 3, 4, 5, 6, 0] C dX12_layLeast_73 (by decide) rfl ?_
                    have q750 : ∀ n9 : Nat, ∀ (x6 : Int) (hx : Hp), (0 ≤ x6 ∧ x6 ≤ p) → (∀ j : Nat, x4 < (j : Int) → j ≤ n → ∀ c : Nat, c < 21 → ∀ r : Nat, (r : Int) < p → hx 139 (210 * j + 10 * c + r) = lsA N (wOf N Cs b) p (n - j) j c r) → (∀ c : Nat, (c : Int) < x5 → ∀ r : Nat, (r : Int) < p → hx 139 (210 * x4.toNat + 10 * c + r) = lsA N (wOf N Cs b) p (n - x4.toNat) x4.toNat c r) → (∀ r : Nat, (r : Int) < x6 → hx 139 (210 * x4.toNat + 10 * x5.toNat + r) = lsA N (wOf N Cs b) p (n - x4.toNat) x4.toNat x5.toNat r) → (∀ a b, a ≠ 139 → hx a b = h a b) → (p - x6).toNat < n9 → Wp G E 11 (fun v hx => v = none ∧ (∀ j : Nat, j ≤ n → ∀ c : Nat, c < 21 → ∀ r : Nat, (r : Int) < p → hx 139 (210 * j + 10 * c + r) = lsA N (wOf N Cs b) p (n - j) j c r) ∧ (∀ a b, a ≠ 139 → hx a b = h a b)) 75 [(0, rv E 128), (1, iv b), (2, iv (n : Int)), (3, iv p), (4, iv x4), (5, iv x5), (6, iv x6)] [] hx := by
                      intro n9
                      induction n9 with
                      | zero => intro x6 hx hi6 hww hc0 hr0 hf hm9; exact absurd hm9 (Nat.not_lt_zero _)
                      | succ n9 ih9 =>
                        intro x6 hx hi6 hww hc0 hr0 hf hm9
                        have ih9_75 := ih9
                        have Mx : MH hx n p N Sc Cl Cs := M0.of (fun b => ⟨hf _ _ (by decide), hf _ _ (by decide), hf _ _ (by decide)⟩)
                        refine wp_iload 6 C dX12_layLeast_75 rfl ?_
                        refine wp_iload_n 3 C dX12_layLeast_77 rfl rfl ?_
                        refine wp_icmp_ge (tgt := 159) (by omega) (by omega) C dX12_layLeast_78 (by decide) (fun c_78 => ?_) (fun c_78 => ?_)
                        · skip
                          obtain ⟨y5, e_y5⟩ : ∃ z : Int, z = x5 + (1) := ⟨_, rfl⟩
                          refine wp_iinc (j := 5) (y := y5) (ls' := [(0, rv E 128), (1, iv b), (2, iv (n : Int)), (3, iv p), (4, iv x4), (5, iv y5), (6, iv x6)]) [1, 2, 3, 4, 5, 0, 6] C dX12_layLeast_159 rfl e_y5 (by decide) rfl ?_
                          refine wp_goto (tgt := 65) C dX12_layLeast_162 (by decide) ?_
                          refine wp_loc [0, 1, 2, 3, 4, 5] rfl ?_
                          exact ih9_65 y5 hx (by omega) (hww) (fun c hc r hr => by rcases (show (c : Int) < x5 ∨ c = x5.toNat by omega) with q | rfl; exact hc0 c q r hr; exact hr0 r (by omega)) (hf) (by omega)
                        · skip
                          have hmi := mod_r (N x4.toNat) m3
                          have hsb := sbm_r (r := x6) (x := N x4.toNat % p) (p := p) (by omega) hmi
                          refine wp_aloadR_n 0 C dX12_layLeast_81 rfl rfl ?_
                          refine wp_getR flX12_43 sh_128 rfl C dX12_layLeast_82 ?_
                          refine wp_sipush (v := 210) C dX12_layLeast_85 rfl ?_
                          refine wp_iload 4 C dX12_layLeast_88 rfl ?_
                          refine wp_iconst (v := 1) C dX12_layLeast_90 rfl ?_
                          refine wp_iadd C dX12_layLeast_91 ?_
                          refine wp_imul C dX12_layLeast_92 ?_
                          refine wp_bipush (v := 10) C dX12_layLeast_93 rfl ?_
                          refine wp_iload 5 C dX12_layLeast_95 rfl ?_
                          refine wp_imul C dX12_layLeast_97 ?_
                          refine wp_iadd C dX12_layLeast_98 ?_
                          refine wp_iload 6 C dX12_layLeast_99 rfl ?_
                          refine wp_iadd C dX12_layLeast_101 ?_
                          refine wp_lald sh_139 (by omega) C dX12_layLeast_102 ?_
                          refine wp_topl (show _ = lsA N (wOf N Cs b) p (n - (x4.toNat + 1)) (x4.toNat + 1) x5.toNat x6 by have q := hww (x4.toNat + 1) (by omega) (by omega) x5.toNat (by omega) x6.toNat (by omega); rw [show ((x6.toNat : Nat) : Int) = x6 by omega] at q; rw [← q]; congr 1; omega) ?_
                          refine wp_nml (fun wo e_wo => ?_)
                          refine wp_lstore (ls' := [(0, rv E 128), (1, iv b), (2, iv (n : Int)), (3, iv p), (4, iv x4), (5, iv x5), (6, iv x6), (7, jv wo)]) [1, 2, 3, 4, 5, 6, 7, 0] C dX12_layLeast_103 (by decide) rfl ?_
                          have hlr := lsA_r (N := N) (w := wOf N Cs b) (m := n - (x4.toNat + 1)) (i := x4.toNat + 1) (c := x5.toNat) (r := x6) m3 (by omega) (by omega) (fun j h1 h2 => hw j (by omega))
                          rw [← e_wo] at hlr
                          have hwr := wtA_r (N := N) (w := wOf N Cs b) (m := n - (x4.toNat + 1)) (i := x4.toNat) (c := x5.toNat) (r := x6) m3 (by omega) (by omega) (fun j h1 h2 => hw j (by omega))
                          refine wp_aloadR_n 0 C dX12_layLeast_105 rfl rfl ?_
                          refine wp_iload 4 C dX12_layLeast_106 rfl ?_
                          refine wp_iload 5 C dX12_layLeast_108 rfl ?_
                          refine wp_iload 6 C dX12_layLeast_110 rfl ?_
                          refine wp_iload_n 1 C dX12_layLeast_112 rfl rfl ?_
                          refine wp_callVp (rest := []) (c_withOf E hx n p N Sc Cl Cs Mx x4 x5 x6 b (by omega) (by omega) (by omega) hb (fun hc0 => by have q := hww (x4.toNat + 1) (by omega) (by omega) (x5.toNat - 1) (by omega) (sbm x6 (N x4.toNat % p) p).toNat (by omega); rw [show (((sbm x6 (N x4.toNat % p) p).toNat : Nat) : Int) = sbm x6 (N x4.toNat % p) p by omega] at q; exact q)) svX12_227 sh_128 (by decide) rfl rfl (Nat.le_of_ble_eq_true rfl) C dX12_layLeast_113 ?_
                          refine wp_nml (fun wi e_wi => ?_)
                          refine wp_lstore (ls' := [(0, rv E 128), (1, iv b), (2, iv (n : Int)), (3, iv p), (4, iv x4), (5, iv x5), (6, iv x6), (7, jv wo), (9, jv wi)]) [1, 2, 3, 4, 5, 6, 7, 8, 0] C dX12_layLeast_116 (by decide) rfl ?_
                          rw [← e_wi] at hwr
                          refine wp_aloadR_n 0 C dX12_layLeast_118 rfl rfl ?_
                          refine wp_getR flX12_43 sh_128 rfl C dX12_layLeast_119 ?_
                          refine wp_sipush (v := 210) C dX12_layLeast_122 rfl ?_
                          refine wp_iload 4 C dX12_layLeast_125 rfl ?_
                          refine wp_imul C dX12_layLeast_127 ?_
                          refine wp_bipush (v := 10) C dX12_layLeast_128 rfl ?_
                          refine wp_iload 5 C dX12_layLeast_130 rfl ?_
                          refine wp_imul C dX12_layLeast_132 ?_
                          refine wp_iadd C dX12_layLeast_133 ?_
                          refine wp_iload 6 C dX12_layLeast_134 rfl ?_
                          refine wp_iadd C dX12_layLeast_136 ?_
                          refine wp_lload 8 C dX12_layLeast_137 rfl ?_
                          refine wp_lload 7 C dX12_layLeast_139 rfl ?_
                          refine wp_lcmp_ge (tgt := 150) (by omega) (by omega) C dX12_layLeast_141 dX12_layLeast_142 (by decide) (fun c_141 => ?_) (fun c_141 => ?_)
                          · skip
                            refine wp_lload 7 C dX12_layLeast_150 rfl ?_
                            refine wp_last sh_139 (by omega) C dX12_layLeast_152 ?_
                            obtain ⟨H1, e_H1⟩ : ∃ z : Hp, z = upd2 hx 139 (((210 * x4) + (10 * x5)) + x6).toNat wo := ⟨_, rfl⟩
                            refine wp_heq e_H1 ?_
                            obtain ⟨y6, e_y6⟩ : ∃ z : Int, z = x6 + (1) := ⟨_, rfl⟩
                            refine wp_iinc (j := 6) (y := y6) (ls' := [(0, rv E 128), (1, iv b), (2, iv (n : Int)), (3, iv p), (4, iv x4), (5, iv x5), (6, iv y6), (7, jv wo), (9, jv wi)]) [1, 2, 3, 4, 5, 6, 0, 7, 8] C dX12_layLeast_153 rfl e_y6 (by decide) rfl ?_
                            refine wp_goto (tgt := 75) C dX12_layLeast_156 (by decide) ?_
                            refine wp_loc [0, 1, 2, 3, 4, 5, 6] rfl ?_
                            exact ih9_75 y6 H1 (by omega) (fun j h1 h2 c hc r hr => by rw [e_H1]; unfold upd2; rw [if_neg (fun z => by omega)]; exact hww j h1 h2 c hc r hr) (fun c hc r hr => by rw [e_H1]; unfold upd2; rw [if_neg (fun z => by omega)]; exact hc0 c hc r hr) (fun r hr => by rcases (show (r : Int) < x6 ∨ r = x6.toNat by omega) with q | rfl; rw [e_H1]; unfold upd2; rw [if_neg (fun z => by omega)]; exact hr0 r q; rw [e_H1]; unfold upd2; rw [if_pos (by omega), show n - x4.toNat = (n - (x4.toNat + 1)) + 1 by omega, lsA_succ, show ((x6.toNat : Nat) : Int) = x6 by omega, ← e_wi, ← e_wo, if_neg (by omega)]) (fun a b hab => by rw [e_H1]; unfold upd2; rw [if_neg (fun z => hab z.1)]; exact hf a b hab) (by omega)
                          · skip
                            refine wp_lload 8 C dX12_layLeast_145 rfl ?_
                            refine wp_goto (tgt := 152) C dX12_layLeast_147 (by decide) ?_
                            refine wp_last sh_139 (by omega) C dX12_layLeast_152 ?_
                            obtain ⟨H2, e_H2⟩ : ∃ z : Hp, z = upd2 hx 139 (((210 * x4) + (10 * x5)) + x6).toNat wi := ⟨_, rfl⟩
                            refine wp_heq e_H2 ?_
                            obtain ⟨y6, e_y6⟩ : ∃ z : Int, z = x6 + (1) := ⟨_, rfl⟩
                            refine wp_iinc (j := 6) (y := y6) (ls' := [(0, rv E 128), (1, iv b), (2, iv (n : Int)), (3, iv p), (4, iv x4), (5, iv x5), (6, iv y6), (7, jv wo), (9, jv wi)]) [1, 2, 3, 4, 5, 6, 0, 7, 8] C dX12_layLeast_153 rfl e_y6 (by decide) rfl ?_
                            refine wp_goto (tgt := 75) C dX12_layLeast_156 (by decide) ?_
                            refine wp_loc [0, 1, 2, 3, 4, 5, 6] rfl ?_
                            exact ih9_75 y6 H2 (by omega) (fun j h1 h2 c hc r hr => by rw [e_H2]; unfold upd2; rw [if_neg (fun z => by omega)]; exact hww j h1 h2 c hc r hr) (fun c hc r hr => by rw [e_H2]; unfold upd2; rw [if_neg (fun z => by omega)]; exact hc0 c hc r hr) (fun r hr => by rcases (show (r : Int) < x6 ∨ r = x6.toNat by omega) with q | rfl; rw [e_H2]; unfold upd2; rw [if_neg (fun z => by omega)]; exact hr0 r q; rw [e_H2]; unfold upd2; rw [if_pos (by omega), show n - x4.toNat = (n - (x4.toNat + 1)) + 1 by omega, lsA_succ, show ((x6.toNat : Nat) : Int) = x6 by omega, ← e_wi, ← e_wo, if_pos (by omega)]) (fun a b hab => by rw [e_H2]; unfold upd2; rw [if_neg (fun z => hab z.1)]; exact hf a b hab) (by omega)
                    have q75 : ∀ (x6 : Int) (hx : Hp), (0 ≤ x6 ∧ x6 ≤ p) → (∀ j : Nat, x4 < (j : Int) → j ≤ n → ∀ c : Nat, c < 21 → ∀ r : Nat, (r : Int) < p → hx 139 (210 * j + 10 * c + r) = lsA N (wOf N Cs b) p (n - j) j c r) → (∀ c : Nat, (c : Int) < x5 → ∀ r : Nat, (r : Int) < p → hx 139 (210 * x4.toNat + 10 * c + r) = lsA N (wOf N Cs b) p (n - x4.toNat) x4.toNat c r) → (∀ r : Nat, (r : Int) < x6 → hx 139 (210 * x4.toNat + 10 * x5.toNat + r) = lsA N (wOf N Cs b) p (n - x4.toNat) x4.toNat x5.toNat r) → (∀ a b, a ≠ 139 → hx a b = h a b) → Wp G E 11 (fun v hx => v = none ∧ (∀ j : Nat, j ≤ n → ∀ c : Nat, c < 21 → ∀ r : Nat, (r : Int) < p → hx 139 (210 * j + 10 * c + r) = lsA N (wOf N Cs b) p (n - j) j c r) ∧ (∀ a b, a ≠ 139 → hx a b = h a b)) 75 [(0, rv E 128), (1, iv b), (2, iv (n : Int)), (3, iv p), (4, iv x4), (5, iv x5), (6, iv x6)] [] hx := fun x6 hx hi6 hww hc0 hr0 hf => q750 _ x6 hx hi6 hww hc0 hr0 hf (Nat.lt_succ_self _)
                    exact q75 0 hx (by omega) (hww) (hc0) (fun r hr => absurd hr (by omega)) (hf)
              have q65 : ∀ (x5 : Int) (hx : Hp), (0 ≤ x5 ∧ x5 ≤ 21) → (∀ j : Nat, x4 < (j : Int) → j ≤ n → ∀ c : Nat, c < 21 → ∀ r : Nat, (r : Int) < p → hx 139 (210 * j + 10 * c + r) = lsA N (wOf N Cs b) p (n - j) j c r) → (∀ c : Nat, (c : Int) < x5 → ∀ r : Nat, (r : Int) < p → hx 139 (210 * x4.toNat + 10 * c + r) = lsA N (wOf N Cs b) p (n - x4.toNat) x4.toNat c r) → (∀ a b, a ≠ 139 → hx a b = h a b) → Wp G E 11 (fun v hx => v = none ∧ (∀ j : Nat, j ≤ n → ∀ c : Nat, c < 21 → ∀ r : Nat, (r : Int) < p → hx 139 (210 * j + 10 * c + r) = lsA N (wOf N Cs b) p (n - j) j c r) ∧ (∀ a b, a ≠ 139 → hx a b = h a b)) 65 [(0, rv E 128), (1, iv b), (2, iv (n : Int)), (3, iv p), (4, iv x4), (5, iv x5)] [] hx := fun x5 hx hi5 hww hc0 hf => q650 _ x5 hx hi5 hww hc0 hf (Nat.lt_succ_self _)
              exact q65 0 hx (by omega) (hww) (fun c hc => absurd hc (by omega)) (hf)
        have q57 : ∀ (x4 : Int) (hx : Hp), (-1 ≤ x4 ∧ x4 < n) → (∀ j : Nat, x4 < (j : Int) → j ≤ n → ∀ c : Nat, c < 21 → ∀ r : Nat, (r : Int) < p → hx 139 (210 * j + 10 * c + r) = lsA N (wOf N Cs b) p (n - j) j c r) → (∀ a b, a ≠ 139 → hx a b = h a b) → Wp G E 11 (fun v hx => v = none ∧ (∀ j : Nat, j ≤ n → ∀ c : Nat, c < 21 → ∀ r : Nat, (r : Int) < p → hx 139 (210 * j + 10 * c + r) = lsA N (wOf N Cs b) p (n - j) j c r) ∧ (∀ a b, a ≠ 139 → hx a b = h a b)) 57 [(0, rv E 128), (1, iv b), (2, iv (n : Int)), (3, iv p), (4, iv x4)] [] hx := fun x4 hx hi hww hf => q570 _ x4 hx hi hww hf (Nat.lt_succ_self _)
        exact q57 y4s hx (by omega) (fun j h1 h2 c hc r hr => by rw [show j = n by omega, show 210 * n + 10 * c + r = 210 * n + (10 * c + r) by omega, hb0 (10 * c + r) (by omega), Nat.sub_self, lsA]; by_cases q : c = 0 ∧ r = 0; rw [if_pos (by omega), if_pos (by omega)]; rw [if_neg (by omega), if_neg (by omega)]; rfl) (hf)
      · skip
        refine wp_aloadR_n 0 C dX12_layLeast_21 rfl rfl ?_
        refine wp_getR flX12_43 sh_128 rfl C dX12_layLeast_22 ?_
        refine wp_sipush (v := 210) C dX12_layLeast_25 rfl ?_
        refine wp_iload_n 2 C dX12_layLeast_28 rfl rfl ?_
        refine wp_imul C dX12_layLeast_29 ?_
        refine wp_iload 4 C dX12_layLeast_30 rfl ?_
        refine wp_iadd C dX12_layLeast_32 ?_
        refine wp_iload 4 C dX12_layLeast_33 rfl ?_
        refine wp_if_ne (tgt := 42) (by omega) C dX12_layLeast_35 (by decide) (fun c_35 => ?_) (fun c_35 => ?_)
        · skip
          refine wp_ldc2 (v := 1152921504606846976) C (mT (i := 1149) (by decide +kernel) rfl) dX12_layLeast_42 ?_
          refine wp_last sh_139 (by omega) C dX12_layLeast_45 ?_
          obtain ⟨H3, e_H3⟩ : ∃ z : Hp, z = upd2 hx 139 ((210 * (n : Int)) + x4).toNat 1152921504606846976 := ⟨_, rfl⟩
          refine wp_heq e_H3 ?_
          obtain ⟨y4, e_y4⟩ : ∃ z : Int, z = x4 + (1) := ⟨_, rfl⟩
          refine wp_iinc (j := 4) (y := y4) (ls' := [(0, rv E 128), (1, iv b), (2, iv (n : Int)), (3, iv p), (4, iv y4)]) [1, 2, 3, 4, 0] C dX12_layLeast_46 rfl e_y4 (by decide) rfl ?_
          refine wp_goto (tgt := 13) C dX12_layLeast_49 (by decide) ?_
          exact ih9_13 y4 H3 (by omega) (fun d hd => by rw [e_H3]; unfold upd2; by_cases q : d = x4.toNat; rw [if_pos (by omega), if_neg (by omega)]; rw [if_neg (fun z => q (by omega))]; exact hb0 d (by omega)) (fun a b hab => by rw [e_H3]; unfold upd2; rw [if_neg (fun z => hab z.1)]; exact hf a b hab) (by omega)
        · skip
          refine wp_lconst (v := 0) C dX12_layLeast_38 rfl ?_
          refine wp_goto (tgt := 45) C dX12_layLeast_39 (by decide) ?_
          refine wp_last sh_139 (by omega) C dX12_layLeast_45 ?_
          obtain ⟨H4, e_H4⟩ : ∃ z : Hp, z = upd2 hx 139 ((210 * (n : Int)) + x4).toNat 0 := ⟨_, rfl⟩
          refine wp_heq e_H4 ?_
          obtain ⟨y4, e_y4⟩ : ∃ z : Int, z = x4 + (1) := ⟨_, rfl⟩
          refine wp_iinc (j := 4) (y := y4) (ls' := [(0, rv E 128), (1, iv b), (2, iv (n : Int)), (3, iv p), (4, iv y4)]) [1, 2, 3, 4, 0] C dX12_layLeast_46 rfl e_y4 (by decide) rfl ?_
          refine wp_goto (tgt := 13) C dX12_layLeast_49 (by decide) ?_
          exact ih9_13 y4 H4 (by omega) (fun d hd => by rw [e_H4]; unfold upd2; by_cases q : d = x4.toNat; rw [if_pos (by omega), if_pos (by omega)]; rw [if_neg (fun z => q (by omega))]; exact hb0 d (by omega)) (fun a b hab => by rw [e_H4]; unfold upd2; rw [if_neg (fun z => hab z.1)]; exact hf a b hab) (by omega)
  have q13 : ∀ (x4 : Int) (hx : Hp), (0 ≤ x4 ∧ x4 ≤ 210) → (∀ d : Nat, (d : Int) < x4 → hx 139 (210 * n + d) = if d = 0 then 0 else 1152921504606846976) → (∀ a b, a ≠ 139 → hx a b = h a b) → Wp G E 11 (fun v hx => v = none ∧ (∀ j : Nat, j ≤ n → ∀ c : Nat, c < 21 → ∀ r : Nat, (r : Int) < p → hx 139 (210 * j + 10 * c + r) = lsA N (wOf N Cs b) p (n - j) j c r) ∧ (∀ a b, a ≠ 139 → hx a b = h a b)) 13 [(0, rv E 128), (1, iv b), (2, iv (n : Int)), (3, iv p), (4, iv x4)] [] hx := fun x4 hx hi hb0 hf => q130 _ x4 hx hi hb0 hf (Nat.lt_succ_self _)
  exact q13 0 h (by omega) (fun b hb => absurd hb (by omega)) (fun a b _ => rfl)

set_option maxRecDepth 100000 in
set_option maxHeartbeats 4000000 in
theorem c_leastOf (E : En) (h : Hp) (n : Nat) (p : Int) (N Sc Cl Cs : Nat → Int) (M0 : MH h n p N Sc Cl Cs) (k b o9 : Int) (hk : 1 ≤ k ∧ k ≤ 20) (hb : b = 0 ∨ b = 1) (ho9 : o9 = 0 ∨ o9 = 1) : Ct 4 yX12_leastOf cX12_leastOf 8 (some .long) E [rv E 128, iv k, iv b, iv o9] h (fun v hx => (∃ a, v = some (jv a) ∧ ligP N (wOf N Cs b) p n k.toNat (1 - o9) a) ∧ (∀ a b, a ≠ 139 → hx a b = h a b)) := by
  obtain ⟨m0, m1, m2, m3, mN, mS, mC, mK⟩ := id M0
  have hw : ∀ j, j < n → 0 ≤ wOf N Cs b j ∧ wOf N Cs b j ≤ 999999999999999 := fun j hj => by
    have h1 := mN j hj
    have h2 := mK j hj
    unfold wOf
    split <;> omega
  have hl0 := lsA_r (N := N) (w := wOf N Cs b) (m := n) (i := 0) (c := k.toNat) (r := 0) m3 (by omega) (by omega) (fun j h1 h2 => hw j (by omega))
  refine ct_intro (by decide) (Nat.le_of_ble_eq_true rfl) (fun G C => ?_)
  show Wp G E 8 (fun v hx => (∃ a, v = some (jv a) ∧ ligP N (wOf N Cs b) p n k.toNat (1 - o9) a) ∧ (∀ a b, a ≠ 139 → hx a b = h a b)) 0 [(0, rv E 128), (1, iv k), (2, iv b), (3, iv o9)] [] h
  refine wp_aloadR_n 0 C dX12_leastOf_0 rfl rfl ?_
  refine wp_iload_n 2 C dX12_leastOf_1 rfl rfl ?_
  refine wp_callV (rest := []) (c_layLeast E h n p N Sc Cl Cs M0 b hb) svX12_235 sh_128 (by decide) rfl rfl (Nat.le_of_ble_eq_true rfl) C dX12_leastOf_2 (fun r0 hx pf => ?_)
  obtain ⟨rfl, hls, hf⟩ := pf
  have Mx : MH hx n p N Sc Cl Cs := M0.of (fun b => ⟨hf _ _ (by decide), hf _ _ (by decide), hf _ _ (by decide)⟩)
  have hk0 : hx 139 (10 * k).toNat = lsA N (wOf N Cs b) p n 0 k.toNat 0 := by have q := hls 0 (by omega) k.toNat (by omega) 0 (by omega); rw [show (10 * k).toNat = 210 * 0 + 10 * k.toNat + 0 by omega, q]; rfl
  refine wp_aloadR_n 0 C dX12_leastOf_5 rfl rfl ?_
  refine wp_getR flX12_43 sh_128 rfl C dX12_leastOf_6 ?_
  refine wp_bipush (v := 10) C dX12_leastOf_9 rfl ?_
  refine wp_iload_n 1 C dX12_leastOf_11 rfl rfl ?_
  refine wp_imul C dX12_leastOf_12 ?_
  refine wp_lald sh_139 (by omega) C dX12_leastOf_13 ?_
  refine wp_topl hk0 ?_
  refine wp_ldc2 (v := 1152921504606846976) C (mT (i := 1149) (by decide +kernel) rfl) dX12_leastOf_14 ?_
  refine wp_lcmp_ne (tgt := 25) (by omega) (by omega) C dX12_leastOf_17 dX12_leastOf_18 (by decide) (fun c_17 => ?_) (fun c_17 => ?_)
  · skip
    refine wp_iconst (v := 0) C dX12_leastOf_25 rfl ?_
    refine wp_istore (ls' := [(0, rv E 128), (1, iv k), (2, iv b), (3, iv o9), (4, iv 0)]) [1, 2, 3, 4, 0] C dX12_leastOf_26 (by decide) rfl ?_
    refine wp_iload_n 1 C dX12_leastOf_28 rfl rfl ?_
    refine wp_istore (ls' := [(0, rv E 128), (1, iv k), (2, iv b), (3, iv o9), (4, iv 0), (5, iv k)]) [1, 2, 3, 4, 5, 0] C dX12_leastOf_29 (by decide) rfl ?_
    refine wp_iconst (v := 0) C dX12_leastOf_31 rfl ?_
    refine wp_istore (ls' := [(0, rv E 128), (1, iv k), (2, iv b), (3, iv o9), (4, iv 0), (5, iv k), (6, iv 0)]) [1, 2, 3, 4, 5, 6, 0] C dX12_leastOf_32 (by decide) rfl ?_
    refine wp_iconst (v := 0) C dX12_leastOf_34 rfl ?_
    refine wp_istore (ls' := [(0, rv E 128), (1, iv k), (2, iv b), (3, iv o9), (4, iv 0), (5, iv k), (6, iv 0), (7, iv 0)]) [1, 2, 3, 4, 5, 6, 7, 0] C dX12_leastOf_35 (by decide) rfl ?_
    have q370 : ∀ n9 : Nat, ∀ (x4 : Int) (x5 : Int) (x6 : Int) (x7 : Int), (0 ≤ x7 ∧ x7 ≤ n) → (0 ≤ x5 ∧ x5 ≤ 20) → (0 ≤ x6 ∧ x6 < p) → (0 ≤ x4 ∧ x4 < 2 ^ x7.toNat) → (¬ lsA N (wOf N Cs b) p (n - x7.toNat) x7.toNat x5.toNat x6 = 1152921504606846976) → (x4.toNat ||| glA N (wOf N Cs b) p (n - x7.toNat) x7.toNat x5.toNat x6 = glA N (wOf N Cs b) p n 0 k.toNat 0) → ((n : Int) - x7).toNat < n9 → Wp G E 8 (fun v hx => (∃ a, v = some (jv a) ∧ ligP N (wOf N Cs b) p n k.toNat (1 - o9) a) ∧ (∀ a b, a ≠ 139 → hx a b = h a b)) 37 [(0, rv E 128), (1, iv k), (2, iv b), (3, iv o9), (4, iv x4), (5, iv x5), (6, iv x6), (7, iv x7)] [] hx := by
      intro n9
      induction n9 with
      | zero => intro x4 x5 x6 x7 hi hc hr hl hfin hg hm9; exact absurd hm9 (Nat.not_lt_zero _)
      | succ n9 ih9 =>
        intro x4 x5 x6 x7 hi hc hr hl hfin hg hm9
        have ih9_37 := ih9
        refine wp_iload 7 C dX12_leastOf_37 rfl ?_
        refine wp_aloadR_n 0 C dX12_leastOf_39 rfl rfl ?_
        refine wp_callVp (rest := [iv x7]) (c_heaps E hx n p N Sc Cl Cs Mx) svX12_141 sh_128 (by decide) rfl rfl (Nat.le_of_ble_eq_true rfl) C dX12_leastOf_40 ?_
        refine wp_icmp_ge (tgt := 129) (by omega) (by omega) C dX12_leastOf_43 (by decide) (fun c_43 => ?_) (fun c_43 => ?_)
        · skip
          refine wp_iload_n 3 C dX12_leastOf_129 rfl rfl ?_
          refine wp_if_eq (tgt := 139) (by omega) C dX12_leastOf_130 (by decide) (fun c_130 => ?_) (fun c_130 => ?_)
          · skip
            refine wp_aloadR_n 0 C dX12_leastOf_139 rfl rfl ?_
            refine wp_getR flX12_43 sh_128 rfl C dX12_leastOf_140 ?_
            refine wp_bipush (v := 10) C dX12_leastOf_143 rfl ?_
            refine wp_iload_n 1 C dX12_leastOf_145 rfl rfl ?_
            refine wp_imul C dX12_leastOf_146 ?_
            refine wp_lald sh_139 (by omega) C dX12_leastOf_147 ?_
            refine wp_topl hk0 ?_
            refine wp_lret C dX12_leastOf_148 ?_
            exact ⟨⟨_, rfl, lig_ref m3 m1 hw (Or.inr ⟨c_17, by rw [if_neg (by omega)]⟩)⟩, hf⟩
          · skip
            refine wp_iload 4 C dX12_leastOf_133 rfl ?_
            have h20 : (2 : Int) ^ x7.toNat ≤ 2 ^ 20 := p2_mono (by omega)
            have e20 : (2 : Int) ^ 20 = 1048576 := by decide
            refine wp_i2l (by omega) C dX12_leastOf_135 ?_
            refine wp_goto (tgt := 148) C dX12_leastOf_136 (by decide) ?_
            refine wp_lret C dX12_leastOf_148 ?_
            exact ⟨⟨_, rfl, lig_ref m3 m1 hw (Or.inr ⟨c_17, by rw [if_pos (by omega)]; rw [show n - x7.toNat = 0 by omega] at hg; simp only [glA, Nat.or_zero] at hg; omega⟩)⟩, hf⟩
        · skip
          have hmi := mod_r (N x7.toNat) m3
          have hsb := sbm_r (r := x6) (x := N x7.toNat % p) (p := p) (by omega) hmi
          have h20 : (2 : Int) ^ x7.toNat ≤ 2 ^ 19 := p2_mono (by omega)
          have e20 : (2 : Int) ^ 19 = 524288 := by decide
          have hp2 := p2_pos x7.toNat
          have hgl : glA N (wOf N Cs b) p (n - x7.toNat) x7.toNat x5.toNat x6 = if wtA N (wOf N Cs b) p (n - (x7.toNat + 1)) x7.toNat x5.toNat x6 = lsA N (wOf N Cs b) p (n - x7.toNat) x7.toNat x5.toNat x6 then 2 ^ x7.toNat ||| glA N (wOf N Cs b) p (n - (x7.toNat + 1)) (x7.toNat + 1) (x5.toNat - 1) (sbm x6 (N x7.toNat % p) p) else glA N (wOf N Cs b) p (n - (x7.toNat + 1)) (x7.toNat + 1) x5.toNat x6 := by rw [show n - x7.toNat = (n - (x7.toNat + 1)) + 1 by omega]; rfl
          have hll : lsA N (wOf N Cs b) p (n - x7.toNat) x7.toNat x5.toNat x6 = if wtA N (wOf N Cs b) p (n - (x7.toNat + 1)) x7.toNat x5.toNat x6 < lsA N (wOf N Cs b) p (n - (x7.toNat + 1)) (x7.toNat + 1) x5.toNat x6 then wtA N (wOf N Cs b) p (n - (x7.toNat + 1)) x7.toNat x5.toNat x6 else lsA N (wOf N Cs b) p (n - (x7.toNat + 1)) (x7.toNat + 1) x5.toNat x6 := by rw [show n - x7.toNat = (n - (x7.toNat + 1)) + 1 by omega]; rfl
          have hwr := wtA_r (N := N) (w := wOf N Cs b) (m := n - (x7.toNat + 1)) (i := x7.toNat) (c := x5.toNat) (r := x6) m3 (by omega) (by omega) (fun j h1 h2 => hw j (by omega))
          have hlr := lsA_r (N := N) (w := wOf N Cs b) (m := n - x7.toNat) (i := x7.toNat) (c := x5.toNat) (r := x6) m3 (by omega) (by omega) (fun j h1 h2 => hw j (by omega))
          refine wp_aloadR_n 0 C dX12_leastOf_46 rfl rfl ?_
          refine wp_iload 7 C dX12_leastOf_47 rfl ?_
          refine wp_iload 5 C dX12_leastOf_49 rfl ?_
          refine wp_iload 6 C dX12_leastOf_51 rfl ?_
          refine wp_iload_n 2 C dX12_leastOf_53 rfl rfl ?_
          refine wp_callVp (rest := []) (c_withOf E hx n p N Sc Cl Cs Mx x7 x5 x6 b (by omega) (by omega) (by omega) hb (fun hc0 => by have q := hls (x7.toNat + 1) (by omega) (x5.toNat - 1) (by omega) (sbm x6 (N x7.toNat % p) p).toNat (by omega); rw [show (((sbm x6 (N x7.toNat % p) p).toNat : Nat) : Int) = sbm x6 (N x7.toNat % p) p by omega] at q; exact q)) svX12_227 sh_128 (by decide) rfl rfl (Nat.le_of_ble_eq_true rfl) C dX12_leastOf_54 ?_
          refine wp_aloadR_n 0 C dX12_leastOf_57 rfl rfl ?_
          refine wp_getR flX12_43 sh_128 rfl C dX12_leastOf_58 ?_
          refine wp_sipush (v := 210) C dX12_leastOf_61 rfl ?_
          refine wp_iload 7 C dX12_leastOf_64 rfl ?_
          refine wp_imul C dX12_leastOf_66 ?_
          refine wp_bipush (v := 10) C dX12_leastOf_67 rfl ?_
          refine wp_iload 5 C dX12_leastOf_69 rfl ?_
          refine wp_imul C dX12_leastOf_71 ?_
          refine wp_iadd C dX12_leastOf_72 ?_
          refine wp_iload 6 C dX12_leastOf_73 rfl ?_
          refine wp_iadd C dX12_leastOf_75 ?_
          refine wp_lald sh_139 (by omega) C dX12_leastOf_76 ?_
          refine wp_topl (show _ = lsA N (wOf N Cs b) p (n - x7.toNat) x7.toNat x5.toNat x6 by have q := hls x7.toNat (by omega) x5.toNat (by omega) x6.toNat (by omega); rw [show ((x6.toNat : Nat) : Int) = x6 by omega] at q; rw [← q]; congr 1; omega) ?_
          refine wp_lcmp_ne (tgt := 123) (by omega) (by omega) C dX12_leastOf_77 dX12_leastOf_78 (by decide) (fun c_77 => ?_) (fun c_77 => ?_)
          · skip
            obtain ⟨ni, e_ni⟩ : ∃ z : Int, z = x7 + (1) := ⟨_, rfl⟩
            refine wp_iinc (j := 7) (y := ni) (ls' := [(0, rv E 128), (1, iv k), (2, iv b), (3, iv o9), (4, iv x4), (5, iv x5), (6, iv x6), (7, iv ni)]) [1, 2, 3, 4, 5, 6, 7, 0] C dX12_leastOf_123 rfl e_ni (by decide) rfl ?_
            refine wp_goto (tgt := 37) C dX12_leastOf_126 (by decide) ?_
            exact ih9_37 x4 x5 x6 ni (by omega) (by omega) (by omega) (by rw [e_ni, show (x7 + 1).toNat = x7.toNat + 1 by omega, p2_succ]; omega) (by rw [e_ni, show (x7 + 1).toNat = x7.toNat + 1 by omega]; intro z; rw [z] at hll; split at hll <;> omega) (by rw [← hg, hgl, if_neg c_77, e_ni, show (x7 + 1).toNat = x7.toNat + 1 by omega]) (by omega)
          · skip
            refine wp_iload 4 C dX12_leastOf_81 rfl ?_
            refine wp_iload 5 C dX12_leastOf_83 rfl ?_
            refine wp_if_le (tgt := 95) (by omega) C dX12_leastOf_85 (by decide) (fun c_85 => ?_) (fun c_85 => ?_)
            · skip
              exact absurd c_85 (by omega)
            · skip
              refine wp_iconst (v := 1) C dX12_leastOf_88 rfl ?_
              refine wp_iload 7 C dX12_leastOf_89 rfl ?_
              refine wp_ishl (by omega) C dX12_leastOf_91 ?_
              refine wp_goto (tgt := 96) C dX12_leastOf_92 (by decide) ?_
              refine wp_ior C dX12_leastOf_96 ?_
              refine wp_nm (fun nl e_nl => ?_)
              refine wp_istore (ls' := [(0, rv E 128), (1, iv k), (2, iv b), (3, iv o9), (4, iv nl), (5, iv x5), (6, iv x6), (7, iv x7)]) [1, 2, 3, 4, 0, 5, 6, 7] C dX12_leastOf_97 (by decide) rfl ?_
              refine wp_iload 6 C dX12_leastOf_99 rfl ?_
              refine wp_aloadR_n 0 C dX12_leastOf_101 rfl rfl ?_
              refine wp_callVp (rest := [iv x6]) (c_parts E hx n p N Sc Cl Cs Mx) svX12_157 sh_128 (by decide) rfl rfl (Nat.le_of_ble_eq_true rfl) C dX12_leastOf_102 ?_
              refine wp_iadd C dX12_leastOf_105 ?_
              refine wp_aloadR_n 0 C dX12_leastOf_106 rfl rfl ?_
              refine wp_iload 7 C dX12_leastOf_107 rfl ?_
              refine wp_callVp (rest := [iv (x6 + p)]) (c_mrestOf E hx n p N Sc Cl Cs Mx x7 (by omega)) svX12_162 sh_128 (by decide) rfl rfl (Nat.le_of_ble_eq_true rfl) C dX12_leastOf_109 ?_
              refine wp_isub C dX12_leastOf_112 ?_
              refine wp_aloadR_n 0 C dX12_leastOf_113 rfl rfl ?_
              refine wp_callVp (rest := [iv ((x6 + p) - (N x7.toNat % p))]) (c_parts E hx n p N Sc Cl Cs Mx) svX12_157 sh_128 (by decide) rfl rfl (Nat.le_of_ble_eq_true rfl) C dX12_leastOf_114 ?_
              refine wp_irem (by omega) (by omega) C dX12_leastOf_117 ?_
              refine wp_top (tm_sbm (by omega) hmi) ?_
              refine wp_nm (fun nr e_nr => ?_)
              refine wp_istore (ls' := [(0, rv E 128), (1, iv k), (2, iv b), (3, iv o9), (4, iv nl), (5, iv x5), (6, iv nr), (7, iv x7)]) [1, 2, 3, 4, 5, 6, 0, 7] C dX12_leastOf_118 (by decide) rfl ?_
              obtain ⟨nc, e_nc⟩ : ∃ z : Int, z = x5 + (-1) := ⟨_, rfl⟩
              refine wp_iinc (j := 5) (y := nc) (ls' := [(0, rv E 128), (1, iv k), (2, iv b), (3, iv o9), (4, iv nl), (5, iv nc), (6, iv nr), (7, iv x7)]) [1, 2, 3, 4, 5, 0, 6, 7] C dX12_leastOf_120 rfl e_nc (by decide) rfl ?_
              obtain ⟨ni, e_ni⟩ : ∃ z : Int, z = x7 + (1) := ⟨_, rfl⟩
              refine wp_iinc (j := 7) (y := ni) (ls' := [(0, rv E 128), (1, iv k), (2, iv b), (3, iv o9), (4, iv nl), (5, iv nc), (6, iv nr), (7, iv ni)]) [1, 2, 3, 4, 5, 6, 7, 0] C dX12_leastOf_123 rfl e_ni (by decide) rfl ?_
              refine wp_goto (tgt := 37) C dX12_leastOf_126 (by decide) ?_
              exact ih9_37 nl nc nr ni (by omega) (by omega) (by omega) (by rw [e_nl, e_ni, show (x7 + 1).toNat = x7.toNat + 1 by omega, p2_succ]; rw [Int.one_mul, bOr_add (by omega) (by omega)]; omega) (by rw [e_ni, e_nc, e_nr, show (x7 + 1).toNat = x7.toNat + 1 by omega, show (x5 + -1).toNat = x5.toNat - 1 by omega]; exact (hwr.elim (fun z => z.2.2.2) (fun z => absurd z (by omega)))) (by rw [← hg, hgl, if_pos (Decidable.not_not.mp c_77), e_nl, e_ni, e_nc, e_nr, show (x7 + 1).toNat = x7.toNat + 1 by omega, show (x5 + -1).toNat = x5.toNat - 1 by omega, Int.one_mul, bOr_nat (by omega) (by omega), Int.toNat_natCast, show ((2 : Int) ^ x7.toNat).toNat = 2 ^ x7.toNat by rw [show (2 : Int) ^ x7.toNat = ((2 ^ x7.toNat : Nat) : Int) by simp, Int.toNat_natCast], Nat.or_assoc]) (by omega)
    have q37 : ∀ (x4 : Int) (x5 : Int) (x6 : Int) (x7 : Int), (0 ≤ x7 ∧ x7 ≤ n) → (0 ≤ x5 ∧ x5 ≤ 20) → (0 ≤ x6 ∧ x6 < p) → (0 ≤ x4 ∧ x4 < 2 ^ x7.toNat) → (¬ lsA N (wOf N Cs b) p (n - x7.toNat) x7.toNat x5.toNat x6 = 1152921504606846976) → (x4.toNat ||| glA N (wOf N Cs b) p (n - x7.toNat) x7.toNat x5.toNat x6 = glA N (wOf N Cs b) p n 0 k.toNat 0) → Wp G E 8 (fun v hx => (∃ a, v = some (jv a) ∧ ligP N (wOf N Cs b) p n k.toNat (1 - o9) a) ∧ (∀ a b, a ≠ 139 → hx a b = h a b)) 37 [(0, rv E 128), (1, iv k), (2, iv b), (3, iv o9), (4, iv x4), (5, iv x5), (6, iv x6), (7, iv x7)] [] hx := fun x4 x5 x6 x7 hi hc hr hl hfin hg => q370 _ x4 x5 x6 x7 hi hc hr hl hfin hg (Nat.lt_succ_self _)
    exact q37 0 k 0 0 (by omega) (by omega) (by omega) (by decide) (by simpa using c_17) (by simp)
  · skip
    refine wp_ldc2 (v := (-1)) C (mT (i := 1021) (by decide +kernel) rfl) dX12_leastOf_21 ?_
    refine wp_lret C dX12_leastOf_24 ?_
    exact ⟨⟨_, rfl, lig_ref m3 m1 hw (Or.inl ⟨Decidable.not_not.mp c_17, rfl⟩)⟩, hf⟩

set_option maxRecDepth 100000 in
set_option maxHeartbeats 4000000 in
theorem m_light (E : En) (h : Hp) (n : Nat) (p : Int) (N Sc Cl Cs : Nat → Int) (M0 : MH h n p N Sc Cl Cs) (k w : Int) (hk : -2147483648 ≤ k ∧ k ≤ 2147483647) (hw : -2147483648 ≤ w ∧ w ≤ 2147483647) : Ct 5 yX12_light cX12_light 3 (some .long) E [rv E 128, iv k, iv w] h (fun v hx => (∃ a, v = some (jv a) ∧ (if ¬ ((1 ≤ k ∧ k ≤ 20) ∧ (0 ≤ w ∧ w ≤ 1)) then a = -3 else ligP N N p n k.toNat w a)) ∧ (∀ a b, a ≠ 139 → hx a b = h a b)) := by
  obtain ⟨m0, m1, m2, m3, mN, mS, mC, mK⟩ := id M0
  refine ct_intro (by decide) (Nat.le_of_ble_eq_true rfl) (fun G C => ?_)
  show Wp G E 3 (fun v hx => (∃ a, v = some (jv a) ∧ (if ¬ ((1 ≤ k ∧ k ≤ 20) ∧ (0 ≤ w ∧ w ≤ 1)) then a = -3 else ligP N N p n k.toNat w a)) ∧ (∀ a b, a ≠ 139 → hx a b = h a b)) 0 [(0, rv E 128), (1, iv k), (2, iv w)] [] h
  refine wp_iload_n 1 C dX12_light_0 rfl rfl ?_
  refine wp_callSp (rest := []) (c_misSize E h k (by omega)) ssX12_198 (by decide) rfl rfl (Nat.le_of_ble_eq_true rfl) C dX12_light_1 ?_
  refine wp_ifb_eq (tgt := 17) C dX12_light_4 (by decide) (fun c_4 => ?_) (fun c_4 => ?_)
  · skip
    refine wp_ldc2 (v := (-3)) C (mT (i := 1058) (by decide +kernel) rfl) dX12_light_17 ?_
    refine wp_lret C dX12_light_20 ?_
    exact ⟨⟨-3, rfl, by rw [if_pos (fun z => c_4 z.1)]⟩, fun _ _ _ => rfl⟩
  · skip
    refine wp_iload_n 2 C dX12_light_7 rfl rfl ?_
    refine wp_i2l (by omega) C dX12_light_8 ?_
    refine wp_lconst (v := 0) C dX12_light_9 rfl ?_
    refine wp_lconst (v := 1) C dX12_light_10 rfl ?_
    refine wp_callSp (rest := []) (c_in E h w 0 1 (by omega) (by omega) (by omega)) ssX12_69 (by decide) rfl rfl (Nat.le_of_ble_eq_true rfl) C dX12_light_11 ?_
    refine wp_ifb_ne (tgt := 21) C dX12_light_14 (by decide) (fun c_14 => ?_) (fun c_14 => ?_)
    · skip
      refine wp_aloadR_n 0 C dX12_light_21 rfl rfl ?_
      refine wp_iload_n 1 C dX12_light_22 rfl rfl ?_
      refine wp_iconst (v := 0) C dX12_light_23 rfl ?_
      refine wp_iload_n 2 C dX12_light_24 rfl rfl ?_
      refine wp_if_ne (tgt := 32) (by omega) C dX12_light_25 (by decide) (fun c_25 => ?_) (fun c_25 => ?_)
      · skip
        refine wp_iconst (v := 0) C dX12_light_32 rfl ?_
        refine wp_callV (rest := []) (c_leastOf E h n p N Sc Cl Cs M0 k 0 0 (by omega) (by decide) (by decide)) svX12_239 sh_128 (by decide) rfl rfl (Nat.le_of_ble_eq_true rfl) C dX12_light_33 (fun r0 hx pf => ?_)
        obtain ⟨⟨a, rfl, hlp⟩, hf⟩ := pf
        rw [wOf_0] at hlp
        refine wp_lret C dX12_light_36 ?_
        exact ⟨⟨a, rfl, by rw [if_neg (not_not_intro ⟨c_4, c_14⟩)]; rw [show (w : Int) = 1 - 0 by omega]; exact hlp⟩, hf⟩
      · skip
        refine wp_iconst (v := 1) C dX12_light_28 rfl ?_
        refine wp_goto (tgt := 33) C dX12_light_29 (by decide) ?_
        refine wp_callV (rest := []) (c_leastOf E h n p N Sc Cl Cs M0 k 0 1 (by omega) (by decide) (by decide)) svX12_239 sh_128 (by decide) rfl rfl (Nat.le_of_ble_eq_true rfl) C dX12_light_33 (fun r0 hx pf => ?_)
        obtain ⟨⟨a, rfl, hlp⟩, hf⟩ := pf
        rw [wOf_0] at hlp
        refine wp_lret C dX12_light_36 ?_
        exact ⟨⟨a, rfl, by rw [if_neg (not_not_intro ⟨c_4, c_14⟩)]; rw [show (w : Int) = 1 - 1 by omega]; exact hlp⟩, hf⟩
    · skip
      refine wp_ldc2 (v := (-3)) C (mT (i := 1058) (by decide +kernel) rfl) dX12_light_17 ?_
      refine wp_lret C dX12_light_20 ?_
      exact ⟨⟨-3, rfl, by rw [if_pos (fun z => c_14 z.2)]⟩, fun _ _ _ => rfl⟩

set_option maxRecDepth 100000 in
set_option maxHeartbeats 4000000 in
theorem m_cheap (E : En) (h : Hp) (n : Nat) (p : Int) (N Sc Cl Cs : Nat → Int) (M0 : MH h n p N Sc Cl Cs) (k w : Int) (hk : -2147483648 ≤ k ∧ k ≤ 2147483647) (hw : -2147483648 ≤ w ∧ w ≤ 2147483647) : Ct 5 yX12_cheap cX12_cheap 3 (some .int) E [rv E 128, iv k, iv w] h (fun v hx => (∃ a, v = some (iv a) ∧ (if ¬ ((1 ≤ k ∧ k ≤ 20) ∧ (0 ≤ w ∧ w ≤ 1)) then a = -3 else ligP N Cs p n k.toNat w a)) ∧ (∀ a b, a ≠ 139 → hx a b = h a b)) := by
  obtain ⟨m0, m1, m2, m3, mN, mS, mC, mK⟩ := id M0
  refine ct_intro (by decide) (Nat.le_of_ble_eq_true rfl) (fun G C => ?_)
  show Wp G E 3 (fun v hx => (∃ a, v = some (iv a) ∧ (if ¬ ((1 ≤ k ∧ k ≤ 20) ∧ (0 ≤ w ∧ w ≤ 1)) then a = -3 else ligP N Cs p n k.toNat w a)) ∧ (∀ a b, a ≠ 139 → hx a b = h a b)) 0 [(0, rv E 128), (1, iv k), (2, iv w)] [] h
  refine wp_iload_n 1 C dX12_cheap_0 rfl rfl ?_
  refine wp_callSp (rest := []) (c_misSize E h k (by omega)) ssX12_198 (by decide) rfl rfl (Nat.le_of_ble_eq_true rfl) C dX12_cheap_1 ?_
  refine wp_ifb_eq (tgt := 17) C dX12_cheap_4 (by decide) (fun c_4 => ?_) (fun c_4 => ?_)
  · skip
    refine wp_bipush (v := (-3)) C dX12_cheap_17 rfl ?_
    refine wp_iret C dX12_cheap_19 ?_
    exact ⟨⟨-3, rfl, by rw [if_pos (fun z => c_4 z.1)]⟩, fun _ _ _ => rfl⟩
  · skip
    refine wp_iload_n 2 C dX12_cheap_7 rfl rfl ?_
    refine wp_i2l (by omega) C dX12_cheap_8 ?_
    refine wp_lconst (v := 0) C dX12_cheap_9 rfl ?_
    refine wp_lconst (v := 1) C dX12_cheap_10 rfl ?_
    refine wp_callSp (rest := []) (c_in E h w 0 1 (by omega) (by omega) (by omega)) ssX12_69 (by decide) rfl rfl (Nat.le_of_ble_eq_true rfl) C dX12_cheap_11 ?_
    refine wp_ifb_ne (tgt := 20) C dX12_cheap_14 (by decide) (fun c_14 => ?_) (fun c_14 => ?_)
    · skip
      refine wp_aloadR_n 0 C dX12_cheap_20 rfl rfl ?_
      refine wp_iload_n 1 C dX12_cheap_21 rfl rfl ?_
      refine wp_iconst (v := 1) C dX12_cheap_22 rfl ?_
      refine wp_iload_n 2 C dX12_cheap_23 rfl rfl ?_
      refine wp_if_ne (tgt := 31) (by omega) C dX12_cheap_24 (by decide) (fun c_24 => ?_) (fun c_24 => ?_)
      · skip
        refine wp_iconst (v := 0) C dX12_cheap_31 rfl ?_
        refine wp_callV (rest := []) (c_leastOf E h n p N Sc Cl Cs M0 k 1 0 (by omega) (by decide) (by decide)) svX12_239 sh_128 (by decide) rfl rfl (Nat.le_of_ble_eq_true rfl) C dX12_cheap_32 (fun r0 hx pf => ?_)
        obtain ⟨⟨a, rfl, hlp⟩, hf⟩ := pf
        rw [wOf_1] at hlp
        refine wp_l2i C dX12_cheap_35 ?_
        refine wp_iret C dX12_cheap_36 ?_
        exact ⟨⟨a, rfl, by rw [if_neg (not_not_intro ⟨c_4, c_14⟩)]; rw [show (w : Int) = 1 - 0 by omega]; exact hlp⟩, hf⟩
      · skip
        refine wp_iconst (v := 1) C dX12_cheap_27 rfl ?_
        refine wp_goto (tgt := 32) C dX12_cheap_28 (by decide) ?_
        refine wp_callV (rest := []) (c_leastOf E h n p N Sc Cl Cs M0 k 1 1 (by omega) (by decide) (by decide)) svX12_239 sh_128 (by decide) rfl rfl (Nat.le_of_ble_eq_true rfl) C dX12_cheap_32 (fun r0 hx pf => ?_)
        obtain ⟨⟨a, rfl, hlp⟩, hf⟩ := pf
        rw [wOf_1] at hlp
        refine wp_l2i C dX12_cheap_35 ?_
        refine wp_iret C dX12_cheap_36 ?_
        exact ⟨⟨a, rfl, by rw [if_neg (not_not_intro ⟨c_4, c_14⟩)]; rw [show (w : Int) = 1 - 1 by omega]; exact hlp⟩, hf⟩
    · skip
      refine wp_bipush (v := (-3)) C dX12_cheap_17 rfl ?_
      refine wp_iret C dX12_cheap_19 ?_
      exact ⟨⟨-3, rfl, by rw [if_pos (fun z => c_14 z.2)]⟩, fun _ _ _ => rfl⟩


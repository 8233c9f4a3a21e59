/-! ===== the law's loop ===== -/
set_option maxRecDepth 100000 in
theorem lw_sw {G : Gx} {E : En} {b L : Nat} {xs : Nat → Int32} {i : Nat} {h : Hp} (K : Lw G E b L xs) (hi : i + 5 ≤ L) (I : Inv h) {v : Int} (hv : 0 ≤ v ∧ v ≤ 31) (k : ∀ h2 : Hp, Inv h2 → Wp G E 4 postL 932 (lsL E b i) [] h2) : Wp G E 4 postL 32 (lsL E b i) [iv v] h := by
  by_cases z : 26 ≤ v
  · exact wp_tswOut (tgt := 932) (by omega) K.1 dL_law_32 (by omega) rfl (k h I)
  by_cases z0 : v = 0
  · rw [z0]
    exact wp_tswIn (tgt := 152) (off := 120) (by decide) K.1 dL_law_32 (by decide) (by decide) rfl rfl (lw_write K hi I k)
  by_cases z1 : v = 1
  · rw [z1]
    exact wp_tswIn (tgt := 215) (off := 183) (by decide) K.1 dL_law_32 (by decide) (by decide) rfl rfl (lw_erase K hi I k)
  by_cases z2 : v = 2
  · rw [z2]
    exact wp_tswIn (tgt := 228) (off := 196) (by decide) K.1 dL_law_32 (by decide) (by decide) rfl rfl (lw_fault K hi I k)
  by_cases z3 : v = 3
  · rw [z3]
    exact wp_tswIn (tgt := 241) (off := 209) (by decide) K.1 dL_law_32 (by decide) (by decide) rfl rfl (lw_market K hi I k)
  by_cases z4 : v = 4
  · rw [z4]
    exact wp_tswIn (tgt := 254) (off := 222) (by decide) K.1 dL_law_32 (by decide) (by decide) rfl rfl (lw_heap K hi I k)
  by_cases z5 : v = 5
  · rw [z5]
    exact wp_tswIn (tgt := 288) (off := 256) (by decide) K.1 dL_law_32 (by decide) (by decide) rfl rfl (lw_rest K hi I k)
  by_cases z6 : v = 6
  · rw [z6]
    exact wp_tswIn (tgt := 321) (off := 289) (by decide) K.1 dL_law_32 (by decide) (by decide) rfl rfl (lw_as K hi I k)
  by_cases z7 : v = 7
  · rw [z7]
    exact wp_tswIn (tgt := 374) (off := 342) (by decide) K.1 dL_law_32 (by decide) (by decide) rfl rfl (lw_find K hi I k)
  by_cases z8 : v = 8
  · rw [z8]
    exact wp_tswIn (tgt := 407) (off := 375) (by decide) K.1 dL_law_32 (by decide) (by decide) rfl rfl (lw_many K hi I k)
  by_cases z9 : v = 9
  · rw [z9]
    exact wp_tswIn (tgt := 440) (off := 408) (by decide) K.1 dL_law_32 (by decide) (by decide) rfl rfl (lw_light K hi I k)
  by_cases z10 : v = 10
  · rw [z10]
    exact wp_tswIn (tgt := 474) (off := 442) (by decide) K.1 dL_law_32 (by decide) (by decide) rfl rfl (lw_cheap K hi I k)
  by_cases z11 : v = 11
  · rw [z11]
    exact wp_tswIn (tgt := 507) (off := 475) (by decide) K.1 dL_law_32 (by decide) (by decide) rfl rfl (lw_mends K hi I k)
  by_cases z12 : v = 12
  · rw [z12]
    exact wp_tswIn (tgt := 530) (off := 498) (by decide) K.1 dL_law_32 (by decide) (by decide) rfl rfl (lw_swap K hi I k)
  by_cases z13 : v = 13
  · rw [z13]
    exact wp_tswIn (tgt := 563) (off := 531) (by decide) K.1 dL_law_32 (by decide) (by decide) rfl rfl (lw_always K hi I k)
  by_cases z14 : v = 14
  · rw [z14]
    exact wp_tswIn (tgt := 606) (off := 574) (by decide) K.1 dL_law_32 (by decide) (by decide) rfl rfl (lw_need K hi I k)
  by_cases z15 : v = 15
  · rw [z15]
    exact wp_tswIn (tgt := 639) (off := 607) (by decide) K.1 dL_law_32 (by decide) (by decide) rfl rfl (lw_worst K hi I k)
  by_cases z16 : v = 16
  · rw [z16]
    exact wp_tswIn (tgt := 692) (off := 660) (by decide) K.1 dL_law_32 (by decide) (by decide) rfl rfl (lw_come K hi I k)
  by_cases z17 : v = 17
  · rw [z17]
    exact wp_tswIn (tgt := 715) (off := 683) (by decide) K.1 dL_law_32 (by decide) (by decide) rfl rfl (lw_badly K hi I k)
  by_cases z18 : v = 18
  · rw [z18]
    exact wp_tswIn (tgt := 738) (off := 706) (by decide) K.1 dL_law_32 (by decide) (by decide) rfl rfl (lw_apart K hi I k)
  by_cases z19 : v = 19
  · rw [z19]
    exact wp_tswIn (tgt := 771) (off := 739) (by decide) K.1 dL_law_32 (by decide) (by decide) rfl rfl (lw_turns K hi I k)
  by_cases z20 : v = 20
  · rw [z20]
    exact wp_tswIn (tgt := 804) (off := 772) (by decide) K.1 dL_law_32 (by decide) (by decide) rfl rfl (lw_sale K hi I k)
  by_cases z21 : v = 21
  · rw [z21]
    exact wp_tswIn (tgt := 827) (off := 795) (by decide) K.1 dL_law_32 (by decide) (by decide) rfl rfl (lw_burn K hi I k)
  by_cases z22 : v = 22
  · rw [z22]
    exact wp_tswIn (tgt := 840) (off := 808) (by decide) K.1 dL_law_32 (by decide) (by decide) rfl rfl (lw_judge K hi I k)
  by_cases z23 : v = 23
  · rw [z23]
    exact wp_tswIn (tgt := 863) (off := 831) (by decide) K.1 dL_law_32 (by decide) (by decide) rfl rfl (lw_keep K hi I k)
  by_cases z24 : v = 24
  · rw [z24]
    exact wp_tswIn (tgt := 886) (off := 854) (by decide) K.1 dL_law_32 (by decide) (by decide) rfl rfl (lw_back K hi I k)
  by_cases z25 : v = 25
  · rw [z25]
    exact wp_tswIn (tgt := 909) (off := 877) (by decide) K.1 dL_law_32 (by decide) (by decide) rfl rfl (lw_count K hi I k)
  omega
set_option maxRecDepth 100000 in
theorem lw_loop {G : Gx} {E : En} {b L : Nat} {xs : Nat → Int32} (K : Lw G E b L xs) : ∀ (n i : Nat) (h : Hp), L < i + n → i ≤ 330 → Inv h → Wp G E 4 postL 18 (lsL E b i) [] h
  | n, i, h, hn, hi3, I => by
    have hL := K.2.2.2.2
    refine wp_iload_n 3 K.1 dL_law_18 rfl rfl ?_
    refine wp_aload_n 0 K.1 dL_law_19 rfl rfl ?_
    refine wp_slen K dL_law_20 ?_
    refine wp_iconst (v := 5) K.1 dL_law_21 rfl ?_
    refine wp_isub K.1 dL_law_22 ?_
    refine wp_icmp_gt (tgt := 938) (by omega) (by omega) K.1 dL_law_23 rfl (fun z => ?_) (fun z => ?_)
    · refine wp_iconst (v := 1) K.1 dL_law_938 rfl ?_
      exact wp_nret (by decide) K.1 dL_law_939 rfl
    · have hi : i + 5 ≤ L := by omega
      refine wp_aload_n 0 K.1 dL_law_26 rfl rfl ?_
      refine wp_iload_n 3 K.1 dL_law_27 rfl rfl ?_
      refine wp_sld (k := i) rfl (by omega) K dL_law_28 ?_
      refine wp_bipush (v := 31) K.1 dL_law_29 rfl ?_
      refine wp_iand K.1 dL_law_31 ?_
      have e : bAnd (sx xs i) 31 = sx xs i % 32 := bAnd_mask 5 (by decide)
      refine lw_sw K hi I (v := bAnd (sx xs i) 31) (by rw [e]; omega) (fun h2 I2 => ?_)
      refine wp_iinc (j := 3) (y := ((i + 5 : Nat) : Int)) (ls' := lsL E b (i + 5)) [1, 2, 3, 0] K.1 dL_law_932 rfl (by omega) (by decide) rfl ?_
      refine wp_goto (tgt := 18) K.1 dL_law_935 rfl ?_
      match n, hn with
      | n + 1, hn => exact lw_loop K n (i + 5) h2 (by omega) (by omega) I2
      | 0, hn => exact absurd hn (by omega)
  termination_by n => n

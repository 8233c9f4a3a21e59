/-! ===== Finder.fits, EvenTen.as, judge, isAhead ===== -/
def oddp : Nat → Nat → Nat
  | 0, n => n
  | f + 1, n => if n % 2 = 0 ∧ 0 < n then oddp f (n / 2) else n
def rowB (n : Nat) : Bool := decide (oddp 32 n &&& (oddp 32 n + 1) = 0)
theorem oddp_low {m : Nat} : ∀ f s : Nat, s ≤ f → oddp f (2 ^ s * (2 * m + 1)) = 2 * m + 1
  | 0, s, h => by
    have : s = 0 := by omega
    subst this
    simp [oddp]
  | f + 1, 0, h => by
    unfold oddp
    rw [if_neg (by omega)]
    omega
  | f + 1, s + 1, h => by
    have e : 2 ^ (s + 1) * (2 * m + 1) = 2 * (2 ^ s * (2 * m + 1)) := by rw [Nat.pow_succ, Nat.mul_comm (2 ^ s) 2, Nat.mul_assoc]
    have hp : 0 < 2 ^ s * (2 * m + 1) := Nat.mul_pos (Nat.pow_pos (by decide)) (by omega)
    unfold oddp
    rw [e, if_pos (by omega), show 2 * (2 ^ s * (2 * m + 1)) / 2 = 2 ^ s * (2 * m + 1) by omega]
    exact oddp_low f s (by omega)
theorem unb_iff {n : Nat} (hn : n < 1048576) : bAnd ((n : Int) + bAnd (n : Int) (-(n : Int))) (n : Int) = 0 ↔ rowB n = true := by
  unfold rowB
  rw [decide_eq_true_eq]
  by_cases h0 : n = 0
  · subst h0
    decide
  · obtain ⟨s, m, e⟩ := low_ex n (by omega)
    have hs2 : 2 ^ s ≤ n := by rw [e]; exact Nat.le_mul_of_pos_right _ (by omega)
    have hs : s ≤ 32 := by
      apply Nat.le_of_not_lt
      intro hc
      have : 2 ^ 33 ≤ 2 ^ s := Nat.pow_le_pow_right (by decide) hc
      have h33 : (2 : Nat) ^ 33 = 8589934592 := rfl
      omega
    rw [bAnd_low e (by omega), show (n : Int) + ((2 ^ s : Nat) : Int) = ((n + 2 ^ s : Nat) : Int) by omega, bAnd_n (by omega) (by omega)]
    have e2 : n + 2 ^ s = 2 ^ s * (2 * m + 1 + 1) := by rw [e, Nat.mul_add (2 ^ s) (2 * m + 1) 1]; omega
    have hp : 0 < 2 ^ s := Nat.pow_pos (by decide)
    rw [e2]
    conv => lhs; rw [e, and_mul]
    rw [e, oddp_low 32 s hs, Nat.and_comm (2 * m + 1) (2 * m + 1 + 1)]
    generalize (2 * m + 1 + 1) &&& (2 * m + 1) = z
    constructor
    · intro h
      have h3 : 2 ^ s * z = 0 := by exact_mod_cast h
      rcases Nat.mul_eq_zero.mp h3 with q | q
      · omega
      · exact q
    · intro h
      rw [h]
      rfl
theorem bAnd_r (a b : Int) : -2147483648 ≤ bAnd a b ∧ bAnd a b ≤ 2147483647 := by
  have h1 := (Int32.ofInt a &&& Int32.ofInt b).minValue_le_toInt
  have h2 := (Int32.ofInt a &&& Int32.ofInt b).toInt_le
  have e1 : Int32.minValue.toInt = -2147483648 := by decide
  have e2 : Int32.maxValue.toInt = 2147483647 := by decide
  unfold bAnd
  omega
def fitB (N Sc Cl : Nat → Int) (p : Int) (n : Nat) (kind lot k : Int) : Bool := decide (sumB N lot n % p = 0) && (if kind = 0 then decide (cntB lot 20 = k) else if kind = 1 then decide (1 ≤ cntB lot 20 ∧ cntB lot 20 ≤ k) else if kind = 2 then decide (1 ≤ cntB lot 20 ∧ cntB lot 20 ≤ k) && rowB lot.toNat else if kind = 3 then decide (cntB lot 20 = k) && decide (sumB Sc lot n % p = 0) else decide (cntB lot 20 = k) && anyB (colP Cl lot (kind - 4)) n)
theorem cntB_r (lot : Int) : ∀ n : Nat, 0 ≤ cntB lot n ∧ cntB lot n ≤ n
  | 0 => by simp [cntB, sumB]
  | n + 1 => by
    have ih := cntB_r lot n
    have e : cntB lot (n + 1) = cntB lot n + (if lot / 2 ^ n % 2 = 1 then 1 else 0) := rfl
    rw [e]
    split <;> omega
def tkI (j : Nat) : Int := ([7, 9, 25, 39, 71, 71, 71, 71] : List Int).getD j 0
theorem takenF_eq : ∀ j, j < 8 → takenF j = iv (tkI j) := by decide
theorem tkI_r : ∀ j, j < 8 → 0 ≤ tkI j ∧ tkI j ≤ 127 := by decide
section TK
variable {G : Gx} {E : En} {cc : ByteArray} {nL : Nat} {own : String} {ret : Option FieldType} {d : Nat} {post : Option Value → Hp → Prop} {pc : Nat} {ls : List (Nat × Value)} {st : List Value} {h : Hp}
theorem wp_getsT {idx : Nat} (hl : Cond.fieldLink own idx "EvenTen" "TAKEN_AS" "[I" ∈ wsG) (C : Cx G E cc nL own ret d) (hd : decode cc pc = .ok (.getstatic idx, 3)) (k : Wp G E nL post (pc + 3) ls (.ref E.2.2.2.2.2.2 :: st) h) : Wp G E nL post pc ls st h := by
  intro H locs la hP hS hL
  exact va_gets C.1 C.2.1 C.2.2.2.2.2.1.2.2.2.2.2.1 hS C.2.2.2.1 (C.2.2.2.2.1 _ hl) (fun _ z => z) hd (k H locs la hP hS hL)
theorem wp_tiT {a : Int} (hin : 0 ≤ a ∧ a < 8) (C : Cx G E cc nL own ret d) (hd : decode cc pc = .ok (.iaload, 1)) (k : Wp G E nL post (pc + 1) ls (iv (tkI a.toNat) :: st) h) : Wp G E nL post pc ls (iv a :: .ref E.2.2.2.2.2.2 :: st) h := by
  intro H locs la hP hS hL
  exact va_ti C.1 C.2.1 C.2.2.2.2.2.1.2.2.2.2.2.2.1 hS (i_in (n := 8) hin (by decide)) (by rw [i_cl (by omega)]; exact takenF_eq _ (by omega)) hd (k H locs la hP hS hL)
end TK
set_option maxRecDepth 100000 in
set_option maxHeartbeats 4000000 in
theorem c_isUnbroken (E : En) (h : Hp) (a : Int) (ha : 0 ≤ a ∧ a ≤ 1048575) : Ct 0 yX3_isUnbroken cX3_isUnbroken 1 (some .boolean) E [iv a] h (Ret (iv (bi (rowB a.toNat = true))) h) := by
  obtain ⟨n, rfl⟩ := Int.eq_ofNat_of_zero_le ha.1
  have hu := unb_iff (n := n) (by omega)
  have hr := bAnd_r ((n : Int) + bAnd (n : Int) (-(n : Int))) (n : Int)
  refine ct_intro (by decide) (Nat.le_of_ble_eq_true rfl) (fun G C => ?_)
  show Wp G E 1 (Ret (iv (bi (rowB (((n : Nat) : Int)).toNat = true))) h) 0 [(0, iv ((n : Nat) : Int))] [] h
  refine wp_iload_n 0 C dX3_isUnbroken_0 rfl rfl ?_
  refine wp_iload_n 0 C dX3_isUnbroken_1 rfl rfl ?_
  refine wp_iload_n 0 C dX3_isUnbroken_2 rfl rfl ?_
  refine wp_ineg C dX3_isUnbroken_3 ?_
  refine wp_iand C dX3_isUnbroken_4 ?_
  refine wp_iadd C dX3_isUnbroken_5 ?_
  refine wp_iload_n 0 C dX3_isUnbroken_6 rfl rfl ?_
  refine wp_iand C dX3_isUnbroken_7 ?_
  refine wp_if_ne (tgt := 15) (by omega) C dX3_isUnbroken_8 (by decide) (fun c_8 => ?_) (fun c_8 => ?_)
  · skip
    refine wp_iconst (v := 0) C dX3_isUnbroken_15 rfl ?_
    refine wp_zret (by first | exact bi_01 | omega) C dX3_isUnbroken_16 ?_
    exact ret_b0 (fun z => c_8 (hu.mpr z))
  · skip
    refine wp_iconst (v := 1) C dX3_isUnbroken_11 rfl ?_
    refine wp_goto (tgt := 16) C dX3_isUnbroken_12 (by decide) ?_
    refine wp_zret (by first | exact bi_01 | omega) C dX3_isUnbroken_16 ?_
    exact ret_b1 (hu.mp c_8)

set_option maxRecDepth 100000 in
set_option maxHeartbeats 4000000 in
theorem c_fits (E : En) (h : Hp) (kind a k : Int) (hkd : 0 ≤ kind ∧ kind ≤ 7) (ha : 0 ≤ a ∧ a ≤ 1048575) (hk : 1 ≤ k ∧ k ≤ 20) (hz : 0 ≤ h 1 4 ∧ h 1 4 ≤ 20) (hp : 2 ≤ h 1 5 ∧ h 1 5 ≤ 10) (hN : ∀ i : Nat, (i : Int) < h 1 4 → 0 ≤ h 2 i ∧ h 2 i ≤ 999999999999999) (hS : ∀ i : Nat, (i : Int) < h 1 4 → 0 ≤ h 3 i ∧ h 3 i ≤ 999999999999999) (hC : ∀ i : Nat, (i : Int) < h 1 4 → 0 ≤ h 4 i ∧ h 4 i ≤ 999999999999999) : Ct 3 yX3_fits cX3_fits 5 (some .boolean) E [rv E 28, iv kind, iv a, iv k] h (Ret (iv (bi (fitB (h 2) (h 3) (h 4) (h 1 5) (h 1 4).toNat kind a k = true))) h) := by
  have hm2 := mod_r (sumB (h 2) a (h 1 4).toNat) hp
  have hm3 := mod_r (sumB (h 3) a (h 1 4).toNat) hp
  have hcn := cntB_r a 20
  refine ct_intro (by decide) (Nat.le_of_ble_eq_true rfl) (fun G C => ?_)
  show Wp G E 5 (Ret (iv (bi (fitB (h 2) (h 3) (h 4) (h 1 5) (h 1 4).toNat kind a k = true))) h) 0 [(0, rv E 28), (1, iv kind), (2, iv a), (3, iv k)] [] h
  refine wp_aloadR_n 0 C dX3_fits_0 rfl rfl ?_
  refine wp_getR flX3_18 sh_28 rfl C dX3_fits_1 ?_
  refine wp_iload_n 2 C dX3_fits_4 rfl rfl ?_
  refine wp_callVp (rest := []) (c_restOfNumbers E h a (by omega) (by omega) (by omega) hN) svX3_26 sh_1 (by decide) rfl rfl (Nat.le_of_ble_eq_true rfl) C dX3_fits_5 ?_
  refine wp_if_eq (tgt := 13) (by omega) C dX3_fits_8 (by decide) (fun c_8 => ?_) (fun c_8 => ?_)
  · skip
    refine wp_iload_n 2 C dX3_fits_13 rfl rfl ?_
    refine wp_callSp (rest := []) (c_bitCount E h a (by omega)) ssX3_32 (by decide) rfl rfl (Nat.le_of_ble_eq_true rfl) C dX3_fits_14 ?_
    refine wp_nm (fun v1 e_v1 => ?_)
    refine wp_istore (ls' := [(0, rv E 28), (1, iv kind), (2, iv a), (3, iv k), (4, iv v1)]) [1, 2, 3, 4, 0] C dX3_fits_17 (by decide) rfl ?_
    have hv1 := e_v1
    refine wp_iload_n 1 C dX3_fits_19 rfl rfl ?_
    by_cases c_20_0 : kind = 0
    · refine wp_tswIn (tgt := 52) (by omega) C dX3_fits_20 (by omega) (by omega) (by rw [c_20_0]; rfl) (by decide) ?_
      refine wp_iload 4 C dX3_fits_52 rfl ?_
      refine wp_iload_n 3 C dX3_fits_54 rfl rfl ?_
      refine wp_icmp_ne (tgt := 62) (by omega) (by omega) C dX3_fits_55 (by decide) (fun c_55 => ?_) (fun c_55 => ?_)
      · skip
        refine wp_iconst (v := 0) C dX3_fits_62 rfl ?_
        refine wp_zret (by first | exact bi_01 | omega) C dX3_fits_63 ?_
        exact ret_b0 (by subst e_v1; simp [fitB, c_8, c_20_0, c_55])
      · skip
        refine wp_iconst (v := 1) C dX3_fits_58 rfl ?_
        refine wp_goto (tgt := 63) C dX3_fits_59 (by decide) ?_
        refine wp_zret (by first | exact bi_01 | omega) C dX3_fits_63 ?_
        exact ret_b1 (by subst e_v1; simp [fitB, c_8, c_20_0, c_55])
    by_cases c_20_1 : kind = 1
    · refine wp_tswIn (tgt := 64) (by omega) C dX3_fits_20 (by omega) (by omega) (by rw [c_20_1]; rfl) (by decide) ?_
      refine wp_iload 4 C dX3_fits_64 rfl ?_
      refine wp_iconst (v := 1) C dX3_fits_66 rfl ?_
      refine wp_iload_n 3 C dX3_fits_67 rfl rfl ?_
      refine wp_callSNp (rest := []) (c_within E h v1 1 k (by omega) (by omega) (by omega)) snX3_37 (by decide) rfl rfl (Nat.le_of_ble_eq_true rfl) C dX3_fits_68 ?_
      refine wp_zret (by first | exact bi_01 | omega) C dX3_fits_71 ?_
      exact ret_iv (bi_c (by subst e_v1; simp [fitB, c_8, c_20_1]))
    by_cases c_20_2 : kind = 2
    · refine wp_tswIn (tgt := 72) (by omega) C dX3_fits_20 (by omega) (by omega) (by rw [c_20_2]; rfl) (by decide) ?_
      refine wp_iload 4 C dX3_fits_72 rfl ?_
      refine wp_iconst (v := 1) C dX3_fits_74 rfl ?_
      refine wp_iload_n 3 C dX3_fits_75 rfl rfl ?_
      refine wp_callSNp (rest := []) (c_within E h v1 1 k (by omega) (by omega) (by omega)) snX3_37 (by decide) rfl rfl (Nat.le_of_ble_eq_true rfl) C dX3_fits_76 ?_
      refine wp_ifb_eq (tgt := 93) C dX3_fits_79 (by decide) (fun c_79 => ?_) (fun c_79 => ?_)
      · skip
        refine wp_iconst (v := 0) C dX3_fits_93 rfl ?_
        refine wp_zret (by first | exact bi_01 | omega) C dX3_fits_94 ?_
        exact ret_b0 (by subst e_v1; simp [fitB, c_8, c_20_2, c_79])
      · skip
        refine wp_iload_n 2 C dX3_fits_82 rfl rfl ?_
        refine wp_callSp (rest := []) (c_isUnbroken E h a (by omega)) ssX3_41 (by decide) rfl rfl (Nat.le_of_ble_eq_true rfl) C dX3_fits_83 ?_
        refine wp_ifb_eq (tgt := 93) C dX3_fits_86 (by decide) (fun c_86 => ?_) (fun c_86 => ?_)
        · skip
          refine wp_iconst (v := 0) C dX3_fits_93 rfl ?_
          refine wp_zret (by first | exact bi_01 | omega) C dX3_fits_94 ?_
          exact ret_b0 (by subst e_v1; simp [fitB, c_8, c_20_2, c_79, c_86])
        · skip
          refine wp_iconst (v := 1) C dX3_fits_89 rfl ?_
          refine wp_goto (tgt := 94) C dX3_fits_90 (by decide) ?_
          refine wp_zret (by first | exact bi_01 | omega) C dX3_fits_94 ?_
          exact ret_b1 (by subst e_v1; simp [fitB, c_8, c_20_2, c_79, c_86])
    by_cases c_20_3 : kind = 3
    · refine wp_tswIn (tgt := 95) (by omega) C dX3_fits_20 (by omega) (by omega) (by rw [c_20_3]; rfl) (by decide) ?_
      refine wp_iload 4 C dX3_fits_95 rfl ?_
      refine wp_iload_n 3 C dX3_fits_97 rfl rfl ?_
      refine wp_icmp_ne (tgt := 116) (by omega) (by omega) C dX3_fits_98 (by decide) (fun c_98 => ?_) (fun c_98 => ?_)
      · skip
        refine wp_iconst (v := 0) C dX3_fits_116 rfl ?_
        refine wp_zret (by first | exact bi_01 | omega) C dX3_fits_117 ?_
        exact ret_b0 (by subst e_v1; simp [fitB, c_8, c_20_3, c_98])
      · skip
        refine wp_aloadR_n 0 C dX3_fits_101 rfl rfl ?_
        refine wp_getR flX3_18 sh_28 rfl C dX3_fits_102 ?_
        refine wp_iload_n 2 C dX3_fits_105 rfl rfl ?_
        refine wp_callVp (rest := []) (c_restOfSeconds E h a (by omega) (by omega) (by omega) hS) svX3_45 sh_1 (by decide) rfl rfl (Nat.le_of_ble_eq_true rfl) C dX3_fits_106 ?_
        refine wp_if_ne (tgt := 116) (by omega) C dX3_fits_109 (by decide) (fun c_109 => ?_) (fun c_109 => ?_)
        · skip
          refine wp_iconst (v := 0) C dX3_fits_116 rfl ?_
          refine wp_zret (by first | exact bi_01 | omega) C dX3_fits_117 ?_
          exact ret_b0 (by subst e_v1; simp [fitB, c_8, c_20_3, c_98, c_109])
        · skip
          refine wp_iconst (v := 1) C dX3_fits_112 rfl ?_
          refine wp_goto (tgt := 117) C dX3_fits_113 (by decide) ?_
          refine wp_zret (by first | exact bi_01 | omega) C dX3_fits_117 ?_
          exact ret_b1 (by subst e_v1; simp [fitB, c_8, c_20_3, c_98, c_109])
    refine wp_tswOut (tgt := 118) (by omega) C dX3_fits_20 (by omega) (by decide) ?_
    refine wp_iload 4 C dX3_fits_118 rfl ?_
    refine wp_iload_n 3 C dX3_fits_120 rfl rfl ?_
    refine wp_icmp_ne (tgt := 142) (by omega) (by omega) C dX3_fits_121 (by decide) (fun c_121 => ?_) (fun c_121 => ?_)
    · skip
      refine wp_iconst (v := 0) C dX3_fits_142 rfl ?_
      refine wp_zret (by first | exact bi_01 | omega) C dX3_fits_143 ?_
      exact ret_b0 (by subst e_v1; simp [fitB, c_8, c_20_0, c_20_1, c_20_2, c_20_3, c_121])
    · skip
      refine wp_aloadR_n 0 C dX3_fits_124 rfl rfl ?_
      refine wp_getR flX3_18 sh_28 rfl C dX3_fits_125 ?_
      refine wp_iload_n 2 C dX3_fits_128 rfl rfl ?_
      refine wp_iload_n 1 C dX3_fits_129 rfl rfl ?_
      refine wp_iconst (v := 4) C dX3_fits_130 rfl ?_
      refine wp_isub C dX3_fits_131 ?_
      refine wp_callVp (rest := []) (c_hasColour E h a (kind - 4) (by omega) (by omega) (by omega) hC) svX3_48 sh_1 (by decide) rfl rfl (Nat.le_of_ble_eq_true rfl) C dX3_fits_132 ?_
      refine wp_ifb_eq (tgt := 142) C dX3_fits_135 (by decide) (fun c_135 => ?_) (fun c_135 => ?_)
      · skip
        refine wp_iconst (v := 0) C dX3_fits_142 rfl ?_
        refine wp_zret (by first | exact bi_01 | omega) C dX3_fits_143 ?_
        exact ret_b0 (by subst e_v1; simp [fitB, c_8, c_20_0, c_20_1, c_20_2, c_20_3, c_121, c_135])
      · skip
        refine wp_iconst (v := 1) C dX3_fits_138 rfl ?_
        refine wp_goto (tgt := 143) C dX3_fits_139 (by decide) ?_
        refine wp_zret (by first | exact bi_01 | omega) C dX3_fits_143 ?_
        exact ret_b1 (by subst e_v1; simp [fitB, c_8, c_20_0, c_20_1, c_20_2, c_20_3, c_121, c_135])
  · skip
    refine wp_iconst (v := 0) C dX3_fits_11 rfl ?_
    refine wp_zret (by first | exact bi_01 | omega) C dX3_fits_12 ?_
    exact ret_b0 (by simp [fitB, c_8])

set_option maxRecDepth 100000 in
set_option maxHeartbeats 4000000 in
theorem x_as (E : En) (h : Hp) (kd w a k : Int) (hkd : -2147483648 ≤ kd ∧ kd ≤ 2147483647) (hw : -2147483648 ≤ w ∧ w ≤ 2147483647) (ha : -2147483648 ≤ a ∧ a ≤ 2147483647) (hk : -2147483648 ≤ k ∧ k ≤ 2147483647) (hz : 0 ≤ h 1 4 ∧ h 1 4 ≤ 20) (hp : 2 ≤ h 1 5 ∧ h 1 5 ≤ 10) (hN : ∀ i : Nat, (i : Int) < h 1 4 → 0 ≤ h 2 i ∧ h 2 i ≤ 999999999999999) (hS : ∀ i : Nat, (i : Int) < h 1 4 → 0 ≤ h 3 i ∧ h 3 i ≤ 999999999999999) (hC : ∀ i : Nat, (i : Int) < h 1 4 → 0 ≤ h 4 i ∧ h 4 i ≤ 999999999999999) : Ct 4 yX11_as cX11_as 5 (some .int) E [rv E 0, iv kd, iv w, iv a, iv k] h (Ret (iv (if ¬ ((0 ≤ kd ∧ kd ≤ 7) ∧ (0 ≤ a ∧ a < 2 ^ (h 1 4).toNat)) then -2 else if ¬ ((0 ≤ w ∧ w ≤ 6) ∧ (1 ≤ k ∧ k ≤ 20)) then -3 else if tkI kd.toNat / 2 ^ w.toNat % 2 = 0 then -4 else bi (fitB (h 2) (h 3) (h 4) (h 1 5) (h 1 4).toNat kd a k = true))) h) := by
  refine ct_intro (by decide) (Nat.le_of_ble_eq_true rfl) (fun G C => ?_)
  show Wp G E 5 (Ret (iv (if ¬ ((0 ≤ kd ∧ kd ≤ 7) ∧ (0 ≤ a ∧ a < 2 ^ (h 1 4).toNat)) then -2 else if ¬ ((0 ≤ w ∧ w ≤ 6) ∧ (1 ≤ k ∧ k ≤ 20)) then -3 else if tkI kd.toNat / 2 ^ w.toNat % 2 = 0 then -4 else bi (fitB (h 2) (h 3) (h 4) (h 1 5) (h 1 4).toNat kd a k = true))) h) 0 [(0, rv E 0), (1, iv kd), (2, iv w), (3, iv a), (4, iv k)] [] h
  refine wp_iload_n 1 C dX11_as_0 rfl rfl ?_
  refine wp_iconst (v := 0) C dX11_as_1 rfl ?_
  refine wp_bipush (v := 7) C dX11_as_2 rfl ?_
  refine wp_callSp (rest := []) (c_within E h kd 0 7 (by omega) (by omega) (by omega)) ssX11_92 (by decide) rfl rfl (Nat.le_of_ble_eq_true rfl) C dX11_as_4 ?_
  refine wp_ifb_eq (tgt := 21) C dX11_as_7 (by decide) (fun c_7 => ?_) (fun c_7 => ?_)
  · skip
    refine wp_bipush (v := (-2)) C dX11_as_21 rfl ?_
    refine wp_iret C dX11_as_23 ?_
    exact ret_iv (by rw [if_pos (fun z => c_7 z.1)])
  · skip
    refine wp_aloadR_n 0 C dX11_as_10 rfl rfl ?_
    refine wp_getR flX11_10 sh_0 rfl C dX11_as_11 ?_
    refine wp_iload_n 3 C dX11_as_14 rfl rfl ?_
    refine wp_callVp (rest := []) (c_know E h a (by omega) (by omega)) svX11_152 sh_1 (by decide) rfl rfl (Nat.le_of_ble_eq_true rfl) C dX11_as_15 ?_
    refine wp_ifb_ne (tgt := 24) C dX11_as_18 (by decide) (fun c_18 => ?_) (fun c_18 => ?_)
    · skip
      have hl9 := lot_lt (by omega) c_18
      refine wp_iload_n 2 C dX11_as_24 rfl rfl ?_
      refine wp_iconst (v := 0) C dX11_as_25 rfl ?_
      refine wp_bipush (v := 6) C dX11_as_26 rfl ?_
      refine wp_callSp (rest := []) (c_within E h w 0 6 (by omega) (by omega) (by omega)) ssX11_92 (by decide) rfl rfl (Nat.le_of_ble_eq_true rfl) C dX11_as_28 ?_
      refine wp_ifb_eq (tgt := 42) C dX11_as_31 (by decide) (fun c_31 => ?_) (fun c_31 => ?_)
      · skip
        refine wp_bipush (v := (-3)) C dX11_as_42 rfl ?_
        refine wp_iret C dX11_as_44 ?_
        exact ret_iv (by rw [if_neg (not_not_intro ⟨c_7, c_18⟩), if_pos (fun z => c_31 z.1)])
      · skip
        refine wp_iload 4 C dX11_as_34 rfl ?_
        refine wp_callSp (rest := []) (c_isSize E h k (by omega)) ssX11_167 (by decide) rfl rfl (Nat.le_of_ble_eq_true rfl) C dX11_as_36 ?_
        refine wp_ifb_ne (tgt := 45) C dX11_as_39 (by decide) (fun c_39 => ?_) (fun c_39 => ?_)
        · skip
          refine wp_getsT (mT (i := 578) (by decide +kernel) rfl) C dX11_as_45 ?_
          refine wp_iload_n 1 C dX11_as_48 rfl rfl ?_
          refine wp_tiT (by omega) C dX11_as_49 ?_
          have ht9 := tkI_r kd.toNat (by omega)
          refine wp_iload_n 2 C dX11_as_50 rfl rfl ?_
          refine wp_ishr (by omega) (by omega) C dX11_as_51 ?_
          refine wp_iconst (v := 1) C dX11_as_52 rfl ?_
          refine wp_iand C dX11_as_53 ?_
          refine wp_top (bAnd_1 _) ?_
          refine wp_if_ne (tgt := 60) (by omega) C dX11_as_54 (by decide) (fun c_54 => ?_) (fun c_54 => ?_)
          · skip
            refine wp_aloadR_n 0 C dX11_as_60 rfl rfl ?_
            refine wp_getR flX11_44 sh_0 rfl C dX11_as_61 ?_
            refine wp_iload_n 1 C dX11_as_64 rfl rfl ?_
            refine wp_iload_n 3 C dX11_as_65 rfl rfl ?_
            refine wp_iload 4 C dX11_as_66 rfl ?_
            refine wp_callVp (rest := []) (c_fits E h kd a k (by omega) (by omega) (by omega) (by omega) (by omega) hN hS hC) svX11_173 sh_28 (by decide) rfl rfl (Nat.le_of_ble_eq_true rfl) C dX11_as_68 ?_
            refine wp_ifb_eq (tgt := 78) C dX11_as_71 (by decide) (fun c_71 => ?_) (fun c_71 => ?_)
            · skip
              refine wp_iconst (v := 0) C dX11_as_78 rfl ?_
              refine wp_iret C dX11_as_79 ?_
              exact ret_iv (by rw [if_neg (not_not_intro ⟨c_7, c_18⟩), if_neg (not_not_intro ⟨c_31, c_39⟩), if_neg (by omega), bi_f c_71])
            · skip
              refine wp_iconst (v := 1) C dX11_as_74 rfl ?_
              refine wp_goto (tgt := 79) C dX11_as_75 (by decide) ?_
              refine wp_iret C dX11_as_79 ?_
              exact ret_iv (by rw [if_neg (not_not_intro ⟨c_7, c_18⟩), if_neg (not_not_intro ⟨c_31, c_39⟩), if_neg (by omega), bi_t c_71])
          · skip
            refine wp_bipush (v := (-4)) C dX11_as_57 rfl ?_
            refine wp_iret C dX11_as_59 ?_
            exact ret_iv (by rw [if_neg (not_not_intro ⟨c_7, c_18⟩), if_neg (not_not_intro ⟨c_31, c_39⟩), if_pos (by omega)])
        · skip
          refine wp_bipush (v := (-3)) C dX11_as_42 rfl ?_
          refine wp_iret C dX11_as_44 ?_
          exact ret_iv (by rw [if_neg (not_not_intro ⟨c_7, c_18⟩), if_pos (fun z => c_39 z.2)])
    · skip
      refine wp_bipush (v := (-2)) C dX11_as_21 rfl ?_
      refine wp_iret C dX11_as_23 ?_
      exact ret_iv (by rw [if_pos (fun z => c_18 z.2)])

set_option maxRecDepth 100000 in
set_option maxHeartbeats 4000000 in
theorem c_isAhead (E : En) (h : Hp) (a b : Int) (ha : 0 ≤ a ∧ a ≤ 1048575) (hb : 0 ≤ b ∧ b ≤ 1048575) (p : Prop) [hdp : Decidable p] (hpp : p ↔ ahd a.toNat b.toNat) : Ct 0 yX11_isAhead cX11_isAhead 3 (some .boolean) E [iv a, iv b] h (Ret (iv (bi p)) h) := by
  have hq := ahd_iff (a := a.toNat) (b := b.toNat) (by omega) (by omega)
  rw [show ((a.toNat : Nat) : Int) = a by omega, show ((b.toNat : Nat) : Int) = b by omega] at hq
  have hr := bAnd_r (bAnd a (bXor a b)) (-(bXor a b))
  refine ct_intro (by decide) (Nat.le_of_ble_eq_true rfl) (fun G C => ?_)
  show Wp G E 3 (Ret (iv (bi p)) h) 0 [(0, iv a), (1, iv b)] [] h
  refine wp_iload_n 0 C dX11_isAhead_0 rfl rfl ?_
  refine wp_iload_n 1 C dX11_isAhead_1 rfl rfl ?_
  refine wp_ixor C dX11_isAhead_2 ?_
  refine wp_nm (fun v1 e_v1 => ?_)
  refine wp_istore_n (ls' := [(0, iv a), (1, iv b), (2, iv v1)]) [1, 2, 0] C dX11_isAhead_3 rfl (by decide) rfl ?_
  refine wp_iload_n 0 C dX11_isAhead_4 rfl rfl ?_
  refine wp_iload_n 2 C dX11_isAhead_5 rfl rfl ?_
  refine wp_iand C dX11_isAhead_6 ?_
  refine wp_iload_n 2 C dX11_isAhead_7 rfl rfl ?_
  refine wp_ineg C dX11_isAhead_8 ?_
  refine wp_iand C dX11_isAhead_9 ?_
  refine wp_if_eq (tgt := 17) (by rw [e_v1]; exact hr) C dX11_isAhead_10 (by decide) (fun c_10 => ?_) (fun c_10 => ?_)
  · skip
    refine wp_iconst (v := 0) C dX11_isAhead_17 rfl ?_
    refine wp_zret (by first | exact bi_01 | omega) C dX11_isAhead_18 ?_
    exact ret_b0 (fun z => absurd (by rw [← e_v1]; exact c_10) (hq.mpr (hpp.mp z)))
  · skip
    refine wp_iconst (v := 1) C dX11_isAhead_13 rfl ?_
    refine wp_goto (tgt := 18) C dX11_isAhead_14 (by decide) ?_
    refine wp_zret (by first | exact bi_01 | omega) C dX11_isAhead_18 ?_
    exact ret_b1 (hpp.mpr (hq.mp (by rw [← e_v1]; exact c_10)))


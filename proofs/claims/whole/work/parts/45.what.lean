/-! ===== Whatever: fillStaying, withOneMore, hasTen ===== -/
def stC (p : Int) (n x y : Nat) : Prop := ∀ j, y.testBit j = decide (j < n * p.toNat ∧ j % p.toNat < p.toNat - x)
theorem stC_lt {p : Int} {n x y : Nat} (h : stC p n x y) : y < 2 ^ (n * p.toNat) := by
  apply Nat.lt_pow_two_of_testBit
  intro j hj
  rw [h j]
  exact decide_eq_false (fun z => by omega)
theorem stC_step {p : Int} {n x y : Nat} (hp : 2 ≤ p ∧ p ≤ 5) (h : stC p n x y) : stC p (n + 1) x (y ||| (2 ^ (p.toNat - x) - 1) * 2 ^ (n * p.toNat)) := by
  intro j
  rw [Nat.testBit_or, h j, mul_tb, Nat.testBit_two_pow_sub_one]
  rw [Bool.eq_iff_iff, Bool.or_eq_true, Bool.and_eq_true, decide_eq_true_eq, decide_eq_true_eq, decide_eq_true_eq, decide_eq_true_eq]
  rcases (show p.toNat = 2 ∨ p.toNat = 3 ∨ p.toNat = 4 ∨ p.toNat = 5 by omega) with q | q | q | q <;> rw [q] <;> omega
theorem np50 {p : Int} {k : Nat} (hp : 2 ≤ p ∧ p ≤ 5) (hk : k ≤ 9) : 2 ^ ((k + 1) * p.toNat) ≤ 2 ^ 50 := by
  apply Nat.pow_le_pow_right (by decide)
  have : (k + 1) * p.toNat ≤ 10 * 5 := Nat.mul_le_mul (by omega) (by omega)
  omega
theorem c2p (n : Nat) : (2 : Int) ^ n = ((2 ^ n : Nat) : Int) := by simp
theorem cmp2 (a n : Nat) : (a : Int) * 2 ^ n = ((a * 2 ^ n : Nat) : Int) := by rw [c2p, ← Int.natCast_mul]
theorem cdv2 (a n : Nat) : (a : Int) / 2 ^ n = ((a / 2 ^ n : Nat) : Int) := by rw [c2p, ← Int.natCast_ediv]
theorem pow_lt_mul {a n m : Nat} (h : a < 2 ^ n) : a * 2 ^ m < 2 ^ (n + m) := by rw [Nat.pow_add]; exact Nat.mul_lt_mul_of_pos_right h (Nat.pow_pos (by decide))
set_option maxRecDepth 100000 in
set_option maxHeartbeats 4000000 in
theorem c_fillSt (E : En) (h : Hp) (k : Nat) (hp : 2 ≤ h 97 1 ∧ h 97 1 ≤ 5) (hk : h 97 2 = (k : Int)) (hk9 : k ≤ 9) : Ct 0 yX10_fillStaying cX10_fillStaying 5 none E [rv E 97] h (fun v hx => v = none ∧ (∀ x : Nat, (x : Int) < h 97 1 → ∃ y : Nat, hx 98 x = (y : Int) ∧ stB (h 97 1) k x y) ∧ (∀ a b, a ≠ 98 → hx a b = h a b)) := by
  refine ct_intro (by decide) (Nat.le_of_ble_eq_true rfl) (fun G C => ?_)
  show Wp G E 5 (fun v hx => v = none ∧ (∀ x : Nat, (x : Int) < h 97 1 → ∃ y : Nat, hx 98 x = (y : Int) ∧ stB (h 97 1) k x y) ∧ (∀ a b, a ≠ 98 → hx a b = h a b)) 0 [(0, rv E 97)] [] h
  refine wp_iconst (v := 0) C dX10_fillStaying_0 rfl ?_
  refine wp_istore_n (ls' := [(0, rv E 97), (1, iv 0)]) [1, 0] C dX10_fillStaying_1 rfl (by decide) rfl ?_
  have q20 : ∀ n9 : Nat, ∀ (x1 : Int) (hx : Hp), (0 ≤ x1 ∧ x1 ≤ h 97 1) → (∀ x : Nat, (x : Int) < x1 → ∃ y : Nat, hx 98 x = (y : Int) ∧ stB (h 97 1) k x y) → (∀ a b, a ≠ 98 → hx a b = h a b) → (h 97 1 - x1).toNat < n9 → Wp G E 5 (fun v hx => v = none ∧ (∀ x : Nat, (x : Int) < h 97 1 → ∃ y : Nat, hx 98 x = (y : Int) ∧ stB (h 97 1) k x y) ∧ (∀ a b, a ≠ 98 → hx a b = h a b)) 2 [(0, rv E 97), (1, iv x1)] [] hx := by
    intro n9
    induction n9 with
    | zero => intro x1 hx hi ha hf hm9; exact absurd hm9 (Nat.not_lt_zero _)
    | succ n9 ih9 =>
      intro x1 hx hi ha hf hm9
      have ih9_2 := ih9
      have s1 : hx 97 1 = h 97 1 := hf 97 1 (by decide)
      have s2 : hx 97 2 = (k : Int) := (hf 97 2 (by decide)).trans hk
      refine wp_iload_n 1 C dX10_fillStaying_2 rfl rfl ?_
      refine wp_aloadR_n 0 C dX10_fillStaying_3 rfl rfl ?_
      refine wp_getI flX10_15 sh_97 rfl C dX10_fillStaying_4 ?_
      refine wp_icmp_ge (tgt := 70) (by omega) (by omega) C dX10_fillStaying_7 (by decide) (fun c_7 => ?_) (fun c_7 => ?_)
      · skip
        refine wp_vret C dX10_fillStaying_70 ?_
        exact ⟨rfl, fun x hx9 => ha x (by omega), hf⟩
      · skip
        refine wp_lconst (v := 1) C dX10_fillStaying_10 rfl ?_
        refine wp_aloadR_n 0 C dX10_fillStaying_11 rfl rfl ?_
        refine wp_getI flX10_15 sh_97 rfl C dX10_fillStaying_12 ?_
        refine wp_iload_n 1 C dX10_fillStaying_15 rfl rfl ?_
        refine wp_isub C dX10_fillStaying_16 ?_
        refine wp_lshl (by omega) C dX10_fillStaying_17 ?_
        refine wp_lconst (v := 1) C dX10_fillStaying_18 rfl ?_
        refine wp_lsub C dX10_fillStaying_19 ?_
        refine wp_nml (fun gr e_gr => ?_)
        refine wp_lstore_n (ls' := [(0, rv E 97), (1, iv x1), (2, jv gr)]) [1, 2, 0] C dX10_fillStaying_20 rfl (by decide) rfl ?_
        have egr : gr = ((2 ^ ((h 97 1).toNat - x1.toNat) - 1 : Nat) : Int) := by rw [e_gr, s1, show (h 97 1 - x1).toNat = (h 97 1).toNat - x1.toNat by omega, Int.one_mul, c2p]; have := Nat.pow_pos (n := (h 97 1).toNat - x1.toNat) (show 0 < 2 by decide); omega
        refine wp_aloadR_n 0 C dX10_fillStaying_21 rfl rfl ?_
        refine wp_getR flX10_9 sh_97 rfl C dX10_fillStaying_22 ?_
        refine wp_iload_n 1 C dX10_fillStaying_25 rfl rfl ?_
        refine wp_lconst (v := 0) C dX10_fillStaying_26 rfl ?_
        refine wp_last sh_98 (by omega) C dX10_fillStaying_27 ?_
        obtain ⟨H1, e_H1⟩ : ∃ z : Hp, z = upd2 hx 98 x1.toNat 0 := ⟨_, rfl⟩
        refine wp_heq e_H1 ?_
        refine wp_iconst (v := 0) C dX10_fillStaying_28 rfl ?_
        refine wp_istore (ls' := [(0, rv E 97), (1, iv x1), (2, jv gr), (4, iv 0)]) [1, 2, 3, 0] C dX10_fillStaying_29 (by decide) rfl ?_
        have q310 : ∀ n9 : Nat, ∀ (x4 : Int) (hx : Hp), (0 ≤ x4 ∧ x4 ≤ k + 1) → (∀ x : Nat, (x : Int) < x1 → ∃ y : Nat, hx 98 x = (y : Int) ∧ stB (h 97 1) k x y) → (∃ y : Nat, hx 98 x1.toNat = (y : Int) ∧ stC (h 97 1) x4.toNat x1.toNat y) → (∀ a b, a ≠ 98 → hx a b = h a b) → ((k : Int) + 1 - x4).toNat < n9 → Wp G E 5 (fun v hx => v = none ∧ (∀ x : Nat, (x : Int) < h 97 1 → ∃ y : Nat, hx 98 x = (y : Int) ∧ stB (h 97 1) k x y) ∧ (∀ a b, a ≠ 98 → hx a b = h a b)) 31 [(0, rv E 97), (1, iv x1), (2, jv gr), (4, iv x4)] [] hx := by
          intro n9
          induction n9 with
          | zero => intro x4 hx hi4 ha hb hf hm9; exact absurd hm9 (Nat.not_lt_zero _)
          | succ n9 ih9 =>
            intro x4 hx hi4 ha hb hf hm9
            have ih9_31 := ih9
            have s1 : hx 97 1 = h 97 1 := hf 97 1 (by decide)
            have s2 : hx 97 2 = (k : Int) := (hf 97 2 (by decide)).trans hk
            refine wp_iload 3 C dX10_fillStaying_31 rfl ?_
            refine wp_aloadR_n 0 C dX10_fillStaying_33 rfl rfl ?_
            refine wp_getI flX10_19 sh_97 rfl C dX10_fillStaying_34 ?_
            refine wp_icmp_gt (tgt := 64) (by omega) (by omega) C dX10_fillStaying_37 (by decide) (fun c_37 => ?_) (fun c_37 => ?_)
            · skip
              obtain ⟨y1n, e_y1n⟩ : ∃ z : Int, z = x1 + (1) := ⟨_, rfl⟩
              refine wp_iinc (j := 1) (y := y1n) (ls' := [(0, rv E 97), (1, iv y1n), (2, jv gr), (4, iv x4)]) [1, 0, 2, 3] C dX10_fillStaying_64 rfl e_y1n (by decide) rfl ?_
              refine wp_goto (tgt := 2) C dX10_fillStaying_67 (by decide) ?_
              refine wp_loc [0, 1] rfl ?_
              exact ih9_2 y1n hx (by omega) (fun x hx9 => by rcases (show (x : Int) < x1 ∨ x = x1.toNat by omega) with q | rfl; exact ha x q; obtain ⟨y, y1, y2⟩ := hb; exact ⟨y, y1, by have e9 : x4.toNat = k + 1 := (by omega); rw [e9] at y2; exact y2⟩) (hf) (by omega)
            · skip
              obtain ⟨yb, hb1, hb2⟩ := hb
              have hy50 := stC_lt hb2
              have hxm : x4.toNat * (h 97 1).toNat ≤ 9 * 5 := Nat.mul_le_mul (by omega) (by omega)
              have hp45 : 2 ^ (x4.toNat * (h 97 1).toNat) ≤ 2 ^ 45 := Nat.pow_le_pow_right (by decide) hxm
              have exm : (x4 * hx 97 1).toNat = x4.toNat * (h 97 1).toNat := by rw [s1, Int.toNat_mul (by omega) (by omega)]
              have hxm0 : 0 ≤ x4 * hx 97 1 := Int.mul_nonneg (by omega) (by omega)
              have hg5 : (2 ^ ((h 97 1).toNat - x1.toNat) - 1) * 2 ^ (x4.toNat * (h 97 1).toNat) < 2 ^ (5 + x4.toNat * (h 97 1).toNat) := pow_lt_mul (by have : 2 ^ ((h 97 1).toNat - x1.toNat) ≤ 2 ^ 5 := Nat.pow_le_pow_right (by decide) (by omega); have := Nat.pow_pos (n := (h 97 1).toNat - x1.toNat) (show 0 < 2 by decide); omega)
              have hp50 : 2 ^ (5 + x4.toNat * (h 97 1).toNat) ≤ 2 ^ 50 := Nat.pow_le_pow_right (by decide) (by omega)
              refine wp_aloadR_n 0 C dX10_fillStaying_40 rfl rfl ?_
              refine wp_getR flX10_9 sh_97 rfl C dX10_fillStaying_41 ?_
              refine wp_iload_n 1 C dX10_fillStaying_44 rfl rfl ?_
              refine wp_dup2 rfl rfl C dX10_fillStaying_45 ?_
              refine wp_lald sh_98 (by omega) C dX10_fillStaying_46 ?_
              refine wp_lload_n 2 C dX10_fillStaying_47 rfl rfl ?_
              refine wp_iload 3 C dX10_fillStaying_48 rfl ?_
              refine wp_aloadR_n 0 C dX10_fillStaying_50 rfl rfl ?_
              refine wp_getI flX10_15 sh_97 rfl C dX10_fillStaying_51 ?_
              refine wp_imul C dX10_fillStaying_54 ?_
              refine wp_lshl (by omega) C dX10_fillStaying_55 ?_
              refine wp_lor C dX10_fillStaying_56 ?_
              refine wp_topl (show _ = ((yb ||| (2 ^ ((h 97 1).toNat - x1.toNat) - 1) * 2 ^ (x4.toNat * (h 97 1).toNat) : Nat) : Int) by rw [hb1, egr, exm, cmp2, lOr_n (by omega) (by omega)]) ?_
              refine wp_last sh_98 (by omega) C dX10_fillStaying_57 ?_
              obtain ⟨H2, e_H2⟩ : ∃ z : Hp, z = upd2 hx 98 x1.toNat ((yb ||| (2 ^ ((h 97 1).toNat - x1.toNat) - 1) * 2 ^ (x4.toNat * (h 97 1).toNat) : Nat) : Int) := ⟨_, rfl⟩
              refine wp_heq e_H2 ?_
              obtain ⟨y4, e_y4⟩ : ∃ z : Int, z = x4 + (1) := ⟨_, rfl⟩
              refine wp_iinc (j := 3) (y := y4) (ls' := [(0, rv E 97), (1, iv x1), (2, jv gr), (4, iv y4)]) [1, 2, 3, 0] C dX10_fillStaying_58 rfl e_y4 (by decide) rfl ?_
              refine wp_goto (tgt := 31) C dX10_fillStaying_61 (by decide) ?_
              exact ih9_31 y4 H2 (by omega) (fun x hx9 => by rw [e_H2]; unfold upd2; rw [if_neg (fun z => by omega)]; exact ha x hx9) (⟨_, by rw [e_H2, upd2_s], by rw [e_y4, show (x4 + 1).toNat = x4.toNat + 1 by omega]; exact stC_step hp hb2⟩) (fun a b hab => by rw [e_H2]; unfold upd2; rw [if_neg (fun z => hab z.1)]; exact hf a b hab) (by omega)
        have q31 : ∀ (x4 : Int) (hx : Hp), (0 ≤ x4 ∧ x4 ≤ k + 1) → (∀ x : Nat, (x : Int) < x1 → ∃ y : Nat, hx 98 x = (y : Int) ∧ stB (h 97 1) k x y) → (∃ y : Nat, hx 98 x1.toNat = (y : Int) ∧ stC (h 97 1) x4.toNat x1.toNat y) → (∀ a b, a ≠ 98 → hx a b = h a b) → Wp G E 5 (fun v hx => v = none ∧ (∀ x : Nat, (x : Int) < h 97 1 → ∃ y : Nat, hx 98 x = (y : Int) ∧ stB (h 97 1) k x y) ∧ (∀ a b, a ≠ 98 → hx a b = h a b)) 31 [(0, rv E 97), (1, iv x1), (2, jv gr), (4, iv x4)] [] hx := fun x4 hx hi4 ha hb hf => q310 _ x4 hx hi4 ha hb hf (Nat.lt_succ_self _)
        exact q31 0 H1 (by omega) (fun x hx9 => by rw [e_H1]; unfold upd2; rw [if_neg (fun z => by omega)]; exact ha x hx9) (⟨0, by rw [e_H1, upd2_s]; rfl, fun j => by rw [decide_eq_false (fun z => by have := z.1; rw [show Int.toNat 0 = 0 from rfl, Nat.zero_mul] at this; omega)]; simp⟩) (fun a b hab => by rw [e_H1]; unfold upd2; rw [if_neg (fun z => hab z.1)]; exact hf a b hab)
  have q2 : ∀ (x1 : Int) (hx : Hp), (0 ≤ x1 ∧ x1 ≤ h 97 1) → (∀ x : Nat, (x : Int) < x1 → ∃ y : Nat, hx 98 x = (y : Int) ∧ stB (h 97 1) k x y) → (∀ a b, a ≠ 98 → hx a b = h a b) → Wp G E 5 (fun v hx => v = none ∧ (∀ x : Nat, (x : Int) < h 97 1 → ∃ y : Nat, hx 98 x = (y : Int) ∧ stB (h 97 1) k x y) ∧ (∀ a b, a ≠ 98 → hx a b = h a b)) 2 [(0, rv E 97), (1, iv x1)] [] hx := fun x1 hx hi ha hf => q20 _ x1 hx hi ha hf (Nat.lt_succ_self _)
  exact q2 0 h (by omega) (fun x hx9 => absurd hx9 (by omega)) (fun a b _ => rfl)

set_option maxRecDepth 100000 in
set_option maxHeartbeats 4000000 in
theorem c_wom (E : En) (h : Hp) (z x y y0 k : Nat) (zi xi : Int) (hzi : zi = (z : Int)) (hxi : xi = (x : Int)) (hp : 2 ≤ h 97 1 ∧ h 97 1 ≤ 5) (hk9 : k ≤ 9) (hx : (x : Int) < h 97 1) (hz : z < 2 ^ ((k + 1) * (h 97 1).toNat)) (hy : h 98 x = (y : Int)) (hy0 : h 98 0 = (y0 : Int)) : Ct 0 yX10_withOneMore cX10_withOneMore 8 (some .long) E [rv E 97, jv zi, iv xi] h (Ret (jv ((womN (h 97 1) x z y y0 : Nat) : Int)) h) := by
  have h50 := np50 hp hk9
  have hz50 : z < 2 ^ 50 := by omega
  have ha50 : z &&& y < 2 ^ 50 := Nat.lt_of_le_of_lt Nat.and_le_left hz50
  have hn50 : anN z y < 2 ^ 50 := anN_lt hz50
  have hu1 := pow_lt_mul (m := x) ha50
  have hu2 : 2 ^ (50 + x) ≤ 2 ^ 55 := Nat.pow_le_pow_right (by decide) (by omega)
  have hd1 := Nat.div_le_self (anN z y) (2 ^ ((h 97 1).toNat - x))
  have ho1 : (z &&& y) * 2 ^ x ||| anN z y / 2 ^ ((h 97 1).toNat - x) < 2 ^ 55 := Nat.or_lt_two_pow (by omega) (by omega)
  have ho2 := pow_lt_mul (m := (h 97 1).toNat) ho1
  have ho3 : 2 ^ (55 + (h 97 1).toNat) ≤ 2 ^ 60 := Nat.pow_le_pow_right (by decide) (by omega)
  have ho4 : z ||| ((z &&& y) * 2 ^ x ||| anN z y / 2 ^ ((h 97 1).toNat - x)) * 2 ^ (h 97 1).toNat < 2 ^ 60 := Nat.or_lt_two_pow (by omega) (by omega)
  refine ct_intro (by decide) (Nat.le_of_ble_eq_true rfl) (fun G C => ?_)
  show Wp G E 8 (Ret (jv ((womN (h 97 1) x z y y0 : Nat) : Int)) h) 0 [(0, rv E 97), (1, jv zi), (3, iv xi)] [] h
  refine wp_lload_n 1 C dX10_withOneMore_0 rfl rfl ?_
  refine wp_aloadR_n 0 C dX10_withOneMore_1 rfl rfl ?_
  refine wp_getR flX10_9 sh_97 rfl C dX10_withOneMore_2 ?_
  refine wp_iload_n 2 C dX10_withOneMore_5 rfl rfl ?_
  refine wp_lald sh_98 (by omega) C dX10_withOneMore_6 ?_
  refine wp_land C dX10_withOneMore_7 ?_
  refine wp_topl (show _ = ((z &&& y : Nat) : Int) by rw [hzi, hxi, Int.toNat_natCast, hy]; exact lAnd_n (by omega)) ?_
  refine wp_iload_n 2 C dX10_withOneMore_8 rfl rfl ?_
  refine wp_lshl (by omega) C dX10_withOneMore_9 ?_
  refine wp_topl (show _ = (((z &&& y) * 2 ^ x : Nat) : Int) by rw [hxi, Int.toNat_natCast]; exact cmp2 _ _) ?_
  refine wp_nml (fun up e_up => ?_)
  refine wp_lstore (ls' := [(0, rv E 97), (1, jv zi), (3, iv xi), (4, jv up)]) [1, 2, 3, 0] C dX10_withOneMore_10 (by decide) rfl ?_
  refine wp_lload_n 1 C dX10_withOneMore_12 rfl rfl ?_
  refine wp_aloadR_n 0 C dX10_withOneMore_13 rfl rfl ?_
  refine wp_getR flX10_9 sh_97 rfl C dX10_withOneMore_14 ?_
  refine wp_iload_n 2 C dX10_withOneMore_17 rfl rfl ?_
  refine wp_lald sh_98 (by omega) C dX10_withOneMore_18 ?_
  refine wp_ldc2 (v := (-1)) C (mT (i := 728) (by decide +kernel) rfl) dX10_withOneMore_19 ?_
  refine wp_lxor C dX10_withOneMore_22 ?_
  refine wp_land C dX10_withOneMore_23 ?_
  refine wp_topl (show _ = ((anN z y : Nat) : Int) by rw [hzi, hxi, Int.toNat_natCast, hy]; exact lAndNot_n (by omega)) ?_
  refine wp_aloadR_n 0 C dX10_withOneMore_24 rfl rfl ?_
  refine wp_getI flX10_15 sh_97 rfl C dX10_withOneMore_25 ?_
  refine wp_iload_n 2 C dX10_withOneMore_28 rfl rfl ?_
  refine wp_isub C dX10_withOneMore_29 ?_
  refine wp_lushr (by omega) (by omega) C dX10_withOneMore_30 ?_
  refine wp_topl (show _ = ((anN z y / 2 ^ ((h 97 1).toNat - x) : Nat) : Int) by rw [show (h 97 1 - xi).toNat = (h 97 1).toNat - x by omega]; exact cdv2 _ _) ?_
  refine wp_nml (fun dn e_dn => ?_)
  refine wp_lstore (ls' := [(0, rv E 97), (1, jv zi), (3, iv xi), (4, jv up), (6, jv dn)]) [1, 2, 3, 4, 0] C dX10_withOneMore_31 (by decide) rfl ?_
  refine wp_lload_n 1 C dX10_withOneMore_33 rfl rfl ?_
  refine wp_lload 3 C dX10_withOneMore_34 rfl ?_
  refine wp_lload 4 C dX10_withOneMore_36 rfl ?_
  refine wp_lor C dX10_withOneMore_38 ?_
  refine wp_topl (show _ = (((z &&& y) * 2 ^ x ||| anN z y / 2 ^ ((h 97 1).toNat - x) : Nat) : Int) by rw [e_up, e_dn]; exact lOr_n (by omega) (by omega)) ?_
  refine wp_aloadR_n 0 C dX10_withOneMore_39 rfl rfl ?_
  refine wp_getI flX10_15 sh_97 rfl C dX10_withOneMore_40 ?_
  refine wp_lshl (by omega) C dX10_withOneMore_43 ?_
  refine wp_topl (show _ = ((((z &&& y) * 2 ^ x ||| anN z y / 2 ^ ((h 97 1).toNat - x)) * 2 ^ (h 97 1).toNat : Nat) : Int) by exact cmp2 _ _) ?_
  refine wp_lor C dX10_withOneMore_44 ?_
  refine wp_topl (show _ = ((z ||| ((z &&& y) * 2 ^ x ||| anN z y / 2 ^ ((h 97 1).toNat - x)) * 2 ^ (h 97 1).toNat : Nat) : Int) by rw [hzi]; exact lOr_n (by omega) (by omega)) ?_
  refine wp_aloadR_n 0 C dX10_withOneMore_45 rfl rfl ?_
  refine wp_getR flX10_9 sh_97 rfl C dX10_withOneMore_46 ?_
  refine wp_iconst (v := 0) C dX10_withOneMore_49 rfl ?_
  refine wp_lald sh_98 (by omega) C dX10_withOneMore_50 ?_
  refine wp_topl (show _ = h 98 0 from rfl) ?_
  refine wp_land C dX10_withOneMore_51 ?_
  refine wp_topl (show _ = ((womN (h 97 1) x z y y0 : Nat) : Int) by rw [hy0]; exact lAnd_n (by omega)) ?_
  refine wp_lret C dX10_withOneMore_52 ?_
  exact ret_jv (by first | rfl | omega)

set_option maxRecDepth 100000 in
set_option maxHeartbeats 4000000 in
theorem c_wHas (E : En) (h : Hp) (z k : Nat) (zi : Int) (L : List Int) (hzi : zi = (z : Int)) (hp : 2 ≤ h 97 1 ∧ h 97 1 ≤ 5) (hk : h 97 2 = (k : Int)) (hk9 : k ≤ 9) (w : swP (h 97 1) k L z) : Ct 0 yX10_hasTen cX10_hasTen 3 (some .boolean) E [rv E 97, jv zi] h (Ret (iv (bi (exL (h 97 1) L k 0 = true))) h) := by
  have h50 := np50 hp hk9
  have hz50 : z < 2 ^ 50 := by have := w.1; omega
  have hxm : k * (h 97 1).toNat ≤ 9 * 5 := Nat.mul_le_mul (by omega) (by omega)
  have exm : (h 97 2 * h 97 1).toNat = k * (h 97 1).toNat := by rw [Int.toNat_mul (by omega) (by omega)]; rw [hk]; rfl
  have hxm0 : 0 ≤ h 97 2 * h 97 1 := Int.mul_nonneg (by omega) (by omega)
  have hten : (z / 2 ^ (k * (h 97 1).toNat) % 2 = 1) ↔ exL (h 97 1) L k 0 = true := by
    have q := w.2 k (Nat.le_refl k) 0 (by omega)
    rw [Nat.testBit_eq_decide_div_mod_eq, Nat.add_zero] at q
    rw [show ((0 : Nat) : Int) = 0 from rfl] at q
    rw [← q, decide_eq_true_eq]
  refine ct_intro (by decide) (Nat.le_of_ble_eq_true rfl) (fun G C => ?_)
  show Wp G E 3 (Ret (iv (bi (exL (h 97 1) L k 0 = true))) h) 0 [(0, rv E 97), (1, jv zi)] [] h
  refine wp_lload_n 1 C dX10_hasTen_0 rfl rfl ?_
  refine wp_aloadR_n 0 C dX10_hasTen_1 rfl rfl ?_
  refine wp_getI flX10_19 sh_97 rfl C dX10_hasTen_2 ?_
  refine wp_aloadR_n 0 C dX10_hasTen_5 rfl rfl ?_
  refine wp_getI flX10_15 sh_97 rfl C dX10_hasTen_6 ?_
  refine wp_imul C dX10_hasTen_9 ?_
  refine wp_lshr (by omega) (by omega) C dX10_hasTen_10 ?_
  refine wp_topl (show _ = ((z / 2 ^ (k * (h 97 1).toNat) : Nat) : Int) by rw [hzi, exm]; exact cdv2 _ _) ?_
  refine wp_lconst (v := 1) C dX10_hasTen_11 rfl ?_
  refine wp_land C dX10_hasTen_12 ?_
  refine wp_topl (show _ = ((z / 2 ^ (k * (h 97 1).toNat) % 2 : Nat) : Int) by exact (lAnd_n (b := 1) (Nat.lt_of_le_of_lt (Nat.div_le_self _ _) (by omega))).trans (by rw [Nat.and_one_is_mod])) ?_
  refine wp_lconst (v := 1) C dX10_hasTen_13 rfl ?_
  refine wp_lcmp_ne (tgt := 22) (by have := Nat.mod_lt (z / 2 ^ (k * (h 97 1).toNat)) (show 0 < 2 by decide); omega) (by omega) C dX10_hasTen_14 dX10_hasTen_15 (by decide) (fun c_14 => ?_) (fun c_14 => ?_)
  · skip
    refine wp_iconst (v := 0) C dX10_hasTen_22 rfl ?_
    refine wp_zret (by first | exact bi_01 | omega) C dX10_hasTen_23 ?_
    exact ret_b0 (fun z9 => by have := hten.mpr z9; omega)
  · skip
    refine wp_iconst (v := 1) C dX10_hasTen_18 rfl ?_
    refine wp_goto (tgt := 23) C dX10_hasTen_19 (by decide) ?_
    refine wp_zret (by first | exact bi_01 | omega) C dX10_hasTen_23 ?_
    exact ret_b1 (hten.mp (by omega))


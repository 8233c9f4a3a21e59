/-! ===== Finder: fillSizes ===== -/
def pl (sd r s : Int) : Int := r * sd + s
def FK (h : Hp) : Prop := (h 28 2 = 3 ∧ h 28 3 = h 1 5) ∨ (4 ≤ h 28 2 ∧ h 28 2 ≤ 7 ∧ h 28 3 = 2) ∨ ((h 28 2 = 0 ∨ h 28 2 = 1) ∧ h 28 3 = 1)
theorem pl_r {sd r s p : Int} (hr : 0 ≤ r ∧ r < p) (hs : 0 ≤ s ∧ s < sd) (hp : p ≤ 10) (hd : 1 ≤ sd ∧ sd ≤ 10) : 0 ≤ pl sd r s ∧ pl sd r s < 100 := by
  unfold pl
  have h1 : 0 ≤ r * sd := Int.mul_nonneg hr.1 (by omega)
  have h2 : r * sd ≤ 9 * sd := Int.mul_le_mul_of_nonneg_right (by omega) (by omega)
  omega
theorem pl_inj {sd r s r' s' : Int} (hs : 0 ≤ s ∧ s < sd) (hs' : 0 ≤ s' ∧ s' < sd) (h : pl sd r s = pl sd r' s') : r = r' ∧ s = s' := by
  unfold pl at h
  have e : r = r' := by
    have h1 : (r * sd + s) / sd = r := by rw [Int.add_comm, Int.add_mul_ediv_right _ _ (by omega), Int.ediv_eq_zero_of_lt hs.1 hs.2]; omega
    have h2 : (r' * sd + s') / sd = r' := by rw [Int.add_comm, Int.add_mul_ediv_right _ _ (by omega), Int.ediv_eq_zero_of_lt hs'.1 hs'.2]; omega
    rw [h, h2] at h1
    exact h1.symm
  subst e
  exact ⟨rfl, by omega⟩
theorem sdw_r {h : Hp} (hk : FK h) (hp : 2 ≤ h 1 5 ∧ h 1 5 ≤ 10) {s : Int} {i : Nat} (hs : 0 ≤ s ∧ s < h 28 3) : 0 ≤ sdw (h 3) (h 4) (h 1 5) (h 28 2) s i ∧ sdw (h 3) (h 4) (h 1 5) (h 28 2) s i < h 28 3 := by
  have hm := mod_r (h 3 i) hp
  unfold sdw
  rcases hk with ⟨h1, h2⟩ | ⟨h1, h2, h3⟩ | ⟨h1, h2⟩
  · rw [if_pos h1, h2]
    exact trn_r (by omega) hm
  · rw [if_neg (by omega)]
    split <;> omega
  · rw [if_neg (by omega), if_neg (by omega)]
    exact hs
def szP (h hx : Hp) (j : Nat) (r s : Int) : Prop := 0 ≤ hx 27 (100 * (j : Int) + pl (h 28 3) r s).toNat ∧ hx 27 (100 * (j : Int) + pl (h 28 3) r s).toNat < 2 ^ ((h 1 4).toNat - j + 1) ∧ ∀ c, tb (hx 27 (100 * (j : Int) + pl (h 28 3) r s).toNat) c ↔ exA (h 2) (h 3) (h 4) (h 1 5) (h 28 2) ((h 1 4).toNat - j) j c r s = true
theorem exA_iff {N Sc Cl : Nat → Int} {p kd r s : Int} {m i c : Nat} : exA N Sc Cl p kd (m + 1) i c r s = true ↔ exA N Sc Cl p kd m (i + 1) c r s = true ∨ (c ≠ 0 ∧ exA N Sc Cl p kd m (i + 1) (c - 1) (trn (r + N i % p) p) (sdw Sc Cl p kd s i) = true) := by
  rw [exA, Bool.or_eq_true, Bool.and_eq_true, decide_eq_true_eq]
theorem sz_step {h hx : Hp} {i : Nat} {r s : Int} (hi : i < (h 1 4).toNat) (hz : h 1 4 ≤ 20) (a : szP h hx (i + 1) r s) (b : szP h hx (i + 1) (trn (r + h 2 i % h 1 5) (h 1 5)) (sdw (h 3) (h 4) (h 1 5) (h 28 2) s i)) (A B : Int) (eA : A = hx 27 (100 * ((i + 1 : Nat) : Int) + pl (h 28 3) r s).toNat) (eB : B = hx 27 (100 * ((i + 1 : Nat) : Int) + pl (h 28 3) (trn (r + h 2 i % h 1 5) (h 1 5)) (sdw (h 3) (h 4) (h 1 5) (h 28 2) s i)).toNat) :
    0 ≤ bOr A (B * 2) ∧ bOr A (B * 2) < 2 ^ ((h 1 4).toNat - i + 1) ∧ ∀ c, tb (bOr A (B * 2)) c ↔ exA (h 2) (h 3) (h 4) (h 1 5) (h 28 2) ((h 1 4).toNat - i) i c r s = true := by
  obtain ⟨a1, a2, a3⟩ := a
  obtain ⟨b1, b2, b3⟩ := b
  rw [← eA] at a1 a2 a3
  rw [← eB] at b1 b2 b3
  have e1 : (h 1 4).toNat - i = (h 1 4).toNat - (i + 1) + 1 := by omega
  have hp := p2_succ ((h 1 4).toNat - (i + 1) + 1)
  have hm : (2 : Int) ^ ((h 1 4).toNat - (i + 1) + 1 + 1) ≤ 2 ^ 21 := p2_mono (by omega)
  have e21 : (2 : Int) ^ 21 = 2097152 := by decide
  rw [e1]
  have hr := bOr_r (a := A) (b := B * 2) (n := (h 1 4).toNat - (i + 1) + 1 + 1) (by omega) (by omega) (by omega)
  refine ⟨hr.1, hr.2, fun c => ?_⟩
  rw [tb_or (by omega) (by omega), a3 c, exA_iff]
  cases c with
  | zero => exact ⟨fun q => q.elim Or.inl (fun w => absurd w tb_dbl0), fun q => q.elim Or.inl (fun w => absurd rfl w.1)⟩
  | succ c => rw [tb_dbl, b3 c, show c + 1 - 1 = c by omega]; exact ⟨fun q => q.elim Or.inl (fun w => Or.inr ⟨by omega, w⟩), fun q => q.elim Or.inl (fun w => Or.inr w.2)⟩
theorem sz_upd {h hx H : Hp} {i j : Nat} {r s r1 s1 v : Int} (hk : 1 ≤ h 28 3 ∧ h 28 3 ≤ 10) (hp : h 1 5 ≤ 10) (hr : 0 ≤ r ∧ r < h 1 5) (hs : 0 ≤ s ∧ s < h 28 3) (hr1 : 0 ≤ r1 ∧ r1 < h 1 5) (hs1 : 0 ≤ s1 ∧ s1 < h 28 3) (e : H = upd2 hx 27 (100 * (i : Int) + pl (h 28 3) r s).toNat v) (hn : ¬ (j = i ∧ r1 = r ∧ s1 = s)) (q : szP h hx j r1 s1) : szP h H j r1 s1 := by
  have g1 := pl_r hr hs hp hk
  have g2 := pl_r hr1 hs1 hp hk
  have ne : (100 * (j : Int) + pl (h 28 3) r1 s1).toNat ≠ (100 * (i : Int) + pl (h 28 3) r s).toNat := by
    intro z
    have hj : j = i := by omega
    have := pl_inj hs1 hs (show pl (h 28 3) r1 s1 = pl (h 28 3) r s by omega)
    exact hn ⟨hj, this.1, this.2⟩
  have e2 : H 27 (100 * (j : Int) + pl (h 28 3) r1 s1).toNat = hx 27 (100 * (j : Int) + pl (h 28 3) r1 s1).toNat := by
    rw [e]; unfold upd2; rw [if_neg (fun z => ne z.2)]
  unfold szP
  rw [e2]
  exact q
theorem sz_new {h hx H : Hp} {i : Nat} {r s v : Int} (e : H = upd2 hx 27 (100 * (i : Int) + pl (h 28 3) r s).toNat v) (q : 0 ≤ v ∧ v < 2 ^ ((h 1 4).toNat - i + 1) ∧ ∀ c, tb v c ↔ exA (h 2) (h 3) (h 4) (h 1 5) (h 28 2) ((h 1 4).toNat - i) i c r s = true) : szP h H i r s := by
  have e2 : H 27 (100 * (i : Int) + pl (h 28 3) r s).toNat = v := by rw [e]; simp [upd2]
  unfold szP
  rw [e2]
  exact q
theorem FK.sd {h : Hp} (hk : FK h) (hp : 2 ≤ h 1 5 ∧ h 1 5 ≤ 10) : 1 ≤ h 28 3 ∧ h 28 3 ≤ 10 := by rcases hk with q | q | q <;> omega
theorem FK.kd {h : Hp} (hk : FK h) : 0 ≤ h 28 2 ∧ h 28 2 ≤ 7 := by rcases hk with q | q | q <;> omega
theorem sz_last {h hx : Hp} (hk : FK h) (hp : 2 ≤ h 1 5 ∧ h 1 5 ≤ 10) (hz : 0 ≤ h 1 4) (e : hx = upd2 (fillH h 27 (h 1 4 * 100) (h 1 4 * 100 + 100) 0) 27 (h 1 4 * 100 + (if 4 ≤ h 28 2 then 1 else 0)).toNat 1) {r s : Int} (hr : 0 ≤ r ∧ r < h 1 5) (hs : 0 ≤ s ∧ s < h 28 3) : szP h hx (h 1 4).toNat r s := by
  have hsd := hk.sd hp
  have g := pl_r hr hs hp.2 hsd
  have ez : (100 * (((h 1 4).toNat : Nat) : Int) + pl (h 28 3) r s).toNat = (h 1 4 * 100 + pl (h 28 3) r s).toNat := by omega
  have hg : (if 4 ≤ h 28 2 then (1 : Int) else 0) = pl (h 28 3) 0 (if 4 ≤ h 28 2 then 1 else 0) := by unfold pl; omega
  have hs0 : 0 ≤ (if 4 ≤ h 28 2 then (1 : Int) else 0) ∧ (if 4 ≤ h 28 2 then (1 : Int) else 0) < h 28 3 := by
    rcases hk with ⟨q1, q2⟩ | ⟨q1, q2, q3⟩ | ⟨q1, q2⟩
    · rw [if_neg (by omega)]; omega
    · rw [if_pos (by omega)]; omega
    · rw [if_neg (by omega)]; omega
  have hv : hx 27 (100 * (((h 1 4).toNat : Nat) : Int) + pl (h 28 3) r s).toNat = if r = 0 ∧ s = (if 4 ≤ h 28 2 then 1 else 0) then 1 else 0 := by
    rw [ez, e]
    unfold upd2 fillH
    by_cases q : r = 0 ∧ s = (if 4 ≤ h 28 2 then 1 else 0)
    · rw [if_pos q, if_pos ⟨rfl, by rw [hg, q.1, ← q.2]⟩]
    · rw [if_neg q, if_neg (fun z => q ?_), if_pos ⟨rfl, by omega, by omega⟩]
      have z2 : pl (h 28 3) r s = (if 4 ≤ h 28 2 then (1 : Int) else 0) := by
        have := z.2
        omega
      rw [hg] at z2
      have := pl_inj hs (by exact hs0) z2
      exact this
  unfold szP
  rw [Nat.sub_self]
  by_cases q : r = 0 ∧ s = (if 4 ≤ h 28 2 then 1 else 0)
  · rw [hv, if_pos q]
    refine ⟨by decide, by decide, fun c => ?_⟩
    rw [exA, show (1 : Int) = 2 ^ 0 from rfl, tb_p2]
    simp only [Bool.and_eq_true, decide_eq_true_eq]
    exact ⟨fun z => ⟨⟨z, q.1⟩, q.2⟩, fun z => z.1.1⟩
  · rw [hv, if_neg q]
    refine ⟨by decide, by decide, fun c => ?_⟩
    rw [exA]
    simp only [Bool.and_eq_true, decide_eq_true_eq]
    exact ⟨fun z => absurd z (tb_0 c), fun z => absurd ⟨z.1.2, z.2⟩ q⟩
set_option maxRecDepth 100000 in
set_option maxHeartbeats 4000000 in
theorem c_place (E : En) (h : Hp) (a r s : Int) : Ct 0 yX3_place cX3_place 4 (some .int) E [rv E 28, iv a, iv r, iv s] h (Ret (iv (100 * a + pl (h 28 3) r s)) h) := by
  refine ct_intro (by decide) (Nat.le_of_ble_eq_true rfl) (fun G C => ?_)
  show Wp G E 4 (Ret (iv (100 * a + pl (h 28 3) r s)) h) 0 [(0, rv E 28), (1, iv a), (2, iv r), (3, iv s)] [] h
  refine wp_iload_n 1 C dX3_place_0 rfl rfl ?_
  refine wp_bipush (v := 100) C dX3_place_1 rfl ?_
  refine wp_imul C dX3_place_3 ?_
  refine wp_iload_n 2 C dX3_place_4 rfl rfl ?_
  refine wp_aloadR_n 0 C dX3_place_5 rfl rfl ?_
  refine wp_getI flX3_15 sh_28 rfl C dX3_place_6 ?_
  refine wp_imul C dX3_place_9 ?_
  refine wp_iadd C dX3_place_10 ?_
  refine wp_iload_n 3 C dX3_place_11 rfl rfl ?_
  refine wp_iadd C dX3_place_12 ?_
  refine wp_iret C dX3_place_13 ?_
  exact ret_iv (by unfold pl; omega)

set_option maxRecDepth 100000 in
set_option maxHeartbeats 4000000 in
theorem c_sideWith (E : En) (h : Hp) (s i : Int) (hi : 0 ≤ i ∧ i < h 1 4) (hsd : 0 ≤ s ∧ s < h 28 3) (hk : FK h) (hz : 0 ≤ h 1 4 ∧ h 1 4 ≤ 20) (hp : 2 ≤ h 1 5 ∧ h 1 5 ≤ 10) (hS : ∀ i : Nat, (i : Int) < h 1 4 → 0 ≤ h 3 i ∧ h 3 i ≤ 999999999999999) (hC : ∀ i : Nat, (i : Int) < h 1 4 → 0 ≤ h 4 i ∧ h 4 i ≤ 999999999999999) : Ct 3 yX3_sideWith cX3_sideWith 3 (some .int) E [rv E 28, iv s, iv i] h (Ret (iv (sdw (h 3) (h 4) (h 1 5) (h 28 2) s i.toNat)) h) := by
  have hms := mod_r (h 3 i.toNat) hp
  have hkd := hk.kd
  have hks := hk.sd hp
  have hC9 := hC i.toNat (by omega)
  refine ct_intro (by decide) (Nat.le_of_ble_eq_true rfl) (fun G C => ?_)
  show Wp G E 3 (Ret (iv (sdw (h 3) (h 4) (h 1 5) (h 28 2) s i.toNat)) h) 0 [(0, rv E 28), (1, iv s), (2, iv i)] [] h
  refine wp_aloadR_n 0 C dX3_sideWith_0 rfl rfl ?_
  refine wp_getI flX3_9 sh_28 rfl C dX3_sideWith_1 ?_
  refine wp_iconst (v := 3) C dX3_sideWith_4 rfl ?_
  refine wp_icmp_ne (tgt := 29) (by omega) (by omega) C dX3_sideWith_5 (by decide) (fun c_5 => ?_) (fun c_5 => ?_)
  · skip
    refine wp_aloadR_n 0 C dX3_sideWith_29 rfl rfl ?_
    refine wp_getI flX3_9 sh_28 rfl C dX3_sideWith_30 ?_
    refine wp_iconst (v := 4) C dX3_sideWith_33 rfl ?_
    refine wp_icmp_lt (tgt := 61) (by omega) (by omega) C dX3_sideWith_34 (by decide) (fun c_34 => ?_) (fun c_34 => ?_)
    · skip
      refine wp_iload_n 1 C dX3_sideWith_61 rfl rfl ?_
      refine wp_iret C dX3_sideWith_62 ?_
      exact ret_iv (by unfold sdw; rw [if_neg (by omega), if_neg (by omega)])
    · skip
      refine wp_aloadR_n 0 C dX3_sideWith_37 rfl rfl ?_
      refine wp_getR flX3_18 sh_28 rfl C dX3_sideWith_38 ?_
      refine wp_getR flX3_90 sh_1 rfl C dX3_sideWith_41 ?_
      refine wp_iload_n 2 C dX3_sideWith_44 rfl rfl ?_
      refine wp_lald sh_4 (by omega) C dX3_sideWith_45 ?_
      refine wp_aloadR_n 0 C dX3_sideWith_46 rfl rfl ?_
      refine wp_getI flX3_9 sh_28 rfl C dX3_sideWith_47 ?_
      refine wp_iconst (v := 4) C dX3_sideWith_50 rfl ?_
      refine wp_isub C dX3_sideWith_51 ?_
      refine wp_i2l (by omega) C dX3_sideWith_52 ?_
      refine wp_lcmp_ne (tgt := 61) (by omega) (by omega) C dX3_sideWith_53 dX3_sideWith_54 (by decide) (fun c_53 => ?_) (fun c_53 => ?_)
      · skip
        refine wp_iload_n 1 C dX3_sideWith_61 rfl rfl ?_
        refine wp_iret C dX3_sideWith_62 ?_
        exact ret_iv (by unfold sdw; rw [if_neg (by omega), if_neg (by omega)])
      · skip
        refine wp_iconst (v := 1) C dX3_sideWith_57 rfl ?_
        refine wp_goto (tgt := 62) C dX3_sideWith_58 (by decide) ?_
        refine wp_iret C dX3_sideWith_62 ?_
        exact ret_iv (by unfold sdw; rw [if_neg (by omega), if_pos (by omega)])
  · skip
    refine wp_iload_n 1 C dX3_sideWith_8 rfl rfl ?_
    refine wp_aloadR_n 0 C dX3_sideWith_9 rfl rfl ?_
    refine wp_getR flX3_18 sh_28 rfl C dX3_sideWith_10 ?_
    refine wp_iload_n 2 C dX3_sideWith_13 rfl rfl ?_
    refine wp_callVp (rest := [iv s]) (c_restOfSecond E h i (by omega) (hS _ (by omega)) (by omega)) svX3_87 sh_1 (by decide) rfl rfl (Nat.le_of_ble_eq_true rfl) C dX3_sideWith_14 ?_
    refine wp_iadd C dX3_sideWith_17 ?_
    refine wp_aloadR_n 0 C dX3_sideWith_18 rfl rfl ?_
    refine wp_getR flX3_18 sh_28 rfl C dX3_sideWith_19 ?_
    refine wp_getI flX3_55 sh_1 rfl C dX3_sideWith_22 ?_
    refine wp_callSNp (rest := []) (c_turned E h (s + (h 3 i.toNat % h 1 5)) (h 1 5) (by omega) (by omega)) snX3_70 (by decide) rfl rfl (Nat.le_of_ble_eq_true rfl) C dX3_sideWith_25 ?_
    refine wp_iret C dX3_sideWith_28 ?_
    exact ret_iv (by unfold sdw; rw [if_pos (by omega)])


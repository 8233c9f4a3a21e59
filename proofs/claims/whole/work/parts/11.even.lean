/-! ===== first, any, below n; a method whose effect is known ===== -/
def firstI (p : Nat → Bool) (n : Nat) : Int := match (List.range n).find? p with
  | some i => i
  | none => -1
theorem firstI_some {p : Nat → Bool} {n i : Nat} (hi : i < n) (hp : p i = true) (hb : ∀ j, j < i → p j = false) : firstI p n = i := by
  have e : (List.range n).find? p = some i := by
    rw [List.find?_range_eq_some]
    exact ⟨hp, List.mem_range.mpr hi, fun j hj => by simp [hb j hj]⟩
  unfold firstI
  rw [e]
theorem firstI_none {p : Nat → Bool} {n : Nat} (hb : ∀ j, j < n → p j = false) : firstI p n = -1 := by
  have e : (List.range n).find? p = none := by
    rw [List.find?_eq_none]
    intro x hx
    simp [hb x (List.mem_range.mp hx)]
  unfold firstI
  rw [e]
theorem firstI_cases (p : Nat → Bool) (n : Nat) : (∃ i, i < n ∧ p i = true ∧ (∀ j, j < i → p j = false) ∧ firstI p n = i) ∨ ((∀ j, j < n → p j = false) ∧ firstI p n = -1) := by
  by_cases h : ∃ i, i < n ∧ p i = true
  · left
    obtain ⟨i, hi⟩ := h
    have hex : ∃ k, k < n ∧ p k = true := ⟨i, hi⟩
    induction i using Nat.strongRecOn with
    | _ i ih =>
      by_cases h2 : ∃ j, j < i ∧ p j = true
      · obtain ⟨j, hj, hpj⟩ := h2
        exact ih j hj ⟨by omega, hpj⟩
      · have hb : ∀ j, j < i → p j = false := fun j hj => by
          cases e : p j with
          | false => rfl
          | true => exact absurd ⟨j, hj, e⟩ h2
        exact ⟨i, hi.1, hi.2, hb, firstI_some hi.1 hi.2 hb⟩
  · right
    have hb : ∀ j, j < n → p j = false := fun j hj => by
      cases e : p j with
      | false => rfl
      | true => exact absurd ⟨j, hj, e⟩ h
    exact ⟨hb, firstI_none hb⟩
def anyB (p : Nat → Bool) (n : Nat) : Bool := (List.range n).any p
theorem anyB_iff {p : Nat → Bool} {n : Nat} : anyB p n = true ↔ ∃ i, i < n ∧ p i = true := by
  unfold anyB
  simp [List.any_eq_true, List.mem_range]
def Upd (v : Option Value) (h' : Hp) : Option Value → Hp → Prop := fun r h2 => r = v ∧ h2 = h'
section UPD
variable {G : Gx} {E : En} {cc : ByteArray} {nL : Nat} {own : String} {ret : Option FieldType} {d : Nat} {post : Option Value → Hp → Prop} {pc : Nat} {ls : List (Nat × Value)} {st : List Value} {h : Hp}
variable {y : MethodName} {cy : ByteArray} {nY n idx d' : Nat} {retY : Option FieldType} {as : List Value} {rest : List Value}
theorem wp_callVu {v : Option Value} {h' : Hp} {id ci b : Nat} {fs : List (Option Nat)} (hM : Ct d' y cy nY retY E (rv E id :: as) h (Upd v h')) (hq : SV own idx y ci cy nY retY n) (hs : shL[id]? = some (0, ci, b, fs)) (hd' : d' < d) (hn : as.length = n) (hst : st = as.reverse ++ rv E id :: rest) (hw : (rest.map fun v => v.category).sum ≤ 8) (C : Cx G E cc nL own ret d) (hdg : decode cc pc = .ok (.invokevirtual idx, 3))
    (kk : Wp G E nL post (pc + 3) ls (v.toList ++ rest) h') : Wp G E nL post pc ls st h :=
  wp_callV hM hq hs hd' hn hst hw C hdg (fun _ _ q => by obtain ⟨rfl, rfl⟩ := q; exact kk)
theorem wp_callSu {v : Option Value} {h' : Hp} (hM : Ct d' y cy nY retY E as h (Upd v h')) (hq : SS own idx y cy nY retY n) (hd' : d' < d) (hn : as.length = n) (hst : st = as.reverse ++ rest) (hw : (rest.map fun v => v.category).sum ≤ 8) (C : Cx G E cc nL own ret d) (hdg : decode cc pc = .ok (.invokestatic idx, 3))
    (kk : Wp G E nL post (pc + 3) ls (v.toList ++ rest) h') : Wp G E nL post pc ls st h :=
  wp_callS hM hq hd' hn hst hw C hdg (fun _ _ q => by obtain ⟨rfl, rfl⟩ := q; exact kk)
end UPD

/-! ===== EvenTen: within, isSize, isHanded, turned; Heaps ===== -/
def trn (s p : Int) : Int := if p ≤ s then s - p else s
set_option maxRecDepth 100000 in
set_option maxHeartbeats 4000000 in
theorem c_within (E : En) (h : Hp) (a b c : Int) (ha : -2147483648 ≤ a ∧ a ≤ 2147483647) (hb : -2147483648 ≤ b ∧ b ≤ 2147483647) (hc : -2147483648 ≤ c ∧ c ≤ 2147483647) : Ct 0 yX11_within cX11_within 3 (some .boolean) E [iv a, iv b, iv c] h (Ret (iv (bi (b ≤ a ∧ a ≤ c))) h) := by
  refine ct_intro (by decide) (Nat.le_of_ble_eq_true rfl) (fun G C => ?_)
  show Wp G E 3 (Ret (iv (bi (b ≤ a ∧ a ≤ c))) h) 0 [(0, iv a), (1, iv b), (2, iv c)] [] h
  refine wp_iload_n 0 C dX11_within_0 rfl rfl ?_
  refine wp_iload_n 1 C dX11_within_1 rfl rfl ?_
  refine wp_icmp_lt (tgt := 14) (by omega) (by omega) C dX11_within_2 (by decide) (fun c_2 => ?_) (fun c_2 => ?_)
  · skip
    refine wp_iconst (v := 0) C dX11_within_14 rfl ?_
    refine wp_zret (by first | exact bi_01 | omega) C dX11_within_15 ?_
    exact ret_b0 (by omega)
  · skip
    refine wp_iload_n 0 C dX11_within_5 rfl rfl ?_
    refine wp_iload_n 2 C dX11_within_6 rfl rfl ?_
    refine wp_icmp_gt (tgt := 14) (by omega) (by omega) C dX11_within_7 (by decide) (fun c_7 => ?_) (fun c_7 => ?_)
    · skip
      refine wp_iconst (v := 0) C dX11_within_14 rfl ?_
      refine wp_zret (by first | exact bi_01 | omega) C dX11_within_15 ?_
      exact ret_b0 (by omega)
    · skip
      refine wp_iconst (v := 1) C dX11_within_10 rfl ?_
      refine wp_goto (tgt := 15) C dX11_within_11 (by decide) ?_
      refine wp_zret (by first | exact bi_01 | omega) C dX11_within_15 ?_
      exact ret_b1 (by omega)

set_option maxRecDepth 100000 in
set_option maxHeartbeats 4000000 in
theorem c_turned (E : En) (h : Hp) (a b : Int) (ha : -2147483648 ≤ a ∧ a ≤ 2147483647) (hb : -2147483648 ≤ b ∧ b ≤ 2147483647) : Ct 0 yX11_turned cX11_turned 2 (some .int) E [iv a, iv b] h (Ret (iv (trn a b)) h) := by
  refine ct_intro (by decide) (Nat.le_of_ble_eq_true rfl) (fun G C => ?_)
  show Wp G E 2 (Ret (iv (trn a b)) h) 0 [(0, iv a), (1, iv b)] [] h
  refine wp_iload_n 0 C dX11_turned_0 rfl rfl ?_
  refine wp_iload_n 1 C dX11_turned_1 rfl rfl ?_
  refine wp_icmp_lt (tgt := 11) (by omega) (by omega) C dX11_turned_2 (by decide) (fun c_2 => ?_) (fun c_2 => ?_)
  · skip
    refine wp_iload_n 0 C dX11_turned_11 rfl rfl ?_
    refine wp_iret C dX11_turned_12 ?_
    exact ret_iv (by unfold trn; rw [if_neg (by omega)])
  · skip
    refine wp_iload_n 0 C dX11_turned_5 rfl rfl ?_
    refine wp_iload_n 1 C dX11_turned_6 rfl rfl ?_
    refine wp_isub C dX11_turned_7 ?_
    refine wp_goto (tgt := 12) C dX11_turned_8 (by decide) ?_
    refine wp_iret C dX11_turned_12 ?_
    exact ret_iv (by unfold trn; rw [if_pos (by omega)])

set_option maxRecDepth 100000 in
set_option maxHeartbeats 4000000 in
theorem c_isSize (E : En) (h : Hp) (k : Int) (hk : -2147483648 ≤ k ∧ k ≤ 2147483647) : Ct 1 yX11_isSize cX11_isSize 1 (some .boolean) E [iv k] h (Ret (iv (bi (1 ≤ k ∧ k ≤ 20))) h) := by
  refine ct_intro (by decide) (Nat.le_of_ble_eq_true rfl) (fun G C => ?_)
  show Wp G E 1 (Ret (iv (bi (1 ≤ k ∧ k ≤ 20))) h) 0 [(0, iv k)] [] h
  refine wp_iload_n 0 C dX11_isSize_0 rfl rfl ?_
  refine wp_iconst (v := 1) C dX11_isSize_1 rfl ?_
  refine wp_bipush (v := 20) C dX11_isSize_2 rfl ?_
  refine wp_callSp (rest := []) (c_within E h k 1 20 (by omega) (by omega) (by omega)) ssX11_92 (by decide) rfl rfl (Nat.le_of_ble_eq_true rfl) C dX11_isSize_4 ?_
  refine wp_zret (by first | exact bi_01 | omega) C dX11_isSize_7 ?_
  exact ret_iv (rfl)

set_option maxRecDepth 100000 in
set_option maxHeartbeats 4000000 in
theorem c_isHanded (E : En) (h : Hp) (p k : Int) (hp : -2147483648 ≤ p ∧ p ≤ 2147483647) (hk : -2147483648 ≤ k ∧ k ≤ 2147483647) : Ct 1 yX11_isHanded cX11_isHanded 2 (some .boolean) E [iv p, iv k] h (Ret (iv (bi ((2 ≤ p ∧ p ≤ 5) ∧ (1 ≤ k ∧ k ≤ 9)))) h) := by
  refine ct_intro (by decide) (Nat.le_of_ble_eq_true rfl) (fun G C => ?_)
  show Wp G E 2 (Ret (iv (bi ((2 ≤ p ∧ p ≤ 5) ∧ (1 ≤ k ∧ k ≤ 9)))) h) 0 [(0, iv p), (1, iv k)] [] h
  refine wp_iload_n 0 C dX11_isHanded_0 rfl rfl ?_
  refine wp_iconst (v := 2) C dX11_isHanded_1 rfl ?_
  refine wp_iconst (v := 5) C dX11_isHanded_2 rfl ?_
  refine wp_callSp (rest := []) (c_within E h p 2 5 (by omega) (by omega) (by omega)) ssX11_92 (by decide) rfl rfl (Nat.le_of_ble_eq_true rfl) C dX11_isHanded_3 ?_
  refine wp_ifb_eq (tgt := 23) C dX11_isHanded_6 (by decide) (fun c_6 => ?_) (fun c_6 => ?_)
  · skip
    refine wp_iconst (v := 0) C dX11_isHanded_23 rfl ?_
    refine wp_zret (by first | exact bi_01 | omega) C dX11_isHanded_24 ?_
    exact ret_b0 (by omega)
  · skip
    refine wp_iload_n 1 C dX11_isHanded_9 rfl rfl ?_
    refine wp_iconst (v := 1) C dX11_isHanded_10 rfl ?_
    refine wp_bipush (v := 9) C dX11_isHanded_11 rfl ?_
    refine wp_callSp (rest := []) (c_within E h k 1 9 (by omega) (by omega) (by omega)) ssX11_92 (by decide) rfl rfl (Nat.le_of_ble_eq_true rfl) C dX11_isHanded_13 ?_
    refine wp_ifb_eq (tgt := 23) C dX11_isHanded_16 (by decide) (fun c_16 => ?_) (fun c_16 => ?_)
    · skip
      refine wp_iconst (v := 0) C dX11_isHanded_23 rfl ?_
      refine wp_zret (by first | exact bi_01 | omega) C dX11_isHanded_24 ?_
      exact ret_b0 (by omega)
    · skip
      refine wp_iconst (v := 1) C dX11_isHanded_19 rfl ?_
      refine wp_goto (tgt := 24) C dX11_isHanded_20 (by decide) ?_
      refine wp_zret (by first | exact bi_01 | omega) C dX11_isHanded_24 ?_
      exact ret_b1 (by omega)

def cano (z : Int) : Int := (Int32.ofInt z).toInt
theorem cano_r (z : Int) : -2147483648 ≤ cano z ∧ cano z ≤ 2147483647 := bnd
theorem cano_of {z : Int} (h : -2147483648 ≤ z ∧ z ≤ 2147483647) : cano z = z := i_to h
theorem wp_cano {G : Gx} {E : En} {nL : Nat} {post : Option Value → Hp → Prop} {pc : Nat} {ls : List (Nat × Value)} {st : List Value} {h : Hp} {z : Int} (k : Wp G E nL post pc ls (iv (cano z) :: st) h) : Wp G E nL post pc ls (iv z :: st) h := by
  have e : iv (cano z) = iv z := by unfold iv cano; rw [Int32.ofInt_toInt]
  rw [e] at k
  exact k
theorem cano_0 {z : Int} (h : 0 ≤ z ∧ z < 4294967296) : cano z = 0 ↔ z = 0 := by
  constructor
  · intro e
    have e2 : Int32.ofInt z = Int32.ofInt 0 := by
      apply Int32.toInt_inj.1
      rw [i_to (z := 0) (by decide)]
      exact e
    have e3 := congrArg (fun x : Int32 => x.toBitVec.toNat) e2
    simp only [bv_i, BitVec.toNat_ofInt] at e3
    have e4 : ((2 ^ 32 : Nat) : Int) = 4294967296 := rfl
    rw [e4] at e3
    omega
  · rintro rfl
    exact i_to (by decide)
theorem know_iff {a : Int} {n : Nat} (ha : -2147483648 ≤ a ∧ a ≤ 2147483647) (hn : n ≤ 20) : a % 4294967296 / 2 ^ n = 0 ↔ 0 ≤ a ∧ a < 2 ^ n := by
  have hp := p2_pos n
  have h20 : (2 : Int) ^ n ≤ 2 ^ 20 := p2_mono hn
  have e20 : (2 : Int) ^ 20 = 1048576 := by decide
  constructor
  · intro h
    have h1 : a % 4294967296 < 2 ^ n := by
      have := Int.lt_ediv_add_one_mul_self (a % 4294967296) hp
      rw [h] at this
      omega
    omega
  · intro h
    have e : a % 4294967296 = a := by omega
    rw [e]
    exact Int.ediv_eq_zero_of_lt h.1 h.2
theorem know_r {a : Int} {n : Nat} : 0 ≤ a % 4294967296 / 2 ^ n ∧ a % 4294967296 / 2 ^ n < 4294967296 := by
  have hp := p2_pos n
  have h0 : 0 ≤ a % 4294967296 := by omega
  exact ⟨Int.ediv_nonneg h0 (by omega), Int.lt_of_le_of_lt (Int.ediv_le_self _ h0) (by omega)⟩
theorem iv_eq {a b : Int} (h : a % 4294967296 = b % 4294967296) : iv a = iv b := by
  unfold iv
  congr 1
  apply Int32.toBitVec_inj.1
  rw [bv_i, bv_i]
  apply BitVec.eq_of_toNat_eq
  rw [BitVec.toNat_ofInt, BitVec.toNat_ofInt]
  have e3 : ((2 ^ 32 : Nat) : Int) = 4294967296 := rfl
  rw [e3, h]
/-- the numbers of a row at the bits of a lot, below n -/
def sumB (f : Nat → Int) (lot : Int) : Nat → Int
  | 0 => 0
  | n + 1 => sumB f lot n + (if lot / 2 ^ n % 2 = 1 then f n else 0)
theorem sumB_0 {f : Nat → Int} {lot : Int} : ∀ n : Nat, (∀ i, i < n → 0 ≤ f i ∧ f i ≤ 999999999999999) → 0 ≤ sumB f lot n ∧ sumB f lot n ≤ n * 999999999999999
  | 0, _ => by simp [sumB]
  | n + 1, hf => by
    have ih := sumB_0 (lot := lot) n (fun i hi => hf i (by omega))
    have := hf n (by omega)
    unfold sumB
    split <;> (push_cast; omega)

set_option maxRecDepth 100000 in
set_option maxHeartbeats 4000000 in
theorem c_restOf (E : En) (h : Hp) (n : Int) (hn : 0 ≤ n ∧ n ≤ 9000000000000000000) (hp : 2 ≤ h 1 5 ∧ h 1 5 ≤ 10) : Ct 1 yX4_restOf cX4_restOf 3 (some .int) E [rv E 1, jv n] h (Ret (iv (n % h 1 5)) h) := by
  refine ct_intro (by decide) (Nat.le_of_ble_eq_true rfl) (fun G C => ?_)
  show Wp G E 3 (Ret (iv (n % h 1 5)) h) 0 [(0, rv E 1), (1, jv n)] [] h
  refine wp_aloadR_n 0 C dX4_restOf_0 rfl rfl ?_
  refine wp_getI flX4_28 sh_1 rfl C dX4_restOf_1 ?_
  refine wp_iconst (v := 1) C dX4_restOf_4 rfl ?_
  refine wp_icmp_ge (tgt := 12) (by omega) (by omega) C dX4_restOf_5 (by decide) (fun c_5 => ?_) (fun c_5 => ?_)
  · skip
    refine wp_lload_n 1 C dX4_restOf_12 rfl rfl ?_
    refine wp_aloadR_n 0 C dX4_restOf_13 rfl rfl ?_
    refine wp_getI flX4_28 sh_1 rfl C dX4_restOf_14 ?_
    refine wp_i2l (by omega) C dX4_restOf_17 ?_
    refine wp_lrem (by omega) (by omega) C dX4_restOf_18 ?_
    refine wp_l2i C dX4_restOf_19 ?_
    refine wp_iret C dX4_restOf_20 ?_
    exact ret_iv (Int.tmod_eq_emod_of_nonneg hn.1)
  · skip
    refine wp_iconst (v := 0) C dX4_restOf_8 rfl ?_
    refine wp_goto (tgt := 20) C dX4_restOf_9 (by decide) ?_
    refine wp_iret C dX4_restOf_20 ?_
    exact ret_iv (by omega)

set_option maxRecDepth 100000 in
set_option maxHeartbeats 4000000 in
theorem c_restOfNumber (E : En) (h : Hp) (i : Int) (hi : 0 ≤ i ∧ i < 20) (hN : 0 ≤ h 2 i.toNat ∧ h 2 i.toNat ≤ 999999999999999) (hp : 2 ≤ h 1 5 ∧ h 1 5 ≤ 10) : Ct 2 yX4_restOfNumber cX4_restOfNumber 2 (some .int) E [rv E 1, iv i] h (Ret (iv (h 2 i.toNat % h 1 5)) h) := by
  refine ct_intro (by decide) (Nat.le_of_ble_eq_true rfl) (fun G C => ?_)
  show Wp G E 2 (Ret (iv (h 2 i.toNat % h 1 5)) h) 0 [(0, rv E 1), (1, iv i)] [] h
  refine wp_aloadR_n 0 C dX4_restOfNumber_0 rfl rfl ?_
  refine wp_aloadR_n 0 C dX4_restOfNumber_1 rfl rfl ?_
  refine wp_getR flX4_9 sh_1 rfl C dX4_restOfNumber_2 ?_
  refine wp_iload_n 1 C dX4_restOfNumber_5 rfl rfl ?_
  refine wp_lald sh_2 (by omega) C dX4_restOfNumber_6 ?_
  refine wp_callVp (rest := []) (c_restOf E h (h 2 i.toNat) (by omega) (by omega)) svX4_31 sh_1 (by decide) rfl rfl (Nat.le_of_ble_eq_true rfl) C dX4_restOfNumber_7 ?_
  refine wp_iret C dX4_restOfNumber_10 ?_
  exact ret_iv (by first | rfl | omega)

set_option maxRecDepth 100000 in
set_option maxHeartbeats 4000000 in
theorem c_restOfSecond (E : En) (h : Hp) (i : Int) (hi : 0 ≤ i ∧ i < 20) (hN : 0 ≤ h 3 i.toNat ∧ h 3 i.toNat ≤ 999999999999999) (hp : 2 ≤ h 1 5 ∧ h 1 5 ≤ 10) : Ct 2 yX4_restOfSecond cX4_restOfSecond 2 (some .int) E [rv E 1, iv i] h (Ret (iv (h 3 i.toNat % h 1 5)) h) := by
  refine ct_intro (by decide) (Nat.le_of_ble_eq_true rfl) (fun G C => ?_)
  show Wp G E 2 (Ret (iv (h 3 i.toNat % h 1 5)) h) 0 [(0, rv E 1), (1, iv i)] [] h
  refine wp_aloadR_n 0 C dX4_restOfSecond_0 rfl rfl ?_
  refine wp_aloadR_n 0 C dX4_restOfSecond_1 rfl rfl ?_
  refine wp_getR flX4_15 sh_1 rfl C dX4_restOfSecond_2 ?_
  refine wp_iload_n 1 C dX4_restOfSecond_5 rfl rfl ?_
  refine wp_lald sh_3 (by omega) C dX4_restOfSecond_6 ?_
  refine wp_callVp (rest := []) (c_restOf E h (h 3 i.toNat) (by omega) (by omega)) svX4_31 sh_1 (by decide) rfl rfl (Nat.le_of_ble_eq_true rfl) C dX4_restOfSecond_7 ?_
  refine wp_iret C dX4_restOfSecond_10 ?_
  exact ret_iv (by first | rfl | omega)

set_option maxRecDepth 100000 in
set_option maxHeartbeats 4000000 in
theorem c_know (E : En) (h : Hp) (a : Int) (ha : -2147483648 ≤ a ∧ a ≤ 2147483647) (hz : 0 ≤ h 1 4 ∧ h 1 4 ≤ 20) : Ct 0 yX4_know cX4_know 2 (some .boolean) E [rv E 1, iv a] h (Ret (iv (bi (0 ≤ a ∧ a < 2 ^ (h 1 4).toNat))) h) := by
  refine ct_intro (by decide) (Nat.le_of_ble_eq_true rfl) (fun G C => ?_)
  show Wp G E 2 (Ret (iv (bi (0 ≤ a ∧ a < 2 ^ (h 1 4).toNat))) h) 0 [(0, rv E 1), (1, iv a)] [] h
  refine wp_iload_n 1 C dX4_know_0 rfl rfl ?_
  refine wp_aloadR_n 0 C dX4_know_1 rfl rfl ?_
  refine wp_getI flX4_24 sh_1 rfl C dX4_know_2 ?_
  refine wp_iushr (by omega) C dX4_know_5 ?_
  refine wp_cano ?_
  have hk9 := know_r (a := a) (n := (h 1 4).toNat)
  have hc9 := cano_r (a % 4294967296 / 2 ^ (h 1 4).toNat)
  have hk8 := know_iff (n := (h 1 4).toNat) ha (by omega)
  have hk7 := cano_0 hk9
  refine wp_if_ne (tgt := 13) (by omega) C dX4_know_6 (by decide) (fun c_6 => ?_) (fun c_6 => ?_)
  · skip
    refine wp_iconst (v := 0) C dX4_know_13 rfl ?_
    refine wp_zret (by first | exact bi_01 | omega) C dX4_know_14 ?_
    exact ret_b0 (fun z => absurd (hk7.mpr (hk8.mpr z)) c_6)
  · skip
    refine wp_iconst (v := 1) C dX4_know_9 rfl ?_
    refine wp_goto (tgt := 14) C dX4_know_10 (by decide) ?_
    refine wp_zret (by first | exact bi_01 | omega) C dX4_know_14 ?_
    exact ret_b1 (hk8.mp (hk7.mp c_6))

set_option maxRecDepth 100000 in
set_option maxHeartbeats 4000000 in
theorem c_together (E : En) (h : Hp) (row : Nat) (hrow : shL[row]? = some (2, 20, 0, [])) (lot : Int) (hlot : 0 ≤ lot ∧ lot ≤ 1048575) (hz : 0 ≤ h 1 4 ∧ h 1 4 ≤ 20) (hN : ∀ i : Nat, (i : Int) < h 1 4 → 0 ≤ h row i ∧ h row i ≤ 999999999999999) : Ct 0 yX4_together cX4_together 6 (some .long) E [rv E 1, rv E row, iv lot] h (Ret (jv (sumB (h row) lot (h 1 4).toNat)) h) := by
  refine ct_intro (by decide) (Nat.le_of_ble_eq_true rfl) (fun G C => ?_)
  show Wp G E 6 (Ret (jv (sumB (h row) lot (h 1 4).toNat)) h) 0 [(0, rv E 1), (1, rv E row), (2, iv lot)] [] h
  refine wp_lconst (v := 0) C dX4_together_0 rfl ?_
  refine wp_lstore_n (ls' := [(0, rv E 1), (1, rv E row), (2, iv lot), (3, jv 0)]) [1, 2, 3, 0] C dX4_together_1 rfl (by decide) rfl ?_
  refine wp_iconst (v := 0) C dX4_together_2 rfl ?_
  refine wp_istore (ls' := [(0, rv E 1), (1, rv E row), (2, iv lot), (3, jv 0), (5, iv 0)]) [1, 2, 3, 4, 0] C dX4_together_3 (by decide) rfl ?_
  have q50 : ∀ n9 : Nat, ∀ (x3 : Int) (x5 : Int), (0 ≤ x5 ∧ x5 ≤ h 1 4) → (x3 = sumB (h row) lot x5.toNat) → (h 1 4 - x5).toNat < n9 → Wp G E 6 (Ret (jv (sumB (h row) lot (h 1 4).toNat)) h) 5 [(0, rv E 1), (1, rv E row), (2, iv lot), (3, jv x3), (5, iv x5)] [] h := by
    intro n9
    induction n9 with
    | zero => intro x3 x5 hi hs hm9; exact absurd hm9 (Nat.not_lt_zero _)
    | succ n9 ih9 =>
      intro x3 x5 hi hs hm9
      have ih9_5 := ih9
      refine wp_iload 4 C dX4_together_5 rfl ?_
      refine wp_aloadR_n 0 C dX4_together_7 rfl rfl ?_
      refine wp_getI flX4_24 sh_1 rfl C dX4_together_8 ?_
      refine wp_icmp_ge (tgt := 37) (by omega) (by omega) C dX4_together_11 (by decide) (fun c_11 => ?_) (fun c_11 => ?_)
      · skip
        refine wp_lload_n 3 C dX4_together_37 rfl rfl ?_
        refine wp_lret C dX4_together_38 ?_
        exact ret_jv (by rw [hs, show x5 = h 1 4 by omega])
      · skip
        refine wp_iload_n 2 C dX4_together_14 rfl rfl ?_
        refine wp_iload 4 C dX4_together_15 rfl ?_
        refine wp_ishr (by omega) (by omega) C dX4_together_17 ?_
        refine wp_iconst (v := 1) C dX4_together_18 rfl ?_
        refine wp_iand C dX4_together_19 ?_
        refine wp_top (bAnd_1 _) ?_
        refine wp_iconst (v := 1) C dX4_together_20 rfl ?_
        refine wp_icmp_ne (tgt := 31) (by omega) (by omega) C dX4_together_21 (by decide) (fun c_21 => ?_) (fun c_21 => ?_)
        · skip
          obtain ⟨v1, e_v1⟩ : ∃ z : Int, z = x5 + (1) := ⟨_, rfl⟩
          refine wp_iinc (j := 4) (y := v1) (ls' := [(0, rv E 1), (1, rv E row), (2, iv lot), (3, jv x3), (5, iv v1)]) [1, 2, 3, 4, 0] C dX4_together_31 rfl e_v1 (by decide) rfl ?_
          refine wp_goto (tgt := 5) C dX4_together_34 (by decide) ?_
          exact ih9_5 x3 v1 (by omega) (by rw [e_v1, show (x5 + 1).toNat = x5.toNat + 1 by omega, sumB, if_neg (by omega)]; omega) (by omega)
        · skip
          refine wp_lload_n 3 C dX4_together_24 rfl rfl ?_
          refine wp_aloadR_n 1 C dX4_together_25 rfl rfl ?_
          refine wp_iload 4 C dX4_together_26 rfl ?_
          refine wp_lald hrow (by omega) C dX4_together_28 ?_
          refine wp_ladd C dX4_together_29 ?_
          refine wp_nml (fun v2 e_v2 => ?_)
          refine wp_lstore_n (ls' := [(0, rv E 1), (1, rv E row), (2, iv lot), (3, jv v2), (5, iv x5)]) [1, 2, 3, 0, 4] C dX4_together_30 rfl (by decide) rfl ?_
          obtain ⟨v3, e_v3⟩ : ∃ z : Int, z = x5 + (1) := ⟨_, rfl⟩
          refine wp_iinc (j := 4) (y := v3) (ls' := [(0, rv E 1), (1, rv E row), (2, iv lot), (3, jv v2), (5, iv v3)]) [1, 2, 3, 4, 0] C dX4_together_31 rfl e_v3 (by decide) rfl ?_
          refine wp_goto (tgt := 5) C dX4_together_34 (by decide) ?_
          exact ih9_5 v2 v3 (by omega) (by rw [e_v3, show (x5 + 1).toNat = x5.toNat + 1 by omega, sumB, if_pos (by omega)]; omega) (by omega)
  have q5 : ∀ (x3 : Int) (x5 : Int), (0 ≤ x5 ∧ x5 ≤ h 1 4) → (x3 = sumB (h row) lot x5.toNat) → Wp G E 6 (Ret (jv (sumB (h row) lot (h 1 4).toNat)) h) 5 [(0, rv E 1), (1, rv E row), (2, iv lot), (3, jv x3), (5, iv x5)] [] h := fun x3 x5 hi hs => q50 _ x3 x5 hi hs (Nat.lt_succ_self _)
  exact q5 0 0 (by omega) (rfl)

set_option maxRecDepth 100000 in
set_option maxHeartbeats 4000000 in
theorem c_restOfNumbers (E : En) (h : Hp) (lot : Int) (hlot : 0 ≤ lot ∧ lot ≤ 1048575) (hz : 0 ≤ h 1 4 ∧ h 1 4 ≤ 20) (hp : 2 ≤ h 1 5 ∧ h 1 5 ≤ 10) (hN : ∀ i : Nat, (i : Int) < h 1 4 → 0 ≤ h 2 i ∧ h 2 i ≤ 999999999999999) : Ct 2 yX4_restOfNumbers cX4_restOfNumbers 2 (some .int) E [rv E 1, iv lot] h (Ret (iv (sumB (h 2) lot (h 1 4).toNat % h 1 5)) h) := by
  have hb := sumB_0 (f := h 2) (lot := lot) (h 1 4).toNat (fun i hi => hN i (by omega))
  have hz2 : ((h 1 4).toNat : Int) * 999999999999999 ≤ 20 * 999999999999999 := by omega
  refine ct_intro (by decide) (Nat.le_of_ble_eq_true rfl) (fun G C => ?_)
  show Wp G E 2 (Ret (iv (sumB (h 2) lot (h 1 4).toNat % h 1 5)) h) 0 [(0, rv E 1), (1, iv lot)] [] h
  refine wp_aloadR_n 0 C dX4_restOfNumbers_0 rfl rfl ?_
  refine wp_aloadR_n 0 C dX4_restOfNumbers_1 rfl rfl ?_
  refine wp_aloadR_n 0 C dX4_restOfNumbers_2 rfl rfl ?_
  refine wp_getR flX4_9 sh_1 rfl C dX4_restOfNumbers_3 ?_
  refine wp_iload_n 1 C dX4_restOfNumbers_6 rfl rfl ?_
  refine wp_callVp (rest := [rv E 1]) (c_together E h 2 sh_2 lot (by omega) (by omega) hN) svX4_35 sh_1 (by decide) rfl rfl (Nat.le_of_ble_eq_true rfl) C dX4_restOfNumbers_7 ?_
  refine wp_callVp (rest := []) (c_restOf E h (sumB (h 2) lot (h 1 4).toNat) (by omega) (by omega)) svX4_31 sh_1 (by decide) rfl rfl (Nat.le_of_ble_eq_true rfl) C dX4_restOfNumbers_10 ?_
  refine wp_iret C dX4_restOfNumbers_13 ?_
  exact ret_iv (by first | rfl | omega)

set_option maxRecDepth 100000 in
set_option maxHeartbeats 4000000 in
theorem c_restOfSeconds (E : En) (h : Hp) (lot : Int) (hlot : 0 ≤ lot ∧ lot ≤ 1048575) (hz : 0 ≤ h 1 4 ∧ h 1 4 ≤ 20) (hp : 2 ≤ h 1 5 ∧ h 1 5 ≤ 10) (hN : ∀ i : Nat, (i : Int) < h 1 4 → 0 ≤ h 3 i ∧ h 3 i ≤ 999999999999999) : Ct 2 yX4_restOfSeconds cX4_restOfSeconds 2 (some .int) E [rv E 1, iv lot] h (Ret (iv (sumB (h 3) lot (h 1 4).toNat % h 1 5)) h) := by
  have hb := sumB_0 (f := h 3) (lot := lot) (h 1 4).toNat (fun i hi => hN i (by omega))
  have hz2 : ((h 1 4).toNat : Int) * 999999999999999 ≤ 20 * 999999999999999 := by omega
  refine ct_intro (by decide) (Nat.le_of_ble_eq_true rfl) (fun G C => ?_)
  show Wp G E 2 (Ret (iv (sumB (h 3) lot (h 1 4).toNat % h 1 5)) h) 0 [(0, rv E 1), (1, iv lot)] [] h
  refine wp_aloadR_n 0 C dX4_restOfSeconds_0 rfl rfl ?_
  refine wp_aloadR_n 0 C dX4_restOfSeconds_1 rfl rfl ?_
  refine wp_aloadR_n 0 C dX4_restOfSeconds_2 rfl rfl ?_
  refine wp_getR flX4_15 sh_1 rfl C dX4_restOfSeconds_3 ?_
  refine wp_iload_n 1 C dX4_restOfSeconds_6 rfl rfl ?_
  refine wp_callVp (rest := [rv E 1]) (c_together E h 3 sh_3 lot (by omega) (by omega) hN) svX4_35 sh_1 (by decide) rfl rfl (Nat.le_of_ble_eq_true rfl) C dX4_restOfSeconds_7 ?_
  refine wp_callVp (rest := []) (c_restOf E h (sumB (h 3) lot (h 1 4).toNat) (by omega) (by omega)) svX4_31 sh_1 (by decide) rfl rfl (Nat.le_of_ble_eq_true rfl) C dX4_restOfSeconds_10 ?_
  refine wp_iret C dX4_restOfSeconds_13 ?_
  exact ret_iv (by first | rfl | omega)

def colP (f : Nat → Int) (lot c : Int) : Nat → Bool := fun i => decide (lot / 2 ^ i % 2 = 1) && decide (f i = c)
set_option maxRecDepth 100000 in
set_option maxHeartbeats 4000000 in
theorem c_hasColour (E : En) (h : Hp) (lot c : Int) (hlot : 0 ≤ lot ∧ lot ≤ 1048575) (hc : 0 ≤ c ∧ c ≤ 3) (hz : 0 ≤ h 1 4 ∧ h 1 4 ≤ 20) (hN : ∀ i : Nat, (i : Int) < h 1 4 → 0 ≤ h 4 i ∧ h 4 i ≤ 999999999999999) : Ct 0 yX4_hasColour cX4_hasColour 4 (some .boolean) E [rv E 1, iv lot, iv c] h (Ret (iv (bi (anyB (colP (h 4) lot c) (h 1 4).toNat = true))) h) := by
  refine ct_intro (by decide) (Nat.le_of_ble_eq_true rfl) (fun G C => ?_)
  show Wp G E 4 (Ret (iv (bi (anyB (colP (h 4) lot c) (h 1 4).toNat = true))) h) 0 [(0, rv E 1), (1, iv lot), (2, iv c)] [] h
  refine wp_iconst (v := 0) C dX4_hasColour_0 rfl ?_
  refine wp_istore_n (ls' := [(0, rv E 1), (1, iv lot), (2, iv c), (3, iv 0)]) [1, 2, 3, 0] C dX4_hasColour_1 rfl (by decide) rfl ?_
  have q20 : ∀ n9 : Nat, ∀ (x3 : Int), (0 ≤ x3 ∧ x3 ≤ h 1 4) → (∀ j, j < x3.toNat → colP (h 4) lot c j = false) → (h 1 4 - x3).toNat < n9 → Wp G E 4 (Ret (iv (bi (anyB (colP (h 4) lot c) (h 1 4).toNat = true))) h) 2 [(0, rv E 1), (1, iv lot), (2, iv c), (3, iv x3)] [] h := by
    intro n9
    induction n9 with
    | zero => intro x3 hi hs hm9; exact absurd hm9 (Nat.not_lt_zero _)
    | succ n9 ih9 =>
      intro x3 hi hs hm9
      have ih9_2 := ih9
      refine wp_iload_n 3 C dX4_hasColour_2 rfl rfl ?_
      refine wp_aloadR_n 0 C dX4_hasColour_3 rfl rfl ?_
      refine wp_getI flX4_24 sh_1 rfl C dX4_hasColour_4 ?_
      refine wp_icmp_ge (tgt := 39) (by omega) (by omega) C dX4_hasColour_7 (by decide) (fun c_7 => ?_) (fun c_7 => ?_)
      · skip
        refine wp_iconst (v := 0) C dX4_hasColour_39 rfl ?_
        refine wp_zret (by first | exact bi_01 | omega) C dX4_hasColour_40 ?_
        exact ret_b0 (fun z => by obtain ⟨i, h1, h2⟩ := anyB_iff.mp z; rw [hs i (by omega)] at h2; cases h2)
      · skip
        refine wp_iload_n 1 C dX4_hasColour_10 rfl rfl ?_
        refine wp_iload_n 3 C dX4_hasColour_11 rfl rfl ?_
        refine wp_ishr (by omega) (by omega) C dX4_hasColour_12 ?_
        refine wp_iconst (v := 1) C dX4_hasColour_13 rfl ?_
        refine wp_iand C dX4_hasColour_14 ?_
        refine wp_top (bAnd_1 _) ?_
        refine wp_iconst (v := 1) C dX4_hasColour_15 rfl ?_
        refine wp_icmp_ne (tgt := 33) (by omega) (by omega) C dX4_hasColour_16 (by decide) (fun c_16 => ?_) (fun c_16 => ?_)
        · skip
          obtain ⟨v1, e_v1⟩ : ∃ z : Int, z = x3 + (1) := ⟨_, rfl⟩
          refine wp_iinc (j := 3) (y := v1) (ls' := [(0, rv E 1), (1, iv lot), (2, iv c), (3, iv v1)]) [1, 2, 3, 0] C dX4_hasColour_33 rfl e_v1 (by decide) rfl ?_
          refine wp_goto (tgt := 2) C dX4_hasColour_36 (by decide) ?_
          exact ih9_2 v1 (by omega) (fun j hj => by rcases (show j < x3.toNat ∨ j = x3.toNat by omega) with q | rfl; exact hs j q; exact by simp [colP, show ¬ (lot / 2 ^ x3.toNat % 2 = 1) by omega]) (by omega)
        · skip
          have hx9 := hN x3.toNat (by omega)
          refine wp_aloadR_n 0 C dX4_hasColour_19 rfl rfl ?_
          refine wp_getR flX4_18 sh_1 rfl C dX4_hasColour_20 ?_
          refine wp_iload_n 3 C dX4_hasColour_23 rfl rfl ?_
          refine wp_lald sh_4 (by omega) C dX4_hasColour_24 ?_
          refine wp_iload_n 2 C dX4_hasColour_25 rfl rfl ?_
          refine wp_i2l (by omega) C dX4_hasColour_26 ?_
          refine wp_lcmp_ne (tgt := 33) (by omega) (by omega) C dX4_hasColour_27 dX4_hasColour_28 (by decide) (fun c_27 => ?_) (fun c_27 => ?_)
          · skip
            obtain ⟨v2, e_v2⟩ : ∃ z : Int, z = x3 + (1) := ⟨_, rfl⟩
            refine wp_iinc (j := 3) (y := v2) (ls' := [(0, rv E 1), (1, iv lot), (2, iv c), (3, iv v2)]) [1, 2, 3, 0] C dX4_hasColour_33 rfl e_v2 (by decide) rfl ?_
            refine wp_goto (tgt := 2) C dX4_hasColour_36 (by decide) ?_
            exact ih9_2 v2 (by omega) (fun j hj => by rcases (show j < x3.toNat ∨ j = x3.toNat by omega) with q | rfl; exact hs j q; exact by simp [colP, c_27]) (by omega)
          · skip
            refine wp_iconst (v := 1) C dX4_hasColour_31 rfl ?_
            refine wp_zret (by first | exact bi_01 | omega) C dX4_hasColour_32 ?_
            exact ret_b1 (anyB_iff.mpr ⟨x3.toNat, by omega, by simp [colP, show lot / 2 ^ x3.toNat % 2 = 1 by omega, show h 4 x3.toNat = c by omega]⟩)
  have q2 : ∀ (x3 : Int), (0 ≤ x3 ∧ x3 ≤ h 1 4) → (∀ j, j < x3.toNat → colP (h 4) lot c j = false) → Wp G E 4 (Ret (iv (bi (anyB (colP (h 4) lot c) (h 1 4).toNat = true))) h) 2 [(0, rv E 1), (1, iv lot), (2, iv c), (3, iv x3)] [] h := fun x3 hi hs => q20 _ x3 hi hs (Nat.lt_succ_self _)
  exact q2 0 (by omega) (fun j hj => absurd hj (by omega))

def insP (N : Nat → Int) (p lot due : Int) : Nat → Bool := fun i => decide (lot / 2 ^ i % 2 = 0) && decide (N i % p = due)
theorem mod_r (a : Int) {p : Int} (hp : 2 ≤ p ∧ p ≤ 10) : 0 ≤ a % p ∧ a % p < p := ⟨Int.emod_nonneg _ (by omega), Int.emod_lt_of_pos _ (by omega)⟩
set_option maxRecDepth 100000 in
set_option maxHeartbeats 4000000 in
theorem c_firstInstead (E : En) (h : Hp) (lot g mi : Int) (hlot : 0 ≤ lot ∧ lot ≤ 1048575) (hg : 0 ≤ g ∧ g < h 1 4) (hm : 0 ≤ mi ∧ mi ≤ 10) (hz : 0 ≤ h 1 4 ∧ h 1 4 ≤ 20) (hp : 2 ≤ h 1 5 ∧ h 1 5 ≤ 10) (hN : ∀ i : Nat, (i : Int) < h 1 4 → 0 ≤ h 2 i ∧ h 2 i ≤ 999999999999999) : Ct 3 yX4_firstInstead cX4_firstInstead 6 (some .int) E [rv E 1, iv lot, iv g, iv mi] h (Ret (iv (firstI (insP (h 2) (h 1 5) lot (trn (h 2 g.toNat % h 1 5 + mi) (h 1 5))) (h 1 4).toNat)) h) := by
  have hmg := mod_r (h 2 g.toNat) hp
  have htr : -10 ≤ trn (h 2 g.toNat % h 1 5 + mi) (h 1 5) ∧ trn (h 2 g.toNat % h 1 5 + mi) (h 1 5) ≤ 20 := by unfold trn; split <;> omega
  refine ct_intro (by decide) (Nat.le_of_ble_eq_true rfl) (fun G C => ?_)
  show Wp G E 6 (Ret (iv (firstI (insP (h 2) (h 1 5) lot (trn (h 2 g.toNat % h 1 5 + mi) (h 1 5))) (h 1 4).toNat)) h) 0 [(0, rv E 1), (1, iv lot), (2, iv g), (3, iv mi)] [] h
  refine wp_aloadR_n 0 C dX4_firstInstead_0 rfl rfl ?_
  refine wp_iload_n 2 C dX4_firstInstead_1 rfl rfl ?_
  refine wp_callVp (rest := []) (c_restOfNumber E h g (by omega) (hN _ (by omega)) (by omega)) svX4_39 sh_1 (by decide) rfl rfl (Nat.le_of_ble_eq_true rfl) C dX4_firstInstead_2 ?_
  refine wp_iload_n 3 C dX4_firstInstead_5 rfl rfl ?_
  refine wp_iadd C dX4_firstInstead_6 ?_
  refine wp_aloadR_n 0 C dX4_firstInstead_7 rfl rfl ?_
  refine wp_getI flX4_28 sh_1 rfl C dX4_firstInstead_8 ?_
  refine wp_callSNp (rest := []) (c_turned E h ((h 2 g.toNat % h 1 5) + mi) (h 1 5) (by omega) (by omega)) snX4_43 (by decide) rfl rfl (Nat.le_of_ble_eq_true rfl) C dX4_firstInstead_11 ?_
  refine wp_nm (fun v1 e_v1 => ?_)
  refine wp_istore (ls' := [(0, rv E 1), (1, iv lot), (2, iv g), (3, iv mi), (4, iv v1)]) [1, 2, 3, 4, 0] C dX4_firstInstead_14 (by decide) rfl ?_
  have due9 := e_v1
  refine wp_iconst (v := 0) C dX4_firstInstead_16 rfl ?_
  refine wp_istore (ls' := [(0, rv E 1), (1, iv lot), (2, iv g), (3, iv mi), (4, iv v1), (5, iv 0)]) [1, 2, 3, 4, 5, 0] C dX4_firstInstead_17 (by decide) rfl ?_
  have q190 : ∀ n9 : Nat, ∀ (x5 : Int), (0 ≤ x5 ∧ x5 ≤ h 1 4) → (∀ j, j < x5.toNat → insP (h 2) (h 1 5) lot (trn (h 2 g.toNat % h 1 5 + mi) (h 1 5)) j = false) → (h 1 4 - x5).toNat < n9 → Wp G E 6 (Ret (iv (firstI (insP (h 2) (h 1 5) lot (trn (h 2 g.toNat % h 1 5 + mi) (h 1 5))) (h 1 4).toNat)) h) 19 [(0, rv E 1), (1, iv lot), (2, iv g), (3, iv mi), (4, iv v1), (5, iv x5)] [] h := by
    intro n9
    induction n9 with
    | zero => intro x5 hi hs hm9; exact absurd hm9 (Nat.not_lt_zero _)
    | succ n9 ih9 =>
      intro x5 hi hs hm9
      have ih9_19 := ih9
      refine wp_iload 5 C dX4_firstInstead_19 rfl ?_
      refine wp_aloadR_n 0 C dX4_firstInstead_21 rfl rfl ?_
      refine wp_getI flX4_24 sh_1 rfl C dX4_firstInstead_22 ?_
      refine wp_icmp_ge (tgt := 57) (by omega) (by omega) C dX4_firstInstead_25 (by decide) (fun c_25 => ?_) (fun c_25 => ?_)
      · skip
        refine wp_iconst (v := (-1)) C dX4_firstInstead_57 rfl ?_
        refine wp_iret C dX4_firstInstead_58 ?_
        exact ret_iv (by rw [firstI_none (fun j hj => hs j (by omega))])
      · skip
        refine wp_iload_n 1 C dX4_firstInstead_28 rfl rfl ?_
        refine wp_iload 5 C dX4_firstInstead_29 rfl ?_
        refine wp_ishr (by omega) (by omega) C dX4_firstInstead_31 ?_
        refine wp_iconst (v := 1) C dX4_firstInstead_32 rfl ?_
        refine wp_iand C dX4_firstInstead_33 ?_
        refine wp_top (bAnd_1 _) ?_
        refine wp_if_ne (tgt := 51) (by omega) C dX4_firstInstead_34 (by decide) (fun c_34 => ?_) (fun c_34 => ?_)
        · skip
          obtain ⟨v2, e_v2⟩ : ∃ z : Int, z = x5 + (1) := ⟨_, rfl⟩
          refine wp_iinc (j := 5) (y := v2) (ls' := [(0, rv E 1), (1, iv lot), (2, iv g), (3, iv mi), (4, iv v1), (5, iv v2)]) [1, 2, 3, 4, 5, 0] C dX4_firstInstead_51 rfl e_v2 (by decide) rfl ?_
          refine wp_goto (tgt := 19) C dX4_firstInstead_54 (by decide) ?_
          exact ih9_19 v2 (by omega) (fun j hj => by rcases (show j < x5.toNat ∨ j = x5.toNat by omega) with q | rfl; exact hs j q; exact by simp [insP, show ¬ (lot / 2 ^ x5.toNat % 2 = 0) by omega]) (by omega)
        · skip
          refine wp_aloadR_n 0 C dX4_firstInstead_37 rfl rfl ?_
          refine wp_iload 5 C dX4_firstInstead_38 rfl ?_
          refine wp_callVp (rest := []) (c_restOfNumber E h x5 (by omega) (hN _ (by omega)) (by omega)) svX4_39 sh_1 (by decide) rfl rfl (Nat.le_of_ble_eq_true rfl) C dX4_firstInstead_40 ?_
          have hmx := mod_r (h 2 x5.toNat) hp
          refine wp_iload 4 C dX4_firstInstead_43 rfl ?_
          refine wp_icmp_ne (tgt := 51) (by omega) (by omega) C dX4_firstInstead_45 (by decide) (fun c_45 => ?_) (fun c_45 => ?_)
          · skip
            obtain ⟨v3, e_v3⟩ : ∃ z : Int, z = x5 + (1) := ⟨_, rfl⟩
            refine wp_iinc (j := 5) (y := v3) (ls' := [(0, rv E 1), (1, iv lot), (2, iv g), (3, iv mi), (4, iv v1), (5, iv v3)]) [1, 2, 3, 4, 5, 0] C dX4_firstInstead_51 rfl e_v3 (by decide) rfl ?_
            refine wp_goto (tgt := 19) C dX4_firstInstead_54 (by decide) ?_
            exact ih9_19 v3 (by omega) (fun j hj => by rcases (show j < x5.toNat ∨ j = x5.toNat by omega) with q | rfl; exact hs j q; exact by simp [insP, ← due9, c_45]) (by omega)
          · skip
            refine wp_iload 5 C dX4_firstInstead_48 rfl ?_
            refine wp_iret C dX4_firstInstead_50 ?_
            exact ret_iv (by rw [firstI_some (i := x5.toNat) (by omega) (by simp [insP, ← due9, show lot / 2 ^ x5.toNat % 2 = 0 by omega]; omega) hs]; omega)
  have q19 : ∀ (x5 : Int), (0 ≤ x5 ∧ x5 ≤ h 1 4) → (∀ j, j < x5.toNat → insP (h 2) (h 1 5) lot (trn (h 2 g.toNat % h 1 5 + mi) (h 1 5)) j = false) → Wp G E 6 (Ret (iv (firstI (insP (h 2) (h 1 5) lot (trn (h 2 g.toNat % h 1 5 + mi) (h 1 5))) (h 1 4).toNat)) h) 19 [(0, rv E 1), (1, iv lot), (2, iv g), (3, iv mi), (4, iv v1), (5, iv x5)] [] h := fun x5 hi hs => q190 _ x5 hi hs (Nat.lt_succ_self _)
  exact q19 0 (by omega) (fun j hj => absurd hj (by omega))


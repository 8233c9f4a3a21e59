/-! ===== the law's own steps ===== -/
def sx (xs : Nat → Int32) (k : Nat) : Int := (xs k).toInt
theorem sx_r (xs : Nat → Int32) (k : Nat) : -2147483648 ≤ sx xs k ∧ sx xs k ≤ 2147483647 := by
  have h1 := Int32.le_toInt (xs k)
  have h2 := Int32.toInt_lt (xs k)
  unfold sx
  omega
theorem sx_v (xs : Nat → Int32) (k : Nat) : Value.int (xs k) = iv (sx xs k) := by
  unfold iv sx
  rw [Int32.ofInt_toInt]
theorem lOr_r (a b : Int) : -9223372036854775808 ≤ lOr a b ∧ lOr a b ≤ 9223372036854775807 := by
  unfold lOr
  have h1 := Int64.le_toInt (Int64.ofInt a ||| Int64.ofInt b)
  have h2 := Int64.toInt_lt (Int64.ofInt a ||| Int64.ofInt b)
  omega
def postL : Option Value → Hp → Prop := fun v _ => v = some (iv 1)
def lsL (E : En) (b i : Nat) : List (Nat × Value) := [(0, .ref b), (1, rv E 0), (2, rv E 128), (3, iv (i : Int))]
/-- the law's frame, and its script -/
def Lw (G : Gx) (E : En) (b L : Nat) (xs : Nat → Int32) : Prop := Cx G E cL_law 4 RL (some .boolean) 1000 ∧ va_X b L xs G.2.2.2.2.1 G.2.2.2.2.1.heap ∧ b < G.2.2.2.2.1.heap.size ∧ ¬ Ax E b ∧ L ≤ 320
section LAW
variable {G : Gx} {E : En} {b L : Nat} {xs : Nat → Int32} {i : Nat} {st : List Value} {h : Hp} {pc : Nat}
theorem wp_sld {ls : List (Nat × Value)} {a : Int} {k : Nat} (ha : a = (k : Int)) (hk : k < L) (K : Lw G E b L xs) (hd : decode cL_law pc = .ok (.iaload, 1)) (kk : Wp G E 4 postL (pc + 1) ls (iv (sx xs k) :: st) h) : Wp G E 4 postL pc ls (iv a :: .ref b :: st) h := by
  intro H locs la hP hS hl
  have hL := K.2.2.2.2
  have q := kk H locs la hP hS hl
  have e : (Int32.ofInt a).toNatClampNeg = k := by rw [i_cl (by omega), ha]; rfl
  refine va_sld K.1.1 K.1.2.1 K.2.1 K.2.2.1 K.2.2.2.1 hS (i_in (by omega) (by omega)) hd ?_
  rw [e, sx_v]
  exact q
theorem wp_slen {ls : List (Nat × Value)} (K : Lw G E b L xs) (hd : decode cL_law pc = .ok (.arraylength, 1)) (kk : Wp G E 4 postL (pc + 1) ls (iv (L : Int) :: st) h) : Wp G E 4 postL pc ls (.ref b :: st) h := by
  intro H locs la hP hS hl
  have q := kk H locs la hP hS hl
  refine va_slen K.1.1 K.1.2.1 K.2.1 K.2.2.1 K.2.2.2.1 hS hd ?_
  rw [show Value.int (Int32.ofNat L) = iv (L : Int) by unfold iv; rw [Int32.ofInt_eq_ofNat]]
  exact q
theorem wp_arg {j : Int} {k : Nat} (hj : j = (k : Int)) (hk : i + k < L) (K : Lw G E b L xs) (d0 : decode cL_law pc = .ok (.aload_n 0, 1)) (d1 : decode cL_law (pc + 1) = .ok (.iload_n 3, 1)) (d2 : decode cL_law (pc + 2) = .ok (.iconst j, 1)) (d3 : decode cL_law (pc + 3) = .ok (.iadd, 1)) (d4 : decode cL_law (pc + 4) = .ok (.iaload, 1)) (kk : Wp G E 4 postL (pc + 5) (lsL E b i) (iv (sx xs (i + k)) :: st) h) : Wp G E 4 postL pc (lsL E b i) st h := by
  refine wp_aload_n 0 K.1 d0 rfl rfl ?_
  refine wp_iload_n 3 K.1 d1 rfl rfl ?_
  refine wp_iconst (v := j) K.1 d2 rfl ?_
  refine wp_iadd K.1 d3 ?_
  exact wp_sld (k := i + k) (by omega) hk K d4 kk
theorem wp_same {ls : List (Nat × Value)} {a c off : Int} {tgt : Nat} (hac : a = c) (K : Lw G E b L xs) (hd : decode cL_law pc = .ok (.if_icmp .eq off, 3)) (ht : (pc : Int) + off = (tgt : Int)) (k : Wp G E 4 postL tgt ls st h) : Wp G E 4 postL pc ls (iv c :: iv a :: st) h := by
  intro H locs la hP hS hl
  subst hac
  exact lv_icmp_eq K.1.1 K.1.2.1 hd ht (fun _ => k H locs la hP hS hl) (fun z => absurd rfl z)
theorem wp_samel {ls : List (Nat × Value)} {a c off : Int} {tgt : Nat} (hac : a = c) (K : Lw G E b L xs) (hd : decode cL_law pc = .ok (.lcmp, 1)) (hd2 : decode cL_law (pc + 1) = .ok (.ifCond .eq off, 3)) (ht : ((pc + 1 : Nat) : Int) + off = (tgt : Int)) (k : Wp G E 4 postL tgt ls st h) : Wp G E 4 postL pc ls (jv c :: jv a :: st) h := by
  intro H locs la hP hS hl
  subst hac
  refine W.lcmp K.1.1 K.1.2.1 hd ?_
  have e : lg_cmp (Int64.ofInt a) (Int64.ofInt a) = 0 := by unfold lg_cmp; simp
  rw [e]
  exact lv_if_eq K.1.1 K.1.2.1 hd2 ht (fun _ => k H locs la hP hS hl) (fun z => absurd rfl z)
end LAW
section TIES
variable {h : Hp}
theorem er_e (I : Inv h) : h 6 1 = upd2 h 6 1 0 128 6 := by rw [u_o (by omega), I.t2]
theorem bu_e (I : Inv h) : h 21 1 = upd2 h 21 1 0 131 2 := by rw [u_o (by omega), I.b2]
def wrG (h : Hp) (b n : Int) : Hp := if ¬ (1 ≤ n ∧ n ≤ 8) then h else if h 6 1 + n ≤ 200 then putH h b n else h
theorem wrG_l (I : Inv h) {b n : Int} : wrG h b n 128 6 = h 6 1 := by
  unfold wrG
  split
  · exact I.t2
  · split
    · unfold putH
      rw [u_o (by omega), wr_o (by omega)]
      exact I.t2
    · exact I.t2
theorem wr_t (I : Inv h) {b n : Int} : 0 ≤ wrG h b n 128 6 ∧ wrG h b n 128 6 ≤ 200 := by rw [wrG_l I]; exact I.t
theorem write_e (I : Inv h) {b n : Int} : (if ¬ (1 ≤ n ∧ n ≤ 8) then -3 else if h 6 1 + n ≤ 200 then h 6 1 + n else -5) = (if ¬ (1 ≤ n ∧ n ≤ 8) then -3 else if wrG h b n 128 6 + n ≤ 200 then wrG h b n 128 6 + n else -5) := by rw [wrG_l I]
theorem write_i (I : Inv h) {b n : Int} : Inv (if ¬ (1 ≤ n ∧ n ≤ 8) then wrG h b n else if wrG h b n 128 6 + n ≤ 200 then upd2 (wrH (wrG h b n) 134 (wrG h b n 128 6) b n) 128 6 (wrG h b n 128 6 + n) else wrG h b n) := by
  rw [wrG_l I]
  by_cases c1 : 1 ≤ n ∧ n ≤ 8
  · rw [if_neg (not_not_intro c1)]
    by_cases c2 : h 6 1 + n ≤ 200
    · rw [if_pos c2, show wrG h b n = putH h b n by unfold wrG; rw [if_neg (not_not_intro c1), if_pos c2]]
      exact I.write c1 c2
    · rw [if_neg c2, show wrG h b n = h by unfold wrG; rw [if_neg (not_not_intro c1), if_neg c2]]
      exact I
  · rw [if_pos c1, show wrG h b n = h by unfold wrG; rw [if_pos c1]]
    exact I
def saG (h : Hp) (a : Int) : Hp := if ¬ (0 ≤ a ∧ a < 2 ^ (h 1 4).toNat) then h else if h 21 1 < 12 then enterH h a else h
theorem saG_o {a : Int} (x c : Nat) (h1 : ¬ (x = 21)) (h2 : ¬ (x = 22)) : saG h a x c = h x c := by
  unfold saG
  split
  · rfl
  · split
    · unfold enterH
      rw [u_o (by omega), u_o (by omega)]
    · rfl
theorem sa_M (I : Inv h) {a : Int} : MH (saG h a) (h 1 4).toNat (h 1 5) (h 2) (h 3) (h 4) (h 5) := I.M.of (fun c => ⟨saG_o 129 c (by omega) (by omega), saG_o 130 c (by omega) (by omega), saG_o 131 c (by omega) (by omega)⟩)
theorem saG_2 (I : Inv h) {a : Int} : saG h a 131 2 = h 21 1 := by rw [saG_o 131 2 (by omega) (by omega)]; exact I.b2
theorem sa_b (I : Inv h) {a : Int} : 0 ≤ saG h a 131 2 ∧ saG h a 131 2 ≤ 12 := by rw [saG_2 I]; exact I.b
theorem sale_e (I : Inv h) {a : Int} : (if ¬ (0 ≤ a ∧ a < 2 ^ (h 1 4).toNat) then -2 else if h 21 1 < 12 then h 21 1 + 1 else -5) = (if ¬ (0 ≤ a ∧ a < 2 ^ (h 1 4).toNat) then -2 else if saG h a 131 2 < 12 then saG h a 131 2 + 1 else -5) := by rw [saG_2 I]
theorem sale_i (I : Inv h) {a : Int} : Inv (if ¬ (0 ≤ a ∧ a < 2 ^ (h 1 4).toNat) then saG h a else if saG h a 131 2 < 12 then menterH (saG h a) a else saG h a) := by
  rw [saG_2 I]
  by_cases c1 : 0 ≤ a ∧ a < 2 ^ (h 1 4).toNat
  · rw [if_neg (not_not_intro c1)]
    by_cases c2 : h 21 1 < 12
    · rw [if_pos c2, show saG h a = enterH h a by unfold saG; rw [if_neg (not_not_intro c1), if_pos c2]]
      refine I.sale ⟨c1.1, ?_⟩ c2
      have h1 : (2 : Int) ^ (h 1 4).toNat ≤ 2 ^ 20 := by
        have := Nat.pow_le_pow_right (show 0 < 2 by decide) I.1.2.1.1
        have e : ((2 ^ (h 1 4).toNat : Nat) : Int) ≤ ((2 ^ 20 : Nat) : Int) := Int.ofNat_le.mpr this
        rw [Int.natCast_pow, Int.natCast_pow] at e
        exact e
      have h2 : (2 : Int) ^ 20 = 1048576 := by decide
      omega
    · rw [if_neg c2, show saG h a = h by unfold saG; rw [if_neg (not_not_intro c1), if_neg c2]]
      exact I
  · rw [if_pos c1, show saG h a = h by unfold saG; rw [if_pos c1]]
    exact I
def keG (h : Hp) (k : Int) : Hp := if ¬ (0 ≤ k ∧ k ≤ 1) then h else saveH h k
theorem keep_e (I : Inv h) {k : Int} : (if ¬ (0 ≤ k ∧ k ≤ 1) then -2 else h 1 4) = (if ¬ (0 ≤ k ∧ k ≤ 1) then -2 else keG h k 131 0) := by
  by_cases c1 : 0 ≤ k ∧ k ≤ 1
  · rw [if_neg (not_not_intro c1), if_neg (not_not_intro c1)]
    unfold keG
    rw [if_neg (not_not_intro c1)]
    unfold saveH
    rw [u_o (by omega), cp_o (by omega)]
    exact I.m0.symm
  · rw [if_pos c1, if_pos c1]
theorem keep_i (I : Inv h) {k : Int} : Inv (if ¬ (0 ≤ k ∧ k ≤ 1) then keG h k else upd2 (copyH (keG h k) 0 (1 + k)) 133 k.toNat 1) := by
  by_cases c1 : 0 ≤ k ∧ k ≤ 1
  · rw [if_neg (not_not_intro c1), show keG h k = saveH h k by unfold keG; rw [if_neg (not_not_intro c1)]]
    have e : k = (k.toNat : Int) := by omega
    have q := I.keepn k.toNat (by omega)
    rw [← e] at q
    exact q
  · rw [if_pos c1, show keG h k = h by unfold keG; rw [if_pos c1]]
    exact I
def baG (h : Hp) (k : Int) : Hp := if ¬ (0 ≤ k ∧ k ≤ 1) then h else if h 26 k.toNat ≠ -1 then restoreH h k else h
theorem baG_o {k : Int} (x c : Nat) (h1 : ¬ (x = 21)) (h2 : ¬ (x = 22)) : baG h k x c = h x c := by
  unfold baG
  split
  · rfl
  · split
    · unfold restoreH
      rw [cp_o (by omega), u_o (by omega)]
    · rfl
theorem ba_k (I : Inv h) {k : Int} (j : Nat) (hj : j < 2) : baG h k 133 j = 0 ∨ baG h k 133 j = 1 := by
  rw [baG_o 133 j (by omega) (by omega)]
  exact I.k133 j hj
theorem ba_q (I : Inv h) (k : Nat) (hk : k < 2) : (h 26 k = -1 ∧ h 133 k = 0) ∨ Kq h k (24 + k) := by
  rcases (show k = 0 ∨ k = 1 by omega) with rfl | rfl
  · exact I.2.2.2.1
  · exact I.2.2.2.2.1
theorem back_e (I : Inv h) {k : Int} : (if ¬ (0 ≤ k ∧ k ≤ 1) then -2 else if h 26 k.toNat ≠ -1 then h 1 4 else -4) = (if ¬ (0 ≤ k ∧ k ≤ 1) then -2 else if baG h k 133 k.toNat ≠ 0 then baG h k 131 (3 * (1 + k)).toNat else -4) := by
  rw [baG_o 133 _ (by omega) (by omega), baG_o 131 _ (by omega) (by omega)]
  by_cases c1 : 0 ≤ k ∧ k ≤ 1
  · rw [if_neg (not_not_intro c1), if_neg (not_not_intro c1)]
    rcases ba_q I k.toNat (by omega) with ⟨z1, z2⟩ | z
    · rw [if_neg (not_not_intro z1), if_neg (not_not_intro z2)]
    · rw [if_pos (show h 26 k.toNat ≠ -1 by have := z.2.1; omega), if_pos (show h 133 k.toNat ≠ 0 by have := z.1; omega), show (3 * (1 + k)).toNat = 3 + 3 * k.toNat by omega, z.2.2.2.2.1]
      exact I.m0.symm
  · rw [if_pos c1, if_pos c1]
theorem back_i (I : Inv h) {k : Int} : Inv (if ¬ (0 ≤ k ∧ k ≤ 1) then baG h k else if baG h k 133 k.toNat ≠ 0 then copyH (baG h k) (1 + k) 0 else baG h k) := by
  rw [baG_o 133 _ (by omega) (by omega)]
  by_cases c1 : 0 ≤ k ∧ k ≤ 1
  · rw [if_neg (not_not_intro c1)]
    rcases ba_q I k.toNat (by omega) with ⟨z1, z2⟩ | z
    · rw [if_neg (not_not_intro z2), show baG h k = h by unfold baG; rw [if_neg (not_not_intro c1), if_neg (not_not_intro z1)]]
      exact I
    · have z26 : h 26 k.toNat ≠ -1 := by have := z.2.1; omega
      rw [if_pos (show h 133 k.toNat ≠ 0 by have := z.1; omega), show baG h k = restoreH h k by unfold baG; rw [if_neg (not_not_intro c1), if_pos z26]]
      have e : k = (k.toNat : Int) := by omega
      have q := I.backn k.toNat (by omega) z
      rw [← e] at q
      exact q
  · rw [if_pos c1, show baG h k = h by unfold baG; rw [if_pos c1]]
    exact I
theorem mkQ_f {h1 : Hp} {v : Option Value} (q : mkQ (h 7) (h 6 1).toNat (AH h) h h1 v) (a c : Nat) (ha : 128 ≤ a) : h1 a c = h a c := by
  obtain ⟨J, j1, j2⟩ := q
  rcases j2 with ⟨-, -, f⟩ | ⟨-, -, -, -, -, -, -, f⟩
  · exact f a c (by omega) (by omega) (by omega)
  · exact f a c (by omega) (by omega) (by omega) (by omega) (by omega) (by omega) (by omega)
theorem mkQ_TM {h1 : Hp} {v : Option Value} (I : Inv h) (q : mkQ (h 7) (h 6 1).toNat (AH h) h h1 v) : TM h1 (h 7) (h 6 1).toNat := I.TM.of (mkQ_f q 128 6 (by omega)) (fun c => mkQ_f q 134 c (by omega))
theorem mkQ_mH {h1 : Hp} {v : Option Value} (I : Inv h) (q : mkQ (h 7) (h 6 1).toNat (AH h) h h1 v) : mH h1 (AH h) := by
  obtain ⟨m1, m2, m3⟩ := I.1.2.2
  refine ⟨by rw [mkQ_f q 131 0 (by omega)]; exact m1, by rw [mkQ_f q 131 1 (by omega)]; exact m2, fun i hi => ?_⟩
  rw [mkQ_f q 129 _ (by omega), mkQ_f q 130 _ (by omega), mkQ_f q 130 _ (by omega), mkQ_f q 130 _ (by omega)]
  exact m3 i hi
theorem mkQ_v {tx : Nat → Int} {L : Nat} {A : HA} {h1 : Hp} {v : Option Value} (q : mkQ tx L A h h1 v) : ∃ z, v = some (iv z) := by
  obtain ⟨J, j1, j2⟩ := q
  rcases j2 with ⟨-, e, -⟩ | ⟨-, e, -⟩
  · exact ⟨_, e⟩
  · exact ⟨_, e⟩
end TIES

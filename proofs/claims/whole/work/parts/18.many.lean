/-! ===== judge; many ===== -/
def soldO (L : Nat → Int) : Nat → Int
  | 0 => 0
  | r + 1 => bOr (soldO L r) (L r)
def judP (fit : Int → Bool) (L : Nat → Int) : Nat → Bool := fun r => !(fit (L r)) || decide (bAnd (L r) (soldO L r) ≠ 0)
set_option maxRecDepth 100000 in
set_option maxHeartbeats 4000000 in
theorem x_judge (E : En) (h : Hp) (k : Int) (hk : -2147483648 ≤ k ∧ k ≤ 2147483647) (hz : 0 ≤ h 1 4 ∧ h 1 4 ≤ 20) (hp : 2 ≤ h 1 5 ∧ h 1 5 ≤ 10) (hN : ∀ i : Nat, (i : Int) < h 1 4 → 0 ≤ h 2 i ∧ h 2 i ≤ 999999999999999) (hS : ∀ i : Nat, (i : Int) < h 1 4 → 0 ≤ h 3 i ∧ h 3 i ≤ 999999999999999) (hC : ∀ i : Nat, (i : Int) < h 1 4 → 0 ≤ h 4 i ∧ h 4 i ≤ 999999999999999) (hb : 0 ≤ h 21 1 ∧ h 21 1 ≤ 12) (hL : ∀ j : Nat, (j : Int) < h 21 1 → 0 ≤ h 22 j ∧ h 22 j ≤ 1048575) : Ct 4 yX11_judge cX11_judge 5 (some .int) E [rv E 0, iv k] h (Ret (iv (if ¬ (1 ≤ k ∧ k ≤ 20) then -3 else firstI (judP (fun l => fitB (h 2) (h 3) (h 4) (h 1 5) (h 1 4).toNat 0 l k) (h 22)) (h 21 1).toNat)) h) := by
  refine ct_intro (by decide) (Nat.le_of_ble_eq_true rfl) (fun G C => ?_)
  show Wp G E 5 (Ret (iv (if ¬ (1 ≤ k ∧ k ≤ 20) then -3 else firstI (judP (fun l => fitB (h 2) (h 3) (h 4) (h 1 5) (h 1 4).toNat 0 l k) (h 22)) (h 21 1).toNat)) h) 0 [(0, rv E 0), (1, iv k)] [] h
  refine wp_iload_n 1 C dX11_judge_0 rfl rfl ?_
  refine wp_callSp (rest := []) (c_isSize E h k (by omega)) ssX11_167 (by decide) rfl rfl (Nat.le_of_ble_eq_true rfl) C dX11_judge_1 ?_
  refine wp_ifb_ne (tgt := 10) C dX11_judge_4 (by decide) (fun c_4 => ?_) (fun c_4 => ?_)
  · skip
    refine wp_iconst (v := 0) C dX11_judge_10 rfl ?_
    refine wp_istore_n (ls' := [(0, rv E 0), (1, iv k), (2, iv 0)]) [1, 2, 0] C dX11_judge_11 rfl (by decide) rfl ?_
    refine wp_iconst (v := 0) C dX11_judge_12 rfl ?_
    refine wp_istore_n (ls' := [(0, rv E 0), (1, iv k), (2, iv 0), (3, iv 0)]) [1, 2, 3, 0] C dX11_judge_13 rfl (by decide) rfl ?_
    have q140 : ∀ n9 : Nat, ∀ (x2 : Int) (x3 : Int), (0 ≤ x3 ∧ x3 ≤ h 21 1) → (x2 = soldO (h 22) x3.toNat) → (∀ j, j < x3.toNat → judP (fun l => fitB (h 2) (h 3) (h 4) (h 1 5) (h 1 4).toNat 0 l k) (h 22) j = false) → (h 21 1 - x3).toNat < n9 → Wp G E 5 (Ret (iv (if ¬ (1 ≤ k ∧ k ≤ 20) then -3 else firstI (judP (fun l => fitB (h 2) (h 3) (h 4) (h 1 5) (h 1 4).toNat 0 l k) (h 22)) (h 21 1).toNat)) h) 14 [(0, rv E 0), (1, iv k), (2, iv x2), (3, iv x3)] [] h := by
      intro n9
      induction n9 with
      | zero => intro x2 x3 hi ho hs hm9; exact absurd hm9 (Nat.not_lt_zero _)
      | succ n9 ih9 =>
        intro x2 x3 hi ho hs hm9
        have ih9_14 := ih9
        refine wp_iload_n 3 C dX11_judge_14 rfl rfl ?_
        refine wp_aloadR_n 0 C dX11_judge_15 rfl rfl ?_
        refine wp_getR flX11_35 sh_0 rfl C dX11_judge_16 ?_
        refine wp_getI flX11_237 sh_21 rfl C dX11_judge_19 ?_
        refine wp_icmp_ge (tgt := 70) (by omega) (by omega) C dX11_judge_22 (by decide) (fun c_22 => ?_) (fun c_22 => ?_)
        · skip
          refine wp_iconst (v := (-1)) C dX11_judge_70 rfl ?_
          refine wp_iret C dX11_judge_71 ?_
          exact ret_iv (by rw [if_neg (not_not_intro c_4), firstI_none (fun j hj => hs j (by omega))])
        · skip
          have hL9 := hL x3.toNat (by omega)
          refine wp_aloadR_n 0 C dX11_judge_25 rfl rfl ?_
          refine wp_getR flX11_35 sh_0 rfl C dX11_judge_26 ?_
          refine wp_getR flX11_238 sh_21 rfl C dX11_judge_29 ?_
          refine wp_iload_n 3 C dX11_judge_32 rfl rfl ?_
          refine wp_iald sh_22 (by omega) C dX11_judge_33 ?_
          refine wp_istore (ls' := [(0, rv E 0), (1, iv k), (2, iv x2), (3, iv x3), (4, iv (h 22 x3.toNat))]) [1, 2, 3, 4, 0] C dX11_judge_34 (by decide) rfl ?_
          refine wp_aloadR_n 0 C dX11_judge_36 rfl rfl ?_
          refine wp_getR flX11_44 sh_0 rfl C dX11_judge_37 ?_
          refine wp_iconst (v := 0) C dX11_judge_40 rfl ?_
          refine wp_iload 4 C dX11_judge_41 rfl ?_
          refine wp_iload_n 1 C dX11_judge_43 rfl rfl ?_
          refine wp_callVp (rest := []) (c_fits E h 0 (h 22 x3.toNat) k (by omega) (by omega) (by omega) (by omega) (by omega) hN hS hC) svX11_173 sh_28 (by decide) rfl rfl (Nat.le_of_ble_eq_true rfl) C dX11_judge_44 ?_
          refine wp_ifb_eq (tgt := 57) C dX11_judge_47 (by decide) (fun c_47 => ?_) (fun c_47 => ?_)
          · skip
            refine wp_iload_n 3 C dX11_judge_57 rfl rfl ?_
            refine wp_iret C dX11_judge_58 ?_
            exact ret_iv (by rw [if_neg (not_not_intro c_4), firstI_some (i := x3.toNat) (by omega) (by simp [judP, c_47]) hs]; omega)
          · skip
            refine wp_iload 4 C dX11_judge_50 rfl ?_
            refine wp_iload_n 2 C dX11_judge_52 rfl rfl ?_
            refine wp_iand C dX11_judge_53 ?_
            have hr9 := bAnd_r (h 22 x3.toNat) x2
            refine wp_if_eq (tgt := 59) (by omega) C dX11_judge_54 (by decide) (fun c_54 => ?_) (fun c_54 => ?_)
            · skip
              refine wp_iload_n 2 C dX11_judge_59 rfl rfl ?_
              refine wp_iload 4 C dX11_judge_60 rfl ?_
              refine wp_ior C dX11_judge_62 ?_
              refine wp_istore_n (ls' := [(0, rv E 0), (1, iv k), (2, iv (bOr x2 (h 22 x3.toNat))), (3, iv x3), (4, iv (h 22 x3.toNat))]) [1, 2, 0, 3, 4] C dX11_judge_63 rfl (by decide) rfl ?_
              obtain ⟨v1, e_v1⟩ : ∃ z : Int, z = x3 + (1) := ⟨_, rfl⟩
              refine wp_iinc (j := 3) (y := v1) (ls' := [(0, rv E 0), (1, iv k), (2, iv (bOr x2 (h 22 x3.toNat))), (3, iv v1), (4, iv (h 22 x3.toNat))]) [1, 2, 3, 0, 4] C dX11_judge_64 rfl e_v1 (by decide) rfl ?_
              refine wp_goto (tgt := 14) C dX11_judge_67 (by decide) ?_
              refine wp_loc [0, 1, 2, 3] rfl ?_
              exact ih9_14 (bOr x2 (h 22 x3.toNat)) v1 (by omega) (by rw [ho, e_v1, show (x3 + 1).toNat = x3.toNat + 1 by omega]; rfl) (fun j hj => by rcases (show j < x3.toNat ∨ j = x3.toNat by omega) with q | rfl; exact hs j q; simp [judP, c_47, ← ho, c_54]) (by omega)
            · skip
              refine wp_iload_n 3 C dX11_judge_57 rfl rfl ?_
              refine wp_iret C dX11_judge_58 ?_
              exact ret_iv (by rw [if_neg (not_not_intro c_4), firstI_some (i := x3.toNat) (by omega) (by simp [judP, ← ho, c_54]) hs]; omega)
    have q14 : ∀ (x2 : Int) (x3 : Int), (0 ≤ x3 ∧ x3 ≤ h 21 1) → (x2 = soldO (h 22) x3.toNat) → (∀ j, j < x3.toNat → judP (fun l => fitB (h 2) (h 3) (h 4) (h 1 5) (h 1 4).toNat 0 l k) (h 22) j = false) → Wp G E 5 (Ret (iv (if ¬ (1 ≤ k ∧ k ≤ 20) then -3 else firstI (judP (fun l => fitB (h 2) (h 3) (h 4) (h 1 5) (h 1 4).toNat 0 l k) (h 22)) (h 21 1).toNat)) h) 14 [(0, rv E 0), (1, iv k), (2, iv x2), (3, iv x3)] [] h := fun x2 x3 hi ho hs => q140 _ x2 x3 hi ho hs (Nat.lt_succ_self _)
    exact q14 0 0 (by omega) (rfl) (fun j hj => absurd hj (by omega))
  · skip
    refine wp_bipush (v := (-3)) C dX11_judge_7 rfl ?_
    refine wp_iret C dX11_judge_9 ?_
    exact ret_iv (by rw [if_pos c_4])

/-- a rest less another -/
def sbm (r x p : Int) : Int := if x ≤ r then r - x else r - x + p
theorem sbm_r {r x p : Int} (hr : 0 ≤ r ∧ r < p) (hx : 0 ≤ x ∧ x < p) : 0 ≤ sbm r x p ∧ sbm r x p < p := by unfold sbm; split <;> omega
theorem sbm_comm {r x y p : Int} (hr : 0 ≤ r ∧ r < p) (hx : 0 ≤ x ∧ x < p) (hy : 0 ≤ y ∧ y < p) : sbm (sbm r x p) y p = sbm (sbm r y p) x p := by
  unfold sbm; split <;> split <;> split <;> (try split) <;> omega
theorem sbm_trn {r x w p : Int} (hr : 0 ≤ r ∧ r < p) (hx : 0 ≤ x ∧ x < p) (hw : 0 ≤ w ∧ w < p) : sbm w x p = r ↔ w = trn (r + x) p := by
  unfold sbm trn; split <;> split <;> omega
theorem trn_r {r x p : Int} (hr : 0 ≤ r ∧ r < p) (hx : 0 ≤ x ∧ x < p) : 0 ≤ trn (r + x) p ∧ trn (r + x) p < p := by unfold trn; split <;> omega
/-- how many of these rests, c of them, together have a rest -/
def cl (p : Int) : List Int → Nat → Int → Int
  | [], c, r => if c = 0 ∧ r = 0 then 1 else 0
  | x :: xs, c, r => cl p xs c r + (if c = 0 then 0 else cl p xs (c - 1) (sbm r x p))
theorem cl_long {p : Int} : ∀ (xs : List Int) (c : Nat) (r : Int), xs.length < c → cl p xs c r = 0
  | [], c, r, h => by simp [cl]; intro e; simp at h; omega
  | x :: xs, c, r, h => by
    simp only [List.length_cons] at h
    unfold cl
    rw [cl_long xs c r (by omega), if_neg (by omega), cl_long xs (c - 1) _ (by omega)]
    rfl
theorem cl_snoc {p : Int} : ∀ (xs : List Int) (x : Int) (c : Nat) (r : Int), (∀ y ∈ xs, 0 ≤ y ∧ y < p) → 0 ≤ x ∧ x < p → 0 ≤ r ∧ r < p → cl p (xs ++ [x]) c r = cl p xs c r + (if c = 0 then 0 else cl p xs (c - 1) (sbm r x p))
  | [], x, c, r, _, _, _ => rfl
  | y :: xs, x, c, r, hy, hx, hr => by
    have hy0 := hy y List.mem_cons_self
    have hy1 : ∀ z ∈ xs, 0 ≤ z ∧ z < p := fun z hz => hy z (List.mem_cons_of_mem _ hz)
    show cl p (xs ++ [x]) c r + (if c = 0 then 0 else cl p (xs ++ [x]) (c - 1) (sbm r y p)) = (cl p xs c r + (if c = 0 then 0 else cl p xs (c - 1) (sbm r y p))) + (if c = 0 then 0 else (cl p xs (c - 1) (sbm r x p) + (if c - 1 = 0 then 0 else cl p xs (c - 1 - 1) (sbm (sbm r x p) y p))))
    rw [cl_snoc xs x c r hy1 hx hr]
    by_cases hc : c = 0
    · simp [hc]
    · rw [if_neg hc, if_neg hc, if_neg hc, if_neg hc, cl_snoc xs x (c - 1) (sbm r y p) hy1 hx (sbm_r hr hy0), sbm_comm hr hx hy0]
      omega
/-- the rests of the first i heaps -/
def rsL (N : Nat → Int) (p : Int) (i : Nat) : List Int := (List.range i).map (fun j => N j % p)
theorem rsL_succ (N : Nat → Int) (p : Int) (i : Nat) : rsL N p (i + 1) = rsL N p i ++ [N i % p] := by
  unfold rsL; rw [List.range_succ, List.map_append]; rfl
theorem rsL_len (N : Nat → Int) (p : Int) (i : Nat) : (rsL N p i).length = i := by simp [rsL]
theorem rsL_r {N : Nat → Int} {p : Int} (hp : 2 ≤ p ∧ p ≤ 10) (i : Nat) : ∀ y ∈ rsL N p i, 0 ≤ y ∧ y < p := by
  intro y hy
  obtain ⟨j, -, rfl⟩ := List.mem_map.mp hy
  exact mod_r _ hp
set_option maxRecDepth 100000 in
set_option maxHeartbeats 4000000 in
theorem c_tFill (E : En) (h : Hp) (mo : Int) (hmo : 0 ≤ mo ∧ mo ≤ 20) (hz : 0 ≤ h 1 4 ∧ h 1 4 ≤ 20) (hp : 2 ≤ h 1 5 ∧ h 1 5 ≤ 10) (hN : ∀ i : Nat, (i : Int) < h 1 4 → 0 ≤ h 2 i ∧ h 2 i ≤ 999999999999999) : Ct 3 yX7_fillLots cX7_fillLots 7 none E [rv E 29, iv mo] h (fun r hx => r = none ∧ (∀ c : Nat, (c : Int) ≤ mo → ∀ r : Nat, (r : Int) < h 1 5 → hx (31 + c) r = cl (h 1 5) (rsL (h 2) (h 1 5) (h 1 4).toNat) c r) ∧ (∀ a b, ¬ (31 ≤ a ∧ a < 52) → hx a b = h a b)) := by
  refine ct_intro (by decide) (Nat.le_of_ble_eq_true rfl) (fun G C => ?_)
  show Wp G E 7 (fun r hx => r = none ∧ (∀ c : Nat, (c : Int) ≤ mo → ∀ r : Nat, (r : Int) < h 1 5 → hx (31 + c) r = cl (h 1 5) (rsL (h 2) (h 1 5) (h 1 4).toNat) c r) ∧ (∀ a b, ¬ (31 ≤ a ∧ a < 52) → hx a b = h a b)) 0 [(0, rv E 29), (1, iv mo)] [] h
  refine wp_iconst (v := 0) C dX7_fillLots_0 rfl ?_
  refine wp_istore_n (ls' := [(0, rv E 29), (1, iv mo), (2, iv 0)]) [1, 2, 0] C dX7_fillLots_1 rfl (by decide) rfl ?_
  have q20 : ∀ n9 : Nat, ∀ (x2 : Int) (hx : Hp), (0 ≤ x2 ∧ x2 ≤ mo + 1) → (∀ c : Nat, (c : Int) < x2 → ∀ r : Nat, r < 10 → hx (31 + c) r = 0) → (∀ a b, ¬ (31 ≤ a ∧ a < 52) → hx a b = h a b) → (mo + 1 - x2).toNat < n9 → Wp G E 7 (fun r hx => r = none ∧ (∀ c : Nat, (c : Int) ≤ mo → ∀ r : Nat, (r : Int) < h 1 5 → hx (31 + c) r = cl (h 1 5) (rsL (h 2) (h 1 5) (h 1 4).toNat) c r) ∧ (∀ a b, ¬ (31 ≤ a ∧ a < 52) → hx a b = h a b)) 2 [(0, rv E 29), (1, iv mo), (2, iv x2)] [] hx := by
    intro n9
    induction n9 with
    | zero => intro x2 hx hi ha hf hm9; exact absurd hm9 (Nat.not_lt_zero _)
    | succ n9 ih9 =>
      intro x2 hx hi ha hf hm9
      have ih9_2 := ih9
      refine wp_iload_n 2 C dX7_fillLots_2 rfl rfl ?_
      refine wp_iload_n 1 C dX7_fillLots_3 rfl rfl ?_
      refine wp_icmp_gt (tgt := 23) (by omega) (by omega) C dX7_fillLots_4 (by decide) (fun c_4 => ?_) (fun c_4 => ?_)
      · skip
        refine wp_aloadR_n 0 C dX7_fillLots_23 rfl rfl ?_
        refine wp_getR flX7_11 sh_29 rfl C dX7_fillLots_24 ?_
        refine wp_iconst (v := 0) C dX7_fillLots_27 rfl ?_
        refine wp_aald sh_30 (Or.inl ⟨rfl, rfl, rfl⟩) (by omega) C dX7_fillLots_28 ?_
        refine wp_iconst (v := 0) C dX7_fillLots_29 rfl ?_
        refine wp_iconst (v := 1) C dX7_fillLots_30 rfl ?_
        refine wp_iast (shr_31 (by omega)) (by omega) C dX7_fillLots_31 ?_
        obtain ⟨H1, e_H1⟩ : ∃ z : Hp, z = upd2 hx (31 + 0) 0 1 := ⟨_, rfl⟩
        refine wp_heq e_H1 ?_
        refine wp_iconst (v := 0) C dX7_fillLots_32 rfl ?_
        refine wp_istore_n (ls' := [(0, rv E 29), (1, iv mo), (2, iv 0)]) [1, 2, 0] C dX7_fillLots_33 rfl (by decide) rfl ?_
        have q340 : ∀ n9 : Nat, ∀ (x2 : Int) (hx : Hp), (0 ≤ x2 ∧ x2 ≤ h 1 4) → (∀ c : Nat, (c : Int) ≤ mo → ∀ r : Nat, (r : Int) < h 1 5 → hx (31 + c) r = cl (h 1 5) (rsL (h 2) (h 1 5) x2.toNat) c r) → (∀ a b, ¬ (31 ≤ a ∧ a < 52) → hx a b = h a b) → (h 1 4 - x2).toNat < n9 → Wp G E 7 (fun r hx => r = none ∧ (∀ c : Nat, (c : Int) ≤ mo → ∀ r : Nat, (r : Int) < h 1 5 → hx (31 + c) r = cl (h 1 5) (rsL (h 2) (h 1 5) (h 1 4).toNat) c r) ∧ (∀ a b, ¬ (31 ≤ a ∧ a < 52) → hx a b = h a b)) 34 [(0, rv E 29), (1, iv mo), (2, iv x2)] [] hx := by
          intro n9
          induction n9 with
          | zero => intro x2 hx hi hw hf hm9; exact absurd hm9 (Nat.not_lt_zero _)
          | succ n9 ih9 =>
            intro x2 hx hi hw hf hm9
            have ih9_34 := ih9
            have s1 : hx 1 4 = h 1 4 := hf 1 4 (by omega)
            have s2 : hx 1 5 = h 1 5 := hf 1 5 (by omega)
            have hmn := mod_r (h 2 x2.toNat) hp
            refine wp_iload_n 2 C dX7_fillLots_34 rfl rfl ?_
            refine wp_aloadR_n 0 C dX7_fillLots_35 rfl rfl ?_
            refine wp_getR flX7_16 sh_29 rfl C dX7_fillLots_36 ?_
            refine wp_getI flX7_20 sh_1 rfl C dX7_fillLots_39 ?_
            refine wp_icmp_ge (tgt := 143) (by omega) (by omega) C dX7_fillLots_42 (by decide) (fun c_42 => ?_) (fun c_42 => ?_)
            · skip
              refine wp_vret C dX7_fillLots_143 ?_
              exact ⟨rfl, fun c hc r hr => by rw [hw c hc r hr, show x2 = h 1 4 by omega], hf⟩
            · skip
              refine wp_aloadR_n 0 C dX7_fillLots_45 rfl rfl ?_
              refine wp_getR flX7_16 sh_29 rfl C dX7_fillLots_46 ?_
              refine wp_iload_n 2 C dX7_fillLots_49 rfl rfl ?_
              refine wp_callVp (rest := []) (c_restOfNumber E hx x2 (by omega) (by rw [hf 2 _ (by omega)]; exact hN _ (by omega)) (by omega)) svX7_36 sh_1 (by decide) rfl rfl (Nat.le_of_ble_eq_true rfl) C dX7_fillLots_50 ?_
              refine wp_nm (fun num e_num => ?_)
              refine wp_istore_n (ls' := [(0, rv E 29), (1, iv mo), (2, iv x2), (3, iv num)]) [1, 2, 3, 0] C dX7_fillLots_53 rfl (by decide) rfl ?_
              have en : num = h 2 x2.toNat % h 1 5 := by rw [e_num, hf 2 _ (by omega), s2]
              refine wp_iload_n 1 C dX7_fillLots_54 rfl rfl ?_
              refine wp_iload_n 2 C dX7_fillLots_55 rfl rfl ?_
              refine wp_iconst (v := 1) C dX7_fillLots_56 rfl ?_
              refine wp_iadd C dX7_fillLots_57 ?_
              refine wp_min (by omega) (by omega) (mT (i := 648) (by decide +kernel) rfl) (mT (i := 458) (by decide +kernel) rfl) (mT (i := 19) (by decide +kernel) rfl) (mT (i := 459) (by decide +kernel) rfl) (Nat.le_of_ble_eq_true rfl) (by decide) C dX7_fillLots_58 ?_
              refine wp_nm (fun x4s e_x4s => ?_)
              refine wp_istore (ls' := [(0, rv E 29), (1, iv mo), (2, iv x2), (3, iv num), (4, iv x4s)]) [1, 2, 3, 4, 0] C dX7_fillLots_61 (by decide) rfl ?_
              have q630 : ∀ n9 : Nat, ∀ (x4 : Int) (hx : Hp), (0 ≤ x4 ∧ x4 ≤ mo ∧ x4 ≤ x2 + 1) → (∀ c : Nat, (c : Int) ≤ mo → ∀ r : Nat, (r : Int) < h 1 5 → hx (31 + c) r = cl (h 1 5) (if x4 < (c : Int) then rsL (h 2) (h 1 5) (x2.toNat + 1) else rsL (h 2) (h 1 5) x2.toNat) c r) → (∀ a b, ¬ (31 ≤ a ∧ a < 52) → hx a b = h a b) → x4.toNat < n9 → Wp G E 7 (fun r hx => r = none ∧ (∀ c : Nat, (c : Int) ≤ mo → ∀ r : Nat, (r : Int) < h 1 5 → hx (31 + c) r = cl (h 1 5) (rsL (h 2) (h 1 5) (h 1 4).toNat) c r) ∧ (∀ a b, ¬ (31 ≤ a ∧ a < 52) → hx a b = h a b)) 63 [(0, rv E 29), (1, iv mo), (2, iv x2), (3, iv num), (4, iv x4)] [] hx := by
                intro n9
                induction n9 with
                | zero => intro x4 hx hi4 hu hf hm9; exact absurd hm9 (Nat.not_lt_zero _)
                | succ n9 ih9 =>
                  intro x4 hx hi4 hu hf hm9
                  have ih9_63 := ih9
                  have s1 : hx 1 4 = h 1 4 := hf 1 4 (by omega)
                  have s2 : hx 1 5 = h 1 5 := hf 1 5 (by omega)
                  refine wp_iload 4 C dX7_fillLots_63 rfl ?_
                  refine wp_iconst (v := 1) C dX7_fillLots_65 rfl ?_
                  refine wp_icmp_lt (tgt := 137) (by omega) (by omega) C dX7_fillLots_66 (by decide) (fun c_66 => ?_) (fun c_66 => ?_)
                  · skip
                    obtain ⟨x2n, e_x2n⟩ : ∃ z : Int, z = x2 + (1) := ⟨_, rfl⟩
                    refine wp_iinc (j := 2) (y := x2n) (ls' := [(0, rv E 29), (1, iv mo), (2, iv x2n), (3, iv num), (4, iv x4)]) [1, 2, 0, 3, 4] C dX7_fillLots_137 rfl e_x2n (by decide) rfl ?_
                    refine wp_goto (tgt := 34) C dX7_fillLots_140 (by decide) ?_
                    refine wp_loc [0, 1, 2] rfl ?_
                    exact ih9_34 x2n hx (by omega) (fun c hc r hr => by have q := hu c hc r hr; rw [q, e_x2n, show (x2 + 1).toNat = x2.toNat + 1 by omega]; by_cases q2 : x4 < (c : Int); rw [if_pos q2]; rw [if_neg q2, rsL_succ, cl_snoc _ _ _ _ (rsL_r hp _) (mod_r _ hp) (by omega), if_pos (by omega)]; omega) (hf) (by omega)
                  · skip
                    refine wp_iconst (v := 0) C dX7_fillLots_69 rfl ?_
                    refine wp_istore (ls' := [(0, rv E 29), (1, iv mo), (2, iv x2), (3, iv num), (4, iv x4), (5, iv 0)]) [1, 2, 3, 4, 5, 0] C dX7_fillLots_70 (by decide) rfl ?_
                    have q720 : ∀ n9 : Nat, ∀ (x5 : Int) (hx : Hp), (0 ≤ x5 ∧ x5 ≤ h 1 5) → (∀ c : Nat, (c : Int) ≤ mo → ∀ r : Nat, (r : Int) < h 1 5 → hx (31 + c) r = if x4 < (c : Int) then cl (h 1 5) (rsL (h 2) (h 1 5) (x2.toNat + 1)) c r else if (c : Int) = x4 then cl (h 1 5) (rsL (h 2) (h 1 5) x2.toNat) c r + (if sbm r num (h 1 5) < x5 then cl (h 1 5) (rsL (h 2) (h 1 5) x2.toNat) (c - 1) (sbm r num (h 1 5)) else 0) else cl (h 1 5) (rsL (h 2) (h 1 5) x2.toNat) c r) → (∀ a b, ¬ (31 ≤ a ∧ a < 52) → hx a b = h a b) → (h 1 5 - x5).toNat < n9 → Wp G E 7 (fun r hx => r = none ∧ (∀ c : Nat, (c : Int) ≤ mo → ∀ r : Nat, (r : Int) < h 1 5 → hx (31 + c) r = cl (h 1 5) (rsL (h 2) (h 1 5) (h 1 4).toNat) c r) ∧ (∀ a b, ¬ (31 ≤ a ∧ a < 52) → hx a b = h a b)) 72 [(0, rv E 29), (1, iv mo), (2, iv x2), (3, iv num), (4, iv x4), (5, iv x5)] [] hx := by
                      intro n9
                      induction n9 with
                      | zero => intro x5 hx hi5 hv hf hm9; exact absurd hm9 (Nat.not_lt_zero _)
                      | succ n9 ih9 =>
                        intro x5 hx hi5 hv hf hm9
                        have ih9_72 := ih9
                        have s1 : hx 1 4 = h 1 4 := hf 1 4 (by omega)
                        have s2 : hx 1 5 = h 1 5 := hf 1 5 (by omega)
                        refine wp_iload 5 C dX7_fillLots_72 rfl ?_
                        refine wp_aloadR_n 0 C dX7_fillLots_74 rfl rfl ?_
                        refine wp_getR flX7_16 sh_29 rfl C dX7_fillLots_75 ?_
                        refine wp_getI flX7_46 sh_1 rfl C dX7_fillLots_78 ?_
                        refine wp_icmp_ge (tgt := 131) (by omega) (by omega) C dX7_fillLots_81 (by decide) (fun c_81 => ?_) (fun c_81 => ?_)
                        · skip
                          obtain ⟨x4n, e_x4n⟩ : ∃ z : Int, z = x4 + (-1) := ⟨_, rfl⟩
                          refine wp_iinc (j := 4) (y := x4n) (ls' := [(0, rv E 29), (1, iv mo), (2, iv x2), (3, iv num), (4, iv x4n), (5, iv x5)]) [1, 2, 3, 4, 0, 5] C dX7_fillLots_131 rfl e_x4n (by decide) rfl ?_
                          refine wp_goto (tgt := 63) C dX7_fillLots_134 (by decide) ?_
                          refine wp_loc [0, 1, 2, 3, 4] rfl ?_
                          exact ih9_63 x4n hx (by omega) (fun c hc r hr => by have hsb := sbm_r (r := (r : Int)) (x := num) (p := h 1 5) (by omega) (by omega); rw [hv c hc r hr]; by_cases q : x4 < (c : Int); simp only [if_pos q, if_pos (show x4n < (c : Int) by omega)]; simp only [if_neg q]; by_cases q2 : (c : Int) = x4; simp only [if_pos q2, if_pos (show x4n < (c : Int) by omega), if_pos (show sbm (r : Int) num (h 1 5) < x5 by omega)]; rw [rsL_succ, cl_snoc _ _ _ _ (rsL_r hp _) (mod_r _ hp) (by omega), if_neg (by omega), en]; simp only [if_neg q2, if_neg (show ¬ x4n < (c : Int) by omega)]) (hf) (by omega)
                        · skip
                          refine wp_iload 5 C dX7_fillLots_84 rfl ?_
                          refine wp_iload_n 3 C dX7_fillLots_86 rfl rfl ?_
                          refine wp_iadd C dX7_fillLots_87 ?_
                          refine wp_aloadR_n 0 C dX7_fillLots_88 rfl rfl ?_
                          refine wp_getR flX7_16 sh_29 rfl C dX7_fillLots_89 ?_
                          refine wp_getI flX7_46 sh_1 rfl C dX7_fillLots_92 ?_
                          refine wp_callSNp (rest := []) (c_turned E hx (x5 + num) (hx 1 5) (by omega) (by omega)) snX7_49 (by decide) rfl rfl (Nat.le_of_ble_eq_true rfl) C dX7_fillLots_95 ?_
                          refine wp_nm (fun wth e_wth => ?_)
                          refine wp_istore (ls' := [(0, rv E 29), (1, iv mo), (2, iv x2), (3, iv num), (4, iv x4), (5, iv x5), (6, iv wth)]) [1, 2, 3, 4, 5, 6, 0] C dX7_fillLots_98 (by decide) rfl ?_
                          have hw9 := trn_r (r := x5) (x := num) (p := h 1 5) (by omega) (by omega)
                          rw [s2] at e_wth
                          rw [← e_wth] at hw9
                          refine wp_aloadR_n 0 C dX7_fillLots_100 rfl rfl ?_
                          refine wp_getR flX7_11 sh_29 rfl C dX7_fillLots_101 ?_
                          refine wp_iload 4 C dX7_fillLots_104 rfl ?_
                          refine wp_aald sh_30 (Or.inl ⟨rfl, rfl, rfl⟩) (by omega) C dX7_fillLots_106 ?_
                          refine wp_iload 6 C dX7_fillLots_107 rfl ?_
                          refine wp_dup2 rfl rfl C dX7_fillLots_109 ?_
                          refine wp_iald (shr_31 (by omega)) (by omega) C dX7_fillLots_110 ?_
                          refine wp_aloadR_n 0 C dX7_fillLots_111 rfl rfl ?_
                          refine wp_getR flX7_11 sh_29 rfl C dX7_fillLots_112 ?_
                          refine wp_iload 4 C dX7_fillLots_115 rfl ?_
                          refine wp_iconst (v := 1) C dX7_fillLots_117 rfl ?_
                          refine wp_isub C dX7_fillLots_118 ?_
                          refine wp_aald sh_30 (Or.inl ⟨rfl, rfl, rfl⟩) (by omega) C dX7_fillLots_119 ?_
                          refine wp_iload 5 C dX7_fillLots_120 rfl ?_
                          refine wp_iald (shr_31 (by omega)) (by omega) C dX7_fillLots_122 ?_
                          refine wp_iadd C dX7_fillLots_123 ?_
                          refine wp_iast (shr_31 (by omega)) (by omega) C dX7_fillLots_124 ?_
                          obtain ⟨H2, e_H2⟩ : ∃ z : Hp, z = upd2 hx (31 + x4.toNat) wth.toNat ((hx (31 + x4.toNat) wth.toNat) + (hx (31 + (x4 - 1).toNat) x5.toNat)) := ⟨_, rfl⟩
                          refine wp_heq e_H2 ?_
                          have r1 : hx (31 + x4.toNat) wth.toNat = cl (h 1 5) (rsL (h 2) (h 1 5) x2.toNat) x4.toNat wth := by
                            have q := hv x4.toNat (by omega) wth.toNat (by omega)
                            have q2 : sbm wth num (h 1 5) = x5 := (sbm_trn (r := x5) (by omega) (by omega) hw9).mpr e_wth
                            rw [show ((wth.toNat : Nat) : Int) = wth by omega] at q
                            rw [if_neg (by omega), if_pos (by omega), q2, if_neg (by omega)] at q
                            rw [q]; omega
                          have r2 : hx (31 + (x4 - 1).toNat) x5.toNat = cl (h 1 5) (rsL (h 2) (h 1 5) x2.toNat) (x4.toNat - 1) x5 := by
                            have q := hv (x4 - 1).toNat (by omega) x5.toNat (by omega)
                            rw [if_neg (by omega), if_neg (by omega), show ((x5.toNat : Nat) : Int) = x5 by omega] at q
                            rw [q, show (x4 - 1).toNat = x4.toNat - 1 by omega]
                          have hv9 : ∀ c : Nat, (c : Int) ≤ mo → ∀ r : Nat, (r : Int) < h 1 5 → H2 (31 + c) r = if x4 < (c : Int) then cl (h 1 5) (rsL (h 2) (h 1 5) (x2.toNat + 1)) c r else if (c : Int) = x4 then cl (h 1 5) (rsL (h 2) (h 1 5) x2.toNat) c r + (if sbm r num (h 1 5) < x5 + 1 then cl (h 1 5) (rsL (h 2) (h 1 5) x2.toNat) (c - 1) (sbm r num (h 1 5)) else 0) else cl (h 1 5) (rsL (h 2) (h 1 5) x2.toNat) c r := by
                            intro c hc r hr
                            have q2 := sbm_trn (r := x5) (x := num) (w := (r : Int)) (p := h 1 5) (by omega) (by omega) (by omega)
                            rw [e_H2]
                            unfold upd2
                            by_cases q : c = x4.toNat ∧ r = wth.toNat
                            · have q3 : sbm (r : Int) num (h 1 5) = x5 := q2.mpr (by omega)
                              rw [if_pos (show 31 + c = 31 + x4.toNat ∧ r = wth.toNat by omega)]; simp only [if_neg (show ¬ x4 < (c : Int) by omega), if_pos (show (c : Int) = x4 by omega), q3, if_pos (show x5 < x5 + 1 by omega)]; rw [r1, r2, q.1, show ((r : Nat) : Int) = wth by omega]
                            · rw [if_neg (show ¬ (31 + c = 31 + x4.toNat ∧ r = wth.toNat) by omega), hv c hc r hr]
                              by_cases q4 : (c : Int) = x4
                              · have q5 : ¬ sbm (r : Int) num (h 1 5) = x5 := fun z => q ⟨by omega, by have := q2.mp z; omega⟩
                                simp only [if_neg (show ¬ x4 < (c : Int) by omega), if_pos q4]
                                by_cases q6 : sbm (r : Int) num (h 1 5) < x5
                                · rw [if_pos q6, if_pos (by omega)]
                                · rw [if_neg q6, if_neg (by omega)]
                              · simp only [if_neg q4]
                          obtain ⟨x5n, e_x5n⟩ : ∃ z : Int, z = x5 + (1) := ⟨_, rfl⟩
                          refine wp_iinc (j := 5) (y := x5n) (ls' := [(0, rv E 29), (1, iv mo), (2, iv x2), (3, iv num), (4, iv x4), (5, iv x5n), (6, iv wth)]) [1, 2, 3, 4, 5, 0, 6] C dX7_fillLots_125 rfl e_x5n (by decide) rfl ?_
                          rw [← e_x5n] at hv9
                          refine wp_goto (tgt := 72) C dX7_fillLots_128 (by decide) ?_
                          refine wp_loc [0, 1, 2, 3, 4, 5] rfl ?_
                          exact ih9_72 x5n H2 (by omega) (hv9) (fun a b hab => by rw [e_H2]; unfold upd2; rw [if_neg (fun z => hab (by omega))]; exact hf a b hab) (by omega)
                    have q72 : ∀ (x5 : Int) (hx : Hp), (0 ≤ x5 ∧ x5 ≤ h 1 5) → (∀ c : Nat, (c : Int) ≤ mo → ∀ r : Nat, (r : Int) < h 1 5 → hx (31 + c) r = if x4 < (c : Int) then cl (h 1 5) (rsL (h 2) (h 1 5) (x2.toNat + 1)) c r else if (c : Int) = x4 then cl (h 1 5) (rsL (h 2) (h 1 5) x2.toNat) c r + (if sbm r num (h 1 5) < x5 then cl (h 1 5) (rsL (h 2) (h 1 5) x2.toNat) (c - 1) (sbm r num (h 1 5)) else 0) else cl (h 1 5) (rsL (h 2) (h 1 5) x2.toNat) c r) → (∀ a b, ¬ (31 ≤ a ∧ a < 52) → hx a b = h a b) → Wp G E 7 (fun r hx => r = none ∧ (∀ c : Nat, (c : Int) ≤ mo → ∀ r : Nat, (r : Int) < h 1 5 → hx (31 + c) r = cl (h 1 5) (rsL (h 2) (h 1 5) (h 1 4).toNat) c r) ∧ (∀ a b, ¬ (31 ≤ a ∧ a < 52) → hx a b = h a b)) 72 [(0, rv E 29), (1, iv mo), (2, iv x2), (3, iv num), (4, iv x4), (5, iv x5)] [] hx := fun x5 hx hi5 hv hf => q720 _ x5 hx hi5 hv hf (Nat.lt_succ_self _)
                    exact q72 0 hx (by omega) (fun c hc r hr => by rw [hu c hc r hr]; have := sbm_r (r := (r : Int)) (x := num) (p := h 1 5) (by omega) (by omega); by_cases q : x4 < (c : Int); simp only [if_pos q]; simp only [if_neg q, if_neg (show ¬ sbm (r : Int) num (h 1 5) < 0 by omega)]; split <;> omega) (hf)
              have q63 : ∀ (x4 : Int) (hx : Hp), (0 ≤ x4 ∧ x4 ≤ mo ∧ x4 ≤ x2 + 1) → (∀ c : Nat, (c : Int) ≤ mo → ∀ r : Nat, (r : Int) < h 1 5 → hx (31 + c) r = cl (h 1 5) (if x4 < (c : Int) then rsL (h 2) (h 1 5) (x2.toNat + 1) else rsL (h 2) (h 1 5) x2.toNat) c r) → (∀ a b, ¬ (31 ≤ a ∧ a < 52) → hx a b = h a b) → Wp G E 7 (fun r hx => r = none ∧ (∀ c : Nat, (c : Int) ≤ mo → ∀ r : Nat, (r : Int) < h 1 5 → hx (31 + c) r = cl (h 1 5) (rsL (h 2) (h 1 5) (h 1 4).toNat) c r) ∧ (∀ a b, ¬ (31 ≤ a ∧ a < 52) → hx a b = h a b)) 63 [(0, rv E 29), (1, iv mo), (2, iv x2), (3, iv num), (4, iv x4)] [] hx := fun x4 hx hi4 hu hf => q630 _ x4 hx hi4 hu hf (Nat.lt_succ_self _)
              exact q63 x4s hx (by omega) (fun c hc r hr => by rw [hw c hc r hr]; by_cases q : x4s < (c : Int); rw [if_pos q, cl_long _ _ _ (by rw [rsL_len]; omega), cl_long _ _ _ (by rw [rsL_len]; omega)]; rw [if_neg q]) (hf)
        have q34 : ∀ (x2 : Int) (hx : Hp), (0 ≤ x2 ∧ x2 ≤ h 1 4) → (∀ c : Nat, (c : Int) ≤ mo → ∀ r : Nat, (r : Int) < h 1 5 → hx (31 + c) r = cl (h 1 5) (rsL (h 2) (h 1 5) x2.toNat) c r) → (∀ a b, ¬ (31 ≤ a ∧ a < 52) → hx a b = h a b) → Wp G E 7 (fun r hx => r = none ∧ (∀ c : Nat, (c : Int) ≤ mo → ∀ r : Nat, (r : Int) < h 1 5 → hx (31 + c) r = cl (h 1 5) (rsL (h 2) (h 1 5) (h 1 4).toNat) c r) ∧ (∀ a b, ¬ (31 ≤ a ∧ a < 52) → hx a b = h a b)) 34 [(0, rv E 29), (1, iv mo), (2, iv x2)] [] hx := fun x2 hx hi hw hf => q340 _ x2 hx hi hw hf (Nat.lt_succ_self _)
        exact q34 0 H1 (by omega) (fun c hc r hr => if q : c = 0 ∧ r = 0 then by rw [e_H1]; unfold upd2; show _ = cl _ [] c r; unfold cl; rw [if_pos (by omega), if_pos (by omega)] else by rw [e_H1]; unfold upd2; show _ = cl _ [] c r; unfold cl; rw [if_neg (by omega), if_neg (by omega)]; exact ha c (by omega) r (by omega)) (fun a b hab => by rw [e_H1]; unfold upd2; rw [if_neg (fun z => hab (by omega))]; exact hf a b hab)
      · skip
        refine wp_aloadR_n 0 C dX7_fillLots_7 rfl rfl ?_
        refine wp_getR flX7_11 sh_29 rfl C dX7_fillLots_8 ?_
        refine wp_iload_n 2 C dX7_fillLots_11 rfl rfl ?_
        refine wp_aald sh_30 (Or.inl ⟨rfl, rfl, rfl⟩) (by omega) C dX7_fillLots_12 ?_
        refine wp_iconst (v := 0) C dX7_fillLots_13 rfl ?_
        refine wp_callSu (rest := []) (c_fillI E hx (31 + x2.toNat) 10 (shr_31 (by omega)) 0) ssX7_30 (by decide) rfl rfl (Nat.le_of_ble_eq_true rfl) C dX7_fillLots_14 ?_
        show Wp G E 7 (fun r hx => r = none ∧ (∀ c : Nat, (c : Int) ≤ mo → ∀ r : Nat, (r : Int) < h 1 5 → hx (31 + c) r = cl (h 1 5) (rsL (h 2) (h 1 5) (h 1 4).toNat) c r) ∧ (∀ a b, ¬ (31 ≤ a ∧ a < 52) → hx a b = h a b)) 17 [(0, rv E 29), (1, iv mo), (2, iv x2)] [] (fillH hx (31 + x2.toNat) 0 10 0)
        obtain ⟨H3, e_H3⟩ : ∃ z : Hp, z = fillH hx (31 + x2.toNat) 0 10 0 := ⟨_, rfl⟩
        refine wp_heq e_H3 ?_
        obtain ⟨x2m, e_x2m⟩ : ∃ z : Int, z = x2 + (1) := ⟨_, rfl⟩
        refine wp_iinc (j := 2) (y := x2m) (ls' := [(0, rv E 29), (1, iv mo), (2, iv x2m)]) [1, 2, 0] C dX7_fillLots_17 rfl e_x2m (by decide) rfl ?_
        refine wp_goto (tgt := 2) C dX7_fillLots_20 (by decide) ?_
        exact ih9_2 x2m H3 (by omega) (fun c hc r hr => if q : 31 + c = 31 + x2.toNat then by rw [e_H3]; unfold fillH; rw [if_pos ⟨q, by omega, by omega⟩] else by rw [e_H3]; unfold fillH; rw [if_neg (fun z => q z.1)]; exact ha c (by omega) r hr) (fun a b hab => by rw [e_H3]; unfold fillH; rw [if_neg (fun z => hab (by omega))]; exact hf a b hab) (by omega)
  have q2 : ∀ (x2 : Int) (hx : Hp), (0 ≤ x2 ∧ x2 ≤ mo + 1) → (∀ c : Nat, (c : Int) < x2 → ∀ r : Nat, r < 10 → hx (31 + c) r = 0) → (∀ a b, ¬ (31 ≤ a ∧ a < 52) → hx a b = h a b) → Wp G E 7 (fun r hx => r = none ∧ (∀ c : Nat, (c : Int) ≤ mo → ∀ r : Nat, (r : Int) < h 1 5 → hx (31 + c) r = cl (h 1 5) (rsL (h 2) (h 1 5) (h 1 4).toNat) c r) ∧ (∀ a b, ¬ (31 ≤ a ∧ a < 52) → hx a b = h a b)) 2 [(0, rv E 29), (1, iv mo), (2, iv x2)] [] hx := fun x2 hx hi ha hf => q20 _ x2 hx hi ha hf (Nat.lt_succ_self _)
  exact q2 0 h (by omega) (fun c hc => absurd hc (by omega)) (fun a b _ => rfl)

def sumTo (f : Nat → Int) : Nat → Int
  | 0 => 0
  | n + 1 => sumTo f n + f n
def manyS (p : Int) (L : List Int) (k r : Int) : Int := if k = -1 then sumTo (fun c => cl p L c r) (L.length + 1) else cl p L k.toNat r
set_option maxRecDepth 100000 in
set_option maxHeartbeats 4000000 in
theorem c_lotsOf (E : En) (h : Hp) (k r : Int) (hk : -1 ≤ k ∧ k ≤ 20) (hr : 0 ≤ r ∧ r < h 1 5) (hz : 0 ≤ h 1 4 ∧ h 1 4 ≤ 20) (hp : 2 ≤ h 1 5 ∧ h 1 5 ≤ 10) (hN : ∀ i : Nat, (i : Int) < h 1 4 → 0 ≤ h 2 i ∧ h 2 i ≤ 999999999999999) : Ct 4 yX7_lotsOf cX7_lotsOf 5 (some .int) E [rv E 29, iv k, iv r] h (fun v hx => v = some (iv (manyS (h 1 5) (rsL (h 2) (h 1 5) (h 1 4).toNat) k r)) ∧ (∀ a b, ¬ (31 ≤ a ∧ a < 52) → hx a b = h a b)) := by
  refine ct_intro (by decide) (Nat.le_of_ble_eq_true rfl) (fun G C => ?_)
  show Wp G E 5 (fun v hx => v = some (iv (manyS (h 1 5) (rsL (h 2) (h 1 5) (h 1 4).toNat) k r)) ∧ (∀ a b, ¬ (31 ≤ a ∧ a < 52) → hx a b = h a b)) 0 [(0, rv E 29), (1, iv k), (2, iv r)] [] h
  refine wp_aloadR_n 0 C dX7_lotsOf_0 rfl rfl ?_
  refine wp_iload_n 1 C dX7_lotsOf_1 rfl rfl ?_
  refine wp_iconst (v := (-1)) C dX7_lotsOf_2 rfl ?_
  refine wp_icmp_ne (tgt := 16) (by omega) (by omega) C dX7_lotsOf_3 (by decide) (fun c_3 => ?_) (fun c_3 => ?_)
  · skip
    refine wp_iload_n 1 C dX7_lotsOf_16 rfl rfl ?_
    refine wp_callV (rest := []) (c_tFill E h k (by omega) (by omega) (by omega) hN) svX7_26 sh_29 (by decide) rfl rfl (Nat.le_of_ble_eq_true rfl) C dX7_lotsOf_17 (fun r0 hf0 pf => ?_)
    obtain ⟨rfl, hcl, hf⟩ := pf
    have s1 : hf0 1 4 = h 1 4 := hf 1 4 (by omega)
    refine wp_iload_n 1 C dX7_lotsOf_20 rfl rfl ?_
    refine wp_iconst (v := (-1)) C dX7_lotsOf_21 rfl ?_
    refine wp_icmp_eq (tgt := 34) (by omega) (by omega) C dX7_lotsOf_22 (by decide) (fun c_22 => ?_) (fun c_22 => ?_)
    · skip
      exact absurd c_22 c_3
    · skip
      refine wp_aloadR_n 0 C dX7_lotsOf_25 rfl rfl ?_
      refine wp_getR flX7_11 sh_29 rfl C dX7_lotsOf_26 ?_
      refine wp_iload_n 1 C dX7_lotsOf_29 rfl rfl ?_
      refine wp_aald sh_30 (Or.inl ⟨rfl, rfl, rfl⟩) (by omega) C dX7_lotsOf_30 ?_
      refine wp_iload_n 2 C dX7_lotsOf_31 rfl rfl ?_
      refine wp_iald (shr_31 (by omega)) (by omega) C dX7_lotsOf_32 ?_
      refine wp_iret C dX7_lotsOf_33 ?_
      exact ⟨by rw [manyS, if_neg (by assumption), hcl k.toNat (by omega) r.toNat (by omega), show ((r.toNat : Nat) : Int) = r by omega], hf⟩
  · skip
    refine wp_aloadR_n 0 C dX7_lotsOf_6 rfl rfl ?_
    refine wp_getR flX7_16 sh_29 rfl C dX7_lotsOf_7 ?_
    refine wp_getI flX7_20 sh_1 rfl C dX7_lotsOf_10 ?_
    refine wp_goto (tgt := 17) C dX7_lotsOf_13 (by decide) ?_
    refine wp_callV (rest := []) (c_tFill E h (h 1 4) (by omega) (by omega) (by omega) hN) svX7_26 sh_29 (by decide) rfl rfl (Nat.le_of_ble_eq_true rfl) C dX7_lotsOf_17 (fun r0 hf0 pf => ?_)
    obtain ⟨rfl, hcl, hf⟩ := pf
    have s1 : hf0 1 4 = h 1 4 := hf 1 4 (by omega)
    refine wp_iload_n 1 C dX7_lotsOf_20 rfl rfl ?_
    refine wp_iconst (v := (-1)) C dX7_lotsOf_21 rfl ?_
    refine wp_icmp_eq (tgt := 34) (by omega) (by omega) C dX7_lotsOf_22 (by decide) (fun c_22 => ?_) (fun c_22 => ?_)
    · skip
      refine wp_iconst (v := 0) C dX7_lotsOf_34 rfl ?_
      refine wp_istore_n (ls' := [(0, rv E 29), (1, iv k), (2, iv r), (3, iv 0)]) [1, 2, 3, 0] C dX7_lotsOf_35 rfl (by decide) rfl ?_
      refine wp_iconst (v := 0) C dX7_lotsOf_36 rfl ?_
      refine wp_istore (ls' := [(0, rv E 29), (1, iv k), (2, iv r), (3, iv 0), (4, iv 0)]) [1, 2, 3, 4, 0] C dX7_lotsOf_37 (by decide) rfl ?_
      have q390 : ∀ n9 : Nat, ∀ (x3 : Int) (x4 : Int), (0 ≤ x4 ∧ x4 ≤ h 1 4 + 1) → (x3 = sumTo (fun c => cl (h 1 5) (rsL (h 2) (h 1 5) (h 1 4).toNat) c r) x4.toNat) → (h 1 4 + 1 - x4).toNat < n9 → Wp G E 5 (fun v hx => v = some (iv (manyS (h 1 5) (rsL (h 2) (h 1 5) (h 1 4).toNat) k r)) ∧ (∀ a b, ¬ (31 ≤ a ∧ a < 52) → hx a b = h a b)) 39 [(0, rv E 29), (1, iv k), (2, iv r), (3, iv x3), (4, iv x4)] [] hf0 := by
        intro n9
        induction n9 with
        | zero => intro x3 x4 hi hs hm9; exact absurd hm9 (Nat.not_lt_zero _)
        | succ n9 ih9 =>
          intro x3 x4 hi hs hm9
          have ih9_39 := ih9
          refine wp_iload 4 C dX7_lotsOf_39 rfl ?_
          refine wp_aloadR_n 0 C dX7_lotsOf_41 rfl rfl ?_
          refine wp_getR flX7_16 sh_29 rfl C dX7_lotsOf_42 ?_
          refine wp_getI flX7_20 sh_1 rfl C dX7_lotsOf_45 ?_
          refine wp_icmp_gt (tgt := 69) (by omega) (by omega) C dX7_lotsOf_48 (by decide) (fun c_48 => ?_) (fun c_48 => ?_)
          · skip
            refine wp_iload_n 3 C dX7_lotsOf_69 rfl rfl ?_
            refine wp_iret C dX7_lotsOf_70 ?_
            exact ⟨by rw [manyS, if_pos (by omega), hs, show x4 = h 1 4 + 1 by omega, rsL_len, show (h 1 4 + 1).toNat = (h 1 4).toNat + 1 by omega], hf⟩
          · skip
            refine wp_iload_n 3 C dX7_lotsOf_51 rfl rfl ?_
            refine wp_aloadR_n 0 C dX7_lotsOf_52 rfl rfl ?_
            refine wp_getR flX7_11 sh_29 rfl C dX7_lotsOf_53 ?_
            refine wp_iload 4 C dX7_lotsOf_56 rfl ?_
            refine wp_aald sh_30 (Or.inl ⟨rfl, rfl, rfl⟩) (by omega) C dX7_lotsOf_58 ?_
            refine wp_iload_n 2 C dX7_lotsOf_59 rfl rfl ?_
            refine wp_iald (shr_31 (by omega)) (by omega) C dX7_lotsOf_60 ?_
            refine wp_iadd C dX7_lotsOf_61 ?_
            refine wp_nm (fun v1 e_v1 => ?_)
            refine wp_istore_n (ls' := [(0, rv E 29), (1, iv k), (2, iv r), (3, iv v1), (4, iv x4)]) [1, 2, 3, 0, 4] C dX7_lotsOf_62 rfl (by decide) rfl ?_
            obtain ⟨v2, e_v2⟩ : ∃ z : Int, z = x4 + (1) := ⟨_, rfl⟩
            refine wp_iinc (j := 4) (y := v2) (ls' := [(0, rv E 29), (1, iv k), (2, iv r), (3, iv v1), (4, iv v2)]) [1, 2, 3, 4, 0] C dX7_lotsOf_63 rfl e_v2 (by decide) rfl ?_
            refine wp_goto (tgt := 39) C dX7_lotsOf_66 (by decide) ?_
            exact ih9_39 v1 v2 (by omega) (by rw [e_v1, hs, e_v2, show (x4 + 1).toNat = x4.toNat + 1 by omega]; simp only [sumTo]; rw [hcl x4.toNat (by omega) r.toNat (by omega), show ((r.toNat : Nat) : Int) = r by omega]) (by omega)
      have q39 : ∀ (x3 : Int) (x4 : Int), (0 ≤ x4 ∧ x4 ≤ h 1 4 + 1) → (x3 = sumTo (fun c => cl (h 1 5) (rsL (h 2) (h 1 5) (h 1 4).toNat) c r) x4.toNat) → Wp G E 5 (fun v hx => v = some (iv (manyS (h 1 5) (rsL (h 2) (h 1 5) (h 1 4).toNat) k r)) ∧ (∀ a b, ¬ (31 ≤ a ∧ a < 52) → hx a b = h a b)) 39 [(0, rv E 29), (1, iv k), (2, iv r), (3, iv x3), (4, iv x4)] [] hf0 := fun x3 x4 hi hs => q390 _ x3 x4 hi hs (Nat.lt_succ_self _)
      exact q39 0 0 (by omega) (rfl)
    · skip
      exact absurd c_3 c_22

set_option maxRecDepth 100000 in
set_option maxHeartbeats 4000000 in
theorem x_many (E : En) (h : Hp) (k r : Int) (hk : -2147483648 ≤ k ∧ k ≤ 2147483647) (hr : -2147483648 ≤ r ∧ r ≤ 2147483647) (hz : 0 ≤ h 1 4 ∧ h 1 4 ≤ 20) (hp : 2 ≤ h 1 5 ∧ h 1 5 ≤ 10) (hN : ∀ i : Nat, (i : Int) < h 1 4 → 0 ≤ h 2 i ∧ h 2 i ≤ 999999999999999) : Ct 5 yX11_many cX11_many 3 (some .int) E [rv E 0, iv k, iv r] h (fun v hx => v = some (iv (if ¬ ((-1 ≤ k ∧ k ≤ 20) ∧ (0 ≤ r ∧ r ≤ h 1 5 - 1)) then -3 else manyS (h 1 5) (rsL (h 2) (h 1 5) (h 1 4).toNat) k r)) ∧ (∀ a b, ¬ (31 ≤ a ∧ a < 52) → hx a b = h a b)) := by
  refine ct_intro (by decide) (Nat.le_of_ble_eq_true rfl) (fun G C => ?_)
  show Wp G E 3 (fun v hx => v = some (iv (if ¬ ((-1 ≤ k ∧ k ≤ 20) ∧ (0 ≤ r ∧ r ≤ h 1 5 - 1)) then -3 else manyS (h 1 5) (rsL (h 2) (h 1 5) (h 1 4).toNat) k r)) ∧ (∀ a b, ¬ (31 ≤ a ∧ a < 52) → hx a b = h a b)) 0 [(0, rv E 0), (1, iv k), (2, iv r)] [] h
  refine wp_iload_n 1 C dX11_many_0 rfl rfl ?_
  refine wp_iconst (v := (-1)) C dX11_many_1 rfl ?_
  refine wp_bipush (v := 20) C dX11_many_2 rfl ?_
  refine wp_callSp (rest := []) (c_within E h k (-1) 20 (by omega) (by omega) (by omega)) ssX11_92 (by decide) rfl rfl (Nat.le_of_ble_eq_true rfl) C dX11_many_4 ?_
  refine wp_ifb_eq (tgt := 27) C dX11_many_7 (by decide) (fun c_7 => ?_) (fun c_7 => ?_)
  · skip
    refine wp_bipush (v := (-3)) C dX11_many_27 rfl ?_
    refine wp_iret C dX11_many_29 ?_
    exact ⟨by rw [if_pos (fun z => c_7 z.1)], fun _ _ _ => rfl⟩
  · skip
    refine wp_iload_n 2 C dX11_many_10 rfl rfl ?_
    refine wp_iconst (v := 0) C dX11_many_11 rfl ?_
    refine wp_aloadR_n 0 C dX11_many_12 rfl rfl ?_
    refine wp_getR flX11_10 sh_0 rfl C dX11_many_13 ?_
    refine wp_getI flX11_180 sh_1 rfl C dX11_many_16 ?_
    refine wp_iconst (v := 1) C dX11_many_19 rfl ?_
    refine wp_isub C dX11_many_20 ?_
    refine wp_callSp (rest := []) (c_within E h r 0 ((h 1 5) - 1) (by omega) (by omega) (by omega)) ssX11_92 (by decide) rfl rfl (Nat.le_of_ble_eq_true rfl) C dX11_many_21 ?_
    refine wp_ifb_ne (tgt := 30) C dX11_many_24 (by decide) (fun c_24 => ?_) (fun c_24 => ?_)
    · skip
      refine wp_aloadR_n 0 C dX11_many_30 rfl rfl ?_
      refine wp_getR flX11_53 sh_0 rfl C dX11_many_31 ?_
      refine wp_iload_n 1 C dX11_many_34 rfl rfl ?_
      refine wp_iload_n 2 C dX11_many_35 rfl rfl ?_
      refine wp_callV (rest := []) (c_lotsOf E h k r (by omega) (by omega) (by omega) (by omega) hN) svX11_183 sh_29 (by decide) rfl rfl (Nat.le_of_ble_eq_true rfl) C dX11_many_36 (fun r0 hf0 pf => ?_)
      obtain ⟨rfl, hf⟩ := pf
      refine wp_iret C dX11_many_39 ?_
      exact ⟨by rw [if_neg (not_not_intro ⟨c_7, c_24⟩)], hf⟩
    · skip
      refine wp_bipush (v := (-3)) C dX11_many_27 rfl ?_
      refine wp_iret C dX11_many_29 ?_
      exact ⟨by rw [if_pos (fun z => c_24 z.2)], fun _ _ _ => rfl⟩


/-! ===== Arrays.fill; Heaps' writes; Text; Book ===== -/
theorem wp_alen {G : Gx} {E : En} {cc : ByteArray} {nL : Nat} {own : String} {ret : Option FieldType} {d : Nat} {post : Option Value → Hp → Prop} {pc : Nat} {ls : List (Nat × Value)} {st : List Value} {h : Hp} {id n b κ : Nat} {fs : List (Option Nat)} (hs : shL[id]? = some (κ, n, b, fs)) (hκ : κ = 1 ∨ κ = 2) (C : Cx G E cc nL own ret d) (hd : decode cc pc = .ok (.arraylength, 1)) (kk : Wp G E nL post (pc + 1) ls (iv (n : Int) :: st) h) : Wp G E nL post pc ls (rv E id :: st) h := by
  intro H locs la hP hS hl
  have q := kk H locs la hP hS hl
  rcases hκ with rfl | rfl
  · exact va_alen (D := DE E) (cl := vwCl) (tys := tyE E) (ws := wld E h) C.1 C.2.1 C.2.2.2.2.2.1.1 hP id 0 (at_w hs (cel_1 hs)) rfl (by rw [← Int32.ofInt_eq_ofNat]) hd q
  · exact va_alen (D := DE E) (cl := vwCl) (tys := tyE E) (ws := wld E h) C.1 C.2.1 C.2.2.2.2.2.1.1 hP id 1 (at_w hs (cel_2 hs)) rfl (by rw [← Int32.ofInt_eq_ofNat]) hd q
def fillH (h : Hp) (id : Nat) (lo hi v : Int) : Hp := fun a b => if a = id ∧ lo ≤ b ∧ (b : Int) < hi then v else h a b
theorem fillH_0 {h : Hp} {id : Nat} {lo v : Int} : fillH h id lo lo v = h := by
  funext a b
  unfold fillH
  rw [if_neg (fun z => by omega)]
theorem fillH_step {h : Hp} {id : Nat} {lo i v : Int} (h0 : 0 ≤ lo) (hi : lo ≤ i) : upd2 (fillH h id lo i v) id i.toNat v = fillH h id lo (i + 1) v := by
  funext a b
  unfold upd2 fillH
  by_cases e : a = id ∧ b = i.toNat
  · rw [if_pos e, if_pos ⟨e.1, by omega, by omega⟩]
  · rw [if_neg e]
    by_cases e2 : a = id ∧ lo ≤ (b : Int) ∧ (b : Int) < i
    · rw [if_pos e2, if_pos ⟨e2.1, e2.2.1, by omega⟩]
    · rw [if_neg e2, if_neg (fun z => e2 ⟨z.1, z.2.1, by have : b ≠ i.toNat := fun w => e ⟨z.1, w⟩; omega⟩)]
theorem upd_v {h : Hp} : Upd none h none h := ⟨rfl, rfl⟩
theorem upd_e {h h' : Hp} {v : Option Value} (e : h = h') : Upd v h' v h := ⟨rfl, e⟩
theorem upd_i {h h' : Hp} {a b : Int} (e1 : a = b) (e : h = h') : Upd (some (iv b)) h' (some (iv a)) h := ⟨by rw [e1], e⟩

set_option maxRecDepth 100000 in
set_option maxHeartbeats 4000000 in
theorem c_fillI (E : En) (h : Hp) (id n : Nat) (hs : shL[id]? = some (1, n, 0, [])) (v : Int) : Ct 0 yJ7_fill_53178 cJ7_fill_53178 4 none E [rv E id, iv v] h (Upd none (fillH h id 0 n v)) := by
  have hn := sh_n hs
  simp only at hn
  refine ct_intro (by decide) (Nat.le_of_ble_eq_true rfl) (fun G C => ?_)
  show Wp G E 4 (Upd none (fillH h id 0 n v)) 0 [(0, rv E id), (1, iv v)] [] h
  refine wp_iconst (v := 0) C dJ7_fill_53178_0 rfl ?_
  refine wp_istore_n (ls' := [(0, rv E id), (1, iv v), (2, iv 0)]) [1, 2, 0] C dJ7_fill_53178_1 rfl (by decide) rfl ?_
  refine wp_aloadR_n 0 C dJ7_fill_53178_2 rfl rfl ?_
  refine wp_alen hs (Or.inl rfl) C dJ7_fill_53178_3 ?_
  refine wp_istore_n (ls' := [(0, rv E id), (1, iv v), (2, iv 0), (3, iv (n : Int))]) [1, 2, 3, 0] C dJ7_fill_53178_4 rfl (by decide) rfl ?_
  have q50 : ∀ n9 : Nat, ∀ (x2 : Int) (h1 : Hp), (0 ≤ x2 ∧ x2 ≤ n) → (h1 = fillH h id 0 x2 v) → ((n : Int) - x2).toNat < n9 → Wp G E 4 (Upd none (fillH h id 0 n v)) 5 [(0, rv E id), (1, iv v), (2, iv x2), (3, iv (n : Int))] [] h1 := by
    intro n9
    induction n9 with
    | zero => intro x2 h1 hi hh hm9; exact absurd hm9 (Nat.not_lt_zero _)
    | succ n9 ih9 =>
      intro x2 h1 hi hh hm9
      have ih9_5 := ih9
      refine wp_iload_n 2 C dJ7_fill_53178_5 rfl rfl ?_
      refine wp_iload_n 3 C dJ7_fill_53178_6 rfl rfl ?_
      refine wp_icmp_ge (tgt := 20) (by omega) (by omega) C dJ7_fill_53178_7 (by decide) (fun c_7 => ?_) (fun c_7 => ?_)
      · skip
        refine wp_vret C dJ7_fill_53178_20 ?_
        exact upd_e (by rw [hh, show x2 = (n : Int) by omega])
      · skip
        refine wp_aloadR_n 0 C dJ7_fill_53178_10 rfl rfl ?_
        refine wp_iload_n 2 C dJ7_fill_53178_11 rfl rfl ?_
        refine wp_iload_n 1 C dJ7_fill_53178_12 rfl rfl ?_
        refine wp_iast hs (by omega) C dJ7_fill_53178_13 ?_
        obtain ⟨H1, e_H1⟩ : ∃ z : Hp, z = upd2 h1 id x2.toNat v := ⟨_, rfl⟩
        refine wp_heq e_H1 ?_
        obtain ⟨v2, e_v2⟩ : ∃ z : Int, z = x2 + (1) := ⟨_, rfl⟩
        refine wp_iinc (j := 2) (y := v2) (ls' := [(0, rv E id), (1, iv v), (2, iv v2), (3, iv (n : Int))]) [1, 2, 0, 3] C dJ7_fill_53178_14 rfl e_v2 (by decide) rfl ?_
        refine wp_goto (tgt := 5) C dJ7_fill_53178_17 (by decide) ?_
        exact ih9_5 v2 H1 (by omega) (by rw [e_H1, e_v2, hh]; exact fillH_step (by omega) (by omega)) (by omega)
  have q5 : ∀ (x2 : Int) (h1 : Hp), (0 ≤ x2 ∧ x2 ≤ n) → (h1 = fillH h id 0 x2 v) → Wp G E 4 (Upd none (fillH h id 0 n v)) 5 [(0, rv E id), (1, iv v), (2, iv x2), (3, iv (n : Int))] [] h1 := fun x2 h1 hi hh => q50 _ x2 h1 hi hh (Nat.lt_succ_self _)
  exact q5 0 h (by omega) (fillH_0.symm)

set_option maxRecDepth 100000 in
set_option maxHeartbeats 4000000 in
theorem c_fillJ (E : En) (h : Hp) (id n : Nat) (hs : shL[id]? = some (2, n, 0, [])) (v : Int) : Ct 0 yJ7_fill_d0a16 cJ7_fill_d0a16 5 none E [rv E id, jv v] h (Upd none (fillH h id 0 n v)) := by
  have hn := sh_n hs
  simp only at hn
  refine ct_intro (by decide) (Nat.le_of_ble_eq_true rfl) (fun G C => ?_)
  show Wp G E 5 (Upd none (fillH h id 0 n v)) 0 [(0, rv E id), (1, jv v)] [] h
  refine wp_iconst (v := 0) C dJ7_fill_d0a16_0 rfl ?_
  refine wp_istore_n (ls' := [(0, rv E id), (1, jv v), (3, iv 0)]) [1, 2, 0] C dJ7_fill_d0a16_1 rfl (by decide) rfl ?_
  refine wp_aloadR_n 0 C dJ7_fill_d0a16_2 rfl rfl ?_
  refine wp_alen hs (Or.inr rfl) C dJ7_fill_d0a16_3 ?_
  refine wp_istore (ls' := [(0, rv E id), (1, jv v), (3, iv 0), (4, iv (n : Int))]) [1, 2, 3, 0] C dJ7_fill_d0a16_4 (by decide) rfl ?_
  have q60 : ∀ n9 : Nat, ∀ (x2 : Int) (h1 : Hp), (0 ≤ x2 ∧ x2 ≤ n) → (h1 = fillH h id 0 x2 v) → ((n : Int) - x2).toNat < n9 → Wp G E 5 (Upd none (fillH h id 0 n v)) 6 [(0, rv E id), (1, jv v), (3, iv x2), (4, iv (n : Int))] [] h1 := by
    intro n9
    induction n9 with
    | zero => intro x2 h1 hi hh hm9; exact absurd hm9 (Nat.not_lt_zero _)
    | succ n9 ih9 =>
      intro x2 h1 hi hh hm9
      have ih9_6 := ih9
      refine wp_iload_n 2 C dJ7_fill_d0a16_6 rfl rfl ?_
      refine wp_iload 3 C dJ7_fill_d0a16_7 rfl ?_
      refine wp_icmp_ge (tgt := 22) (by omega) (by omega) C dJ7_fill_d0a16_9 (by decide) (fun c_9 => ?_) (fun c_9 => ?_)
      · skip
        refine wp_vret C dJ7_fill_d0a16_22 ?_
        exact upd_e (by rw [hh, show x2 = (n : Int) by omega])
      · skip
        refine wp_aloadR_n 0 C dJ7_fill_d0a16_12 rfl rfl ?_
        refine wp_iload_n 2 C dJ7_fill_d0a16_13 rfl rfl ?_
        refine wp_lload_n 1 C dJ7_fill_d0a16_14 rfl rfl ?_
        refine wp_last hs (by omega) C dJ7_fill_d0a16_15 ?_
        obtain ⟨H1, e_H1⟩ : ∃ z : Hp, z = upd2 h1 id x2.toNat v := ⟨_, rfl⟩
        refine wp_heq e_H1 ?_
        obtain ⟨v2, e_v2⟩ : ∃ z : Int, z = x2 + (1) := ⟨_, rfl⟩
        refine wp_iinc (j := 2) (y := v2) (ls' := [(0, rv E id), (1, jv v), (3, iv v2), (4, iv (n : Int))]) [1, 2, 0, 3] C dJ7_fill_d0a16_16 rfl e_v2 (by decide) rfl ?_
        refine wp_goto (tgt := 6) C dJ7_fill_d0a16_19 (by decide) ?_
        exact ih9_6 v2 H1 (by omega) (by rw [e_H1, e_v2, hh]; exact fillH_step (by omega) (by omega)) (by omega)
  have q6 : ∀ (x2 : Int) (h1 : Hp), (0 ≤ x2 ∧ x2 ≤ n) → (h1 = fillH h id 0 x2 v) → Wp G E 5 (Upd none (fillH h id 0 n v)) 6 [(0, rv E id), (1, jv v), (3, iv x2), (4, iv (n : Int))] [] h1 := fun x2 h1 hi hh => q60 _ x2 h1 hi hh (Nat.lt_succ_self _)
  exact q6 0 h (by omega) (fillH_0.symm)

set_option maxRecDepth 100000 in
set_option maxHeartbeats 4000000 in
theorem c_rangeCheck (E : En) (h : Hp) (n a b : Int) (h1 : 0 ≤ a ∧ a ≤ b ∧ b ≤ n ∧ n ≤ 2147483647) : Ct 0 yJ7_rangeCheck_23922 cJ7_rangeCheck_23922 3 none E [iv n, iv a, iv b] h (Upd none h) := by
  refine ct_intro (by decide) (Nat.le_of_ble_eq_true rfl) (fun G C => ?_)
  show Wp G E 3 (Upd none h) 0 [(0, iv n), (1, iv a), (2, iv b)] [] h
  refine wp_iload_n 1 C dJ7_rangeCheck_23922_0 rfl rfl ?_
  refine wp_iload_n 2 C dJ7_rangeCheck_23922_1 rfl rfl ?_
  refine wp_icmp_le (tgt := 46) (by omega) (by omega) C dJ7_rangeCheck_23922_2 (by decide) (fun c_2 => ?_) (fun c_2 => ?_)
  · skip
    refine wp_iload_n 1 C dJ7_rangeCheck_23922_46 rfl rfl ?_
    refine wp_if_ge (tgt := 59) (by omega) C dJ7_rangeCheck_23922_47 (by decide) (fun c_47 => ?_) (fun c_47 => ?_)
    · skip
      refine wp_iload_n 2 C dJ7_rangeCheck_23922_59 rfl rfl ?_
      refine wp_iload_n 0 C dJ7_rangeCheck_23922_60 rfl rfl ?_
      refine wp_icmp_le (tgt := 73) (by omega) (by omega) C dJ7_rangeCheck_23922_61 (by decide) (fun c_61 => ?_) (fun c_61 => ?_)
      · skip
        refine wp_vret C dJ7_rangeCheck_23922_73 ?_
        exact upd_v
      · skip
        exact absurd c_61 (by omega)
    · skip
      exact absurd c_47 (by omega)
  · skip
    exact absurd c_2 (by omega)

set_option maxRecDepth 100000 in
set_option maxHeartbeats 4000000 in
theorem c_fillR (E : En) (h : Hp) (id n : Nat) (hs : shL[id]? = some (1, n, 0, [])) (a b v : Int) (h1 : 0 ≤ a ∧ a ≤ b ∧ b ≤ n) : Ct 1 yJ7_fill_fda19 cJ7_fill_fda19 5 none E [rv E id, iv a, iv b, iv v] h (Upd none (fillH h id a b v)) := by
  have hn := sh_n hs
  simp only at hn
  refine ct_intro (by decide) (Nat.le_of_ble_eq_true rfl) (fun G C => ?_)
  show Wp G E 5 (Upd none (fillH h id a b v)) 0 [(0, rv E id), (1, iv a), (2, iv b), (3, iv v)] [] h
  refine wp_aloadR_n 0 C dJ7_fill_fda19_0 rfl rfl ?_
  refine wp_alen hs (Or.inl rfl) C dJ7_fill_fda19_1 ?_
  refine wp_iload_n 1 C dJ7_fill_fda19_2 rfl rfl ?_
  refine wp_iload_n 2 C dJ7_fill_fda19_3 rfl rfl ?_
  refine wp_callSu (rest := []) (c_rangeCheck E h (n : Int) a b (by omega)) ssJ7_13 (by decide) rfl rfl (Nat.le_of_ble_eq_true rfl) C dJ7_fill_fda19_4 ?_
  show Wp G E 5 (Upd none (fillH h id a b v)) 7 [(0, rv E id), (1, iv a), (2, iv b), (3, iv v)] [] h
  refine wp_iload_n 1 C dJ7_fill_fda19_7 rfl rfl ?_
  refine wp_istore (ls' := [(0, rv E id), (1, iv a), (2, iv b), (3, iv v), (4, iv a)]) [1, 2, 3, 4, 0] C dJ7_fill_fda19_8 (by decide) rfl ?_
  have q100 : ∀ n9 : Nat, ∀ (x4 : Int) (hx : Hp), (a ≤ x4 ∧ x4 ≤ b) → (hx = fillH h id a x4 v) → (b - x4).toNat < n9 → Wp G E 5 (Upd none (fillH h id a b v)) 10 [(0, rv E id), (1, iv a), (2, iv b), (3, iv v), (4, iv x4)] [] hx := by
    intro n9
    induction n9 with
    | zero => intro x4 hx hi hh hm9; exact absurd hm9 (Nat.not_lt_zero _)
    | succ n9 ih9 =>
      intro x4 hx hi hh hm9
      have ih9_10 := ih9
      refine wp_iload 4 C dJ7_fill_fda19_10 rfl ?_
      refine wp_iload_n 2 C dJ7_fill_fda19_12 rfl rfl ?_
      refine wp_icmp_ge (tgt := 27) (by omega) (by omega) C dJ7_fill_fda19_13 (by decide) (fun c_13 => ?_) (fun c_13 => ?_)
      · skip
        refine wp_vret C dJ7_fill_fda19_27 ?_
        exact upd_e (by rw [hh, show x4 = b by omega])
      · skip
        refine wp_aloadR_n 0 C dJ7_fill_fda19_16 rfl rfl ?_
        refine wp_iload 4 C dJ7_fill_fda19_17 rfl ?_
        refine wp_iload_n 3 C dJ7_fill_fda19_19 rfl rfl ?_
        refine wp_iast hs (by omega) C dJ7_fill_fda19_20 ?_
        obtain ⟨H1, e_H1⟩ : ∃ z : Hp, z = upd2 hx id x4.toNat v := ⟨_, rfl⟩
        refine wp_heq e_H1 ?_
        obtain ⟨v2, e_v2⟩ : ∃ z : Int, z = x4 + (1) := ⟨_, rfl⟩
        refine wp_iinc (j := 4) (y := v2) (ls' := [(0, rv E id), (1, iv a), (2, iv b), (3, iv v), (4, iv v2)]) [1, 2, 3, 4, 0] C dJ7_fill_fda19_21 rfl e_v2 (by decide) rfl ?_
        refine wp_goto (tgt := 10) C dJ7_fill_fda19_24 (by decide) ?_
        exact ih9_10 v2 H1 (by omega) (by rw [e_H1, e_v2, hh]; exact fillH_step (by omega) (by omega)) (by omega)
  have q10 : ∀ (x4 : Int) (hx : Hp), (a ≤ x4 ∧ x4 ≤ b) → (hx = fillH h id a x4 v) → Wp G E 5 (Upd none (fillH h id a b v)) 10 [(0, rv E id), (1, iv a), (2, iv b), (3, iv v), (4, iv x4)] [] hx := fun x4 hx hi hh => q100 _ x4 hx hi hh (Nat.lt_succ_self _)
  exact q10 a h (by omega) (fillH_0.symm)


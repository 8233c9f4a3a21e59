/-! ===== Coming: firstWith ===== -/
/-- some c of these rests together have a rest -/
def exL (p : Int) : List Int → Nat → Int → Bool
  | [], c, r => decide (c = 0) && decide (r = 0)
  | x :: xs, c, r => exL p xs c r || (decide (c ≠ 0) && exL p xs (c - 1) (sbm r x p))
theorem exL_snoc {p : Int} : ∀ (xs : List Int) (x : Int) (c : Nat) (r : Int), (∀ y ∈ xs, 0 ≤ y ∧ y < p) → 0 ≤ x ∧ x < p → 0 ≤ r ∧ r < p → exL p (xs ++ [x]) c r = (exL p xs c r || (decide (c ≠ 0) && exL p xs (c - 1) (sbm r x p)))
  | [], x, c, r, _, _, _ => rfl
  | y :: xs, x, c, r, hy, hx, hr => by
    have hy0 := hy y List.mem_cons_self
    have hy1 : ∀ z ∈ xs, 0 ≤ z ∧ z < p := fun z hz => hy z (List.mem_cons_of_mem _ hz)
    show (exL p (xs ++ [x]) c r || (decide (c ≠ 0) && exL p (xs ++ [x]) (c - 1) (sbm r y p))) = ((exL p xs c r || (decide (c ≠ 0) && exL p xs (c - 1) (sbm r y p))) || (decide (c ≠ 0) && (exL p xs (c - 1) (sbm r x p) || (decide (c - 1 ≠ 0) && exL p xs (c - 1 - 1) (sbm (sbm r x p) y p)))))
    rw [exL_snoc xs x c r hy1 hx hr, exL_snoc xs x (c - 1) (sbm r y p) hy1 hx (sbm_r hr hy0), sbm_comm hr hx hy0]
    generalize exL p xs c r = a1
    generalize exL p xs (c - 1) (sbm r x p) = a2
    generalize exL p xs (c - 1) (sbm r y p) = a3
    generalize exL p xs (c - 1 - 1) (sbm (sbm r y p) x p) = a4
    generalize decide (c ≠ 0) = b1
    generalize decide (c - 1 ≠ 0) = b2
    cases a1 <;> cases a2 <;> cases a3 <;> cases a4 <;> cases b1 <;> cases b2 <;> rfl
theorem exL_perm {p : Int} {xs ys : List Int} (h : xs.Perm ys) : (∀ y ∈ xs, 0 ≤ y ∧ y < p) → ∀ (c : Nat) (r : Int), 0 ≤ r ∧ r < p → exL p xs c r = exL p ys c r := by
  induction h with
  | nil => intro _ c r _; rfl
  | cons x h ih =>
    intro hx c r hr
    have hx0 := hx x List.mem_cons_self
    have hx1 := fun z hz => hx z (List.mem_cons_of_mem _ hz)
    unfold exL
    rw [ih hx1 c r hr, ih hx1 (c - 1) _ (sbm_r hr hx0)]
  | swap x y l =>
    intro hx c r hr
    have hy0 := hx y List.mem_cons_self
    have hx0 := hx x (List.mem_cons_of_mem _ List.mem_cons_self)
    show ((exL p l c r || (decide (c ≠ 0) && exL p l (c - 1) (sbm r x p))) || (decide (c ≠ 0) && (exL p l (c - 1) (sbm r y p) || (decide (c - 1 ≠ 0) && exL p l (c - 1 - 1) (sbm (sbm r y p) x p))))) = ((exL p l c r || (decide (c ≠ 0) && exL p l (c - 1) (sbm r y p))) || (decide (c ≠ 0) && (exL p l (c - 1) (sbm r x p) || (decide (c - 1 ≠ 0) && exL p l (c - 1 - 1) (sbm (sbm r x p) y p)))))
    rw [sbm_comm hr hx0 hy0]
    generalize exL p l c r = a1
    generalize exL p l (c - 1) (sbm r x p) = a2
    generalize exL p l (c - 1) (sbm r y p) = a3
    generalize exL p l (c - 1 - 1) (sbm (sbm r y p) x p) = a4
    generalize decide (c ≠ 0) = b1
    generalize decide (c - 1 ≠ 0) = b2
    cases a1 <;> cases a2 <;> cases a3 <;> cases a4 <;> cases b1 <;> cases b2 <;> rfl
  | trans h1 h2 ih1 ih2 =>
    intro hx c r hr
    rw [ih1 hx c r hr, ih2 (fun z hz => hx z (h1.mem_iff.mpr hz)) c r hr]
/-- the row b of Coming holds the sizes of these rests -/
def rowP (p : Int) (hx : Hp) (b : Nat) (xs : List Int) : Prop := ∀ r : Nat, (r : Int) < p → 0 ≤ hx (101 + b) r ∧ hx (101 + b) r < 2 ^ (xs.length + 1) ∧ ∀ c, tb (hx (101 + b) r) c ↔ exL p xs c r = true
theorem row_step {p A B : Int} {xs : List Int} {x r : Int} (hl : xs.length ≤ 20) (hx : 0 ≤ x ∧ x < p) (hr : 0 ≤ r ∧ r < p) (hy : ∀ y ∈ xs, 0 ≤ y ∧ y < p) (a : 0 ≤ A ∧ A < 2 ^ (xs.length + 1) ∧ ∀ c, tb A c ↔ exL p xs c r = true) (b : 0 ≤ B ∧ B < 2 ^ (xs.length + 1) ∧ ∀ c, tb B c ↔ exL p xs c (sbm r x p) = true) :
    0 ≤ bOr A (B * 2) ∧ bOr A (B * 2) < 2 ^ ((xs ++ [x]).length + 1) ∧ ∀ c, tb (bOr A (B * 2)) c ↔ exL p (xs ++ [x]) c r = true := by
  have e1 : (xs ++ [x]).length + 1 = xs.length + 1 + 1 := by simp
  have hp := p2_succ (xs.length + 1)
  have hm : (2 : Int) ^ (xs.length + 1 + 1) ≤ 2 ^ 22 := p2_mono (by omega)
  have e22 : (2 : Int) ^ 22 = 4194304 := by decide
  rw [e1]
  have hq := bOr_r (a := A) (b := B * 2) (n := xs.length + 1 + 1) (by omega) (by omega) (by omega)
  refine ⟨hq.1, hq.2, fun c => ?_⟩
  rw [tb_or (by omega) (by omega), a.2.2 c, exL_snoc xs x c r hy hx hr, Bool.or_eq_true, Bool.and_eq_true, decide_eq_true_eq]
  cases c with
  | zero => exact ⟨fun q => q.elim Or.inl (fun w => absurd w tb_dbl0), fun q => q.elim Or.inl (fun w => absurd rfl w.1)⟩
  | succ c => rw [tb_dbl, b.2.2 c, show c + 1 - 1 = c by omega]; exact ⟨fun q => q.elim Or.inl (fun w => Or.inr ⟨by omega, w⟩), fun q => q.elim Or.inl (fun w => Or.inr w.2)⟩
theorem trn_sbm {s x p : Int} (hs : 0 ≤ s ∧ s < p) (hx : 0 ≤ x ∧ x < p) : trn (s - x + p) p = sbm s x p := by
  unfold trn sbm; split <;> split <;> omega
set_option maxRecDepth 100000 in
set_option maxHeartbeats 4000000 in
theorem c_addOne (E : En) (h : Hp) (b r : Int) (xs : List Int) (hb : 0 ≤ b ∧ b < 20) (hl : xs.length ≤ 20) (hr : 0 ≤ r ∧ r < h 1 5) (hy : ∀ y ∈ xs, 0 ≤ y ∧ y < h 1 5) (hrow : rowP (h 1 5) h b.toNat xs) (hp : 2 ≤ h 1 5 ∧ h 1 5 ≤ 10) : Ct 1 yX2_addOne cX2_addOne 7 none E [rv E 99, iv b, iv r] h (fun v hx => v = none ∧ rowP (h 1 5) hx (b.toNat + 1) (xs ++ [r]) ∧ (∀ a i, a ≠ 101 + (b.toNat + 1) → hx a i = h a i)) := by
  refine ct_intro (by decide) (Nat.le_of_ble_eq_true rfl) (fun G C => ?_)
  show Wp G E 7 (fun v hx => v = none ∧ rowP (h 1 5) hx (b.toNat + 1) (xs ++ [r]) ∧ (∀ a i, a ≠ 101 + (b.toNat + 1) → hx a i = h a i)) 0 [(0, rv E 99), (1, iv b), (2, iv r)] [] h
  refine wp_aloadR_n 0 C dX2_addOne_0 rfl rfl ?_
  refine wp_getR flX2_11 sh_99 rfl C dX2_addOne_1 ?_
  refine wp_iload_n 1 C dX2_addOne_4 rfl rfl ?_
  refine wp_aald sh_100 (Or.inl ⟨rfl, rfl, rfl⟩) (by omega) C dX2_addOne_5 ?_
  refine wp_astoreR_n (ls' := [(0, rv E 99), (1, iv b), (2, iv r), (3, rv E (101 + b.toNat))]) [1, 2, 3, 0] C dX2_addOne_6 rfl (by decide) rfl ?_
  refine wp_aloadR_n 0 C dX2_addOne_7 rfl rfl ?_
  refine wp_getR flX2_11 sh_99 rfl C dX2_addOne_8 ?_
  refine wp_iload_n 1 C dX2_addOne_11 rfl rfl ?_
  refine wp_iconst (v := 1) C dX2_addOne_12 rfl ?_
  refine wp_iadd C dX2_addOne_13 ?_
  refine wp_aald sh_100 (Or.inl ⟨rfl, rfl, rfl⟩) (by omega) C dX2_addOne_14 ?_
  refine wp_astoreR (ls' := [(0, rv E 99), (1, iv b), (2, iv r), (3, rv E (101 + b.toNat)), (4, rv E (101 + (b + 1).toNat))]) [1, 2, 3, 4, 0] C dX2_addOne_15 (by decide) rfl ?_
  refine wp_iconst (v := 0) C dX2_addOne_17 rfl ?_
  refine wp_istore (ls' := [(0, rv E 99), (1, iv b), (2, iv r), (3, rv E (101 + b.toNat)), (4, rv E (101 + (b + 1).toNat)), (5, iv 0)]) [1, 2, 3, 4, 5, 0] C dX2_addOne_18 (by decide) rfl ?_
  have q200 : ∀ n9 : Nat, ∀ (x5 : Int) (hx : Hp), (0 ≤ x5 ∧ x5 ≤ h 1 5) → (∀ q : Nat, (q : Int) < x5 → 0 ≤ hx (101 + (b.toNat + 1)) q ∧ hx (101 + (b.toNat + 1)) q < 2 ^ ((xs ++ [r]).length + 1) ∧ ∀ c, tb (hx (101 + (b.toNat + 1)) q) c ↔ exL (h 1 5) (xs ++ [r]) c q = true) → (∀ a i, a ≠ 101 + (b.toNat + 1) → hx a i = h a i) → (h 1 5 - x5).toNat < n9 → Wp G E 7 (fun v hx => v = none ∧ rowP (h 1 5) hx (b.toNat + 1) (xs ++ [r]) ∧ (∀ a i, a ≠ 101 + (b.toNat + 1) → hx a i = h a i)) 20 [(0, rv E 99), (1, iv b), (2, iv r), (3, rv E (101 + b.toNat)), (4, rv E (101 + (b + 1).toNat)), (5, iv x5)] [] hx := by
    intro n9
    induction n9 with
    | zero => intro x5 hx hi hw hf hm9; exact absurd hm9 (Nat.not_lt_zero _)
    | succ n9 ih9 =>
      intro x5 hx hi hw hf hm9
      have ih9_20 := ih9
      have s2 : hx 1 5 = h 1 5 := hf 1 5 (by omega)
      refine wp_iload 5 C dX2_addOne_20 rfl ?_
      refine wp_aloadR_n 0 C dX2_addOne_22 rfl rfl ?_
      refine wp_getR flX2_24 sh_99 rfl C dX2_addOne_23 ?_
      refine wp_getI flX2_64 sh_1 rfl C dX2_addOne_26 ?_
      refine wp_icmp_ge (tgt := 78) (by omega) (by omega) C dX2_addOne_29 (by decide) (fun c_29 => ?_) (fun c_29 => ?_)
      · skip
        refine wp_vret C dX2_addOne_78 ?_
        exact ⟨rfl, fun q hq => hw q (by omega), hf⟩
      · skip
        refine wp_iload 5 C dX2_addOne_32 rfl ?_
        refine wp_iload_n 2 C dX2_addOne_34 rfl rfl ?_
        refine wp_isub C dX2_addOne_35 ?_
        refine wp_aloadR_n 0 C dX2_addOne_36 rfl rfl ?_
        refine wp_getR flX2_24 sh_99 rfl C dX2_addOne_37 ?_
        refine wp_getI flX2_64 sh_1 rfl C dX2_addOne_40 ?_
        refine wp_iadd C dX2_addOne_43 ?_
        refine wp_aloadR_n 0 C dX2_addOne_44 rfl rfl ?_
        refine wp_getR flX2_24 sh_99 rfl C dX2_addOne_45 ?_
        refine wp_getI flX2_64 sh_1 rfl C dX2_addOne_48 ?_
        refine wp_callSNp (rest := []) (c_turned E hx ((x5 - r) + (hx 1 5)) (hx 1 5) (by omega) (by omega)) snX2_67 (by decide) rfl rfl (Nat.le_of_ble_eq_true rfl) C dX2_addOne_51 ?_
        refine wp_nm (fun fr6 e_fr6 => ?_)
        refine wp_istore (ls' := [(0, rv E 99), (1, iv b), (2, iv r), (3, rv E (101 + b.toNat)), (4, rv E (101 + (b + 1).toNat)), (5, iv x5), (6, iv fr6)]) [1, 2, 3, 4, 5, 6, 0] C dX2_addOne_54 (by decide) rfl ?_
        have er : fr6 = sbm x5 r (h 1 5) := by rw [e_fr6, s2]; exact trn_sbm (by omega) hr
        have hfr := sbm_r (r := x5) (x := r) (p := h 1 5) (by omega) hr
        rw [← er] at hfr
        refine wp_aloadR 4 C dX2_addOne_56 rfl ?_
        refine wp_iload 5 C dX2_addOne_58 rfl ?_
        refine wp_aloadR_n 3 C dX2_addOne_60 rfl rfl ?_
        refine wp_iload 5 C dX2_addOne_61 rfl ?_
        refine wp_iald (shr_101 (by omega)) (by omega) C dX2_addOne_63 ?_
        refine wp_top (hf _ _ (by omega)) ?_
        refine wp_aloadR_n 3 C dX2_addOne_64 rfl rfl ?_
        refine wp_iload 6 C dX2_addOne_65 rfl ?_
        refine wp_iald (shr_101 (by omega)) (by omega) C dX2_addOne_67 ?_
        refine wp_top (hf _ _ (by omega)) ?_
        refine wp_iconst (v := 1) C dX2_addOne_68 rfl ?_
        refine wp_ishl (by omega) C dX2_addOne_69 ?_
        refine wp_top (show _ = h (101 + b.toNat) fr6.toNat * 2 by simp) ?_
        refine wp_ior C dX2_addOne_70 ?_
        refine wp_iast (shr_101 (by omega)) (by omega) C dX2_addOne_71 ?_
        obtain ⟨H1, e_H1⟩ : ∃ z : Hp, z = upd2 hx (101 + (b + 1).toNat) x5.toNat (bOr (h (101 + b.toNat) x5.toNat) (h (101 + b.toNat) fr6.toNat * 2)) := ⟨_, rfl⟩
        refine wp_heq e_H1 ?_
        have g1 := hrow x5.toNat (by omega)
        have g2 := hrow fr6.toNat (by omega)
        rw [show ((x5.toNat : Nat) : Int) = x5 by omega] at g1
        rw [show ((fr6.toNat : Nat) : Int) = fr6 by omega] at g2
        have hst := row_step (B := h (101 + b.toNat) fr6.toNat) hl hr (show 0 ≤ x5 ∧ x5 < h 1 5 by omega) hy g1 (by rw [← er]; exact g2)
        obtain ⟨v2, e_v2⟩ : ∃ z : Int, z = x5 + (1) := ⟨_, rfl⟩
        refine wp_iinc (j := 5) (y := v2) (ls' := [(0, rv E 99), (1, iv b), (2, iv r), (3, rv E (101 + b.toNat)), (4, rv E (101 + (b + 1).toNat)), (5, iv v2), (6, iv fr6)]) [1, 2, 3, 4, 5, 0, 6] C dX2_addOne_72 rfl e_v2 (by decide) rfl ?_
        refine wp_goto (tgt := 20) C dX2_addOne_75 (by decide) ?_
        refine wp_loc [0, 1, 2, 3, 4, 5] rfl ?_
        exact ih9_20 v2 H1 (by omega) (fun q hq => if q9 : q = x5.toNat then by rw [q9, e_H1, show upd2 hx (101 + (b + 1).toNat) x5.toNat (bOr (h (101 + b.toNat) x5.toNat) (h (101 + b.toNat) fr6.toNat * 2)) (101 + (b.toNat + 1)) x5.toNat = bOr (h (101 + b.toNat) x5.toNat) (h (101 + b.toNat) fr6.toNat * 2) by rw [show (b + 1).toNat = b.toNat + 1 by omega]; simp [upd2], show ((x5.toNat : Nat) : Int) = x5 by omega]; exact hst else by rw [e_H1]; unfold upd2; rw [if_neg (fun z => q9 z.2)]; exact hw q (by omega)) (fun a i hai => by rw [e_H1]; unfold upd2; rw [if_neg (fun z => hai (by omega))]; exact hf a i hai) (by omega)
  have q20 : ∀ (x5 : Int) (hx : Hp), (0 ≤ x5 ∧ x5 ≤ h 1 5) → (∀ q : Nat, (q : Int) < x5 → 0 ≤ hx (101 + (b.toNat + 1)) q ∧ hx (101 + (b.toNat + 1)) q < 2 ^ ((xs ++ [r]).length + 1) ∧ ∀ c, tb (hx (101 + (b.toNat + 1)) q) c ↔ exL (h 1 5) (xs ++ [r]) c q = true) → (∀ a i, a ≠ 101 + (b.toNat + 1) → hx a i = h a i) → Wp G E 7 (fun v hx => v = none ∧ rowP (h 1 5) hx (b.toNat + 1) (xs ++ [r]) ∧ (∀ a i, a ≠ 101 + (b.toNat + 1) → hx a i = h a i)) 20 [(0, rv E 99), (1, iv b), (2, iv r), (3, rv E (101 + b.toNat)), (4, rv E (101 + (b + 1).toNat)), (5, iv x5)] [] hx := fun x5 hx hi hw hf => q200 _ x5 hx hi hw hf (Nat.lt_succ_self _)
  exact q20 0 h (by omega) (fun q hq => absurd hq (by omega)) (fun a i _ => rfl)

theorem sh_bd0 {a : Int} {n : Nat} (h : 0 ≤ a) : 0 ≤ a / 2 ^ n ∧ a / 2 ^ n ≤ a := ⟨Int.ediv_nonneg h (Int.le_of_lt (p2_pos n)), Int.ediv_le_self _ h⟩
set_option maxRecDepth 100000 in
set_option maxHeartbeats 4000000 in
theorem c_chasTen (E : En) (h : Hp) (b k : Int) (xs : List Int) (hb : 0 ≤ b ∧ b ≤ 20) (hk : 1 ≤ k ∧ k ≤ 20) (hl : xs.length ≤ 20) (hrow : rowP (h 1 5) h b.toNat xs) (hp : 2 ≤ h 1 5 ∧ h 1 5 ≤ 10) : Ct 0 yX2_hasTen cX2_hasTen 3 (some .boolean) E [rv E 99, iv b, iv k] h (Ret (iv (bi (exL (h 1 5) xs k.toNat 0 = true))) h) := by
  obtain ⟨g1, g2, g3⟩ := hrow 0 (by omega)
  have h22 : (2 : Int) ^ (xs.length + 1) ≤ 2 ^ 21 := p2_mono (by omega)
  have e21 : (2 : Int) ^ 21 = 2097152 := by decide
  have g4 := g3 k.toNat
  unfold tb at g4
  refine ct_intro (by decide) (Nat.le_of_ble_eq_true rfl) (fun G C => ?_)
  show Wp G E 3 (Ret (iv (bi (exL (h 1 5) xs k.toNat 0 = true))) h) 0 [(0, rv E 99), (1, iv b), (2, iv k)] [] h
  refine wp_aloadR_n 0 C dX2_hasTen_0 rfl rfl ?_
  refine wp_getR flX2_11 sh_99 rfl C dX2_hasTen_1 ?_
  refine wp_iload_n 1 C dX2_hasTen_4 rfl rfl ?_
  refine wp_aald sh_100 (Or.inl ⟨rfl, rfl, rfl⟩) (by omega) C dX2_hasTen_5 ?_
  refine wp_iconst (v := 0) C dX2_hasTen_6 rfl ?_
  refine wp_iald (shr_101 (by omega)) (by omega) C dX2_hasTen_7 ?_
  refine wp_top (show _ = h (101 + b.toNat) 0 from rfl) ?_
  refine wp_iload_n 2 C dX2_hasTen_8 rfl rfl ?_
  have hd9 := sh_bd0 (n := k.toNat) g1
  refine wp_ishr (by omega) (by omega) C dX2_hasTen_9 ?_
  refine wp_iconst (v := 1) C dX2_hasTen_10 rfl ?_
  refine wp_iand C dX2_hasTen_11 ?_
  refine wp_top (bAnd_1 _) ?_
  refine wp_iconst (v := 1) C dX2_hasTen_12 rfl ?_
  refine wp_icmp_ne (tgt := 20) (by omega) (by omega) C dX2_hasTen_13 (by decide) (fun c_13 => ?_) (fun c_13 => ?_)
  · skip
    refine wp_iconst (v := 0) C dX2_hasTen_20 rfl ?_
    refine wp_zret (by first | exact bi_01 | omega) C dX2_hasTen_21 ?_
    exact ret_b0 (fun z => c_13 (g4.mpr z))
  · skip
    refine wp_iconst (v := 1) C dX2_hasTen_16 rfl ?_
    refine wp_goto (tgt := 21) C dX2_hasTen_17 (by decide) ?_
    refine wp_zret (by first | exact bi_01 | omega) C dX2_hasTen_21 ?_
    exact ret_b1 (g4.mp c_13)

theorem row_0 {p : Int} {h : Hp} (hp : 2 ≤ p ∧ p ≤ 10) (h0 : h 101 0 = 1 ∧ ∀ r : Nat, 0 < r → r < 10 → h 101 r = 0) : rowP p h 0 [] := by
  intro r hr
  show 0 ≤ h 101 r ∧ h 101 r < 2 ^ 1 ∧ ∀ c, tb (h 101 r) c ↔ exL p [] c r = true
  by_cases q : r = 0
  · subst q
    rw [h0.1]
    refine ⟨by decide, by decide, fun c => ?_⟩
    rw [show (1 : Int) = 2 ^ 0 from rfl, tb_p2]
    simp [exL]
  · rw [h0.2 r (by omega) (by omega)]
    refine ⟨by decide, by decide, fun c => ?_⟩
    constructor
    · intro z; exact absurd z (tb_0 c)
    · intro z
      simp only [exL, Bool.and_eq_true, decide_eq_true_eq] at z
      omega
theorem rowP_congr {p : Int} {h hx : Hp} {b : Nat} {xs : List Int} (e : ∀ i, hx (101 + b) i = h (101 + b) i) (q : rowP p h b xs) : rowP p hx b xs := by
  intro r hr
  rw [e r]
  exact q r hr
set_option maxRecDepth 100000 in
set_option maxHeartbeats 4000000 in
theorem c_firstWith (E : En) (h : Hp) (k : Int) (hk : 1 ≤ k ∧ k ≤ 20) (h0 : h 101 0 = 1 ∧ ∀ r : Nat, 0 < r → r < 10 → h 101 r = 0) (hz : 0 ≤ h 1 4 ∧ h 1 4 ≤ 20) (hp : 2 ≤ h 1 5 ∧ h 1 5 ≤ 10) (hN : ∀ i : Nat, (i : Int) < h 1 4 → 0 ≤ h 2 i ∧ h 2 i ≤ 999999999999999) : Ct 3 yX2_firstWith cX2_firstWith 3 (some .int) E [rv E 99, iv k] h (fun v hx => v = some (iv (let i := firstI (fun i => exL (h 1 5) (rsL (h 2) (h 1 5) (i + 1)) k.toNat 0) (h 1 4).toNat; if i = -1 then -1 else i + 1)) ∧ (∀ a i, ¬ (102 ≤ a ∧ a < 122) → hx a i = h a i)) := by
  refine ct_intro (by decide) (Nat.le_of_ble_eq_true rfl) (fun G C => ?_)
  show Wp G E 3 (fun v hx => v = some (iv (let i := firstI (fun i => exL (h 1 5) (rsL (h 2) (h 1 5) (i + 1)) k.toNat 0) (h 1 4).toNat; if i = -1 then -1 else i + 1)) ∧ (∀ a i, ¬ (102 ≤ a ∧ a < 122) → hx a i = h a i)) 0 [(0, rv E 99), (1, iv k)] [] h
  refine wp_iconst (v := 0) C dX2_firstWith_0 rfl ?_
  refine wp_istore_n (ls' := [(0, rv E 99), (1, iv k), (2, iv 0)]) [1, 2, 0] C dX2_firstWith_1 rfl (by decide) rfl ?_
  have q20 : ∀ n9 : Nat, ∀ (x2 : Int) (hx : Hp), (0 ≤ x2 ∧ x2 ≤ h 1 4) → (rowP (h 1 5) hx x2.toNat (rsL (h 2) (h 1 5) x2.toNat)) → (∀ j, j < x2.toNat → (fun i => exL (h 1 5) (rsL (h 2) (h 1 5) (i + 1)) k.toNat 0) j = false) → (∀ a i, ¬ (102 ≤ a ∧ a < 122) → hx a i = h a i) → (h 1 4 - x2).toNat < n9 → Wp G E 3 (fun v hx => v = some (iv (let i := firstI (fun i => exL (h 1 5) (rsL (h 2) (h 1 5) (i + 1)) k.toNat 0) (h 1 4).toNat; if i = -1 then -1 else i + 1)) ∧ (∀ a i, ¬ (102 ≤ a ∧ a < 122) → hx a i = h a i)) 2 [(0, rv E 99), (1, iv k), (2, iv x2)] [] hx := by
    intro n9
    induction n9 with
    | zero => intro x2 hx hi hw hs hf hm9; exact absurd hm9 (Nat.not_lt_zero _)
    | succ n9 ih9 =>
      intro x2 hx hi hw hs hf hm9
      have ih9_2 := ih9
      have s1 : hx 1 4 = h 1 4 := hf 1 4 (by omega)
      have s2 : hx 1 5 = h 1 5 := hf 1 5 (by omega)
      have hmn := mod_r (h 2 x2.toNat) hp
      refine wp_iload_n 2 C dX2_firstWith_2 rfl rfl ?_
      refine wp_aloadR_n 0 C dX2_firstWith_3 rfl rfl ?_
      refine wp_getR flX2_24 sh_99 rfl C dX2_firstWith_4 ?_
      refine wp_getI flX2_28 sh_1 rfl C dX2_firstWith_7 ?_
      refine wp_icmp_ge (tgt := 47) (by omega) (by omega) C dX2_firstWith_10 (by decide) (fun c_10 => ?_) (fun c_10 => ?_)
      · skip
        refine wp_iconst (v := (-1)) C dX2_firstWith_47 rfl ?_
        refine wp_iret C dX2_firstWith_48 ?_
        exact ⟨by have q := firstI_none (p := (fun i => exL (h 1 5) (rsL (h 2) (h 1 5) (i + 1)) k.toNat 0)) (n := (h 1 4).toNat) (fun j hj => hs j (by omega)); simp [q], hf⟩
      · skip
        refine wp_aloadR_n 0 C dX2_firstWith_13 rfl rfl ?_
        refine wp_iload_n 2 C dX2_firstWith_14 rfl rfl ?_
        refine wp_aloadR_n 0 C dX2_firstWith_15 rfl rfl ?_
        refine wp_getR flX2_24 sh_99 rfl C dX2_firstWith_16 ?_
        refine wp_iload_n 2 C dX2_firstWith_19 rfl rfl ?_
        refine wp_callVp (rest := [iv x2, rv E 99]) (c_restOfNumber E hx x2 (by omega) (by rw [hf 2 _ (by omega)]; exact hN _ (by omega)) (by omega)) svX2_33 sh_1 (by decide) rfl rfl (Nat.le_of_ble_eq_true rfl) C dX2_firstWith_20 ?_
        refine wp_top (show _ = h 2 x2.toNat % h 1 5 by rw [hf 2 _ (by omega), s2]) ?_
        refine wp_callV (rest := []) (c_addOne E hx x2 (h 2 x2.toNat % h 1 5) (rsL (h 2) (h 1 5) x2.toNat) (by omega) (by rw [rsL_len]; omega) (by rw [s2]; exact hmn) (by rw [s2]; exact rsL_r hp _) (by rw [s2]; exact hw) (by omega)) svX2_37 sh_99 (by decide) rfl rfl (Nat.le_of_ble_eq_true rfl) C dX2_firstWith_23 (fun r0 hy pf => ?_)
        obtain ⟨rfl, hr1, hf2⟩ := pf
        rw [s2] at hr1
        have hfy : ∀ a i, ¬ (102 ≤ a ∧ a < 122) → hy a i = h a i := fun a i hai => (hf2 a i (by omega)).trans (hf a i hai)
        have t2 : hy 1 5 = h 1 5 := hfy 1 5 (by omega)
        refine wp_aloadR_n 0 C dX2_firstWith_26 rfl rfl ?_
        refine wp_iload_n 2 C dX2_firstWith_27 rfl rfl ?_
        refine wp_iconst (v := 1) C dX2_firstWith_28 rfl ?_
        refine wp_iadd C dX2_firstWith_29 ?_
        refine wp_iload_n 1 C dX2_firstWith_30 rfl rfl ?_
        refine wp_callVp (rest := []) (c_chasTen E hy (x2 + 1) k (rsL (h 2) (h 1 5) x2.toNat ++ [h 2 x2.toNat % h 1 5]) (by omega) (by omega) (by rw [List.length_append, rsL_len]; simp; omega) (by rw [t2, show (x2 + 1).toNat = x2.toNat + 1 by omega]; exact hr1) (by omega)) svX2_41 sh_99 (by decide) rfl rfl (Nat.le_of_ble_eq_true rfl) C dX2_firstWith_31 ?_
        refine wp_top (show _ = bi (exL (h 1 5) (rsL (h 2) (h 1 5) x2.toNat ++ [h 2 x2.toNat % h 1 5]) k.toNat 0 = true) by rw [t2]) ?_
        refine wp_ifb_eq (tgt := 41) C dX2_firstWith_34 (by decide) (fun c_34 => ?_) (fun c_34 => ?_)
        · skip
          obtain ⟨v1, e_v1⟩ : ∃ z : Int, z = x2 + (1) := ⟨_, rfl⟩
          refine wp_iinc (j := 2) (y := v1) (ls' := [(0, rv E 99), (1, iv k), (2, iv v1)]) [1, 2, 0] C dX2_firstWith_41 rfl e_v1 (by decide) rfl ?_
          refine wp_goto (tgt := 2) C dX2_firstWith_44 (by decide) ?_
          exact ih9_2 v1 hy (by omega) (by rw [e_v1, show (x2 + 1).toNat = x2.toNat + 1 by omega, rsL_succ]; exact hr1) (fun j hj => by rcases (show j < x2.toNat ∨ j = x2.toNat by omega) with q | rfl; exact hs j q; show exL _ _ _ _ = false; rw [rsL_succ]; exact Bool.eq_false_iff.mpr c_34) (hfy) (by omega)
        · skip
          refine wp_iload_n 2 C dX2_firstWith_37 rfl rfl ?_
          refine wp_iconst (v := 1) C dX2_firstWith_38 rfl ?_
          refine wp_iadd C dX2_firstWith_39 ?_
          refine wp_iret C dX2_firstWith_40 ?_
          exact ⟨by have q := firstI_some (p := (fun i => exL (h 1 5) (rsL (h 2) (h 1 5) (i + 1)) k.toNat 0)) (n := (h 1 4).toNat) (i := x2.toNat) (by omega) (by show exL _ _ _ _ = true; rw [rsL_succ]; exact c_34) hs; simp only [q]; rw [if_neg (by omega), show ((x2.toNat : Nat) : Int) = x2 by omega], hfy⟩
  have q2 : ∀ (x2 : Int) (hx : Hp), (0 ≤ x2 ∧ x2 ≤ h 1 4) → (rowP (h 1 5) hx x2.toNat (rsL (h 2) (h 1 5) x2.toNat)) → (∀ j, j < x2.toNat → (fun i => exL (h 1 5) (rsL (h 2) (h 1 5) (i + 1)) k.toNat 0) j = false) → (∀ a i, ¬ (102 ≤ a ∧ a < 122) → hx a i = h a i) → Wp G E 3 (fun v hx => v = some (iv (let i := firstI (fun i => exL (h 1 5) (rsL (h 2) (h 1 5) (i + 1)) k.toNat 0) (h 1 4).toNat; if i = -1 then -1 else i + 1)) ∧ (∀ a i, ¬ (102 ≤ a ∧ a < 122) → hx a i = h a i)) 2 [(0, rv E 99), (1, iv k), (2, iv x2)] [] hx := fun x2 hx hi hw hs hf => q20 _ x2 hx hi hw hs hf (Nat.lt_succ_self _)
  exact q2 0 h (by omega) (row_0 hp h0) (fun j hj => absurd hj (by omega)) (fun a i _ => rfl)

def comS (N : Nat → Int) (p : Int) (n k : Nat) : Int := let i := firstI (fun i => exL p (rsL N p (i + 1)) k 0) n; if i = -1 then -1 else i + 1
set_option maxRecDepth 100000 in
set_option maxHeartbeats 4000000 in
theorem x_come (E : En) (h : Hp) (k : Int) (hk : -2147483648 ≤ k ∧ k ≤ 2147483647) (h0 : h 101 0 = 1 ∧ ∀ r : Nat, 0 < r → r < 10 → h 101 r = 0) (hz : 0 ≤ h 1 4 ∧ h 1 4 ≤ 20) (hp : 2 ≤ h 1 5 ∧ h 1 5 ≤ 10) (hN : ∀ i : Nat, (i : Int) < h 1 4 → 0 ≤ h 2 i ∧ h 2 i ≤ 999999999999999) : Ct 4 yX11_come cX11_come 2 (some .int) E [rv E 0, iv k] h (fun v hx => v = some (iv (if ¬ (1 ≤ k ∧ k ≤ 20) then -3 else comS (h 2) (h 1 5) (h 1 4).toNat k.toNat)) ∧ (∀ a i, ¬ (102 ≤ a ∧ a < 122) → hx a i = h a i)) := by
  refine ct_intro (by decide) (Nat.le_of_ble_eq_true rfl) (fun G C => ?_)
  show Wp G E 2 (fun v hx => v = some (iv (if ¬ (1 ≤ k ∧ k ≤ 20) then -3 else comS (h 2) (h 1 5) (h 1 4).toNat k.toNat)) ∧ (∀ a i, ¬ (102 ≤ a ∧ a < 122) → hx a i = h a i)) 0 [(0, rv E 0), (1, iv k)] [] h
  refine wp_iload_n 1 C dX11_come_0 rfl rfl ?_
  refine wp_callSp (rest := []) (c_isSize E h k (by omega)) ssX11_167 (by decide) rfl rfl (Nat.le_of_ble_eq_true rfl) C dX11_come_1 ?_
  refine wp_ifb_eq (tgt := 18) C dX11_come_4 (by decide) (fun c_4 => ?_) (fun c_4 => ?_)
  · skip
    refine wp_bipush (v := (-3)) C dX11_come_18 rfl ?_
    refine wp_iret C dX11_come_20 ?_
    exact ⟨by rw [if_pos (by assumption)], fun _ _ _ => rfl⟩
  · skip
    refine wp_aloadR_n 0 C dX11_come_7 rfl rfl ?_
    refine wp_getR flX11_74 sh_0 rfl C dX11_come_8 ?_
    refine wp_iload_n 1 C dX11_come_11 rfl rfl ?_
    refine wp_callV (rest := []) (c_firstWith E h k (by omega) h0 (by omega) (by omega) hN) svX11_211 sh_99 (by decide) rfl rfl (Nat.le_of_ble_eq_true rfl) C dX11_come_12 (fun r0 hf0 pf => ?_)
    obtain ⟨rfl, hf⟩ := pf
    refine wp_goto (tgt := 20) C dX11_come_15 (by decide) ?_
    refine wp_iret C dX11_come_20 ?_
    exact ⟨by rw [if_neg (not_not_intro (by assumption))]; rfl, hf⟩


/-! ===== Lightest: fillLots, answer; EvenTen: light, cheap ===== -/
theorem cOk_0 {N w : Nat → Int} {p r : Int} {c : Nat} (hp : 2 ≤ p) (h : ¬ (c = 0 ∧ r = 0)) {S : Int} : cOk N w p 0 c r (-1) S := by
  refine Or.inl ⟨rfl, fun l hl => h ?_⟩
  obtain ⟨h1, h2, h3⟩ := hl
  simp only [cntB, sumB] at h2 h3
  exact ⟨by omega, by rw [← h3]; exact Int.zero_emod p⟩
theorem cOk_00 {N w : Nat → Int} {p : Int} (hp : 2 ≤ p) : cOk N w p 0 0 0 0 0 := by
  refine Or.inr ⟨0, rfl, rfl, ⟨by decide, rfl, Int.zero_emod p⟩, fun l' hl' => Or.inl ?_⟩
  have := hl'.1
  simp at this
  exact this
theorem vl_few {N : Nat → Int} {p r : Int} {i c l : Nat} (h : vl N p i c r l) : c ≤ i := by
  have := (cntB_r (l : Int) i).2
  rw [h.2.1] at this
  omega
/-- what light and cheap answer -/
def ligP (N w : Nat → Int) (p : Int) (n k : Nat) (what a : Int) : Prop := (a = -1 ∧ ∀ l, ¬ vl N p n k 0 l) ∨ ∃ l, bt N w p n k 0 l ∧ a = if what = 0 then (l : Int) else sumB w (l : Int) n
theorem ligP_uniq {N w : Nat → Int} {p what a b : Int} {n k : Nat} (ha : ligP N w p n k what a) (hb : ligP N w p n k what b) : a = b := by
  rcases ha with ⟨a1, a2⟩ | ⟨l, a1, a2⟩ <;> rcases hb with ⟨b1, b2⟩ | ⟨l', b1, b2⟩
  · rw [a1, b1]
  · exact absurd b1.1 (a2 l')
  · exact absurd a1.1 (b2 l)
  · rw [a2, b2, bt_uniq a1 b1]
set_option maxRecDepth 100000 in
set_option maxHeartbeats 4000000 in
theorem c_lFill (E : En) (h : Hp) (mo : Int) (wid : Nat) (hwid : wid = 2 ∨ wid = 5) (hrow : shL[wid]? = some (2, 20, 0, [])) (hwb : ∀ j : Nat, (j : Int) < h 1 4 → 0 ≤ h wid j ∧ h wid j ≤ 999999999999999) (hmo : 1 ≤ mo ∧ mo ≤ 20) (hz : 0 ≤ h 1 4 ∧ h 1 4 ≤ 20) (hp : 2 ≤ h 1 5 ∧ h 1 5 ≤ 10) (hN : ∀ i : Nat, (i : Int) < h 1 4 → 0 ≤ h 2 i ∧ h 2 i ≤ 999999999999999) : Ct 4 yX5_fillLots cX5_fillLots 5 none E [rv E 52, rv E wid, iv mo] h (fun v hx => v = none ∧ (∀ c : Nat, (c : Int) ≤ mo → ∀ r : Int, 0 ≤ r ∧ r < h 1 5 → cOk (h 2) (h wid) (h 1 5) (h 1 4).toNat c r (hx (54 + c) r.toNat) (hx (76 + c) r.toNat)) ∧ (∀ a b, ¬ (54 ≤ a ∧ a < 75) → ¬ (76 ≤ a ∧ a < 97) → hx a b = h a b)) := by
  refine ct_intro (by decide) (Nat.le_of_ble_eq_true rfl) (fun G C => ?_)
  show Wp G E 5 (fun v hx => v = none ∧ (∀ c : Nat, (c : Int) ≤ mo → ∀ r : Int, 0 ≤ r ∧ r < h 1 5 → cOk (h 2) (h wid) (h 1 5) (h 1 4).toNat c r (hx (54 + c) r.toNat) (hx (76 + c) r.toNat)) ∧ (∀ a b, ¬ (54 ≤ a ∧ a < 75) → ¬ (76 ≤ a ∧ a < 97) → hx a b = h a b)) 0 [(0, rv E 52), (1, rv E wid), (2, iv mo)] [] h
  refine wp_iconst (v := 0) C dX5_fillLots_0 rfl ?_
  refine wp_istore_n (ls' := [(0, rv E 52), (1, rv E wid), (2, iv mo), (3, iv 0)]) [1, 2, 3, 0] C dX5_fillLots_1 rfl (by decide) rfl ?_
  have q20 : ∀ n9 : Nat, ∀ (x3 : Int) (hx : Hp), (0 ≤ x3 ∧ x3 ≤ mo + 1) → (∀ c : Nat, (c : Int) < x3 → ∀ r : Nat, r < 10 → hx (54 + c) r = -1) → (∀ a b, ¬ (54 ≤ a ∧ a < 75) → ¬ (76 ≤ a ∧ a < 97) → hx a b = h a b) → (mo + 1 - x3).toNat < n9 → Wp G E 5 (fun v hx => v = none ∧ (∀ c : Nat, (c : Int) ≤ mo → ∀ r : Int, 0 ≤ r ∧ r < h 1 5 → cOk (h 2) (h wid) (h 1 5) (h 1 4).toNat c r (hx (54 + c) r.toNat) (hx (76 + c) r.toNat)) ∧ (∀ a b, ¬ (54 ≤ a ∧ a < 75) → ¬ (76 ≤ a ∧ a < 97) → hx a b = h a b)) 2 [(0, rv E 52), (1, rv E wid), (2, iv mo), (3, iv x3)] [] hx := by
    intro n9
    induction n9 with
    | zero => intro x3 hx hi ha hf hm9; exact absurd hm9 (Nat.not_lt_zero _)
    | succ n9 ih9 =>
      intro x3 hx hi ha hf hm9
      have ih9_2 := ih9
      refine wp_iload_n 3 C dX5_fillLots_2 rfl rfl ?_
      refine wp_iload_n 2 C dX5_fillLots_3 rfl rfl ?_
      refine wp_icmp_gt (tgt := 23) (by omega) (by omega) C dX5_fillLots_4 (by decide) (fun c_4 => ?_) (fun c_4 => ?_)
      · skip
        refine wp_aloadR_n 0 C dX5_fillLots_23 rfl rfl ?_
        refine wp_getR flX5_11 sh_52 rfl C dX5_fillLots_24 ?_
        refine wp_iconst (v := 0) C dX5_fillLots_27 rfl ?_
        refine wp_aald sh_53 (Or.inl ⟨rfl, rfl, rfl⟩) (by omega) C dX5_fillLots_28 ?_
        refine wp_iconst (v := 0) C dX5_fillLots_29 rfl ?_
        refine wp_iconst (v := 0) C dX5_fillLots_30 rfl ?_
        refine wp_iast (shr_54 (by omega)) (by omega) C dX5_fillLots_31 ?_
        obtain ⟨H1, e_H1⟩ : ∃ z : Hp, z = upd2 hx (54 + 0) 0 0 := ⟨_, rfl⟩
        refine wp_heq e_H1 ?_
        refine wp_aloadR_n 0 C dX5_fillLots_32 rfl rfl ?_
        refine wp_getR flX5_18 sh_52 rfl C dX5_fillLots_33 ?_
        refine wp_iconst (v := 0) C dX5_fillLots_36 rfl ?_
        refine wp_aald sh_75 (Or.inr ⟨rfl, rfl, rfl⟩) (by omega) C dX5_fillLots_37 ?_
        refine wp_iconst (v := 0) C dX5_fillLots_38 rfl ?_
        refine wp_lconst (v := 0) C dX5_fillLots_39 rfl ?_
        refine wp_last (shr_76 (by omega)) (by omega) C dX5_fillLots_40 ?_
        obtain ⟨H2, e_H2⟩ : ∃ z : Hp, z = upd2 H1 (76 + 0) 0 0 := ⟨_, rfl⟩
        refine wp_heq e_H2 ?_
        refine wp_iconst (v := 0) C dX5_fillLots_41 rfl ?_
        refine wp_istore_n (ls' := [(0, rv E 52), (1, rv E wid), (2, iv mo), (3, iv 0)]) [1, 2, 3, 0] C dX5_fillLots_42 rfl (by decide) rfl ?_
        have q430 : ∀ n9 : Nat, ∀ (x3 : Int) (hx : Hp), (0 ≤ x3 ∧ x3 ≤ h 1 4) → (∀ c : Nat, (c : Int) ≤ mo → ∀ r : Int, 0 ≤ r ∧ r < h 1 5 → cOk (h 2) (h wid) (h 1 5) x3.toNat c r (hx (54 + c) r.toNat) (hx (76 + c) r.toNat)) → (∀ a b, ¬ (54 ≤ a ∧ a < 75) → ¬ (76 ≤ a ∧ a < 97) → hx a b = h a b) → (h 1 4 - x3).toNat < n9 → Wp G E 5 (fun v hx => v = none ∧ (∀ c : Nat, (c : Int) ≤ mo → ∀ r : Int, 0 ≤ r ∧ r < h 1 5 → cOk (h 2) (h wid) (h 1 5) (h 1 4).toNat c r (hx (54 + c) r.toNat) (hx (76 + c) r.toNat)) ∧ (∀ a b, ¬ (54 ≤ a ∧ a < 75) → ¬ (76 ≤ a ∧ a < 97) → hx a b = h a b)) 43 [(0, rv E 52), (1, rv E wid), (2, iv mo), (3, iv x3)] [] hx := by
          intro n9
          induction n9 with
          | zero => intro x3 hx hi hw hf hm9; exact absurd hm9 (Nat.not_lt_zero _)
          | succ n9 ih9 =>
            intro x3 hx hi hw hf hm9
            have ih9_43 := ih9
            have s1 : hx 1 4 = h 1 4 := hf 1 4 (by omega) (by omega)
            have s2 : hx 1 5 = h 1 5 := hf 1 5 (by omega) (by omega)
            refine wp_iload_n 3 C dX5_fillLots_43 rfl rfl ?_
            refine wp_aloadR_n 0 C dX5_fillLots_44 rfl rfl ?_
            refine wp_getR flX5_21 sh_52 rfl C dX5_fillLots_45 ?_
            refine wp_getI flX5_37 sh_1 rfl C dX5_fillLots_48 ?_
            refine wp_icmp_ge (tgt := 91) (by omega) (by omega) C dX5_fillLots_51 (by decide) (fun c_51 => ?_) (fun c_51 => ?_)
            · skip
              refine wp_vret C dX5_fillLots_91 ?_
              exact ⟨rfl, fun c hc r hr => by rw [← show x3 = h 1 4 by omega]; exact hw c hc r hr, hf⟩
            · skip
              refine wp_iload_n 2 C dX5_fillLots_54 rfl rfl ?_
              refine wp_iload_n 3 C dX5_fillLots_55 rfl rfl ?_
              refine wp_iconst (v := 1) C dX5_fillLots_56 rfl ?_
              refine wp_iadd C dX5_fillLots_57 ?_
              refine wp_min (by omega) (by omega) (mT (i := 663) (by decide +kernel) rfl) (mT (i := 458) (by decide +kernel) rfl) (mT (i := 19) (by decide +kernel) rfl) (mT (i := 459) (by decide +kernel) rfl) (Nat.le_of_ble_eq_true rfl) (by decide) C dX5_fillLots_58 ?_
              refine wp_nm (fun x4s e_x4s => ?_)
              refine wp_istore (ls' := [(0, rv E 52), (1, rv E wid), (2, iv mo), (3, iv x3), (4, iv x4s)]) [1, 2, 3, 4, 0] C dX5_fillLots_61 (by decide) rfl ?_
              have q630 : ∀ n9 : Nat, ∀ (x4 : Int) (hx : Hp), (0 ≤ x4 ∧ x4 ≤ mo ∧ x4 ≤ x3 + 1) → (∀ c : Nat, (c : Int) ≤ mo → ∀ r : Int, 0 ≤ r ∧ r < h 1 5 → cOk (h 2) (h wid) (h 1 5) (if x4 < (c : Int) then x3.toNat + 1 else x3.toNat) c r (hx (54 + c) r.toNat) (hx (76 + c) r.toNat)) → (∀ a b, ¬ (54 ≤ a ∧ a < 75) → ¬ (76 ≤ a ∧ a < 97) → hx a b = h a b) → x4.toNat < n9 → Wp G E 5 (fun v hx => v = none ∧ (∀ c : Nat, (c : Int) ≤ mo → ∀ r : Int, 0 ≤ r ∧ r < h 1 5 → cOk (h 2) (h wid) (h 1 5) (h 1 4).toNat c r (hx (54 + c) r.toNat) (hx (76 + c) r.toNat)) ∧ (∀ a b, ¬ (54 ≤ a ∧ a < 75) → ¬ (76 ≤ a ∧ a < 97) → hx a b = h a b)) 63 [(0, rv E 52), (1, rv E wid), (2, iv mo), (3, iv x3), (4, iv x4)] [] hx := by
                intro n9
                induction n9 with
                | zero => intro x4 hx hi4 hu hf hm9; exact absurd hm9 (Nat.not_lt_zero _)
                | succ n9 ih9 =>
                  intro x4 hx hi4 hu hf hm9
                  have ih9_63 := ih9
                  have s1 : hx 1 4 = h 1 4 := hf 1 4 (by omega) (by omega)
                  have s2 : hx 1 5 = h 1 5 := hf 1 5 (by omega) (by omega)
                  have f2 : hx 2 = h 2 := funext fun b => hf 2 b (by omega) (by omega)
                  have fw : hx wid = h wid := funext fun b => hf wid b (by omega) (by omega)
                  refine wp_iload 4 C dX5_fillLots_63 rfl ?_
                  refine wp_iconst (v := 1) C dX5_fillLots_65 rfl ?_
                  refine wp_icmp_lt (tgt := 85) (by omega) (by omega) C dX5_fillLots_66 (by decide) (fun c_66 => ?_) (fun c_66 => ?_)
                  · skip
                    obtain ⟨y3, e_y3⟩ : ∃ z : Int, z = x3 + (1) := ⟨_, rfl⟩
                    refine wp_iinc (j := 3) (y := y3) (ls' := [(0, rv E 52), (1, rv E wid), (2, iv mo), (3, iv y3), (4, iv x4)]) [1, 2, 3, 0, 4] C dX5_fillLots_85 rfl e_y3 (by decide) rfl ?_
                    refine wp_goto (tgt := 43) C dX5_fillLots_88 (by decide) ?_
                    refine wp_loc [0, 1, 2, 3] rfl ?_
                    exact ih9_43 y3 hx (by omega) (fun c hc r hr => by rw [e_y3, show (x3 + 1).toNat = x3.toNat + 1 by omega]; by_cases q : x4 < (c : Int); have z := hu c hc r hr; rw [if_pos q] at z; exact z; have z := hu c hc r hr; rw [if_neg q] at z; exact cOk_skip hp hr z (Or.inl (by omega))) (hf) (by omega)
                  · skip
                    refine wp_aloadR_n 0 C dX5_fillLots_69 rfl rfl ?_
                    refine wp_iload 4 C dX5_fillLots_70 rfl ?_
                    refine wp_iload_n 3 C dX5_fillLots_72 rfl rfl ?_
                    refine wp_aloadR_n 1 C dX5_fillLots_73 rfl rfl ?_
                    refine wp_iload_n 3 C dX5_fillLots_74 rfl rfl ?_
                    refine wp_lald hrow (by omega) C dX5_fillLots_75 ?_
                    refine wp_topl (show _ = h wid x3.toNat by rw [fw]) ?_
                    refine wp_callV (rest := []) (c_extend E hx x4 x3 (h wid x3.toNat) (h wid) (by rw [s1]; exact hwb) (by omega) (by omega) rfl (by omega) (by omega) (by rw [s1, f2]; exact hN) (by rw [f2, s2]; intro r hr; have z := hu (x4.toNat - 1) (by omega) r hr; rw [if_neg (by omega)] at z; exact z) (by rw [f2, s2]; intro r hr; have z := hu x4.toNat (by omega) r hr; rw [if_neg (by omega)] at z; exact z)) svX5_49 sh_52 (by decide) rfl rfl (Nat.le_of_ble_eq_true rfl) C dX5_fillLots_76 (fun r0 hy pf => ?_)
                    obtain ⟨rfl, hcy, hfy2⟩ := pf
                    rw [f2, s2] at hcy
                    obtain ⟨y4, e_y4⟩ : ∃ z : Int, z = x4 + (-1) := ⟨_, rfl⟩
                    refine wp_iinc (j := 4) (y := y4) (ls' := [(0, rv E 52), (1, rv E wid), (2, iv mo), (3, iv x3), (4, iv y4)]) [1, 2, 3, 4, 0] C dX5_fillLots_79 rfl e_y4 (by decide) rfl ?_
                    refine wp_goto (tgt := 63) C dX5_fillLots_82 (by decide) ?_
                    exact ih9_63 y4 hy (by omega) (fun c hc r hr => by by_cases q : (c : Int) = x4; rw [if_pos (by omega), show c = x4.toNat by omega]; exact hcy r hr; have z := hu c hc r hr; rw [hfy2 (54 + c) _ (by omega) (by omega), hfy2 (76 + c) _ (by omega) (by omega)]; by_cases q2 : x4 < (c : Int); rw [if_pos (by omega)]; rw [if_pos q2] at z; exact z; rw [if_neg (by omega)]; rw [if_neg q2] at z; exact z) (fun a b h1 h2 => (hfy2 a b (by omega) (by omega)).trans (hf a b h1 h2)) (by omega)
              have q63 : ∀ (x4 : Int) (hx : Hp), (0 ≤ x4 ∧ x4 ≤ mo ∧ x4 ≤ x3 + 1) → (∀ c : Nat, (c : Int) ≤ mo → ∀ r : Int, 0 ≤ r ∧ r < h 1 5 → cOk (h 2) (h wid) (h 1 5) (if x4 < (c : Int) then x3.toNat + 1 else x3.toNat) c r (hx (54 + c) r.toNat) (hx (76 + c) r.toNat)) → (∀ a b, ¬ (54 ≤ a ∧ a < 75) → ¬ (76 ≤ a ∧ a < 97) → hx a b = h a b) → Wp G E 5 (fun v hx => v = none ∧ (∀ c : Nat, (c : Int) ≤ mo → ∀ r : Int, 0 ≤ r ∧ r < h 1 5 → cOk (h 2) (h wid) (h 1 5) (h 1 4).toNat c r (hx (54 + c) r.toNat) (hx (76 + c) r.toNat)) ∧ (∀ a b, ¬ (54 ≤ a ∧ a < 75) → ¬ (76 ≤ a ∧ a < 97) → hx a b = h a b)) 63 [(0, rv E 52), (1, rv E wid), (2, iv mo), (3, iv x3), (4, iv x4)] [] hx := fun x4 hx hi4 hu hf => q630 _ x4 hx hi4 hu hf (Nat.lt_succ_self _)
              exact q63 x4s hx (by omega) (fun c hc r hr => by by_cases q : x4s < (c : Int); rw [if_pos q]; exact cOk_skip hp hr (hw c hc r hr) (Or.inr (fun l hl => by have := vl_few hl; omega)); rw [if_neg q]; exact hw c hc r hr) (hf)
        have q43 : ∀ (x3 : Int) (hx : Hp), (0 ≤ x3 ∧ x3 ≤ h 1 4) → (∀ c : Nat, (c : Int) ≤ mo → ∀ r : Int, 0 ≤ r ∧ r < h 1 5 → cOk (h 2) (h wid) (h 1 5) x3.toNat c r (hx (54 + c) r.toNat) (hx (76 + c) r.toNat)) → (∀ a b, ¬ (54 ≤ a ∧ a < 75) → ¬ (76 ≤ a ∧ a < 97) → hx a b = h a b) → Wp G E 5 (fun v hx => v = none ∧ (∀ c : Nat, (c : Int) ≤ mo → ∀ r : Int, 0 ≤ r ∧ r < h 1 5 → cOk (h 2) (h wid) (h 1 5) (h 1 4).toNat c r (hx (54 + c) r.toNat) (hx (76 + c) r.toNat)) ∧ (∀ a b, ¬ (54 ≤ a ∧ a < 75) → ¬ (76 ≤ a ∧ a < 97) → hx a b = h a b)) 43 [(0, rv E 52), (1, rv E wid), (2, iv mo), (3, iv x3)] [] hx := fun x3 hx hi hw hf => q430 _ x3 hx hi hw hf (Nat.lt_succ_self _)
        exact q43 0 H2 (by omega) (fun c hc r hr => if q : c = 0 ∧ r = 0 then by rw [q.1, q.2, e_H2, e_H1]; exact cOk_00 hp.1 else by have e9 : H2 (54 + c) r.toNat = -1 := (by rw [e_H2, e_H1]; unfold upd2; rw [if_neg (fun z => by omega), if_neg (fun z => q (by omega))]; exact ha c (by omega) r.toNat (by omega)); rw [e9]; exact cOk_0 hp.1 q) (fun a b h1 h2 => by rw [e_H2, e_H1]; unfold upd2; rw [if_neg (fun z => h2 (by omega)), if_neg (fun z => h1 (by omega))]; exact hf a b h1 h2)
      · skip
        refine wp_aloadR_n 0 C dX5_fillLots_7 rfl rfl ?_
        refine wp_getR flX5_11 sh_52 rfl C dX5_fillLots_8 ?_
        refine wp_iload_n 3 C dX5_fillLots_11 rfl rfl ?_
        refine wp_aald sh_53 (Or.inl ⟨rfl, rfl, rfl⟩) (by omega) C dX5_fillLots_12 ?_
        refine wp_iconst (v := (-1)) C dX5_fillLots_13 rfl ?_
        refine wp_callSu (rest := []) (c_fillI E hx (54 + x3.toNat) 10 (shr_54 (by omega)) (-1)) ssX5_31 (by decide) rfl rfl (Nat.le_of_ble_eq_true rfl) C dX5_fillLots_14 ?_
        show Wp G E 5 (fun v hx => v = none ∧ (∀ c : Nat, (c : Int) ≤ mo → ∀ r : Int, 0 ≤ r ∧ r < h 1 5 → cOk (h 2) (h wid) (h 1 5) (h 1 4).toNat c r (hx (54 + c) r.toNat) (hx (76 + c) r.toNat)) ∧ (∀ a b, ¬ (54 ≤ a ∧ a < 75) → ¬ (76 ≤ a ∧ a < 97) → hx a b = h a b)) 17 [(0, rv E 52), (1, rv E wid), (2, iv mo), (3, iv x3)] [] (fillH hx (54 + x3.toNat) 0 10 (-1))
        obtain ⟨H3, e_H3⟩ : ∃ z : Hp, z = fillH hx (54 + x3.toNat) 0 10 (-1) := ⟨_, rfl⟩
        refine wp_heq e_H3 ?_
        obtain ⟨z3, e_z3⟩ : ∃ z : Int, z = x3 + (1) := ⟨_, rfl⟩
        refine wp_iinc (j := 3) (y := z3) (ls' := [(0, rv E 52), (1, rv E wid), (2, iv mo), (3, iv z3)]) [1, 2, 3, 0] C dX5_fillLots_17 rfl e_z3 (by decide) rfl ?_
        refine wp_goto (tgt := 2) C dX5_fillLots_20 (by decide) ?_
        exact ih9_2 z3 H3 (by omega) (fun c hc r hr => if q : 54 + c = 54 + x3.toNat then by rw [e_H3]; unfold fillH; rw [if_pos ⟨q, by omega, by omega⟩] else by rw [e_H3]; unfold fillH; rw [if_neg (fun z => q z.1)]; exact ha c (by omega) r hr) (fun a b h1 h2 => by rw [e_H3]; unfold fillH; rw [if_neg (fun z => h1 (by omega))]; exact hf a b h1 h2) (by omega)
  have q2 : ∀ (x3 : Int) (hx : Hp), (0 ≤ x3 ∧ x3 ≤ mo + 1) → (∀ c : Nat, (c : Int) < x3 → ∀ r : Nat, r < 10 → hx (54 + c) r = -1) → (∀ a b, ¬ (54 ≤ a ∧ a < 75) → ¬ (76 ≤ a ∧ a < 97) → hx a b = h a b) → Wp G E 5 (fun v hx => v = none ∧ (∀ c : Nat, (c : Int) ≤ mo → ∀ r : Int, 0 ≤ r ∧ r < h 1 5 → cOk (h 2) (h wid) (h 1 5) (h 1 4).toNat c r (hx (54 + c) r.toNat) (hx (76 + c) r.toNat)) ∧ (∀ a b, ¬ (54 ≤ a ∧ a < 75) → ¬ (76 ≤ a ∧ a < 97) → hx a b = h a b)) 2 [(0, rv E 52), (1, rv E wid), (2, iv mo), (3, iv x3)] [] hx := fun x3 hx hi ha hf => q20 _ x3 hx hi ha hf (Nat.lt_succ_self _)
  exact q2 0 h (by omega) (fun c hc => absurd hc (by omega)) (fun a b _ _ => rfl)

set_option maxRecDepth 100000 in
set_option maxHeartbeats 4000000 in
theorem c_answer (E : En) (h : Hp) (k w : Int) (wid : Nat) (hwid : wid = 2 ∨ wid = 5) (hrow : shL[wid]? = some (2, 20, 0, [])) (hwb : ∀ j : Nat, (j : Int) < h 1 4 → 0 ≤ h wid j ∧ h wid j ≤ 999999999999999) (hk : 1 ≤ k ∧ k ≤ 20) (hw : 0 ≤ w ∧ w ≤ 1) (hz : 0 ≤ h 1 4 ∧ h 1 4 ≤ 20) (hp : 2 ≤ h 1 5 ∧ h 1 5 ≤ 10) (hN : ∀ i : Nat, (i : Int) < h 1 4 → 0 ≤ h 2 i ∧ h 2 i ≤ 999999999999999) : Ct 5 yX5_answer cX5_answer 4 (some .long) E [rv E 52, rv E wid, iv k, iv w] h (fun v hx => (∃ a, v = some (jv a) ∧ (-1 ≤ a ∧ a ≤ 20000000000000000) ∧ ligP (h 2) (h wid) (h 1 5) (h 1 4).toNat k.toNat w a) ∧ (∀ a b, ¬ (54 ≤ a ∧ a < 75) → ¬ (76 ≤ a ∧ a < 97) → hx a b = h a b)) := by
  refine ct_intro (by decide) (Nat.le_of_ble_eq_true rfl) (fun G C => ?_)
  show Wp G E 4 (fun v hx => (∃ a, v = some (jv a) ∧ (-1 ≤ a ∧ a ≤ 20000000000000000) ∧ ligP (h 2) (h wid) (h 1 5) (h 1 4).toNat k.toNat w a) ∧ (∀ a b, ¬ (54 ≤ a ∧ a < 75) → ¬ (76 ≤ a ∧ a < 97) → hx a b = h a b)) 0 [(0, rv E 52), (1, rv E wid), (2, iv k), (3, iv w)] [] h
  refine wp_aloadR_n 0 C dX5_answer_0 rfl rfl ?_
  refine wp_aloadR_n 1 C dX5_answer_1 rfl rfl ?_
  refine wp_iload_n 2 C dX5_answer_2 rfl rfl ?_
  refine wp_callV (rest := []) (c_lFill E h k wid hwid hrow hwb hk (by omega) (by omega) hN) svX5_25 sh_52 (by decide) rfl rfl (Nat.le_of_ble_eq_true rfl) C dX5_answer_3 (fun r0 hx pf => ?_)
  obtain ⟨rfl, hall, hf⟩ := pf
  have hc0 := hall k.toNat (by omega) 0 (by omega)
  have hb0 := cOk_bd (by omega) (fun j hj => hwb j (by omega)) hc0
  change cOk _ _ _ _ _ _ (hx (54 + k.toNat) 0) (hx (76 + k.toNat) 0) at hc0
  change hx (54 + k.toNat) 0 = -1 ∨ (0 ≤ hx (54 + k.toNat) 0 ∧ hx (54 + k.toNat) 0 ≤ 1048575 ∧ 0 ≤ hx (76 + k.toNat) 0 ∧ hx (76 + k.toNat) 0 ≤ 20000000000000000) at hb0
  refine wp_aloadR_n 0 C dX5_answer_6 rfl rfl ?_
  refine wp_getR flX5_11 sh_52 rfl C dX5_answer_7 ?_
  refine wp_iload_n 2 C dX5_answer_10 rfl rfl ?_
  refine wp_aald sh_53 (Or.inl ⟨rfl, rfl, rfl⟩) (by omega) C dX5_answer_11 ?_
  refine wp_iconst (v := 0) C dX5_answer_12 rfl ?_
  refine wp_iald (shr_54 (by omega)) (by omega) C dX5_answer_13 ?_
  refine wp_top (show _ = hx (54 + k.toNat) 0 from rfl) ?_
  refine wp_iconst (v := (-1)) C dX5_answer_14 rfl ?_
  refine wp_icmp_ne (tgt := 22) (by omega) (by omega) C dX5_answer_15 (by decide) (fun c_15 => ?_) (fun c_15 => ?_)
  · skip
    refine wp_iload_n 3 C dX5_answer_22 rfl rfl ?_
    refine wp_if_ne (tgt := 38) (by omega) C dX5_answer_23 (by decide) (fun c_23 => ?_) (fun c_23 => ?_)
    · skip
      refine wp_aloadR_n 0 C dX5_answer_38 rfl rfl ?_
      refine wp_getR flX5_18 sh_52 rfl C dX5_answer_39 ?_
      refine wp_iload_n 2 C dX5_answer_42 rfl rfl ?_
      refine wp_aald sh_75 (Or.inr ⟨rfl, rfl, rfl⟩) (by omega) C dX5_answer_43 ?_
      refine wp_iconst (v := 0) C dX5_answer_44 rfl ?_
      refine wp_lald (shr_76 (by omega)) (by omega) C dX5_answer_45 ?_
      refine wp_topl (show _ = hx (76 + k.toNat) 0 from rfl) ?_
      refine wp_lret C dX5_answer_46 ?_
      exact ⟨⟨_, rfl, by omega, Or.inr (hc0.elim (fun z => absurd z.1 c_15) (fun ⟨l, z1, z2, z3⟩ => ⟨l, z3, by rw [if_neg (by omega)]; exact z2⟩))⟩, hf⟩
    · skip
      refine wp_aloadR_n 0 C dX5_answer_26 rfl rfl ?_
      refine wp_getR flX5_11 sh_52 rfl C dX5_answer_27 ?_
      refine wp_iload_n 2 C dX5_answer_30 rfl rfl ?_
      refine wp_aald sh_53 (Or.inl ⟨rfl, rfl, rfl⟩) (by omega) C dX5_answer_31 ?_
      refine wp_iconst (v := 0) C dX5_answer_32 rfl ?_
      refine wp_iald (shr_54 (by omega)) (by omega) C dX5_answer_33 ?_
      refine wp_top (show _ = hx (54 + k.toNat) 0 from rfl) ?_
      refine wp_i2l (by omega) C dX5_answer_34 ?_
      refine wp_goto (tgt := 46) C dX5_answer_35 (by decide) ?_
      refine wp_lret C dX5_answer_46 ?_
      exact ⟨⟨_, rfl, by omega, Or.inr (hc0.elim (fun z => absurd z.1 c_15) (fun ⟨l, z1, z2, z3⟩ => ⟨l, z3, by rw [if_pos (by omega)]; exact z1⟩))⟩, hf⟩
  · skip
    refine wp_ldc2 (v := (-1)) C (mT (i := 677) (by decide +kernel) rfl) dX5_answer_18 ?_
    refine wp_lret C dX5_answer_21 ?_
    exact ⟨⟨-1, rfl, by omega, Or.inl ⟨rfl, hc0.elim (fun z => z.2) (fun ⟨l, z, _⟩ => absurd c_15 (by omega))⟩⟩, hf⟩

set_option maxRecDepth 100000 in
set_option maxHeartbeats 4000000 in
theorem x_light (E : En) (h : Hp) (k w : Int) (hk : -2147483648 ≤ k ∧ k ≤ 2147483647) (hw : -2147483648 ≤ w ∧ w ≤ 2147483647) (hz : 0 ≤ h 1 4 ∧ h 1 4 ≤ 20) (hp : 2 ≤ h 1 5 ∧ h 1 5 ≤ 10) (hN : ∀ i : Nat, (i : Int) < h 1 4 → 0 ≤ h 2 i ∧ h 2 i ≤ 999999999999999) : Ct 6 yX11_light cX11_light 3 (some .long) E [rv E 0, iv k, iv w] h (fun v hx => (∃ a, v = some (jv a) ∧ (if ¬ ((1 ≤ k ∧ k ≤ 20) ∧ (0 ≤ w ∧ w ≤ 1)) then a = -3 else ligP (h 2) (h 2) (h 1 5) (h 1 4).toNat k.toNat w a)) ∧ (∀ a b, ¬ (54 ≤ a ∧ a < 75) → ¬ (76 ≤ a ∧ a < 97) → hx a b = h a b)) := by
  refine ct_intro (by decide) (Nat.le_of_ble_eq_true rfl) (fun G C => ?_)
  show Wp G E 3 (fun v hx => (∃ a, v = some (jv a) ∧ (if ¬ ((1 ≤ k ∧ k ≤ 20) ∧ (0 ≤ w ∧ w ≤ 1)) then a = -3 else ligP (h 2) (h 2) (h 1 5) (h 1 4).toNat k.toNat w a)) ∧ (∀ a b, ¬ (54 ≤ a ∧ a < 75) → ¬ (76 ≤ a ∧ a < 97) → hx a b = h a b)) 0 [(0, rv E 0), (1, iv k), (2, iv w)] [] h
  refine wp_iload_n 1 C dX11_light_0 rfl rfl ?_
  refine wp_callSp (rest := []) (c_isSize E h k (by omega)) ssX11_167 (by decide) rfl rfl (Nat.le_of_ble_eq_true rfl) C dX11_light_1 ?_
  refine wp_ifb_eq (tgt := 16) C dX11_light_4 (by decide) (fun c_4 => ?_) (fun c_4 => ?_)
  · skip
    refine wp_ldc2 (v := (-3)) C (mT (i := 544) (by decide +kernel) rfl) dX11_light_16 ?_
    refine wp_lret C dX11_light_19 ?_
    exact ⟨⟨-3, rfl, by rw [if_pos (fun z => c_4 z.1)]⟩, fun _ _ _ _ => rfl⟩
  · skip
    refine wp_iload_n 2 C dX11_light_7 rfl rfl ?_
    refine wp_iconst (v := 0) C dX11_light_8 rfl ?_
    refine wp_iconst (v := 1) C dX11_light_9 rfl ?_
    refine wp_callSp (rest := []) (c_within E h w 0 1 (by omega) (by omega) (by omega)) ssX11_92 (by decide) rfl rfl (Nat.le_of_ble_eq_true rfl) C dX11_light_10 ?_
    refine wp_ifb_ne (tgt := 20) C dX11_light_13 (by decide) (fun c_13 => ?_) (fun c_13 => ?_)
    · skip
      refine wp_aloadR_n 0 C dX11_light_20 rfl rfl ?_
      refine wp_getR flX11_60 sh_0 rfl C dX11_light_21 ?_
      refine wp_aloadR_n 0 C dX11_light_24 rfl rfl ?_
      refine wp_getR flX11_10 sh_0 rfl C dX11_light_25 ?_
      refine wp_getR flX11_131 sh_1 rfl C dX11_light_28 ?_
      refine wp_iload_n 1 C dX11_light_31 rfl rfl ?_
      refine wp_iload_n 2 C dX11_light_32 rfl rfl ?_
      refine wp_callV (rest := []) (c_answer E h k w 2 (by decide) sh_2 hN (by omega) (by omega) (by omega) (by omega) hN) svX11_186 sh_52 (by decide) rfl rfl (Nat.le_of_ble_eq_true rfl) C dX11_light_33 (fun r0 hx pf => ?_)
      obtain ⟨⟨a, rfl, hab, hlp⟩, hf⟩ := pf
      refine wp_lret C dX11_light_36 ?_
      exact ⟨⟨a, rfl, by rw [if_neg (not_not_intro ⟨c_4, c_13⟩)]; exact hlp⟩, hf⟩
    · skip
      refine wp_ldc2 (v := (-3)) C (mT (i := 544) (by decide +kernel) rfl) dX11_light_16 ?_
      refine wp_lret C dX11_light_19 ?_
      exact ⟨⟨-3, rfl, by rw [if_pos (fun z => c_13 z.2)]⟩, fun _ _ _ _ => rfl⟩

set_option maxRecDepth 100000 in
set_option maxHeartbeats 4000000 in
theorem x_cheap (E : En) (h : Hp) (k w : Int) (hk : -2147483648 ≤ k ∧ k ≤ 2147483647) (hw : -2147483648 ≤ w ∧ w ≤ 2147483647) (hz : 0 ≤ h 1 4 ∧ h 1 4 ≤ 20) (hp : 2 ≤ h 1 5 ∧ h 1 5 ≤ 10) (hN : ∀ i : Nat, (i : Int) < h 1 4 → 0 ≤ h 2 i ∧ h 2 i ≤ 999999999999999) (hK : ∀ i : Nat, (i : Int) < h 1 4 → 0 ≤ h 5 i ∧ h 5 i ≤ 999999999999999) : Ct 6 yX11_cheap cX11_cheap 3 (some .int) E [rv E 0, iv k, iv w] h (fun v hx => (∃ a, v = some (iv a) ∧ (if ¬ ((1 ≤ k ∧ k ≤ 20) ∧ (0 ≤ w ∧ w ≤ 1)) then a = -3 else ligP (h 2) (h 5) (h 1 5) (h 1 4).toNat k.toNat w a)) ∧ (∀ a b, ¬ (54 ≤ a ∧ a < 75) → ¬ (76 ≤ a ∧ a < 97) → hx a b = h a b)) := by
  refine ct_intro (by decide) (Nat.le_of_ble_eq_true rfl) (fun G C => ?_)
  show Wp G E 3 (fun v hx => (∃ a, v = some (iv a) ∧ (if ¬ ((1 ≤ k ∧ k ≤ 20) ∧ (0 ≤ w ∧ w ≤ 1)) then a = -3 else ligP (h 2) (h 5) (h 1 5) (h 1 4).toNat k.toNat w a)) ∧ (∀ a b, ¬ (54 ≤ a ∧ a < 75) → ¬ (76 ≤ a ∧ a < 97) → hx a b = h a b)) 0 [(0, rv E 0), (1, iv k), (2, iv w)] [] h
  refine wp_iload_n 1 C dX11_cheap_0 rfl rfl ?_
  refine wp_callSp (rest := []) (c_isSize E h k (by omega)) ssX11_167 (by decide) rfl rfl (Nat.le_of_ble_eq_true rfl) C dX11_cheap_1 ?_
  refine wp_ifb_eq (tgt := 16) C dX11_cheap_4 (by decide) (fun c_4 => ?_) (fun c_4 => ?_)
  · skip
    refine wp_bipush (v := (-3)) C dX11_cheap_16 rfl ?_
    refine wp_iret C dX11_cheap_18 ?_
    exact ⟨⟨-3, rfl, by rw [if_pos (fun z => c_4 z.1)]⟩, fun _ _ _ _ => rfl⟩
  · skip
    refine wp_iload_n 2 C dX11_cheap_7 rfl rfl ?_
    refine wp_iconst (v := 0) C dX11_cheap_8 rfl ?_
    refine wp_iconst (v := 1) C dX11_cheap_9 rfl ?_
    refine wp_callSp (rest := []) (c_within E h w 0 1 (by omega) (by omega) (by omega)) ssX11_92 (by decide) rfl rfl (Nat.le_of_ble_eq_true rfl) C dX11_cheap_10 ?_
    refine wp_ifb_ne (tgt := 19) C dX11_cheap_13 (by decide) (fun c_13 => ?_) (fun c_13 => ?_)
    · skip
      refine wp_aloadR_n 0 C dX11_cheap_19 rfl rfl ?_
      refine wp_getR flX11_60 sh_0 rfl C dX11_cheap_20 ?_
      refine wp_aloadR_n 0 C dX11_cheap_23 rfl rfl ?_
      refine wp_getR flX11_10 sh_0 rfl C dX11_cheap_24 ?_
      refine wp_getR flX11_141 sh_1 rfl C dX11_cheap_27 ?_
      refine wp_iload_n 1 C dX11_cheap_30 rfl rfl ?_
      refine wp_iload_n 2 C dX11_cheap_31 rfl rfl ?_
      refine wp_callV (rest := []) (c_answer E h k w 5 (by decide) sh_5 hK (by omega) (by omega) (by omega) (by omega) hN) svX11_186 sh_52 (by decide) rfl rfl (Nat.le_of_ble_eq_true rfl) C dX11_cheap_32 (fun r0 hx pf => ?_)
      obtain ⟨⟨a, rfl, hab, hlp⟩, hf⟩ := pf
      refine wp_l2i C dX11_cheap_35 ?_
      refine wp_iret C dX11_cheap_36 ?_
      exact ⟨⟨a, rfl, by rw [if_neg (not_not_intro ⟨c_4, c_13⟩)]; exact hlp⟩, hf⟩
    · skip
      refine wp_bipush (v := (-3)) C dX11_cheap_16 rfl ?_
      refine wp_iret C dX11_cheap_18 ?_
      exact ⟨⟨-3, rfl, by rw [if_pos (fun z => c_13 z.2)]⟩, fun _ _ _ _ => rfl⟩


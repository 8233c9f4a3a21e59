/-! ===== Whatever: handLast, hand, without; EvenTen: always, need, worst ===== -/
def wI (p : Int) (m k : Nat) (i : Int) (h : Hp) (V : Nat) : Prop := h 97 1 = p ∧ h 97 2 = (k : Int) ∧ h 97 3 = i ∧ SI (wkB p m k) i (h 97 4) (h 97 5) V ∧ (∀ x : Nat, (x : Int) < p → ∃ y : Nat, h 98 x = (y : Int) ∧ stB p k x y)
def frW (h hx : Hp) : Prop := ∀ a b, ¬ (a = 97 ∧ (b = 4 ∨ b = 5)) → hx a b = h a b
theorem wI_of {p i : Int} {m k V V' : Nat} {h hx : Hp} (I : wI p m k i h V) (f : frW h hx) (s : SI (wkB p m k) i (hx 97 4) (hx 97 5) V') : wI p m k i hx V' := by
  obtain ⟨i1, i2, i3, -, i5⟩ := I
  exact ⟨(f 97 1 (by omega)).trans i1, (f 97 2 (by omega)).trans i2, (f 97 3 (by omega)).trans i3, s, fun x hx9 => by obtain ⟨y, y1, y2⟩ := i5 x hx9; exact ⟨y, (f 98 x (by omega)).trans y1, y2⟩⟩
theorem dgT_r {v q : Nat} {p : Int} (hq : (q : Int) ≤ p) : ∀ y ∈ expd (dgT v) q, 0 ≤ y ∧ y < p := fun y hy => by have := expd_r _ q y hy; omega
/-- one more of a rest -/
theorem stepW {p : Int} {k c t q z y y0 : Nat} (hp : 2 ≤ p ∧ p ≤ 5) (hq : (q : Int) < p) (ht : t < 9) (hy : stB p k q y) (hy0 : stB p k 0 y0) (w : swP p k (expd (dgT ((c * 10 + t) * 10 ^ q)) p.toNat) z) : swP p k (expd (dgT ((c * 10 + (t + 1)) * 10 ^ q)) p.toNat) (womN p q z y y0) := by
  have h1 := womN_ok hp hq (dgT_r (by omega)) hy hy0 w
  rw [dgT_add ht]
  refine swP_perm (expd_inc (by omega)) (fun y hm => ?_) h1
  rcases List.mem_append.mp hm with z | z
  · exact dgT_r (p := p) (by omega) y z
  · have := List.mem_singleton.mp z; omega
theorem sumT {p : Int} {c q : Nat} (hq : (q : Int) < p) : ∀ t : Nat, t ≤ 9 → sN (dgT ((c * 10 + t) * 10 ^ q)) p.toNat = sN (dgT ((c * 10 + 0) * 10 ^ q)) p.toNat + t
  | 0, _ => rfl
  | t + 1, h => by rw [dgT_add (by omega), sN_inc, if_pos (by omega), sumT hq t (by omega)]; omega
theorem base0 {c q : Nat} : (c * 10 + 0) * 10 ^ q = c * 10 ^ (q + 1) := by rw [Nat.add_zero, Nat.pow_succ', Nat.mul_assoc]
theorem wk_last {p : Int} {m k c t left : Nat} (hp : 2 ≤ p) (ht : t ≤ 9) (hs : sN (dgT (c * 10)) p.toNat + left = m) : wkB p m k (c * 10 + t) = (decide (t = left) && !exL p (expd (dgT (c * 10 + t)) p.toNat) k 0) := by
  have h1 := sumT (p := p) (c := c) (q := 0) (by omega) t ht
  simp only [Nat.pow_zero, Nat.mul_one, Nat.add_zero] at h1
  unfold wkB
  rw [h1]
  congr 1
  by_cases q : t = left
  · rw [decide_eq_true q, decide_eq_true (by omega)]
  · rw [decide_eq_false q, decide_eq_false (by omega)]
def lastP (p : Int) (m k : Nat) (i left told zi : Int) (h : Hp) : Prop := wI p m k i h (told.toNat * 10) ∧ ¬ h 97 4 > i ∧ (0 ≤ left ∧ left ≤ 9) ∧ (0 ≤ told ∧ told ≤ 99999) ∧ (∃ z : Nat, zi = (z : Int) ∧ swP p k (expd (dgT (told.toNat * 10)) p.toNat) z) ∧ sN (dgT (told.toNat * 10)) p.toNat + left.toNat = m
def handP (p : Int) (m k : Nat) (i rest left told zi : Int) (h : Hp) : Prop := wI p m k i h (told.toNat * 10 ^ (rest.toNat + 1)) ∧ (0 ≤ rest ∧ rest < p) ∧ (0 ≤ left ∧ left ≤ 9) ∧ 0 ≤ told ∧ (told.toNat + 1) * 10 ^ (rest.toNat + 1) ≤ 100000 ∧ (∃ z : Nat, zi = (z : Int) ∧ swP p k (expd (dgT (told.toNat * 10 ^ (rest.toNat + 1))) p.toNat) z) ∧ sN (dgT (told.toNat * 10 ^ (rest.toNat + 1))) p.toNat + left.toNat = m
set_option maxRecDepth 100000 in
set_option maxHeartbeats 4000000 in
theorem c_handLast (E : En) (h : Hp) (p i : Int) (m k : Nat) (hp : 2 ≤ p ∧ p ≤ 5) (hi0 : 0 ≤ i ∧ i ≤ 2147483647) (hk9 : k ≤ 9) (left told zi : Int) (I : lastP p m k i left told zi h) : Ct 1 yX10_handLast cX10_handLast 8 none E [rv E 97, iv left, iv told, jv zi] h (fun v hx => v = none ∧ wI p m k i hx (told.toNat * 10 + 10) ∧ frW h hx) := by
  obtain ⟨I0, I1, I2, I3, ⟨z0, I4, I5⟩, I6⟩ := I
  obtain ⟨i1, i2, i3, i4, i5⟩ := id I0
  have hcl := cntP_le (P := wkB p m k) (told.toNat * 10)
  have hir : 0 ≤ h 97 4 ∧ h 97 4 ≤ 1000000 := by have := i4.2.1; have := i4.2.2.1; omega
  obtain ⟨y0, y1, y2⟩ := i5 0 (by omega)
  have hlow : ∀ v, told.toNat * 10 ≤ v → v < told.toNat * 10 + left.toNat → wkB p m k v = false := fun v h1 h2 => by
    have h3 := wk_last (p := p) (k := k) (c := told.toNat) (t := v - told.toNat * 10) hp.1 (by omega) I6
    rw [show told.toNat * 10 + (v - told.toNat * 10) = v by omega, decide_eq_false (by omega)] at h3
    exact h3
  have hhigh : ∀ v, told.toNat * 10 + left.toNat < v → v < told.toNat * 10 + 10 → wkB p m k v = false := fun v h1 h2 => by
    have h3 := wk_last (p := p) (k := k) (c := told.toNat) (t := v - told.toNat * 10) hp.1 (by omega) I6
    rw [show told.toNat * 10 + (v - told.toNat * 10) = v by omega, decide_eq_false (by omega)] at h3
    exact h3
  have hat := wk_last (p := p) (k := k) (c := told.toNat) (t := left.toNat) hp.1 (by omega) I6
  rw [decide_eq_true rfl, Bool.true_and] at hat
  have hS1 := SI_skip i4 (Nat.le_add_right _ _) hlow
  refine ct_intro (by decide) (Nat.le_of_ble_eq_true rfl) (fun G C => ?_)
  show Wp G E 8 (fun v hx => v = none ∧ wI p m k i hx (told.toNat * 10 + 10) ∧ frW h hx) 0 [(0, rv E 97), (1, iv left), (2, iv told), (3, jv zi)] [] h
  refine wp_lload_n 3 C dX10_handLast_0 rfl rfl ?_
  refine wp_lstore (ls' := [(0, rv E 97), (1, iv left), (2, iv told), (3, jv zi), (5, jv zi)]) [1, 2, 3, 4, 0] C dX10_handLast_1 (by decide) rfl ?_
  refine wp_iconst (v := 0) C dX10_handLast_3 rfl ?_
  refine wp_istore (ls' := [(0, rv E 97), (1, iv left), (2, iv told), (3, jv zi), (5, jv zi), (7, iv 0)]) [1, 2, 3, 4, 5, 0] C dX10_handLast_4 (by decide) rfl ?_
  have q60 : ∀ n9 : Nat, ∀ (x5 : Int) (x7 : Int), (0 ≤ x7 ∧ x7 ≤ left) → (∃ z : Nat, x5 = (z : Int) ∧ swP p k (expd (dgT ((told.toNat * 10 + x7.toNat) * 10 ^ 0)) p.toNat) z) → (left - x7).toNat < n9 → Wp G E 8 (fun v hx => v = none ∧ wI p m k i hx (told.toNat * 10 + 10) ∧ frW h hx) 6 [(0, rv E 97), (1, iv left), (2, iv told), (3, jv zi), (5, jv x5), (7, iv x7)] [] h := by
    intro n9
    induction n9 with
    | zero => intro x5 x7 hi7 hw hm9; exact absurd hm9 (Nat.not_lt_zero _)
    | succ n9 ih9 =>
      intro x5 x7 hi7 hw hm9
      have ih9_6 := ih9
      refine wp_iload 5 C dX10_handLast_6 rfl ?_
      refine wp_iload_n 1 C dX10_handLast_8 rfl rfl ?_
      refine wp_icmp_ge (tgt := 27) (by omega) (by omega) C dX10_handLast_9 (by decide) (fun c_9 => ?_) (fun c_9 => ?_)
      · skip
        obtain ⟨z, hz1, hz2⟩ := hw
        rw [show x7.toNat = left.toNat by omega, Nat.pow_zero, Nat.mul_one] at hz2
        refine wp_aloadR_n 0 C dX10_handLast_27 rfl rfl ?_
        refine wp_lload 4 C dX10_handLast_28 rfl ?_
        refine wp_callVp (rest := []) (c_wHas E h z k x5 (expd (dgT (told.toNat * 10 + left.toNat)) p.toNat) hz1 (by omega) i2 hk9 (by rw [i1]; exact hz2)) svX10_47 sh_97 (by decide) rfl rfl (Nat.le_of_ble_eq_true rfl) C dX10_handLast_30 ?_
        refine wp_top (show _ = bi (exL p (expd (dgT (told.toNat * 10 + left.toNat)) p.toNat) k 0 = true) by rw [i1]) ?_
        refine wp_ifb_eq (tgt := 37) C dX10_handLast_33 (by decide) (fun c_33 => ?_) (fun c_33 => ?_)
        · skip
          refine wp_aloadR_n 0 C dX10_handLast_37 rfl rfl ?_
          refine wp_getI flX10_25 sh_97 rfl C dX10_handLast_38 ?_
          refine wp_aloadR_n 0 C dX10_handLast_41 rfl rfl ?_
          refine wp_getI flX10_22 sh_97 rfl C dX10_handLast_42 ?_
          refine wp_icmp_ne (tgt := 58) (by omega) (by omega) C dX10_handLast_45 (by decide) (fun c_45 => ?_) (fun c_45 => ?_)
          · skip
            refine wp_aloadR_n 0 C dX10_handLast_58 rfl rfl ?_
            refine wp_dup rfl C dX10_handLast_59 ?_
            refine wp_getI flX10_25 sh_97 rfl C dX10_handLast_60 ?_
            refine wp_iconst (v := 1) C dX10_handLast_63 rfl ?_
            refine wp_iadd C dX10_handLast_64 ?_
            refine wp_putI fpX10_25 sh_97 rfl C dX10_handLast_65 ?_
            obtain ⟨H1, e_H1⟩ : ∃ z : Hp, z = upd2 h 97 4 ((h 97 4) + 1) := ⟨_, rfl⟩
            refine wp_heq e_H1 ?_
            refine wp_vret C dX10_handLast_68 ?_
            have e4 : H1 97 4 = h 97 4 + 1 := by rw [e_H1, upd2_s]
            have e5 : H1 97 5 = h 97 5 := by rw [e_H1]; unfold upd2; rw [if_neg (by decide)]
            have hone := SI_one hS1 I1 (by rw [hat, Bool.eq_false_iff.mpr c_33]; rfl)
            rw [if_neg (by omega)] at hone
            exact ⟨rfl, wI_of I0 (fun a b hab => by rw [e_H1]; unfold upd2; rw [if_neg (fun z => hab (by omega))]) (by rw [e4, e5]; exact SI_skip hone (by omega) (fun v h1 h2 => hhigh v h1 h2)), fun a b hab => by rw [e_H1]; unfold upd2; rw [if_neg (fun z => hab (by omega))]⟩
          · skip
            refine wp_aloadR_n 0 C dX10_handLast_48 rfl rfl ?_
            refine wp_iload_n 2 C dX10_handLast_49 rfl rfl ?_
            refine wp_bipush (v := 10) C dX10_handLast_50 rfl ?_
            refine wp_imul C dX10_handLast_52 ?_
            refine wp_iload_n 1 C dX10_handLast_53 rfl rfl ?_
            refine wp_iadd C dX10_handLast_54 ?_
            refine wp_putI fpX10_28 sh_97 rfl C dX10_handLast_55 ?_
            obtain ⟨H2, e_H2⟩ : ∃ z : Hp, z = upd2 h 97 5 ((told * 10) + left) := ⟨_, rfl⟩
            refine wp_heq e_H2 ?_
            refine wp_aloadR_n 0 C dX10_handLast_58 rfl rfl ?_
            refine wp_dup rfl C dX10_handLast_59 ?_
            refine wp_getI flX10_25 sh_97 rfl C dX10_handLast_60 ?_
            refine wp_top (rdu_nj e_H2 (by decide)) ?_
            refine wp_iconst (v := 1) C dX10_handLast_63 rfl ?_
            refine wp_iadd C dX10_handLast_64 ?_
            refine wp_putI fpX10_25 sh_97 rfl C dX10_handLast_65 ?_
            obtain ⟨H3, e_H3⟩ : ∃ z : Hp, z = upd2 H2 97 4 ((h 97 4) + 1) := ⟨_, rfl⟩
            refine wp_heq e_H3 ?_
            refine wp_vret C dX10_handLast_68 ?_
            have e4 : H3 97 4 = h 97 4 + 1 := by rw [e_H3, upd2_s]
            have e5 : H3 97 5 = ((told.toNat * 10 + left.toNat : Nat) : Int) := by rw [e_H3, e_H2]; unfold upd2; rw [if_neg (by decide), if_pos ⟨rfl, rfl⟩]; omega
            have hone := SI_one hS1 I1 (by rw [hat, Bool.eq_false_iff.mpr c_33]; rfl)
            rw [if_pos (by omega)] at hone
            exact ⟨rfl, wI_of I0 (fun a b hab => by rw [e_H3, e_H2]; unfold upd2; rw [if_neg (fun z => hab (by omega)), if_neg (fun z => hab (by omega))]) (by rw [e4, e5]; exact SI_skip hone (by omega) (fun v h1 h2 => hhigh v h1 h2)), fun a b hab => by rw [e_H3, e_H2]; unfold upd2; rw [if_neg (fun z => hab (by omega)), if_neg (fun z => hab (by omega))]⟩
        · skip
          refine wp_vret C dX10_handLast_36 ?_
          exact ⟨rfl, wI_of I0 (fun _ _ _ => rfl) (SI_skip i4 (Nat.le_add_right _ _) (fun v h1 h2 => by rcases (show v < told.toNat * 10 + left.toNat ∨ v = told.toNat * 10 + left.toNat ∨ told.toNat * 10 + left.toNat < v by omega) with q | q | q; exact hlow v h1 q; rw [q, hat, c_33]; rfl; exact hhigh v q h2)), fun _ _ _ => rfl⟩
      · skip
        obtain ⟨z, hz1, hz2⟩ := hw
        refine wp_aloadR_n 0 C dX10_handLast_12 rfl rfl ?_
        refine wp_lload 4 C dX10_handLast_13 rfl ?_
        refine wp_iconst (v := 0) C dX10_handLast_15 rfl ?_
        refine wp_callVp (rest := []) (c_wom E h z 0 y0 y0 k x5 0 hz1 rfl (by omega) hk9 (by omega) (by rw [i1]; exact hz2.1) y1 y1) svX10_51 sh_97 (by decide) rfl rfl (Nat.le_of_ble_eq_true rfl) C dX10_handLast_16 ?_
        refine wp_topl (show _ = ((womN p 0 z y0 y0 : Nat) : Int) by rw [i1]) ?_
        refine wp_nml (fun z5 e_z5 => ?_)
        refine wp_lstore (ls' := [(0, rv E 97), (1, iv left), (2, iv told), (3, jv zi), (5, jv z5), (7, iv x7)]) [1, 2, 3, 4, 0, 5] C dX10_handLast_19 (by decide) rfl ?_
        obtain ⟨y7, e_y7⟩ : ∃ z : Int, z = x7 + (1) := ⟨_, rfl⟩
        refine wp_iinc (j := 5) (y := y7) (ls' := [(0, rv E 97), (1, iv left), (2, iv told), (3, jv zi), (5, jv z5), (7, iv y7)]) [1, 2, 3, 4, 5, 0] C dX10_handLast_21 rfl e_y7 (by decide) rfl ?_
        refine wp_goto (tgt := 6) C dX10_handLast_24 (by decide) ?_
        exact ih9_6 z5 y7 (by omega) (⟨_, e_z5, by rw [e_y7, show (x7 + 1).toNat = x7.toNat + 1 by omega]; have := stepW hp (q := 0) (by omega) (by omega) y2 y2 hz2; exact this⟩) (by omega)
  have q6 : ∀ (x5 : Int) (x7 : Int), (0 ≤ x7 ∧ x7 ≤ left) → (∃ z : Nat, x5 = (z : Int) ∧ swP p k (expd (dgT ((told.toNat * 10 + x7.toNat) * 10 ^ 0)) p.toNat) z) → Wp G E 8 (fun v hx => v = none ∧ wI p m k i hx (told.toNat * 10 + 10) ∧ frW h hx) 6 [(0, rv E 97), (1, iv left), (2, iv told), (3, jv zi), (5, jv x5), (7, iv x7)] [] h := fun x5 x7 hi7 hw => q60 _ x5 x7 hi7 hw (Nat.lt_succ_self _)
  exact q6 zi 0 (by omega) (⟨z0, I4, by rw [show Int.toNat 0 = 0 from rfl, Nat.pow_zero, Nat.mul_one, Nat.add_zero]; exact I5⟩)

set_option maxRecDepth 100000 in
set_option maxHeartbeats 4000000 in
theorem c_whand0 (E : En) (h : Hp) (p i : Int) (m k : Nat) (hp : 2 ≤ p ∧ p ≤ 5) (hi0 : 0 ≤ i ∧ i ≤ 2147483647) (hk9 : k ≤ 9) (t : Nat) (IH : ∀ t9, t9 < t → ∀ (h : Hp) (rest left told zi : Int), handP p m k i rest left told zi h → rest.toNat = t9 → Ct (2 + t9) yX10_hand cX10_hand 9 none E [rv E 97, iv rest, iv left, iv told, jv zi] h (fun v hx => v = none ∧ wI p m k i hx ((told.toNat + 1) * 10 ^ (rest.toNat + 1)) ∧ frW h hx)) (rest left told zi : Int) (I : handP p m k i rest left told zi h) (hrt : rest.toNat = t) : Ct (2 + t) yX10_hand cX10_hand 9 none E [rv E 97, iv rest, iv left, iv told, jv zi] h (fun v hx => v = none ∧ wI p m k i hx ((told.toNat + 1) * 10 ^ (rest.toNat + 1)) ∧ frW h hx) := by
  obtain ⟨I0, I1, I2, I3, I3b, ⟨z0, I4, I5⟩, I6⟩ := I
  obtain ⟨i1, i2, i3, i4, i5⟩ := id I0
  have hcl := cntP_le (P := wkB p m k) (told.toNat * 10 ^ (rest.toNat + 1))
  have hVle : told.toNat * 10 ^ (rest.toNat + 1) ≤ (told.toNat + 1) * 10 ^ (rest.toNat + 1) := Nat.mul_le_mul_right _ (by omega)
  have hir : 0 ≤ h 97 4 ∧ h 97 4 ≤ 1000000 := by have := i4.2.1; have := i4.2.2.1; omega
  have htl : told.toNat + 1 ≤ 10000 := by
    have h1 : (told.toNat + 1) * 10 ≤ (told.toNat + 1) * 10 ^ (rest.toNat + 1) := Nat.mul_le_mul_left _ (Nat.le_self_pow (by omega) 10)
    omega
  have hpw : (told.toNat + 1) * 10 ^ (rest.toNat + 1) = (told.toNat * 10 + 10) * 10 ^ rest.toNat := by rw [Nat.pow_succ', ← Nat.mul_assoc, Nat.add_mul, Nat.one_mul]
  refine ct_intro (by decide) (Nat.le_of_ble_eq_true rfl) (fun G C => ?_)
  show Wp G E 9 (fun v hx => v = none ∧ wI p m k i hx ((told.toNat + 1) * 10 ^ (rest.toNat + 1)) ∧ frW h hx) 0 [(0, rv E 97), (1, iv rest), (2, iv left), (3, iv told), (4, jv zi)] [] h
  refine wp_aloadR_n 0 C dX10_hand_0 rfl rfl ?_
  refine wp_getI flX10_25 sh_97 rfl C dX10_hand_1 ?_
  refine wp_aloadR_n 0 C dX10_hand_4 rfl rfl ?_
  refine wp_getI flX10_22 sh_97 rfl C dX10_hand_5 ?_
  refine wp_icmp_le (tgt := 12) (by omega) (by omega) C dX10_hand_8 (by decide) (fun c_8 => ?_) (fun c_8 => ?_)
  · skip
    refine wp_iload_n 1 C dX10_hand_12 rfl rfl ?_
    refine wp_iconst (v := 1) C dX10_hand_13 rfl ?_
    refine wp_icmp_ge (tgt := 26) (by omega) (by omega) C dX10_hand_14 (by decide) (fun c_14 => ?_) (fun c_14 => ?_)
    · skip
      refine wp_lload 4 C dX10_hand_26 rfl ?_
      refine wp_lstore (ls' := [(0, rv E 97), (1, iv rest), (2, iv left), (3, iv told), (4, jv zi), (6, jv zi)]) [1, 2, 3, 4, 5, 0] C dX10_hand_28 (by decide) rfl ?_
      refine wp_iconst (v := 0) C dX10_hand_30 rfl ?_
      refine wp_istore (ls' := [(0, rv E 97), (1, iv rest), (2, iv left), (3, iv told), (4, jv zi), (6, jv zi), (8, iv 0)]) [1, 2, 3, 4, 5, 6, 0] C dX10_hand_31 (by decide) rfl ?_
      have q330 : ∀ n9 : Nat, ∀ (x6 : Int) (x8 : Int) (hx : Hp), (0 ≤ x8 ∧ x8 ≤ left + 1) → (x8 ≤ 9 → ∃ z : Nat, x6 = (z : Int) ∧ swP p k (expd (dgT ((told.toNat * 10 + x8.toNat) * 10 ^ rest.toNat)) p.toNat) z) → (wI p m k i hx ((told.toNat * 10 + x8.toNat) * 10 ^ rest.toNat)) → (frW h hx) → (left + 1 - x8).toNat < n9 → Wp G E 9 (fun v hx => v = none ∧ wI p m k i hx ((told.toNat + 1) * 10 ^ (rest.toNat + 1)) ∧ frW h hx) 33 [(0, rv E 97), (1, iv rest), (2, iv left), (3, iv told), (4, jv zi), (6, jv x6), (8, iv x8)] [] hx := by
        intro n9
        induction n9 with
        | zero => intro x6 x8 hx hi8 hw hI hf hm9; exact absurd hm9 (Nat.not_lt_zero _)
        | succ n9 ih9 =>
          intro x6 x8 hx hi8 hw hI hf hm9
          have ih9_33 := ih9
          obtain ⟨j1, j2, j3, j4, j5⟩ := id hI
          refine wp_iload 6 C dX10_hand_33 rfl ?_
          refine wp_iload_n 2 C dX10_hand_35 rfl rfl ?_
          refine wp_icmp_gt (tgt := 83) (by omega) (by omega) C dX10_hand_36 (by decide) (fun c_36 => ?_) (fun c_36 => ?_)
          · skip
            refine wp_vret C dX10_hand_83 ?_
            clear hw
            exact ⟨rfl, wI_of hI (fun _ _ _ => rfl) (SI_skip j4 (by rw [hpw]; exact Nat.mul_le_mul_right _ (by omega)) (fun v h1 h2 => by rcases (show x8 = 10 ∨ x8 ≤ 9 by omega) with q | q; rw [hpw] at h2; rw [q] at h1; exact absurd h1 (by have e10 : Int.toNat 10 = 10 := rfl; rw [e10]; omega); exact wk_many (q := rest.toNat) (c := told.toNat) (t := x8.toNat) (by omega) h1 h2 (by have h3 := sumT (p := p) (c := told.toNat) (q := rest.toNat) (by omega) x8.toNat (by omega); rw [base0] at h3; omega))), hf⟩
          · skip
            have hx9 : x8 ≤ 9 := by clear hw; omega
            obtain ⟨z, hz1, hz2⟩ := hw hx9
            clear hw
            refine wp_aloadR_n 0 C dX10_hand_39 rfl rfl ?_
            refine wp_lload 5 C dX10_hand_40 rfl ?_
            refine wp_callVp (rest := []) (c_wHas E hx z k x6 (expd (dgT ((told.toNat * 10 + x8.toNat) * 10 ^ rest.toNat)) p.toNat) hz1 (by omega) j2 hk9 (by rw [j1]; exact hz2)) svX10_47 sh_97 (by omega) rfl rfl (Nat.le_of_ble_eq_true rfl) C dX10_hand_42 ?_
            refine wp_top (show _ = bi (exL p (expd (dgT ((told.toNat * 10 + x8.toNat) * 10 ^ rest.toNat)) p.toNat) k 0 = true) by rw [j1]) ?_
            refine wp_ifb_ne (tgt := 83) C dX10_hand_45 (by decide) (fun c_45 => ?_) (fun c_45 => ?_)
            · skip
              refine wp_vret C dX10_hand_83 ?_
              exact ⟨rfl, wI_of hI (fun _ _ _ => rfl) (SI_skip j4 (by rw [hpw]; exact Nat.mul_le_mul_right _ (by omega)) (fun v h1 h2 => wk_ten (q := rest.toNat) (c := told.toNat) (t := x8.toNat) (by omega) h1 h2 c_45)), hf⟩
            · skip
              refine wp_aloadR_n 0 C dX10_hand_48 rfl rfl ?_
              refine wp_iload_n 1 C dX10_hand_49 rfl rfl ?_
              refine wp_iconst (v := 1) C dX10_hand_50 rfl ?_
              refine wp_isub C dX10_hand_51 ?_
              refine wp_iload_n 2 C dX10_hand_52 rfl rfl ?_
              refine wp_iload 6 C dX10_hand_53 rfl ?_
              refine wp_isub C dX10_hand_55 ?_
              refine wp_iload_n 3 C dX10_hand_56 rfl rfl ?_
              refine wp_bipush (v := 10) C dX10_hand_57 rfl ?_
              refine wp_imul C dX10_hand_59 ?_
              refine wp_iload 6 C dX10_hand_60 rfl ?_
              refine wp_iadd C dX10_hand_62 ?_
              refine wp_lload 5 C dX10_hand_63 rfl ?_
              have hH : handP p m k i (rest - 1) (left - x8) (told * 10 + x8) x6 hx := by
                have e1 : (told * 10 + x8).toNat = told.toNat * 10 + x8.toNat := by omega
                have e2 : (rest - 1).toNat + 1 = rest.toNat := by omega
                unfold handP
                rw [e1, e2]
                refine ⟨hI, by omega, by omega, by omega, ?_, ⟨z, hz1, hz2⟩, ?_⟩
                · have : (told.toNat * 10 + x8.toNat + 1) * 10 ^ rest.toNat ≤ (told.toNat * 10 + 10) * 10 ^ rest.toNat := Nat.mul_le_mul_right _ (by omega)
                  omega
                · have h1 := sumT (p := p) (c := told.toNat) (q := rest.toNat) (by omega) x8.toNat (by omega)
                  rw [base0] at h1
                  omega
              have hIc := IH (t - 1) (by omega) hx (rest - 1) (left - x8) (told * 10 + x8) x6 hH (by omega)
              refine wp_callV (rest := []) (hIc) svX10_39 sh_97 (by omega) rfl rfl (Nat.le_of_ble_eq_true rfl) C dX10_hand_65 (fun r0 hy pf => ?_)
              obtain ⟨rfl, hq1, hq2⟩ := pf
              rw [show (told * 10 + x8).toNat = told.toNat * 10 + x8.toNat by omega, show (rest - 1).toNat + 1 = rest.toNat by omega] at hq1
              obtain ⟨jy1, jy2, jy3, jy4, jy5⟩ := id hq1
              obtain ⟨ya, ya1, ya2⟩ := jy5 rest.toNat (by omega)
              obtain ⟨yb, yb1, yb2⟩ := jy5 0 (by omega)
              refine wp_aloadR_n 0 C dX10_hand_68 rfl rfl ?_
              refine wp_lload 5 C dX10_hand_69 rfl ?_
              refine wp_iload_n 1 C dX10_hand_71 rfl rfl ?_
              refine wp_callVp (rest := []) (c_wom E hy z rest.toNat ya yb k x6 rest hz1 (by omega) (by omega) hk9 (by omega) (by rw [jy1]; exact hz2.1) ya1 yb1) svX10_51 sh_97 (by omega) rfl rfl (Nat.le_of_ble_eq_true rfl) C dX10_hand_72 ?_
              refine wp_topl (show _ = ((womN p rest.toNat z ya yb : Nat) : Int) by rw [jy1]) ?_
              refine wp_nml (fun z6 e_z6 => ?_)
              refine wp_lstore (ls' := [(0, rv E 97), (1, iv rest), (2, iv left), (3, iv told), (4, jv zi), (6, jv z6), (8, iv x8)]) [1, 2, 3, 4, 5, 0, 6] C dX10_hand_75 (by decide) rfl ?_
              obtain ⟨y8, e_y8⟩ : ∃ z : Int, z = x8 + (1) := ⟨_, rfl⟩
              refine wp_iinc (j := 6) (y := y8) (ls' := [(0, rv E 97), (1, iv rest), (2, iv left), (3, iv told), (4, jv zi), (6, jv z6), (8, iv y8)]) [1, 2, 3, 4, 5, 6, 0] C dX10_hand_77 rfl e_y8 (by decide) rfl ?_
              refine wp_goto (tgt := 33) C dX10_hand_80 (by decide) ?_
              exact ih9_33 z6 y8 hy (by omega) (fun h9 => ⟨_, e_z6, by rw [e_y8, show (x8 + 1).toNat = x8.toNat + 1 by omega]; exact stepW hp (by omega) (by omega) ya2 yb2 hz2⟩) (by rw [e_y8, show (x8 + 1).toNat = x8.toNat + 1 by omega, ← Nat.add_assoc]; exact hq1) (fun a b hab => (hq2 a b hab).trans (hf a b hab)) (by omega)
      have q33 : ∀ (x6 : Int) (x8 : Int) (hx : Hp), (0 ≤ x8 ∧ x8 ≤ left + 1) → (x8 ≤ 9 → ∃ z : Nat, x6 = (z : Int) ∧ swP p k (expd (dgT ((told.toNat * 10 + x8.toNat) * 10 ^ rest.toNat)) p.toNat) z) → (wI p m k i hx ((told.toNat * 10 + x8.toNat) * 10 ^ rest.toNat)) → (frW h hx) → Wp G E 9 (fun v hx => v = none ∧ wI p m k i hx ((told.toNat + 1) * 10 ^ (rest.toNat + 1)) ∧ frW h hx) 33 [(0, rv E 97), (1, iv rest), (2, iv left), (3, iv told), (4, jv zi), (6, jv x6), (8, iv x8)] [] hx := fun x6 x8 hx hi8 hw hI hf => q330 _ x6 x8 hx hi8 hw hI hf (Nat.lt_succ_self _)
      exact q33 zi 0 h (by omega) (fun _ => ⟨z0, I4, by rw [show Int.toNat 0 = 0 from rfl, base0]; exact I5⟩) (by rw [show Int.toNat 0 = 0 from rfl, base0]; exact I0) (fun _ _ _ => rfl)
    · skip
      refine wp_aloadR_n 0 C dX10_hand_17 rfl rfl ?_
      refine wp_iload_n 2 C dX10_hand_18 rfl rfl ?_
      refine wp_iload_n 3 C dX10_hand_19 rfl rfl ?_
      refine wp_lload 4 C dX10_hand_20 rfl ?_
      have er0 : rest.toNat = 0 := by omega
      rw [er0] at I0 I5 I6
      have hL : lastP p m k i left told zi h := ⟨by rw [Nat.pow_one] at I0; exact I0, by rw [← i3]; omega, I2, by omega, ⟨z0, I4, by rw [Nat.pow_one] at I5; exact I5⟩, by rw [Nat.pow_one] at I6; exact I6⟩
      refine wp_callV (rest := []) (c_handLast E h p i m k hp hi0 hk9 left told zi hL) svX10_43 sh_97 (by omega) rfl rfl (Nat.le_of_ble_eq_true rfl) C dX10_hand_22 (fun r0 hx pf => ?_)
      obtain ⟨rfl, hq1, hq2⟩ := pf
      refine wp_vret C dX10_hand_25 ?_
      exact ⟨rfl, by rw [show (told.toNat + 1) * 10 ^ (rest.toNat + 1) = told.toNat * 10 + 10 by rw [er0, Nat.pow_one]; omega]; exact hq1, hq2⟩
  · skip
    refine wp_vret C dX10_hand_11 ?_
    exact ⟨rfl, wI_of I0 (fun _ _ _ => rfl) (SI_stop i4 (by omega) hVle), fun _ _ _ => rfl⟩

theorem c_whand (E : En) (p i : Int) (m k : Nat) (hp : 2 ≤ p ∧ p ≤ 5) (hi0 : 0 ≤ i ∧ i ≤ 2147483647) (hk9 : k ≤ 9) : ∀ (t : Nat) (h : Hp) (rest left told zi : Int), handP p m k i rest left told zi h → rest.toNat = t → Ct (2 + t) yX10_hand cX10_hand 9 none E [rv E 97, iv rest, iv left, iv told, jv zi] h (fun v hx => v = none ∧ wI p m k i hx ((told.toNat + 1) * 10 ^ (rest.toNat + 1)) ∧ frW h hx) := by
  intro t
  induction t using Nat.strongRecOn with
  | ind t ih => exact fun h rest left told zi I hrt => c_whand0 E h p i m k hp hi0 hk9 t ih rest left told zi I hrt
theorem dgT_0 : dgT 0 = fun _ => 0 := funext fun r => by unfold dgT; rw [Nat.zero_div]
set_option maxRecDepth 100000 in
set_option maxHeartbeats 4000000 in
theorem c_without (E : En) (h : Hp) (p m k i : Int) (hp : 2 ≤ p ∧ p ≤ 5) (hm : 0 ≤ m ∧ m ≤ 9) (hk : 1 ≤ k ∧ k ≤ 9) (hi0 : 0 ≤ i ∧ i ≤ 2147483647) : Ct 8 yX10_without cX10_without 5 (some .int) E [rv E 97, iv p, iv m, iv k, iv i] h (fun v hx => v = some (iv (nthP (wkB p m.toNat k.toNat) i (10 ^ p.toNat))) ∧ SI (wkB p m.toNat k.toNat) i (hx 97 4) (hx 97 5) (10 ^ p.toNat) ∧ (∀ a b, a ≠ 97 → a ≠ 98 → hx a b = h a b)) := by
  refine ct_intro (by decide) (Nat.le_of_ble_eq_true rfl) (fun G C => ?_)
  show Wp G E 5 (fun v hx => v = some (iv (nthP (wkB p m.toNat k.toNat) i (10 ^ p.toNat))) ∧ SI (wkB p m.toNat k.toNat) i (hx 97 4) (hx 97 5) (10 ^ p.toNat) ∧ (∀ a b, a ≠ 97 → a ≠ 98 → hx a b = h a b)) 0 [(0, rv E 97), (1, iv p), (2, iv m), (3, iv k), (4, iv i)] [] h
  refine wp_aloadR_n 0 C dX10_without_0 rfl rfl ?_
  refine wp_iload_n 1 C dX10_without_1 rfl rfl ?_
  refine wp_putI fpX10_15 sh_97 rfl C dX10_without_2 ?_
  obtain ⟨H1, e_H1⟩ : ∃ z : Hp, z = upd2 h 97 1 p := ⟨_, rfl⟩
  refine wp_heq e_H1 ?_
  refine wp_aloadR_n 0 C dX10_without_5 rfl rfl ?_
  refine wp_iload_n 3 C dX10_without_6 rfl rfl ?_
  refine wp_putI fpX10_19 sh_97 rfl C dX10_without_7 ?_
  obtain ⟨H2, e_H2⟩ : ∃ z : Hp, z = upd2 H1 97 2 k := ⟨_, rfl⟩
  refine wp_heq e_H2 ?_
  refine wp_aloadR_n 0 C dX10_without_10 rfl rfl ?_
  refine wp_iload 4 C dX10_without_11 rfl ?_
  refine wp_putI fpX10_22 sh_97 rfl C dX10_without_13 ?_
  obtain ⟨H3, e_H3⟩ : ∃ z : Hp, z = upd2 H2 97 3 i := ⟨_, rfl⟩
  refine wp_heq e_H3 ?_
  refine wp_aloadR_n 0 C dX10_without_16 rfl rfl ?_
  refine wp_iconst (v := 0) C dX10_without_17 rfl ?_
  refine wp_putI fpX10_25 sh_97 rfl C dX10_without_18 ?_
  obtain ⟨H4, e_H4⟩ : ∃ z : Hp, z = upd2 H3 97 4 0 := ⟨_, rfl⟩
  refine wp_heq e_H4 ?_
  refine wp_aloadR_n 0 C dX10_without_21 rfl rfl ?_
  refine wp_iconst (v := (-1)) C dX10_without_22 rfl ?_
  refine wp_putI fpX10_28 sh_97 rfl C dX10_without_23 ?_
  obtain ⟨H5, e_H5⟩ : ∃ z : Hp, z = upd2 H4 97 5 (-1) := ⟨_, rfl⟩
  refine wp_heq e_H5 ?_
  have g : ∀ b, H5 97 b = if b = 5 then -1 else if b = 4 then 0 else if b = 3 then i else if b = 2 then k else if b = 1 then p else h 97 b := fun b => by rw [e_H5, e_H4, e_H3, e_H2, e_H1]; unfold upd2; simp
  have gf : ∀ a b, a ≠ 97 → H5 a b = h a b := fun a b hab => by rw [e_H5, e_H4, e_H3, e_H2, e_H1]; unfold upd2; simp [hab]
  have g1 : H5 97 1 = p := by rw [g]; simp
  have g2 : H5 97 2 = k := by rw [g]; simp
  have g3 : H5 97 3 = i := by rw [g]; simp
  have g4 : H5 97 4 = 0 := by rw [g]; simp
  have g5 : H5 97 5 = -1 := by rw [g]; simp
  refine wp_aloadR_n 0 C dX10_without_26 rfl rfl ?_
  refine wp_callV (rest := []) (c_fillSt E H5 k.toNat (by rw [g1]; exact hp) (by rw [g2]; omega) (by omega)) svX10_36 sh_97 (by decide) rfl rfl (Nat.le_of_ble_eq_true rfl) C dX10_without_27 (fun r0 hy pf => ?_)
  obtain ⟨rfl, hs1, hs2⟩ := pf
  rw [g1] at hs1
  have y1 : hy 97 1 = p := (hs2 97 1 (by decide)).trans g1
  refine wp_aloadR_n 0 C dX10_without_30 rfl rfl ?_
  refine wp_aloadR_n 0 C dX10_without_31 rfl rfl ?_
  refine wp_getI flX10_15 sh_97 rfl C dX10_without_32 ?_
  refine wp_top (show _ = p from y1) ?_
  refine wp_iconst (v := 1) C dX10_without_35 rfl ?_
  refine wp_isub C dX10_without_36 ?_
  refine wp_iload_n 2 C dX10_without_37 rfl rfl ?_
  refine wp_iconst (v := 0) C dX10_without_38 rfl ?_
  refine wp_lconst (v := 1) C dX10_without_39 rfl ?_
  have hH : handP p m.toNat k.toNat i (p - 1) m 0 1 hy := by
    refine ⟨⟨y1, by rw [hs2 97 2 (by decide), g2]; omega, by rw [hs2 97 3 (by decide), g3], ?_, hs1⟩, by omega, hm, by omega, ?_, ⟨1, rfl, ?_⟩, ?_⟩
    · rw [hs2 97 4 (by decide), hs2 97 5 (by decide), g4, g5, show Int.toNat 0 = 0 from rfl, Nat.zero_mul]
      exact ⟨rfl, by decide, Int.natCast_nonneg _, Or.inl rfl⟩
    · rw [show Int.toNat 0 = 0 from rfl, Nat.zero_add, Nat.one_mul, show (p - 1).toNat + 1 = p.toNat by omega]
      exact Nat.le_trans (Nat.pow_le_pow_right (by decide) (show p.toNat ≤ 5 by omega)) (by decide)
    · rw [show Int.toNat 0 = 0 from rfl, Nat.zero_mul, dgT_0, expd_0]
      exact womN_1 hp.1
    · rw [show Int.toNat 0 = 0 from rfl, Nat.zero_mul, dgT_0, sN_0, Nat.zero_add]
  have hIc := c_whand E p i m.toNat k.toNat hp hi0 (by omega) (p - 1).toNat hy (p - 1) m 0 1 hH rfl
  refine wp_callV (rest := []) (hIc) svX10_39 sh_97 (by omega) rfl rfl (Nat.le_of_ble_eq_true rfl) C dX10_without_40 (fun r0 hz pf => ?_)
  obtain ⟨rfl, hq1, hq2⟩ := pf
  rw [show Int.toNat 0 = 0 from rfl, Nat.zero_add, Nat.one_mul, show (p - 1).toNat + 1 = p.toNat by omega] at hq1
  obtain ⟨q1, q2, q3, q4, q5⟩ := hq1
  refine wp_aloadR_n 0 C dX10_without_43 rfl rfl ?_
  refine wp_getI flX10_28 sh_97 rfl C dX10_without_44 ?_
  refine wp_iret C dX10_without_47 ?_
  exact ⟨by rw [q4.1], q4, fun a b h1 h2 => (hq2 a b (fun z => h1 z.1)).trans ((hs2 a b h2).trans (gf a b h1))⟩

theorem nthP_r (P : Nat → Bool) (i : Int) : ∀ V : Nat, -1 ≤ nthP P i V ∧ nthP P i V < V
  | 0 => ⟨Int.le_refl _, show (-1 : Int) < 0 by decide⟩
  | V + 1 => by
    have := nthP_r P i V
    rw [nthP]
    split <;> omega
theorem p105 {p : Int} (hp : 2 ≤ p ∧ p ≤ 5) : 10 ^ p.toNat ≤ 100000 := Nat.le_trans (Nat.pow_le_pow_right (by decide) (show p.toNat ≤ 5 by omega)) (by decide)
set_option maxRecDepth 100000 in
set_option maxHeartbeats 4000000 in
theorem c_isAlways (E : En) (h : Hp) (p m k : Int) (hp : 2 ≤ p ∧ p ≤ 5) (hm : 0 ≤ m ∧ m ≤ 9) (hk : 1 ≤ k ∧ k ≤ 9) : Ct 9 yX10_isAlways cX10_isAlways 4 (some .boolean) E [rv E 97, iv p, iv m, iv k] h (fun v hx => v = some (iv (bi (nthP (wkB p (m).toNat k.toNat) 0 (10 ^ p.toNat) = -1))) ∧ (∀ a b, a ≠ 97 → a ≠ 98 → hx a b = h a b)) := by
  refine ct_intro (by decide) (Nat.le_of_ble_eq_true rfl) (fun G C => ?_)
  show Wp G E 4 (fun v hx => v = some (iv (bi (nthP (wkB p (m).toNat k.toNat) 0 (10 ^ p.toNat) = -1))) ∧ (∀ a b, a ≠ 97 → a ≠ 98 → hx a b = h a b)) 0 [(0, rv E 97), (1, iv p), (2, iv m), (3, iv k)] [] h
  refine wp_aloadR_n 0 C dX10_isAlways_0 rfl rfl ?_
  refine wp_iload_n 1 C dX10_isAlways_1 rfl rfl ?_
  refine wp_iload_n 2 C dX10_isAlways_2 rfl rfl ?_
  refine wp_iload_n 3 C dX10_isAlways_3 rfl rfl ?_
  refine wp_iconst (v := 0) C dX10_isAlways_4 rfl ?_
  refine wp_callV (rest := []) (c_without E h p m k 0 (by omega) (by omega) (by omega) (by omega)) svX10_31 sh_97 (by decide) rfl rfl (Nat.le_of_ble_eq_true rfl) C dX10_isAlways_5 (fun r0 hx pf => ?_)
  obtain ⟨rfl, hsi, hf⟩ := pf
  have hnr := nthP_r (wkB p (m).toNat (k).toNat) (0) (10 ^ (p).toNat)
  have h105 := p105 (p := p) (by omega)
  refine wp_iconst (v := (-1)) C dX10_isAlways_8 rfl ?_
  refine wp_icmp_ne (tgt := 16) (by omega) (by omega) C dX10_isAlways_9 (by decide) (fun c_9 => ?_) (fun c_9 => ?_)
  · skip
    refine wp_iconst (v := 0) C dX10_isAlways_16 rfl ?_
    refine wp_zret (by first | exact bi_01 | omega) C dX10_isAlways_17 ?_
    exact ⟨by rw [bi_f (by omega)], hf⟩
  · skip
    refine wp_iconst (v := 1) C dX10_isAlways_12 rfl ?_
    refine wp_goto (tgt := 17) C dX10_isAlways_13 (by decide) ?_
    refine wp_zret (by first | exact bi_01 | omega) C dX10_isAlways_17 ?_
    exact ⟨by rw [bi_t (by omega)], hf⟩

set_option maxRecDepth 100000 in
set_option maxHeartbeats 4000000 in
theorem c_howMany (E : En) (h : Hp) (p m k : Int) (hp : 2 ≤ p ∧ p ≤ 5) (hm : 0 ≤ m ∧ m ≤ 9) (hk : 1 ≤ k ∧ k ≤ 9) : Ct 9 yX10_howMany cX10_howMany 4 (some .int) E [rv E 97, iv p, iv m, iv k] h (fun v hx => v = some (iv (cntP (wkB p m.toNat k.toNat) (10 ^ p.toNat) : Int)) ∧ (∀ a b, a ≠ 97 → a ≠ 98 → hx a b = h a b)) := by
  refine ct_intro (by decide) (Nat.le_of_ble_eq_true rfl) (fun G C => ?_)
  show Wp G E 4 (fun v hx => v = some (iv (cntP (wkB p m.toNat k.toNat) (10 ^ p.toNat) : Int)) ∧ (∀ a b, a ≠ 97 → a ≠ 98 → hx a b = h a b)) 0 [(0, rv E 97), (1, iv p), (2, iv m), (3, iv k)] [] h
  refine wp_aloadR_n 0 C dX10_howMany_0 rfl rfl ?_
  refine wp_iload_n 1 C dX10_howMany_1 rfl rfl ?_
  refine wp_iload_n 2 C dX10_howMany_2 rfl rfl ?_
  refine wp_iload_n 3 C dX10_howMany_3 rfl rfl ?_
  refine wp_ldc (v := 1000000) C (mT (i := 745) (by decide +kernel) rfl) dX10_howMany_4 ?_
  refine wp_callV (rest := []) (c_without E h p m k 1000000 (by omega) (by omega) (by omega) (by omega)) svX10_31 sh_97 (by decide) rfl rfl (Nat.le_of_ble_eq_true rfl) C dX10_howMany_6 (fun r0 hx pf => ?_)
  obtain ⟨rfl, hsi, hf⟩ := pf
  have hnr := nthP_r (wkB p (m).toNat (k).toNat) (1000000) (10 ^ (p).toNat)
  have h105 := p105 (p := p) (by omega)
  refine wp_pop rfl C dX10_howMany_9 ?_
  refine wp_aloadR_n 0 C dX10_howMany_10 rfl rfl ?_
  refine wp_getI flX10_25 sh_97 rfl C dX10_howMany_11 ?_
  refine wp_iret C dX10_howMany_14 ?_
  exact ⟨by have h1 := cntP_le (P := wkB p m.toNat k.toNat) (10 ^ p.toNat); have h2 := hsi.2.2.1; have h3 := hsi.2.2.2; rw [show hx 97 4 = (cntP (wkB p m.toNat k.toNat) (10 ^ p.toNat) : Int) by omega], hf⟩

set_option maxRecDepth 100000 in
set_option maxHeartbeats 4000000 in
theorem x_always (E : En) (h : Hp) (p m k : Int) (hp : -2147483648 ≤ p ∧ p ≤ 2147483647) (hm : -2147483648 ≤ m ∧ m ≤ 2147483647) (hk : -2147483648 ≤ k ∧ k ≤ 2147483647) : Ct 10 yX11_always cX11_always 4 (some .int) E [rv E 0, iv p, iv m, iv k] h (fun v hx => v = some (iv (if ¬ (((2 ≤ p ∧ p ≤ 5) ∧ (1 ≤ k ∧ k ≤ 9)) ∧ (0 ≤ m ∧ m ≤ 9)) then -3 else bi (nthP (wkB p (m).toNat k.toNat) 0 (10 ^ p.toNat) = -1))) ∧ (∀ a b, a ≠ 97 → a ≠ 98 → hx a b = h a b)) := by
  refine ct_intro (by decide) (Nat.le_of_ble_eq_true rfl) (fun G C => ?_)
  show Wp G E 4 (fun v hx => v = some (iv (if ¬ (((2 ≤ p ∧ p ≤ 5) ∧ (1 ≤ k ∧ k ≤ 9)) ∧ (0 ≤ m ∧ m ≤ 9)) then -3 else bi (nthP (wkB p (m).toNat k.toNat) 0 (10 ^ p.toNat) = -1))) ∧ (∀ a b, a ≠ 97 → a ≠ 98 → hx a b = h a b)) 0 [(0, rv E 0), (1, iv p), (2, iv m), (3, iv k)] [] h
  refine wp_iload_n 1 C dX11_always_0 rfl rfl ?_
  refine wp_iload_n 3 C dX11_always_1 rfl rfl ?_
  refine wp_callSp (rest := []) (c_isHanded E h p k (by omega) (by omega)) ssX11_197 (by decide) rfl rfl (Nat.le_of_ble_eq_true rfl) C dX11_always_2 ?_
  refine wp_ifb_eq (tgt := 18) C dX11_always_5 (by decide) (fun c_5 => ?_) (fun c_5 => ?_)
  · skip
    refine wp_bipush (v := (-3)) C dX11_always_18 rfl ?_
    refine wp_iret C dX11_always_20 ?_
    exact ⟨by rw [if_pos (fun z => c_5 z.1)], fun _ _ _ _ => rfl⟩
  · skip
    refine wp_iload_n 2 C dX11_always_8 rfl rfl ?_
    refine wp_iconst (v := 0) C dX11_always_9 rfl ?_
    refine wp_bipush (v := 9) C dX11_always_10 rfl ?_
    refine wp_callSp (rest := []) (c_within E h m 0 9 (by omega) (by omega) (by omega)) ssX11_92 (by decide) rfl rfl (Nat.le_of_ble_eq_true rfl) C dX11_always_12 ?_
    refine wp_ifb_ne (tgt := 21) C dX11_always_15 (by decide) (fun c_15 => ?_) (fun c_15 => ?_)
    · skip
      refine wp_aloadR_n 0 C dX11_always_21 rfl rfl ?_
      refine wp_getR flX11_67 sh_0 rfl C dX11_always_22 ?_
      refine wp_iload_n 1 C dX11_always_25 rfl rfl ?_
      refine wp_iload_n 2 C dX11_always_26 rfl rfl ?_
      refine wp_iload_n 3 C dX11_always_27 rfl rfl ?_
      refine wp_callV (rest := []) (c_isAlways E h p m k (by omega) (by omega) (by omega)) svX11_201 sh_97 (by decide) rfl rfl (Nat.le_of_ble_eq_true rfl) C dX11_always_28 (fun r0 hx pf => ?_)
      obtain ⟨rfl, hf⟩ := pf
      refine wp_ifb_eq (tgt := 38) C dX11_always_31 (by decide) (fun c_31 => ?_) (fun c_31 => ?_)
      · skip
        refine wp_iconst (v := 0) C dX11_always_38 rfl ?_
        refine wp_iret C dX11_always_39 ?_
        exact ⟨by rw [if_neg (not_not_intro ⟨c_5, c_15⟩), bi_f c_31], hf⟩
      · skip
        refine wp_iconst (v := 1) C dX11_always_34 rfl ?_
        refine wp_goto (tgt := 39) C dX11_always_35 (by decide) ?_
        refine wp_iret C dX11_always_39 ?_
        exact ⟨by rw [if_neg (not_not_intro ⟨c_5, c_15⟩), bi_t c_31], hf⟩
    · skip
      refine wp_bipush (v := (-3)) C dX11_always_18 rfl ?_
      refine wp_iret C dX11_always_20 ?_
      exact ⟨by rw [if_pos (fun z => c_15 z.2)], fun _ _ _ _ => rfl⟩

def needS (p k : Int) : Int := firstI (fun m => decide (nthP (wkB p m k.toNat) 0 (10 ^ p.toNat) = -1)) 10
set_option maxRecDepth 100000 in
set_option maxHeartbeats 4000000 in
theorem x_need (E : En) (h : Hp) (p k : Int) (hp : -2147483648 ≤ p ∧ p ≤ 2147483647) (hk : -2147483648 ≤ k ∧ k ≤ 2147483647) : Ct 10 yX11_need cX11_need 4 (some .int) E [rv E 0, iv p, iv k] h (fun v hx => v = some (iv (if ¬ ((2 ≤ p ∧ p ≤ 5) ∧ (1 ≤ k ∧ k ≤ 9)) then -3 else needS p k)) ∧ (∀ a b, a ≠ 97 → a ≠ 98 → hx a b = h a b)) := by
  refine ct_intro (by decide) (Nat.le_of_ble_eq_true rfl) (fun G C => ?_)
  show Wp G E 4 (fun v hx => v = some (iv (if ¬ ((2 ≤ p ∧ p ≤ 5) ∧ (1 ≤ k ∧ k ≤ 9)) then -3 else needS p k)) ∧ (∀ a b, a ≠ 97 → a ≠ 98 → hx a b = h a b)) 0 [(0, rv E 0), (1, iv p), (2, iv k)] [] h
  refine wp_iload_n 1 C dX11_need_0 rfl rfl ?_
  refine wp_iload_n 2 C dX11_need_1 rfl rfl ?_
  refine wp_callSp (rest := []) (c_isHanded E h p k (by omega) (by omega)) ssX11_197 (by decide) rfl rfl (Nat.le_of_ble_eq_true rfl) C dX11_need_2 ?_
  refine wp_ifb_ne (tgt := 11) C dX11_need_5 (by decide) (fun c_5 => ?_) (fun c_5 => ?_)
  · skip
    refine wp_iconst (v := 0) C dX11_need_11 rfl ?_
    refine wp_istore_n (ls' := [(0, rv E 0), (1, iv p), (2, iv k), (3, iv 0)]) [1, 2, 3, 0] C dX11_need_12 rfl (by decide) rfl ?_
    have q130 : ∀ n9 : Nat, ∀ (x3 : Int) (hx : Hp), (0 ≤ x3 ∧ x3 ≤ 10) → (∀ j, j < x3.toNat → (fun m => decide (nthP (wkB p m k.toNat) 0 (10 ^ p.toNat) = -1)) j = false) → (∀ a b, a ≠ 97 → a ≠ 98 → hx a b = h a b) → (10 - x3).toNat < n9 → Wp G E 4 (fun v hx => v = some (iv (if ¬ ((2 ≤ p ∧ p ≤ 5) ∧ (1 ≤ k ∧ k ≤ 9)) then -3 else needS p k)) ∧ (∀ a b, a ≠ 97 → a ≠ 98 → hx a b = h a b)) 13 [(0, rv E 0), (1, iv p), (2, iv k), (3, iv x3)] [] hx := by
      intro n9
      induction n9 with
      | zero => intro x3 hx hi hs hf hm9; exact absurd hm9 (Nat.not_lt_zero _)
      | succ n9 ih9 =>
        intro x3 hx hi hs hf hm9
        have ih9_13 := ih9
        refine wp_iload_n 3 C dX11_need_13 rfl rfl ?_
        refine wp_bipush (v := 9) C dX11_need_14 rfl ?_
        refine wp_icmp_gt (tgt := 40) (by omega) (by omega) C dX11_need_16 (by decide) (fun c_16 => ?_) (fun c_16 => ?_)
        · skip
          refine wp_iconst (v := (-1)) C dX11_need_40 rfl ?_
          refine wp_iret C dX11_need_41 ?_
          exact ⟨by rw [if_neg (not_not_intro c_5)]; unfold needS; rw [firstI_none (p := (fun m => decide (nthP (wkB p m k.toNat) 0 (10 ^ p.toNat) = -1))) (n := 10) (fun j hj => hs j (by omega))], hf⟩
        · skip
          refine wp_aloadR_n 0 C dX11_need_19 rfl rfl ?_
          refine wp_getR flX11_67 sh_0 rfl C dX11_need_20 ?_
          refine wp_iload_n 1 C dX11_need_23 rfl rfl ?_
          refine wp_iload_n 3 C dX11_need_24 rfl rfl ?_
          refine wp_iload_n 2 C dX11_need_25 rfl rfl ?_
          refine wp_callV (rest := []) (c_isAlways E hx p x3 k (by omega) (by omega) (by omega)) svX11_201 sh_97 (by decide) rfl rfl (Nat.le_of_ble_eq_true rfl) C dX11_need_26 (fun r0 hy pf => ?_)
          obtain ⟨rfl, hfy⟩ := pf
          refine wp_ifb_eq (tgt := 34) C dX11_need_29 (by decide) (fun c_29 => ?_) (fun c_29 => ?_)
          · skip
            obtain ⟨v1, e_v1⟩ : ∃ z : Int, z = x3 + (1) := ⟨_, rfl⟩
            refine wp_iinc (j := 3) (y := v1) (ls' := [(0, rv E 0), (1, iv p), (2, iv k), (3, iv v1)]) [1, 2, 3, 0] C dX11_need_34 rfl e_v1 (by decide) rfl ?_
            refine wp_goto (tgt := 13) C dX11_need_37 (by decide) ?_
            exact ih9_13 v1 hy (by omega) (fun j hj => by rcases (show j < x3.toNat ∨ j = x3.toNat by omega) with q | rfl; exact hs j q; exact decide_eq_false c_29) (fun a b h1 h2 => (hfy a b h1 h2).trans (hf a b h1 h2)) (by omega)
          · skip
            refine wp_iload_n 3 C dX11_need_32 rfl rfl ?_
            refine wp_iret C dX11_need_33 ?_
            exact ⟨by rw [if_neg (not_not_intro c_5)]; have q := firstI_some (p := (fun m => decide (nthP (wkB p m k.toNat) 0 (10 ^ p.toNat) = -1))) (n := 10) (i := x3.toNat) (by omega) (decide_eq_true c_29) hs; unfold needS; rw [q, show ((x3.toNat : Nat) : Int) = x3 by omega], fun a b h1 h2 => (hfy a b h1 h2).trans (hf a b h1 h2)⟩
    have q13 : ∀ (x3 : Int) (hx : Hp), (0 ≤ x3 ∧ x3 ≤ 10) → (∀ j, j < x3.toNat → (fun m => decide (nthP (wkB p m k.toNat) 0 (10 ^ p.toNat) = -1)) j = false) → (∀ a b, a ≠ 97 → a ≠ 98 → hx a b = h a b) → Wp G E 4 (fun v hx => v = some (iv (if ¬ ((2 ≤ p ∧ p ≤ 5) ∧ (1 ≤ k ∧ k ≤ 9)) then -3 else needS p k)) ∧ (∀ a b, a ≠ 97 → a ≠ 98 → hx a b = h a b)) 13 [(0, rv E 0), (1, iv p), (2, iv k), (3, iv x3)] [] hx := fun x3 hx hi hs hf => q130 _ x3 hx hi hs hf (Nat.lt_succ_self _)
    exact q13 0 h (by omega) (fun j hj => absurd hj (by omega)) (fun a b _ _ => rfl)
  · skip
    refine wp_bipush (v := (-3)) C dX11_need_8 rfl ?_
    refine wp_iret C dX11_need_10 ?_
    exact ⟨by rw [if_pos c_5], fun _ _ _ _ => rfl⟩

set_option maxRecDepth 100000 in
set_option maxHeartbeats 4000000 in
theorem x_worst (E : En) (h : Hp) (p m k i : Int) (hp : -2147483648 ≤ p ∧ p ≤ 2147483647) (hm : -2147483648 ≤ m ∧ m ≤ 2147483647) (hk : -2147483648 ≤ k ∧ k ≤ 2147483647) (hi : -2147483648 ≤ i ∧ i ≤ 2147483647) : Ct 10 yX11_worst cX11_worst 5 (some .int) E [rv E 0, iv p, iv m, iv k, iv i] h (fun v hx => v = some (iv (if ¬ (((2 ≤ p ∧ p ≤ 5) ∧ (1 ≤ k ∧ k ≤ 9)) ∧ (0 ≤ m ∧ m ≤ 9)) ∨ i < -1 then -3 else wrS (wkB p m.toNat k.toNat) (10 ^ p.toNat) i)) ∧ (∀ a b, a ≠ 97 → a ≠ 98 → hx a b = h a b)) := by
  refine ct_intro (by decide) (Nat.le_of_ble_eq_true rfl) (fun G C => ?_)
  show Wp G E 5 (fun v hx => v = some (iv (if ¬ (((2 ≤ p ∧ p ≤ 5) ∧ (1 ≤ k ∧ k ≤ 9)) ∧ (0 ≤ m ∧ m ≤ 9)) ∨ i < -1 then -3 else wrS (wkB p m.toNat k.toNat) (10 ^ p.toNat) i)) ∧ (∀ a b, a ≠ 97 → a ≠ 98 → hx a b = h a b)) 0 [(0, rv E 0), (1, iv p), (2, iv m), (3, iv k), (4, iv i)] [] h
  refine wp_iload_n 1 C dX11_worst_0 rfl rfl ?_
  refine wp_iload_n 3 C dX11_worst_1 rfl rfl ?_
  refine wp_callSp (rest := []) (c_isHanded E h p k (by omega) (by omega)) ssX11_197 (by decide) rfl rfl (Nat.le_of_ble_eq_true rfl) C dX11_worst_2 ?_
  refine wp_ifb_eq (tgt := 24) C dX11_worst_5 (by decide) (fun c_5 => ?_) (fun c_5 => ?_)
  · skip
    refine wp_bipush (v := (-3)) C dX11_worst_24 rfl ?_
    refine wp_iret C dX11_worst_26 ?_
    exact ⟨by rw [if_pos (Or.inl (fun z => c_5 z.1))], fun _ _ _ _ => rfl⟩
  · skip
    refine wp_iload_n 2 C dX11_worst_8 rfl rfl ?_
    refine wp_iconst (v := 0) C dX11_worst_9 rfl ?_
    refine wp_bipush (v := 9) C dX11_worst_10 rfl ?_
    refine wp_callSp (rest := []) (c_within E h m 0 9 (by omega) (by omega) (by omega)) ssX11_92 (by decide) rfl rfl (Nat.le_of_ble_eq_true rfl) C dX11_worst_12 ?_
    refine wp_ifb_eq (tgt := 24) C dX11_worst_15 (by decide) (fun c_15 => ?_) (fun c_15 => ?_)
    · skip
      refine wp_bipush (v := (-3)) C dX11_worst_24 rfl ?_
      refine wp_iret C dX11_worst_26 ?_
      exact ⟨by rw [if_pos (Or.inl (fun z => c_15 z.2))], fun _ _ _ _ => rfl⟩
    · skip
      refine wp_iload 4 C dX11_worst_18 rfl ?_
      refine wp_iconst (v := (-1)) C dX11_worst_20 rfl ?_
      refine wp_icmp_ge (tgt := 27) (by omega) (by omega) C dX11_worst_21 (by decide) (fun c_21 => ?_) (fun c_21 => ?_)
      · skip
        refine wp_iload 4 C dX11_worst_27 rfl ?_
        refine wp_iconst (v := (-1)) C dX11_worst_29 rfl ?_
        refine wp_icmp_ne (tgt := 46) (by omega) (by omega) C dX11_worst_30 (by decide) (fun c_30 => ?_) (fun c_30 => ?_)
        · skip
          refine wp_aloadR_n 0 C dX11_worst_46 rfl rfl ?_
          refine wp_getR flX11_67 sh_0 rfl C dX11_worst_47 ?_
          refine wp_iload_n 1 C dX11_worst_50 rfl rfl ?_
          refine wp_iload_n 2 C dX11_worst_51 rfl rfl ?_
          refine wp_iload_n 3 C dX11_worst_52 rfl rfl ?_
          refine wp_iload 4 C dX11_worst_53 rfl ?_
          refine wp_callV (rest := []) (c_without E h p m k i (by omega) (by omega) (by omega) (by omega)) svX11_207 sh_97 (by decide) rfl rfl (Nat.le_of_ble_eq_true rfl) C dX11_worst_55 (fun r0 hx pf => ?_)
          obtain ⟨rfl, hsi, hf⟩ := pf
          have hnr := nthP_r (wkB p (m).toNat (k).toNat) (i) (10 ^ (p).toNat)
          have h105 := p105 (p := p) (by omega)
          refine wp_iret C dX11_worst_58 ?_
          exact ⟨by rw [if_neg (fun z => z.elim (fun y => y ⟨c_5, c_15⟩) (by omega))]; unfold wrS; rw [if_neg (by omega)], hf⟩
        · skip
          refine wp_aloadR_n 0 C dX11_worst_33 rfl rfl ?_
          refine wp_getR flX11_67 sh_0 rfl C dX11_worst_34 ?_
          refine wp_iload_n 1 C dX11_worst_37 rfl rfl ?_
          refine wp_iload_n 2 C dX11_worst_38 rfl rfl ?_
          refine wp_iload_n 3 C dX11_worst_39 rfl rfl ?_
          refine wp_callV (rest := []) (c_howMany E h p m k (by omega) (by omega) (by omega)) svX11_204 sh_97 (by decide) rfl rfl (Nat.le_of_ble_eq_true rfl) C dX11_worst_40 (fun r0 hx pf => ?_)
          obtain ⟨rfl, hf⟩ := pf
          refine wp_goto (tgt := 58) C dX11_worst_43 (by decide) ?_
          refine wp_iret C dX11_worst_58 ?_
          exact ⟨by rw [if_neg (fun z => z.elim (fun y => y ⟨c_5, c_15⟩) (by omega))]; unfold wrS; rw [if_pos (by omega)], hf⟩
      · skip
        refine wp_bipush (v := (-3)) C dX11_worst_24 rfl ?_
        refine wp_iret C dX11_worst_26 ?_
        exact ⟨by rw [if_pos (Or.inr (by omega))], fun _ _ _ _ => rfl⟩


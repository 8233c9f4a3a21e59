/-! ===== Coming: supplyAbove, hand, mostWithout; EvenTen.badly ===== -/
set_option maxRecDepth 100000 in
set_option maxHeartbeats 4000000 in
theorem c_supAbove (E : En) (h : Hp) (S : Nat → Nat) (rest : Int) (hr : 0 ≤ rest ∧ rest < h 1 5) (hs : ∀ r : Nat, (r : Int) < h 1 5 → h 122 r = (S r : Int)) (hS : sN S (h 1 5).toNat ≤ 20) (hp : 2 ≤ h 1 5 ∧ h 1 5 ≤ 10) : Ct 0 yX2_supplyAbove cX2_supplyAbove 4 (some .int) E [rv E 99, iv rest] h (Ret (iv ((sN S (h 1 5).toNat : Int) - (sN S (rest.toNat + 1) : Int))) h) := by
  refine ct_intro (by decide) (Nat.le_of_ble_eq_true rfl) (fun G C => ?_)
  show Wp G E 4 (Ret (iv ((sN S (h 1 5).toNat : Int) - (sN S (rest.toNat + 1) : Int))) h) 0 [(0, rv E 99), (1, iv rest)] [] h
  refine wp_iconst (v := 0) C dX2_supplyAbove_0 rfl ?_
  refine wp_istore_n (ls' := [(0, rv E 99), (1, iv rest), (2, iv 0)]) [1, 2, 0] C dX2_supplyAbove_1 rfl (by decide) rfl ?_
  refine wp_iload_n 1 C dX2_supplyAbove_2 rfl rfl ?_
  refine wp_iconst (v := 1) C dX2_supplyAbove_3 rfl ?_
  refine wp_iadd C dX2_supplyAbove_4 ?_
  refine wp_nm (fun v1 e_v1 => ?_)
  refine wp_istore_n (ls' := [(0, rv E 99), (1, iv rest), (2, iv 0), (3, iv v1)]) [1, 2, 3, 0] C dX2_supplyAbove_5 rfl (by decide) rfl ?_
  have q60 : ∀ n9 : Nat, ∀ (x2 : Int) (x3 : Int), (rest < x3 ∧ x3 ≤ h 1 5) → (x2 = (sN S x3.toNat : Int) - (sN S (rest.toNat + 1) : Int)) → (h 1 5 - x3).toNat < n9 → Wp G E 4 (Ret (iv ((sN S (h 1 5).toNat : Int) - (sN S (rest.toNat + 1) : Int))) h) 6 [(0, rv E 99), (1, iv rest), (2, iv x2), (3, iv x3)] [] h := by
    intro n9
    induction n9 with
    | zero => intro x2 x3 hi hx2 hm9; exact absurd hm9 (Nat.not_lt_zero _)
    | succ n9 ih9 =>
      intro x2 x3 hi hx2 hm9
      have ih9_6 := ih9
      refine wp_iload_n 3 C dX2_supplyAbove_6 rfl rfl ?_
      refine wp_aloadR_n 0 C dX2_supplyAbove_7 rfl rfl ?_
      refine wp_getR flX2_24 sh_99 rfl C dX2_supplyAbove_8 ?_
      refine wp_getI flX2_64 sh_1 rfl C dX2_supplyAbove_11 ?_
      refine wp_icmp_ge (tgt := 32) (by omega) (by omega) C dX2_supplyAbove_14 (by decide) (fun c_14 => ?_) (fun c_14 => ?_)
      · skip
        refine wp_iload_n 2 C dX2_supplyAbove_32 rfl rfl ?_
        refine wp_iret C dX2_supplyAbove_33 ?_
        exact ret_iv (by rw [hx2, show x3 = h 1 5 by omega])
      · skip
        refine wp_iload_n 2 C dX2_supplyAbove_17 rfl rfl ?_
        refine wp_aloadR_n 0 C dX2_supplyAbove_18 rfl rfl ?_
        refine wp_getR flX2_16 sh_99 rfl C dX2_supplyAbove_19 ?_
        refine wp_iload_n 3 C dX2_supplyAbove_22 rfl rfl ?_
        refine wp_iald sh_122 (by omega) C dX2_supplyAbove_23 ?_
        refine wp_iadd C dX2_supplyAbove_24 ?_
        refine wp_nm (fun v2 e_v2 => ?_)
        refine wp_istore_n (ls' := [(0, rv E 99), (1, iv rest), (2, iv v2), (3, iv x3)]) [1, 2, 0, 3] C dX2_supplyAbove_25 rfl (by decide) rfl ?_
        obtain ⟨v3, e_v3⟩ : ∃ z : Int, z = x3 + (1) := ⟨_, rfl⟩
        refine wp_iinc (j := 3) (y := v3) (ls' := [(0, rv E 99), (1, iv rest), (2, iv v2), (3, iv v3)]) [1, 2, 3, 0] C dX2_supplyAbove_26 rfl e_v3 (by decide) rfl ?_
        refine wp_goto (tgt := 6) C dX2_supplyAbove_29 (by decide) ?_
        exact ih9_6 v2 v3 (by omega) (by rw [e_v2, e_v3, show (x3 + 1).toNat = x3.toNat + 1 by omega, hs x3.toNat (by omega), show sN S (x3.toNat + 1) = sN S x3.toNat + S x3.toNat from rfl]; omega) (by omega)
  have q6 : ∀ (x2 : Int) (x3 : Int), (rest < x3 ∧ x3 ≤ h 1 5) → (x2 = (sN S x3.toNat : Int) - (sN S (rest.toNat + 1) : Int)) → Wp G E 4 (Ret (iv ((sN S (h 1 5).toNat : Int) - (sN S (rest.toNat + 1) : Int))) h) 6 [(0, rv E 99), (1, iv rest), (2, iv x2), (3, iv x3)] [] h := fun x2 x3 hi hx2 => q60 _ x2 x3 hi hx2 (Nat.lt_succ_self _)
  exact q6 0 v1 (by omega) (by rw [e_v1, show (rest + 1).toNat = rest.toNat + 1 by omega]; omega)

theorem noT_inc {p : Int} {k : Nat} {f : Nat → Nat} {x : Nat} (hx : x < p.toNat) (hy : ∀ y ∈ expd f p.toNat, 0 ≤ y ∧ y < p) (hp : 2 ≤ p ∧ p ≤ 10) (h : noT p k (incF f x)) : ¬ exL p (expd f p.toNat ++ [(x : Int)]) k 0 = true := by
  rw [exL_perm (expd_inc hx) (fun y hm => by rcases List.mem_append.mp hm with z | z; exact hy y z; have := List.mem_singleton.mp z; omega) k 0 (by omega)]
  exact h
theorem noT_inc' {p : Int} {k : Nat} {f : Nat → Nat} {x : Nat} (hx : x < p.toNat) (hy : ∀ y ∈ expd f p.toNat, 0 ≤ y ∧ y < p) (hp : 2 ≤ p ∧ p ≤ 10) (h : ¬ exL p (expd f p.toNat ++ [(x : Int)]) k 0 = true) : noT p k (incF f x) := by
  rw [exL_perm (expd_inc hx) (fun y hm => by rcases List.mem_append.mp hm with z | z; exact hy y z; have := List.mem_singleton.mp z; omega) k 0 (by omega)] at h
  exact h
theorem upd2_s {h : Hp} {a b : Nat} {v : Int} : upd2 h a b v a b = v := if_pos ⟨rfl, rfl⟩
set_option maxRecDepth 100000 in
set_option maxHeartbeats 4000000 in
theorem c_hand0 (E : En) (h : Hp) (S : Nat → Nat) (p : Int) (t : Nat) (IH : ∀ t9, t9 < t → ∀ (h : Hp) (f : Nat → Nat) (k rest b : Nat) (left : Int), handI S f p k rest b left h → b + t9 = 20 → Ct (2 + t9) yX2_hand cX2_hand 8 none E [rv E 99, iv (k : Int), iv (rest : Int), iv (b : Int), iv left] h (handQ S f p k rest b h)) (f : Nat → Nat) (k rest b : Nat) (left : Int) (I : handI S f p k rest b left h) (hbt : b + t = 20) : Ct (2 + t) yX2_hand cX2_hand 8 none E [rv E 99, iv (k : Int), iv (rest : Int), iv (b : Int), iv left] h (handQ S f p k rest b h) := by
  obtain ⟨i1, i2, i3, i4, i5, i6, i7, i8, i9, i10, i11, i12, i13⟩ := id I
  have hPn : ((p.toNat : Nat) : Int) = p := by omega
  have hDS := sN_sub p.toNat i5
  have hDr : sN (fun r => S r - f r) (rest + 1) = sN (fun r => S r - f r) rest + (S rest - f rest) := rfl
  have hfr := i5 rest (by omega)
  have hSr := sN_1 (f := S) (x := rest) (q := p.toNat) (by omega)
  have hDm := sN_le (f := fun r => S r - f r) (a := rest) (b := p.toNat) (by omega)
  have hDab : ∀ q : Nat, rest + 1 ≤ q → q ≤ p.toNat → sN (fun r => S r - f r) q + sN S (rest + 1) = sN (fun r => S r - f r) (rest + 1) + sN S q := fun q h1 h2 => by
    induction q with
    | zero => omega
    | succ q ih =>
      rcases (show q = rest ∨ rest + 1 ≤ q by omega) with z | z
      · rw [z]
      · have h3 := ih z (by omega)
        have h4 := i6 q (by omega) (by omega)
        simp only [sN] at h3 ⊢
        rw [h4]
        omega
  have hDp := hDab p.toNat (by omega) (Nat.le_refl _)
  have hyF : ∀ y ∈ expd f p.toNat, 0 ≤ y ∧ y < p := fun y hy => by have := expd_r f p.toNat y hy; omega
  have hself : extB S f p k rest f := ⟨fun r hr => ⟨Nat.le_refl _, i5 r hr⟩, fun _ _ => rfl, i8⟩
  refine ct_intro (by decide) (Nat.le_of_ble_eq_true rfl) (fun G C => ?_)
  show Wp G E 8 (handQ S f p k rest b h) 0 [(0, rv E 99), (1, iv (k : Int)), (2, iv (rest : Int)), (3, iv (b : Int)), (4, iv left)] [] h
  refine wp_aloadR_n 0 C dX2_hand_0 rfl rfl ?_
  refine wp_aloadR_n 0 C dX2_hand_1 rfl rfl ?_
  refine wp_getI flX2_20 sh_99 rfl C dX2_hand_2 ?_
  refine wp_iload_n 3 C dX2_hand_5 rfl rfl ?_
  refine wp_max (by omega) (by omega) (mT (i := 778) (by decide +kernel) rfl) (mT (i := 455) (by decide +kernel) rfl) (mT (i := 19) (by decide +kernel) rfl) (mT (i := 456) (by decide +kernel) rfl) (Nat.le_of_ble_eq_true rfl) (by omega) C dX2_hand_6 ?_
  refine wp_putI fpX2_20 sh_99 rfl C dX2_hand_9 ?_
  obtain ⟨H1, e_H1⟩ : ∃ z : Hp, z = upd2 h 99 3 (max (h 99 3) (b : Int)) := ⟨_, rfl⟩
  refine wp_heq e_H1 ?_
  refine wp_iload_n 3 C dX2_hand_12 rfl rfl ?_
  refine wp_bipush (v := 20) C dX2_hand_13 rfl ?_
  refine wp_icmp_lt (tgt := 19) (by omega) (by omega) C dX2_hand_15 (by decide) (fun c_15 => ?_) (fun c_15 => ?_)
  · skip
    refine wp_iload 4 C dX2_hand_19 rfl ?_
    refine wp_istore (ls' := [(0, rv E 99), (1, iv (k : Int)), (2, iv (rest : Int)), (3, iv (b : Int)), (4, iv left), (5, iv left)]) [1, 2, 3, 4, 5, 0] C dX2_hand_21 (by decide) rfl ?_
    refine wp_iload 4 C dX2_hand_23 rfl ?_
    refine wp_aloadR_n 0 C dX2_hand_25 rfl rfl ?_
    refine wp_iload_n 2 C dX2_hand_26 rfl rfl ?_
    refine wp_callVp (rest := [iv left]) (c_supAbove E H1 S (rest : Int) (by rw [e_H1]; show _ ∧ _ < h 1 5; omega) (fun r hr => by rw [e_H1] at hr ⊢; exact i10 r (by rw [← i1]; exact hr)) (by rw [e_H1]; show sN S (h 1 5).toNat ≤ 20; rw [i1]; exact i11) (by rw [e_H1]; show 2 ≤ h 1 5 ∧ h 1 5 ≤ 10; rw [i1]; exact i2)) svX2_61 sh_99 (by omega) rfl rfl (Nat.le_of_ble_eq_true rfl) C dX2_hand_27 ?_
    refine wp_top (show _ = (sN S p.toNat : Int) - (sN S (rest + 1) : Int) by rw [e_H1, Int.toNat_natCast]; show (sN S (h 1 5).toNat : Int) - _ = _; rw [i1]) ?_
    refine wp_isub C dX2_hand_30 ?_
    refine wp_nm (fun v2 e_v2 => ?_)
    refine wp_istore (ls' := [(0, rv E 99), (1, iv (k : Int)), (2, iv (rest : Int)), (3, iv (b : Int)), (4, iv left), (5, iv left), (6, iv v2)]) [1, 2, 3, 4, 5, 6, 0] C dX2_hand_31 (by decide) rfl ?_
    refine wp_iload_n 2 C dX2_hand_33 rfl rfl ?_
    refine wp_istore (ls' := [(0, rv E 99), (1, iv (k : Int)), (2, iv (rest : Int)), (3, iv (b : Int)), (4, iv left), (5, iv left), (6, iv v2), (7, iv (rest : Int))]) [1, 2, 3, 4, 5, 6, 7, 0] C dX2_hand_34 (by decide) rfl ?_
    have q360 : ∀ n9 : Nat, ∀ (x5 : Int) (x6 : Int) (x7 : Int) (hx : Hp), ((rest : Int) ≤ x7 ∧ x7 ≤ p) → (x5 + (sN (fun r => S r - f r) x7.toNat : Int) = (sN (fun r => S r - f r) p.toNat : Int)) → (x7 < p → x6 = (S x7.toNat : Int) - (f x7.toNat : Int)) → (h 99 3 ≤ hx 99 3 ∧ (b : Int) ≤ hx 99 3 ∧ hx 99 3 ≤ 20) → (hx 99 3 = h 99 3 ∨ ∃ g, extB S f p k rest g ∧ hx 99 3 = (sN g p.toNat : Int)) → (∀ g, extB S f p k rest g → (∃ r, r < x7.toNat ∧ ¬ g r = f r) → (sN g p.toNat : Int) ≤ hx 99 3) → (∀ a i, ¬ (102 + b ≤ a ∧ a < 122) → ¬ (a = 99 ∧ i = 3) → hx a i = h a i) → (p - x7).toNat < n9 → Wp G E 8 (handQ S f p k rest b h) 36 [(0, rv E 99), (1, iv (k : Int)), (2, iv (rest : Int)), (3, iv (b : Int)), (4, iv left), (5, iv x5), (6, iv x6), (7, iv x7)] [] hx := by
      intro n9
      induction n9 with
      | zero => intro x5 x6 x7 hx hi ha hh hm1 hm2 hm3 hf hm9; exact absurd hm9 (Nat.not_lt_zero _)
      | succ n9 ih9 =>
        intro x5 x6 x7 hx hi ha hh hm1 hm2 hm3 hf hm9
        have ih9_36 := ih9
        have s2 : hx 1 5 = p := (hf 1 5 (by omega) (by omega)).trans i1
        have hDx := sN_le (f := fun r => S r - f r) (a := x7.toNat) (b := p.toNat) (by omega)
        refine wp_iload 7 C dX2_hand_36 rfl ?_
        refine wp_aloadR_n 0 C dX2_hand_38 rfl rfl ?_
        refine wp_getR flX2_24 sh_99 rfl C dX2_hand_39 ?_
        refine wp_getI flX2_64 sh_1 rfl C dX2_hand_42 ?_
        refine wp_icmp_ge (tgt := 138) (by omega) (by omega) C dX2_hand_45 (by decide) (fun c_45 => ?_) (fun c_45 => ?_)
        · skip
          refine wp_vret C dX2_hand_138 ?_
          exact ⟨rfl, hm1.1, hm2, fun g hg => if q9 : ∃ r, r < x7.toNat ∧ ¬ g r = f r then hm3 g hg q9 else by have w1 : ∀ r, r < x7.toNat → g r = f r := (fun r hr => Decidable.byContradiction fun z => q9 ⟨r, hr, z⟩); have h5 := extB_left (by omega) hg w1; rw [show x7.toNat = p.toNat by omega] at h5; omega, hf⟩
        · skip
          refine wp_iload_n 3 C dX2_hand_48 rfl rfl ?_
          refine wp_iload 5 C dX2_hand_49 rfl ?_
          refine wp_iadd C dX2_hand_51 ?_
          refine wp_aloadR_n 0 C dX2_hand_52 rfl rfl ?_
          refine wp_getI flX2_20 sh_99 rfl C dX2_hand_53 ?_
          refine wp_icmp_le (tgt := 138) (by omega) (by omega) C dX2_hand_56 (by decide) (fun c_56 => ?_) (fun c_56 => ?_)
          · skip
            refine wp_vret C dX2_hand_138 ?_
            exact ⟨rfl, hm1.1, hm2, fun g hg => if q9 : ∃ r, r < x7.toNat ∧ ¬ g r = f r then hm3 g hg q9 else by have w1 : ∀ r, r < x7.toNat → g r = f r := (fun r hr => Decidable.byContradiction fun z => q9 ⟨r, hr, z⟩); have h5 := extB_left (by omega) hg w1; omega, hf⟩
          · skip
            have hfx := i5 x7.toNat (by omega)
            have hSx := sN_1 (f := S) (x := x7.toNat) (q := p.toNat) (by omega)
            have hhx0 := hh (by omega)
            refine wp_iload 6 C dX2_hand_59 rfl ?_
            refine wp_if_le (tgt := 96) (by omega) C dX2_hand_61 (by decide) (fun c_61 => ?_) (fun c_61 => ?_)
            · skip
              have ht9 : ∀ a i, ¬ (102 + b ≤ a ∧ a < 122) → ¬ (a = 99 ∧ i = 3) → hx a i = h a i := hf
              have hmo : hx 99 3 = hx 99 3 := rfl
              have t2 : hx 1 5 = p := (ht9 1 5 (by omega) (by omega)).trans i1
              refine wp_iload 5 C dX2_hand_96 rfl ?_
              refine wp_iload 6 C dX2_hand_98 rfl ?_
              refine wp_isub C dX2_hand_100 ?_
              refine wp_nm (fun v3 e_v3 => ?_)
              refine wp_istore (ls' := [(0, rv E 99), (1, iv (k : Int)), (2, iv (rest : Int)), (3, iv (b : Int)), (4, iv left), (5, iv v3), (6, iv x6), (7, iv x7)]) [1, 2, 3, 4, 5, 0, 6, 7] C dX2_hand_101 (by decide) rfl ?_
              refine wp_iload 7 C dX2_hand_103 rfl ?_
              refine wp_iconst (v := 1) C dX2_hand_105 rfl ?_
              refine wp_iadd C dX2_hand_106 ?_
              refine wp_aloadR_n 0 C dX2_hand_107 rfl rfl ?_
              refine wp_getR flX2_24 sh_99 rfl C dX2_hand_108 ?_
              refine wp_getI flX2_64 sh_1 rfl C dX2_hand_111 ?_
              refine wp_icmp_ge (tgt := 129) (by omega) (by omega) C dX2_hand_114 (by decide) (fun c_114 => ?_) (fun c_114 => ?_)
              · skip
                refine wp_iconst (v := 0) C dX2_hand_129 rfl ?_
                refine wp_istore (ls' := [(0, rv E 99), (1, iv (k : Int)), (2, iv (rest : Int)), (3, iv (b : Int)), (4, iv left), (5, iv v3), (6, iv 0), (7, iv x7)]) [1, 2, 3, 4, 5, 6, 0, 7] C dX2_hand_130 (by decide) rfl ?_
                obtain ⟨v4, e_v4⟩ : ∃ z : Int, z = x7 + (1) := ⟨_, rfl⟩
                refine wp_iinc (j := 7) (y := v4) (ls' := [(0, rv E 99), (1, iv (k : Int)), (2, iv (rest : Int)), (3, iv (b : Int)), (4, iv left), (5, iv v3), (6, iv 0), (7, iv v4)]) [1, 2, 3, 4, 5, 6, 7, 0] C dX2_hand_132 rfl e_v4 (by decide) rfl ?_
                refine wp_goto (tgt := 36) C dX2_hand_135 (by decide) ?_
                exact ih9_36 v3 0 v4 hx (by omega) (by rw [e_v3, e_v4, show (x7 + 1).toNat = x7.toNat + 1 by omega]; rw [show sN (fun r => S r - f r) (x7.toNat + 1) = sN (fun r => S r - f r) x7.toNat + (S x7.toNat - f x7.toNat) from rfl]; have := i5 x7.toNat (by omega); have := hh (by omega); omega) (fun z => absurd z (by omega)) (by rw [hmo]; omega) (by rw [hmo]; exact hm2) (fun g hg hd9 => by rw [e_v4, show (x7 + 1).toNat = x7.toNat + 1 by omega] at hd9; by_cases q9 : ∃ r, r < x7.toNat ∧ ¬ g r = f r; have := hm3 g hg q9; omega; have w1 : ∀ r, r < x7.toNat → g r = f r := (fun r hr => Decidable.byContradiction fun z => q9 ⟨r, hr, z⟩); have w2 : ¬ g x7.toNat = f x7.toNat := (by obtain ⟨r, r1, r2⟩ := hd9; rcases (show r < x7.toNat ∨ r = x7.toNat by omega) with z | rfl; exact absurd (w1 r z) r2; exact r2); have w3 := hg.1 x7.toNat (by omega); have := hh (by omega); omega) (ht9) (by omega)
              · skip
                refine wp_aloadR_n 0 C dX2_hand_117 rfl rfl ?_
                refine wp_getR flX2_16 sh_99 rfl C dX2_hand_118 ?_
                refine wp_iload 7 C dX2_hand_121 rfl ?_
                refine wp_iconst (v := 1) C dX2_hand_123 rfl ?_
                refine wp_iadd C dX2_hand_124 ?_
                refine wp_iald sh_122 (by omega) C dX2_hand_125 ?_
                refine wp_goto (tgt := 130) C dX2_hand_126 (by decide) ?_
                refine wp_nm (fun v5 e_v5 => ?_)
                refine wp_istore (ls' := [(0, rv E 99), (1, iv (k : Int)), (2, iv (rest : Int)), (3, iv (b : Int)), (4, iv left), (5, iv v3), (6, iv v5), (7, iv x7)]) [1, 2, 3, 4, 5, 6, 0, 7] C dX2_hand_130 (by decide) rfl ?_
                obtain ⟨v6, e_v6⟩ : ∃ z : Int, z = x7 + (1) := ⟨_, rfl⟩
                refine wp_iinc (j := 7) (y := v6) (ls' := [(0, rv E 99), (1, iv (k : Int)), (2, iv (rest : Int)), (3, iv (b : Int)), (4, iv left), (5, iv v3), (6, iv v5), (7, iv v6)]) [1, 2, 3, 4, 5, 6, 7, 0] C dX2_hand_132 rfl e_v6 (by decide) rfl ?_
                refine wp_goto (tgt := 36) C dX2_hand_135 (by decide) ?_
                exact ih9_36 v3 v5 v6 hx (by omega) (by rw [e_v3, e_v6, show (x7 + 1).toNat = x7.toNat + 1 by omega]; rw [show sN (fun r => S r - f r) (x7.toNat + 1) = sN (fun r => S r - f r) x7.toNat + (S x7.toNat - f x7.toNat) from rfl]; have := i5 x7.toNat (by omega); have := hh (by omega); omega) (fun z => by rw [e_v5, e_v6, show (x7 + 1).toNat = x7.toNat + 1 by omega, ht9 122 _ (by omega) (by omega), i10 (x7.toNat + 1) (by omega), i6 (x7.toNat + 1) (by omega) (by omega)]; omega) (by rw [hmo]; omega) (by rw [hmo]; exact hm2) (fun g hg hd9 => by rw [e_v6, show (x7 + 1).toNat = x7.toNat + 1 by omega] at hd9; by_cases q9 : ∃ r, r < x7.toNat ∧ ¬ g r = f r; have := hm3 g hg q9; omega; have w1 : ∀ r, r < x7.toNat → g r = f r := (fun r hr => Decidable.byContradiction fun z => q9 ⟨r, hr, z⟩); have w2 : ¬ g x7.toNat = f x7.toNat := (by obtain ⟨r, r1, r2⟩ := hd9; rcases (show r < x7.toNat ∨ r = x7.toNat by omega) with z | rfl; exact absurd (w1 r z) r2; exact r2); have w3 := hg.1 x7.toNat (by omega); have := hh (by omega); omega) (ht9) (by omega)
            · skip
              have hx7 : ((x7.toNat : Nat) : Int) = x7 := by omega
              have hlen : (expd f p.toNat).length ≤ 20 := by rw [expd_len, i7]; omega
              have hrw : rowP (hx 1 5) hx b (expd f p.toNat) := by rw [s2]; exact rowP_congr (fun i => hf _ i (by omega) (by omega)) i9
              have hhx := hh (by omega)
              refine wp_aloadR_n 0 C dX2_hand_64 rfl rfl ?_
              refine wp_iload_n 3 C dX2_hand_65 rfl rfl ?_
              refine wp_iload 7 C dX2_hand_66 rfl ?_
              refine wp_callV (rest := []) (c_addOne E hx (b : Int) x7 (expd f p.toNat) (by omega) hlen (by omega) (by rw [s2]; exact hyF) hrw (by rw [s2]; exact i2)) svX2_37 sh_99 (by omega) rfl rfl (Nat.le_of_ble_eq_true rfl) C dX2_hand_68 (fun r0 hy pf => ?_)
              obtain ⟨rfl, hy1, hy2⟩ := pf
              rw [s2, Int.toNat_natCast] at hy1
              rw [Int.toNat_natCast] at hy2
              have t1 : hy 1 5 = p := (hy2 1 5 (by omega)).trans s2
              refine wp_aloadR_n 0 C dX2_hand_71 rfl rfl ?_
              refine wp_iload_n 3 C dX2_hand_72 rfl rfl ?_
              refine wp_iconst (v := 1) C dX2_hand_73 rfl ?_
              refine wp_iadd C dX2_hand_74 ?_
              refine wp_iload_n 1 C dX2_hand_75 rfl rfl ?_
              refine wp_callVp (rest := []) (c_chasTen E hy ((b : Int) + 1) (k : Int) (expd f p.toNat ++ [x7]) (by omega) (by omega) (by rw [List.length_append, expd_len, i7]; simp; omega) (by rw [t1, show ((b : Int) + 1).toNat = b + 1 by omega]; exact hy1) (by rw [t1]; exact i2)) svX2_41 sh_99 (by omega) rfl rfl (Nat.le_of_ble_eq_true rfl) C dX2_hand_76 ?_
              refine wp_top (show _ = bi (exL p (expd f p.toNat ++ [x7]) k 0 = true) by rw [t1, Int.toNat_natCast]) ?_
              refine wp_ifb_ne (tgt := 96) C dX2_hand_79 (by decide) (fun c_79 => ?_) (fun c_79 => ?_)
              · skip
                have ht9 : ∀ a i, ¬ (102 + b ≤ a ∧ a < 122) → ¬ (a = 99 ∧ i = 3) → hy a i = h a i := fun a i h1 h2 => (hy2 a i (by omega)).trans (hf a i h1 h2)
                have hmo : hy 99 3 = hx 99 3 := hy2 99 3 (by omega)
                have t2 : hy 1 5 = p := (ht9 1 5 (by omega) (by omega)).trans i1
                refine wp_iload 5 C dX2_hand_96 rfl ?_
                refine wp_iload 6 C dX2_hand_98 rfl ?_
                refine wp_isub C dX2_hand_100 ?_
                refine wp_nm (fun v7 e_v7 => ?_)
                refine wp_istore (ls' := [(0, rv E 99), (1, iv (k : Int)), (2, iv (rest : Int)), (3, iv (b : Int)), (4, iv left), (5, iv v7), (6, iv x6), (7, iv x7)]) [1, 2, 3, 4, 5, 0, 6, 7] C dX2_hand_101 (by decide) rfl ?_
                refine wp_iload 7 C dX2_hand_103 rfl ?_
                refine wp_iconst (v := 1) C dX2_hand_105 rfl ?_
                refine wp_iadd C dX2_hand_106 ?_
                refine wp_aloadR_n 0 C dX2_hand_107 rfl rfl ?_
                refine wp_getR flX2_24 sh_99 rfl C dX2_hand_108 ?_
                refine wp_getI flX2_64 sh_1 rfl C dX2_hand_111 ?_
                refine wp_icmp_ge (tgt := 129) (by omega) (by omega) C dX2_hand_114 (by decide) (fun c_114 => ?_) (fun c_114 => ?_)
                · skip
                  refine wp_iconst (v := 0) C dX2_hand_129 rfl ?_
                  refine wp_istore (ls' := [(0, rv E 99), (1, iv (k : Int)), (2, iv (rest : Int)), (3, iv (b : Int)), (4, iv left), (5, iv v7), (6, iv 0), (7, iv x7)]) [1, 2, 3, 4, 5, 6, 0, 7] C dX2_hand_130 (by decide) rfl ?_
                  obtain ⟨v8, e_v8⟩ : ∃ z : Int, z = x7 + (1) := ⟨_, rfl⟩
                  refine wp_iinc (j := 7) (y := v8) (ls' := [(0, rv E 99), (1, iv (k : Int)), (2, iv (rest : Int)), (3, iv (b : Int)), (4, iv left), (5, iv v7), (6, iv 0), (7, iv v8)]) [1, 2, 3, 4, 5, 6, 7, 0] C dX2_hand_132 rfl e_v8 (by decide) rfl ?_
                  refine wp_goto (tgt := 36) C dX2_hand_135 (by decide) ?_
                  exact ih9_36 v7 0 v8 hy (by omega) (by rw [e_v7, e_v8, show (x7 + 1).toNat = x7.toNat + 1 by omega]; rw [show sN (fun r => S r - f r) (x7.toNat + 1) = sN (fun r => S r - f r) x7.toNat + (S x7.toNat - f x7.toNat) from rfl]; have := i5 x7.toNat (by omega); have := hh (by omega); omega) (fun z => absurd z (by omega)) (by rw [hmo]; omega) (by rw [hmo]; exact hm2) (fun g hg hd9 => by rw [e_v8, show (x7 + 1).toNat = x7.toNat + 1 by omega] at hd9; by_cases q9 : ∃ r, r < x7.toNat ∧ ¬ g r = f r; have := hm3 g hg q9; omega; have w1 : ∀ r, r < x7.toNat → g r = f r := (fun r hr => Decidable.byContradiction fun z => q9 ⟨r, hr, z⟩); have w2 : ¬ g x7.toNat = f x7.toNat := (by obtain ⟨r, r1, r2⟩ := hd9; rcases (show r < x7.toNat ∨ r = x7.toNat by omega) with z | rfl; exact absurd (w1 r z) r2; exact r2); exact absurd (show exL p (expd f p.toNat ++ [((x7.toNat : Nat) : Int)]) k 0 = true by rw [hx7]; exact c_79) (noT_inc (by omega) hyF i2 (noT_le (fun r hr => ((extB_next (by omega) (by omega) hg w1 w2).1 r hr).1) hg.2.2))) (ht9) (by omega)
                · skip
                  refine wp_aloadR_n 0 C dX2_hand_117 rfl rfl ?_
                  refine wp_getR flX2_16 sh_99 rfl C dX2_hand_118 ?_
                  refine wp_iload 7 C dX2_hand_121 rfl ?_
                  refine wp_iconst (v := 1) C dX2_hand_123 rfl ?_
                  refine wp_iadd C dX2_hand_124 ?_
                  refine wp_iald sh_122 (by omega) C dX2_hand_125 ?_
                  refine wp_goto (tgt := 130) C dX2_hand_126 (by decide) ?_
                  refine wp_nm (fun v9 e_v9 => ?_)
                  refine wp_istore (ls' := [(0, rv E 99), (1, iv (k : Int)), (2, iv (rest : Int)), (3, iv (b : Int)), (4, iv left), (5, iv v7), (6, iv v9), (7, iv x7)]) [1, 2, 3, 4, 5, 6, 0, 7] C dX2_hand_130 (by decide) rfl ?_
                  obtain ⟨v10, e_v10⟩ : ∃ z : Int, z = x7 + (1) := ⟨_, rfl⟩
                  refine wp_iinc (j := 7) (y := v10) (ls' := [(0, rv E 99), (1, iv (k : Int)), (2, iv (rest : Int)), (3, iv (b : Int)), (4, iv left), (5, iv v7), (6, iv v9), (7, iv v10)]) [1, 2, 3, 4, 5, 6, 7, 0] C dX2_hand_132 rfl e_v10 (by decide) rfl ?_
                  refine wp_goto (tgt := 36) C dX2_hand_135 (by decide) ?_
                  exact ih9_36 v7 v9 v10 hy (by omega) (by rw [e_v7, e_v10, show (x7 + 1).toNat = x7.toNat + 1 by omega]; rw [show sN (fun r => S r - f r) (x7.toNat + 1) = sN (fun r => S r - f r) x7.toNat + (S x7.toNat - f x7.toNat) from rfl]; have := i5 x7.toNat (by omega); have := hh (by omega); omega) (fun z => by rw [e_v9, e_v10, show (x7 + 1).toNat = x7.toNat + 1 by omega, ht9 122 _ (by omega) (by omega), i10 (x7.toNat + 1) (by omega), i6 (x7.toNat + 1) (by omega) (by omega)]; omega) (by rw [hmo]; omega) (by rw [hmo]; exact hm2) (fun g hg hd9 => by rw [e_v10, show (x7 + 1).toNat = x7.toNat + 1 by omega] at hd9; by_cases q9 : ∃ r, r < x7.toNat ∧ ¬ g r = f r; have := hm3 g hg q9; omega; have w1 : ∀ r, r < x7.toNat → g r = f r := (fun r hr => Decidable.byContradiction fun z => q9 ⟨r, hr, z⟩); have w2 : ¬ g x7.toNat = f x7.toNat := (by obtain ⟨r, r1, r2⟩ := hd9; rcases (show r < x7.toNat ∨ r = x7.toNat by omega) with z | rfl; exact absurd (w1 r z) r2; exact r2); exact absurd (show exL p (expd f p.toNat ++ [((x7.toNat : Nat) : Int)]) k 0 = true by rw [hx7]; exact c_79) (noT_inc (by omega) hyF i2 (noT_le (fun r hr => ((extB_next (by omega) (by omega) hg w1 w2).1 r hr).1) hg.2.2))) (ht9) (by omega)
              · skip
                refine wp_aloadR_n 0 C dX2_hand_82 rfl rfl ?_
                refine wp_iload_n 1 C dX2_hand_83 rfl rfl ?_
                refine wp_iload 7 C dX2_hand_84 rfl ?_
                refine wp_iload_n 3 C dX2_hand_86 rfl rfl ?_
                refine wp_iconst (v := 1) C dX2_hand_87 rfl ?_
                refine wp_iadd C dX2_hand_88 ?_
                refine wp_iload 5 C dX2_hand_89 rfl ?_
                refine wp_iconst (v := 1) C dX2_hand_91 rfl ?_
                refine wp_isub C dX2_hand_92 ?_
                have hII : handI S (incF f x7.toNat) p k x7.toNat (b + 1) (x5 - 1) hy := by
                  refine ⟨t1, i2, i3, by omega, fun r hr => ?_, fun r r1 r2 => ?_, by rw [sN_inc, if_pos (by omega), i7], noT_inc' (by omega) hyF i2 (by rw [hx7]; exact c_79), ?_, fun r hr => (hy2 122 r (by omega)).trans ((hf 122 r (by omega) (by omega)).trans (i10 r hr)), i11, by rw [hy2 99 3 (by omega)]; omega, ?_⟩
                  · by_cases q : r = x7.toNat
                    · rw [q, incF_eq]; have := i5 x7.toNat (by omega); omega
                    · rw [incF_ne q]; exact i5 r hr
                  · rw [incF_ne (by omega)]; exact i6 r (by omega) r2
                  · refine rowP_perm (expd_inc (by omega)) (fun y hm => ?_) (by rw [hx7]; exact hy1)
                    rcases List.mem_append.mp hm with z | z
                    · exact hyF y z
                    · have := List.mem_singleton.mp z; omega
                  · have d1 : sN (fun r => S r - incF f x7.toNat r) x7.toNat = sN (fun r => S r - f r) x7.toNat := sN_congr _ (fun r hr => by rw [incF_ne (by omega)])
                    have d2 := sN_sub (S := S) (f := incF f x7.toNat) p.toNat (fun r hr => by by_cases q : r = x7.toNat; rw [q, incF_eq]; have := i5 x7.toNat (by omega); omega; rw [incF_ne q]; exact i5 r hr)
                    rw [sN_inc, if_pos (by omega)] at d2
                    rw [d1]
                    omega
                have hIc := IH (t - 1) (by omega) hy (incF f x7.toNat) k x7.toNat (b + 1) (x5 - 1) hII (by omega)
                rw [hx7, show (((b + 1 : Nat)) : Int) = (b : Int) + 1 by omega] at hIc
                refine wp_callV (rest := []) (hIc) svX2_51 sh_99 (by omega) rfl rfl (Nat.le_of_ble_eq_true rfl) C dX2_hand_93 (fun r0 hz pf => ?_)
                obtain ⟨rfl, hq1, hq2, hq3, hq4⟩ := pf
                have hmz : hy 99 3 = hx 99 3 := hy2 99 3 (by omega)
                have ht9 : ∀ a i, ¬ (102 + b ≤ a ∧ a < 122) → ¬ (a = 99 ∧ i = 3) → hz a i = h a i := fun a i h1 h2 => (hq4 a i (by omega) h2).trans ((hy2 a i (by omega)).trans (hf a i h1 h2))
                have hmy : hy 99 3 = hx 99 3 := hy2 99 3 (by omega)
                have t2 : hz 1 5 = p := (ht9 1 5 (by omega) (by omega)).trans i1
                have hup : hz 99 3 ≤ 20 := by rcases hq2 with z | ⟨g, z1, z2⟩; omega; have := extB_sum z1; omega
                refine wp_iload 5 C dX2_hand_96 rfl ?_
                refine wp_iload 6 C dX2_hand_98 rfl ?_
                refine wp_isub C dX2_hand_100 ?_
                refine wp_nm (fun v11 e_v11 => ?_)
                refine wp_istore (ls' := [(0, rv E 99), (1, iv (k : Int)), (2, iv (rest : Int)), (3, iv (b : Int)), (4, iv left), (5, iv v11), (6, iv x6), (7, iv x7)]) [1, 2, 3, 4, 5, 0, 6, 7] C dX2_hand_101 (by decide) rfl ?_
                refine wp_iload 7 C dX2_hand_103 rfl ?_
                refine wp_iconst (v := 1) C dX2_hand_105 rfl ?_
                refine wp_iadd C dX2_hand_106 ?_
                refine wp_aloadR_n 0 C dX2_hand_107 rfl rfl ?_
                refine wp_getR flX2_24 sh_99 rfl C dX2_hand_108 ?_
                refine wp_getI flX2_64 sh_1 rfl C dX2_hand_111 ?_
                refine wp_icmp_ge (tgt := 129) (by omega) (by omega) C dX2_hand_114 (by decide) (fun c_114 => ?_) (fun c_114 => ?_)
                · skip
                  refine wp_iconst (v := 0) C dX2_hand_129 rfl ?_
                  refine wp_istore (ls' := [(0, rv E 99), (1, iv (k : Int)), (2, iv (rest : Int)), (3, iv (b : Int)), (4, iv left), (5, iv v11), (6, iv 0), (7, iv x7)]) [1, 2, 3, 4, 5, 6, 0, 7] C dX2_hand_130 (by decide) rfl ?_
                  obtain ⟨v12, e_v12⟩ : ∃ z : Int, z = x7 + (1) := ⟨_, rfl⟩
                  refine wp_iinc (j := 7) (y := v12) (ls' := [(0, rv E 99), (1, iv (k : Int)), (2, iv (rest : Int)), (3, iv (b : Int)), (4, iv left), (5, iv v11), (6, iv 0), (7, iv v12)]) [1, 2, 3, 4, 5, 6, 7, 0] C dX2_hand_132 rfl e_v12 (by decide) rfl ?_
                  refine wp_goto (tgt := 36) C dX2_hand_135 (by decide) ?_
                  exact ih9_36 v11 0 v12 hz (by omega) (by rw [e_v11, e_v12, show (x7 + 1).toNat = x7.toNat + 1 by omega]; rw [show sN (fun r => S r - f r) (x7.toNat + 1) = sN (fun r => S r - f r) x7.toNat + (S x7.toNat - f x7.toNat) from rfl]; have := i5 x7.toNat (by omega); have := hh (by omega); omega) (fun z => absurd z (by omega)) (by omega) (by rcases hq2 with z | ⟨g, z1, z2⟩; rw [z, hmy]; exact hm2; exact Or.inr ⟨g, extB_back (by omega) z1, z2⟩) (fun g hg hd9 => by rw [e_v12, show (x7 + 1).toNat = x7.toNat + 1 by omega] at hd9; by_cases q9 : ∃ r, r < x7.toNat ∧ ¬ g r = f r; have := hm3 g hg q9; omega; have w1 : ∀ r, r < x7.toNat → g r = f r := (fun r hr => Decidable.byContradiction fun z => q9 ⟨r, hr, z⟩); have w2 : ¬ g x7.toNat = f x7.toNat := (by obtain ⟨r, r1, r2⟩ := hd9; rcases (show r < x7.toNat ∨ r = x7.toNat by omega) with z | rfl; exact absurd (w1 r z) r2; exact r2); exact hq3 g (extB_next (by omega) (by omega) hg w1 w2)) (ht9) (by omega)
                · skip
                  refine wp_aloadR_n 0 C dX2_hand_117 rfl rfl ?_
                  refine wp_getR flX2_16 sh_99 rfl C dX2_hand_118 ?_
                  refine wp_iload 7 C dX2_hand_121 rfl ?_
                  refine wp_iconst (v := 1) C dX2_hand_123 rfl ?_
                  refine wp_iadd C dX2_hand_124 ?_
                  refine wp_iald sh_122 (by omega) C dX2_hand_125 ?_
                  refine wp_goto (tgt := 130) C dX2_hand_126 (by decide) ?_
                  refine wp_nm (fun v13 e_v13 => ?_)
                  refine wp_istore (ls' := [(0, rv E 99), (1, iv (k : Int)), (2, iv (rest : Int)), (3, iv (b : Int)), (4, iv left), (5, iv v11), (6, iv v13), (7, iv x7)]) [1, 2, 3, 4, 5, 6, 0, 7] C dX2_hand_130 (by decide) rfl ?_
                  obtain ⟨v14, e_v14⟩ : ∃ z : Int, z = x7 + (1) := ⟨_, rfl⟩
                  refine wp_iinc (j := 7) (y := v14) (ls' := [(0, rv E 99), (1, iv (k : Int)), (2, iv (rest : Int)), (3, iv (b : Int)), (4, iv left), (5, iv v11), (6, iv v13), (7, iv v14)]) [1, 2, 3, 4, 5, 6, 7, 0] C dX2_hand_132 rfl e_v14 (by decide) rfl ?_
                  refine wp_goto (tgt := 36) C dX2_hand_135 (by decide) ?_
                  exact ih9_36 v11 v13 v14 hz (by omega) (by rw [e_v11, e_v14, show (x7 + 1).toNat = x7.toNat + 1 by omega]; rw [show sN (fun r => S r - f r) (x7.toNat + 1) = sN (fun r => S r - f r) x7.toNat + (S x7.toNat - f x7.toNat) from rfl]; have := i5 x7.toNat (by omega); have := hh (by omega); omega) (fun z => by rw [e_v13, e_v14, show (x7 + 1).toNat = x7.toNat + 1 by omega, ht9 122 _ (by omega) (by omega), i10 (x7.toNat + 1) (by omega), i6 (x7.toNat + 1) (by omega) (by omega)]; omega) (by omega) (by rcases hq2 with z | ⟨g, z1, z2⟩; rw [z, hmy]; exact hm2; exact Or.inr ⟨g, extB_back (by omega) z1, z2⟩) (fun g hg hd9 => by rw [e_v14, show (x7 + 1).toNat = x7.toNat + 1 by omega] at hd9; by_cases q9 : ∃ r, r < x7.toNat ∧ ¬ g r = f r; have := hm3 g hg q9; omega; have w1 : ∀ r, r < x7.toNat → g r = f r := (fun r hr => Decidable.byContradiction fun z => q9 ⟨r, hr, z⟩); have w2 : ¬ g x7.toNat = f x7.toNat := (by obtain ⟨r, r1, r2⟩ := hd9; rcases (show r < x7.toNat ∨ r = x7.toNat by omega) with z | rfl; exact absurd (w1 r z) r2; exact r2); exact hq3 g (extB_next (by omega) (by omega) hg w1 w2)) (ht9) (by omega)
    have q36 : ∀ (x5 : Int) (x6 : Int) (x7 : Int) (hx : Hp), ((rest : Int) ≤ x7 ∧ x7 ≤ p) → (x5 + (sN (fun r => S r - f r) x7.toNat : Int) = (sN (fun r => S r - f r) p.toNat : Int)) → (x7 < p → x6 = (S x7.toNat : Int) - (f x7.toNat : Int)) → (h 99 3 ≤ hx 99 3 ∧ (b : Int) ≤ hx 99 3 ∧ hx 99 3 ≤ 20) → (hx 99 3 = h 99 3 ∨ ∃ g, extB S f p k rest g ∧ hx 99 3 = (sN g p.toNat : Int)) → (∀ g, extB S f p k rest g → (∃ r, r < x7.toNat ∧ ¬ g r = f r) → (sN g p.toNat : Int) ≤ hx 99 3) → (∀ a i, ¬ (102 + b ≤ a ∧ a < 122) → ¬ (a = 99 ∧ i = 3) → hx a i = h a i) → Wp G E 8 (handQ S f p k rest b h) 36 [(0, rv E 99), (1, iv (k : Int)), (2, iv (rest : Int)), (3, iv (b : Int)), (4, iv left), (5, iv x5), (6, iv x6), (7, iv x7)] [] hx := fun x5 x6 x7 hx hi ha hh hm1 hm2 hm3 hf => q360 _ x5 x6 x7 hx hi ha hh hm1 hm2 hm3 hf (Nat.lt_succ_self _)
    exact q36 left v2 (rest : Int) H1 (by omega) (i13) (fun _ => by rw [e_v2, Int.toNat_natCast]; omega) (by rw [e_H1, upd2_s]; omega) (by rw [e_H1, upd2_s]; rcases (show max (h 99 3) (b : Int) = h 99 3 ∨ max (h 99 3) (b : Int) = (b : Int) by omega) with z | z; exact Or.inl z; exact Or.inr ⟨f, hself, by rw [z, i7]⟩) (fun g hg ⟨r, r1, r2⟩ => absurd (hg.2.1 r (by omega)) r2) (fun a i _ h2 => by rw [e_H1]; unfold upd2; rw [if_neg h2])
  · skip
    refine wp_vret C dX2_hand_18 ?_
    exact ⟨rfl, by rw [e_H1, upd2_s]; omega, by rw [e_H1, upd2_s]; exact (show max (h 99 3) (b : Int) = h 99 3 ∨ max (h 99 3) (b : Int) = (b : Int) by omega).elim Or.inl (fun z => Or.inr ⟨f, hself, by rw [z, i7]⟩), fun g hg => by rw [e_H1, upd2_s]; have := extB_sum hg; omega, fun a i _ h2 => by rw [e_H1]; unfold upd2; rw [if_neg h2]⟩

theorem c_hand (E : En) (S : Nat → Nat) (p : Int) : ∀ (t : Nat) (h : Hp) (f : Nat → Nat) (k rest b : Nat) (left : Int), handI S f p k rest b left h → b + t = 20 → Ct (2 + t) yX2_hand cX2_hand 8 none E [rv E 99, iv (k : Int), iv (rest : Int), iv (b : Int), iv left] h (handQ S f p k rest b h) := by
  intro t
  induction t using Nat.strongRecOn with
  | ind t ih => exact fun h f k rest b left I hbt => c_hand0 E h S p t ih f k rest b left I hbt
theorem expd_0 : ∀ q : Nat, expd (fun _ => 0) q = []
  | 0 => rfl
  | q + 1 => by rw [expd, expd_0 q]; rfl
theorem sN_0 : ∀ q : Nat, sN (fun _ => 0) q = 0
  | 0 => rfl
  | q + 1 => by rw [sN, sN_0 q]
/-- how many of the heaps have a rest -/
def cnS (N : Nat → Int) (p : Int) (n : Nat) : Nat → Nat := fun r => (rsL N p n).count (r : Int)
theorem cnS_sum {N : Nat → Int} {p : Int} {n : Nat} (hp : 2 ≤ p ∧ p ≤ 10) : sN (cnS N p n) p.toNat = n := by
  have h := (expd_perm (L := rsL N p n) (q := p.toNat) (fun y hy => by have := rsL_r hp n y hy; omega)).length_eq
  rw [expd_len, rsL_len] at h
  exact h
theorem cnS_succ {N : Nat → Int} {p : Int} {n r : Nat} : cnS N p (n + 1) r = cnS N p n r + if N n % p = (r : Int) then 1 else 0 := by
  unfold cnS
  rw [rsL_succ, count_snoc]
set_option maxRecDepth 100000 in
set_option maxHeartbeats 4000000 in
theorem c_mostWithout (E : En) (h : Hp) (k : Int) (hk : 1 ≤ k ∧ k ≤ 20) (h0 : h 101 0 = 1 ∧ ∀ r : Nat, 0 < r → r < 10 → h 101 r = 0) (hz : 0 ≤ h 1 4 ∧ h 1 4 ≤ 20) (hp : 2 ≤ h 1 5 ∧ h 1 5 ≤ 10) (hN : ∀ i : Nat, (i : Int) < h 1 4 → 0 ≤ h 2 i ∧ h 2 i ≤ 999999999999999) : Ct 23 yX2_mostWithout cX2_mostWithout 3 (some .int) E [rv E 99, iv k] h (fun v hx => (∃ a, v = some (iv a) ∧ badP (cnS (h 2) (h 1 5) (h 1 4).toNat) (h 1 5) k.toNat a) ∧ (∀ a i, ¬ (102 ≤ a ∧ a < 123) → ¬ (a = 99 ∧ i = 3) → hx a i = h a i)) := by
  refine ct_intro (by decide) (Nat.le_of_ble_eq_true rfl) (fun G C => ?_)
  show Wp G E 3 (fun v hx => (∃ a, v = some (iv a) ∧ badP (cnS (h 2) (h 1 5) (h 1 4).toNat) (h 1 5) k.toNat a) ∧ (∀ a i, ¬ (102 ≤ a ∧ a < 123) → ¬ (a = 99 ∧ i = 3) → hx a i = h a i)) 0 [(0, rv E 99), (1, iv k)] [] h
  refine wp_aloadR_n 0 C dX2_mostWithout_0 rfl rfl ?_
  refine wp_getR flX2_16 sh_99 rfl C dX2_mostWithout_1 ?_
  refine wp_iconst (v := 0) C dX2_mostWithout_4 rfl ?_
  refine wp_callSu (rest := []) (c_fillI E h 122 10 sh_122 0) ssX2_45 (by decide) rfl rfl (Nat.le_of_ble_eq_true rfl) C dX2_mostWithout_5 ?_
  show Wp G E 3 (fun v hx => (∃ a, v = some (iv a) ∧ badP (cnS (h 2) (h 1 5) (h 1 4).toNat) (h 1 5) k.toNat a) ∧ (∀ a i, ¬ (102 ≤ a ∧ a < 123) → ¬ (a = 99 ∧ i = 3) → hx a i = h a i)) 8 [(0, rv E 99), (1, iv k)] [] (fillH h 122 0 10 0)
  obtain ⟨H1, e_H1⟩ : ∃ z : Hp, z = fillH h 122 0 10 0 := ⟨_, rfl⟩
  refine wp_heq e_H1 ?_
  refine wp_iconst (v := 0) C dX2_mostWithout_8 rfl ?_
  refine wp_istore_n (ls' := [(0, rv E 99), (1, iv k), (2, iv 0)]) [1, 2, 0] C dX2_mostWithout_9 rfl (by decide) rfl ?_
  have q100 : ∀ n9 : Nat, ∀ (x2 : Int) (hx : Hp), (0 ≤ x2 ∧ x2 ≤ h 1 4) → (∀ r : Nat, (r : Int) < h 1 5 → hx 122 r = (cnS (h 2) (h 1 5) x2.toNat r : Int)) → (∀ a i, ¬ (102 ≤ a ∧ a < 123) → ¬ (a = 99 ∧ i = 3) → hx a i = h a i) → (h 1 4 - x2).toNat < n9 → Wp G E 3 (fun v hx => (∃ a, v = some (iv a) ∧ badP (cnS (h 2) (h 1 5) (h 1 4).toNat) (h 1 5) k.toNat a) ∧ (∀ a i, ¬ (102 ≤ a ∧ a < 123) → ¬ (a = 99 ∧ i = 3) → hx a i = h a i)) 10 [(0, rv E 99), (1, iv k), (2, iv x2)] [] hx := by
    intro n9
    induction n9 with
    | zero => intro x2 hx hi hs hf hm9; exact absurd hm9 (Nat.not_lt_zero _)
    | succ n9 ih9 =>
      intro x2 hx hi hs hf hm9
      have ih9_10 := ih9
      have s1 : hx 1 4 = h 1 4 := hf 1 4 (by omega) (by omega)
      have s2 : hx 1 5 = h 1 5 := hf 1 5 (by omega) (by omega)
      have hmn := mod_r (h 2 x2.toNat) hp
      refine wp_iload_n 2 C dX2_mostWithout_10 rfl rfl ?_
      refine wp_aloadR_n 0 C dX2_mostWithout_11 rfl rfl ?_
      refine wp_getR flX2_24 sh_99 rfl C dX2_mostWithout_12 ?_
      refine wp_getI flX2_28 sh_1 rfl C dX2_mostWithout_15 ?_
      refine wp_icmp_ge (tgt := 44) (by omega) (by omega) C dX2_mostWithout_18 (by decide) (fun c_18 => ?_) (fun c_18 => ?_)
      · skip
        refine wp_aloadR_n 0 C dX2_mostWithout_44 rfl rfl ?_
        refine wp_iconst (v := 0) C dX2_mostWithout_45 rfl ?_
        refine wp_putI fpX2_20 sh_99 rfl C dX2_mostWithout_46 ?_
        obtain ⟨H2, e_H2⟩ : ∃ z : Hp, z = upd2 hx 99 3 0 := ⟨_, rfl⟩
        refine wp_heq e_H2 ?_
        refine wp_aloadR_n 0 C dX2_mostWithout_49 rfl rfl ?_
        refine wp_iload_n 1 C dX2_mostWithout_50 rfl rfl ?_
        refine wp_iconst (v := 0) C dX2_mostWithout_51 rfl ?_
        refine wp_iconst (v := 0) C dX2_mostWithout_52 rfl ?_
        refine wp_aloadR_n 0 C dX2_mostWithout_53 rfl rfl ?_
        refine wp_getR flX2_24 sh_99 rfl C dX2_mostWithout_54 ?_
        refine wp_getI flX2_28 sh_1 rfl C dX2_mostWithout_57 ?_
        refine wp_top (rdu_ne e_H2 (by decide)) ?_
        refine wp_top (show _ = h 1 4 by first | exact s1 | (rw [e_H2]; exact s1)) ?_
        have hfH : ∀ a i, ¬ (102 ≤ a ∧ a < 123) → ¬ (a = 99 ∧ i = 3) → H2 a i = h a i := fun a i h1 h2 => by rw [e_H2]; unfold upd2; rw [if_neg h2]; exact hf a i h1 h2
        have hI : handI (cnS (h 2) (h 1 5) (h 1 4).toNat) (fun _ => 0) (h 1 5) k.toNat 0 0 (h 1 4) H2 := by
          refine ⟨hfH 1 5 (by omega) (by omega), hp, by omega, by omega, fun _ _ => Nat.zero_le _, fun _ _ _ => rfl, sN_0 _, noT_0 (by omega), by rw [expd_0]; exact row_0 hp ⟨(hfH 101 0 (by omega) (by omega)).trans h0.1, fun r h1 h2 => (hfH 101 r (by omega) (by omega)).trans (h0.2 r h1 h2)⟩, fun r hr => ?_, by rw [cnS_sum hp]; omega, by rw [e_H2, upd2_s]; omega, ?_⟩
          · rw [e_H2]; unfold upd2; rw [if_neg (fun z => absurd z.1 (by omega)), hs r hr, show x2 = h 1 4 by omega]
          · show h 1 4 + ((0 : Nat) : Int) = (sN (cnS (h 2) (h 1 5) (h 1 4).toNat) (h 1 5).toNat : Int); rw [cnS_sum hp]; omega
        have hct := c_hand E (cnS (h 2) (h 1 5) (h 1 4).toNat) (h 1 5) 20 H2 (fun _ => 0) k.toNat 0 0 (h 1 4) hI (by omega)
        rw [show ((k.toNat : Nat) : Int) = k by omega] at hct
        refine wp_callV (rest := []) (hct) svX2_51 sh_99 (by decide) rfl rfl (Nat.le_of_ble_eq_true rfl) C dX2_mostWithout_60 (fun r0 hz pf => ?_)
        obtain ⟨rfl, hq1, hq2, hq3, hq4⟩ := pf
        rw [e_H2, upd2_s] at hq1 hq2
        refine wp_aloadR_n 0 C dX2_mostWithout_63 rfl rfl ?_
        refine wp_getI flX2_20 sh_99 rfl C dX2_mostWithout_64 ?_
        refine wp_iret C dX2_mostWithout_67 ?_
        exact ⟨⟨_, rfl, hq2.elim (fun z => ⟨fun _ => 0, ⟨fun _ _ => Nat.zero_le _, noT_0 (by omega)⟩, by rw [z, sN_0]; rfl⟩) (fun ⟨g, g1, g2⟩ => ⟨g, ⟨fun r hr => (g1.1 r hr).2, g1.2.2⟩, g2⟩), fun g hg => hq3 g ⟨fun r hr => ⟨Nat.zero_le _, hg.1 r hr⟩, fun _ h9 => absurd h9 (Nat.not_lt_zero _), hg.2⟩⟩, fun a i h1 h2 => (hq4 a i (by omega) h2).trans (hfH a i h1 h2)⟩
      · skip
        refine wp_aloadR_n 0 C dX2_mostWithout_21 rfl rfl ?_
        refine wp_getR flX2_16 sh_99 rfl C dX2_mostWithout_22 ?_
        refine wp_aloadR_n 0 C dX2_mostWithout_25 rfl rfl ?_
        refine wp_getR flX2_24 sh_99 rfl C dX2_mostWithout_26 ?_
        refine wp_iload_n 2 C dX2_mostWithout_29 rfl rfl ?_
        refine wp_callVp (rest := [rv E 122]) (c_restOfNumber E hx x2 (by omega) (by rw [hf 2 _ (by omega) (by omega)]; exact hN _ (by omega)) (by omega)) svX2_33 sh_1 (by decide) rfl rfl (Nat.le_of_ble_eq_true rfl) C dX2_mostWithout_30 ?_
        refine wp_top (show _ = h 2 x2.toNat % h 1 5 by rw [hf 2 _ (by omega) (by omega), s2]) ?_
        refine wp_dup2 rfl rfl C dX2_mostWithout_33 ?_
        refine wp_iald sh_122 (by omega) C dX2_mostWithout_34 ?_
        refine wp_iconst (v := 1) C dX2_mostWithout_35 rfl ?_
        refine wp_iadd C dX2_mostWithout_36 ?_
        refine wp_iast sh_122 (by omega) C dX2_mostWithout_37 ?_
        obtain ⟨H3, e_H3⟩ : ∃ z : Hp, z = upd2 hx 122 (h 2 x2.toNat % h 1 5).toNat ((hx 122 (h 2 x2.toNat % h 1 5).toNat) + 1) := ⟨_, rfl⟩
        refine wp_heq e_H3 ?_
        obtain ⟨v4, e_v4⟩ : ∃ z : Int, z = x2 + (1) := ⟨_, rfl⟩
        refine wp_iinc (j := 2) (y := v4) (ls' := [(0, rv E 99), (1, iv k), (2, iv v4)]) [1, 2, 0] C dX2_mostWithout_38 rfl e_v4 (by decide) rfl ?_
        refine wp_goto (tgt := 10) C dX2_mostWithout_41 (by decide) ?_
        exact ih9_10 v4 H3 (by omega) (fun r hr => by rw [e_v4, show (x2 + 1).toNat = x2.toNat + 1 by omega, cnS_succ, e_H3]; unfold upd2; by_cases w : r = (h 2 x2.toNat % h 1 5).toNat; rw [if_pos ⟨rfl, w⟩, ← w, hs r hr, if_pos (by omega)]; omega; rw [if_neg (fun z => w z.2), hs r hr, if_neg (by omega)]; omega) (fun a i h1 h2 => by rw [e_H3]; unfold upd2; rw [if_neg (fun z => h1 (by omega))]; exact hf a i h1 h2) (by omega)
  have q10 : ∀ (x2 : Int) (hx : Hp), (0 ≤ x2 ∧ x2 ≤ h 1 4) → (∀ r : Nat, (r : Int) < h 1 5 → hx 122 r = (cnS (h 2) (h 1 5) x2.toNat r : Int)) → (∀ a i, ¬ (102 ≤ a ∧ a < 123) → ¬ (a = 99 ∧ i = 3) → hx a i = h a i) → Wp G E 3 (fun v hx => (∃ a, v = some (iv a) ∧ badP (cnS (h 2) (h 1 5) (h 1 4).toNat) (h 1 5) k.toNat a) ∧ (∀ a i, ¬ (102 ≤ a ∧ a < 123) → ¬ (a = 99 ∧ i = 3) → hx a i = h a i)) 10 [(0, rv E 99), (1, iv k), (2, iv x2)] [] hx := fun x2 hx hi hs hf => q100 _ x2 hx hi hs hf (Nat.lt_succ_self _)
  exact q10 0 H1 (by omega) (fun r hr => by rw [e_H1]; unfold fillH; rw [if_pos (by omega)]; rfl) (fun a i h1 _ => by rw [e_H1]; unfold fillH; rw [if_neg (fun z => h1 (by omega))])

set_option maxRecDepth 100000 in
set_option maxHeartbeats 4000000 in
theorem x_badly (E : En) (h : Hp) (k : Int) (hk : -2147483648 ≤ k ∧ k ≤ 2147483647) (h0 : h 101 0 = 1 ∧ ∀ r : Nat, 0 < r → r < 10 → h 101 r = 0) (hz : 0 ≤ h 1 4 ∧ h 1 4 ≤ 20) (hp : 2 ≤ h 1 5 ∧ h 1 5 ≤ 10) (hN : ∀ i : Nat, (i : Int) < h 1 4 → 0 ≤ h 2 i ∧ h 2 i ≤ 999999999999999) : Ct 24 yX11_badly cX11_badly 2 (some .int) E [rv E 0, iv k] h (fun v hx => (∃ a, v = some (iv a) ∧ (if ¬ (1 ≤ k ∧ k ≤ 20) then a = -3 else if h 1 5 > 6 then a = -4 else badP (cnS (h 2) (h 1 5) (h 1 4).toNat) (h 1 5) k.toNat a)) ∧ (∀ a i, ¬ (102 ≤ a ∧ a < 123) → ¬ (a = 99 ∧ i = 3) → hx a i = h a i)) := by
  refine ct_intro (by decide) (Nat.le_of_ble_eq_true rfl) (fun G C => ?_)
  show Wp G E 2 (fun v hx => (∃ a, v = some (iv a) ∧ (if ¬ (1 ≤ k ∧ k ≤ 20) then a = -3 else if h 1 5 > 6 then a = -4 else badP (cnS (h 2) (h 1 5) (h 1 4).toNat) (h 1 5) k.toNat a)) ∧ (∀ a i, ¬ (102 ≤ a ∧ a < 123) → ¬ (a = 99 ∧ i = 3) → hx a i = h a i)) 0 [(0, rv E 0), (1, iv k)] [] h
  refine wp_iload_n 1 C dX11_badly_0 rfl rfl ?_
  refine wp_callSp (rest := []) (c_isSize E h k (by omega)) ssX11_167 (by decide) rfl rfl (Nat.le_of_ble_eq_true rfl) C dX11_badly_1 ?_
  refine wp_ifb_ne (tgt := 10) C dX11_badly_4 (by decide) (fun c_4 => ?_) (fun c_4 => ?_)
  · skip
    refine wp_aloadR_n 0 C dX11_badly_10 rfl rfl ?_
    refine wp_getR flX11_10 sh_0 rfl C dX11_badly_11 ?_
    refine wp_getI flX11_180 sh_1 rfl C dX11_badly_14 ?_
    refine wp_bipush (v := 6) C dX11_badly_17 rfl ?_
    refine wp_icmp_le (tgt := 27) (by omega) (by omega) C dX11_badly_19 (by decide) (fun c_19 => ?_) (fun c_19 => ?_)
    · skip
      refine wp_aloadR_n 0 C dX11_badly_27 rfl rfl ?_
      refine wp_getR flX11_74 sh_0 rfl C dX11_badly_28 ?_
      refine wp_iload_n 1 C dX11_badly_31 rfl rfl ?_
      refine wp_callV (rest := []) (c_mostWithout E h k (by omega) h0 hz hp hN) svX11_214 sh_99 (by decide) rfl rfl (Nat.le_of_ble_eq_true rfl) C dX11_badly_32 (fun r0 hx pf => ?_)
      obtain ⟨⟨a, rfl, hbd⟩, hf⟩ := pf
      refine wp_iret C dX11_badly_35 ?_
      exact ⟨⟨a, rfl, by rw [if_neg (not_not_intro (by assumption)), if_neg (by omega)]; exact hbd⟩, hf⟩
    · skip
      refine wp_bipush (v := (-4)) C dX11_badly_22 rfl ?_
      refine wp_goto (tgt := 35) C dX11_badly_24 (by decide) ?_
      refine wp_iret C dX11_badly_35 ?_
      exact ⟨⟨(-4), rfl, by rw [if_neg (not_not_intro (by assumption)), if_pos (by omega)]⟩, fun _ _ _ _ => rfl⟩
  · skip
    refine wp_bipush (v := (-3)) C dX11_badly_7 rfl ?_
    refine wp_iret C dX11_badly_9 ?_
    exact ⟨⟨-3, rfl, by rw [if_pos (by assumption)]⟩, fun _ _ _ _ => rfl⟩


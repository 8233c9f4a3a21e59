/-! ===== the reference: findBy, findRun, find ===== -/
theorem dec_now {x i c r se co : Int} (hi : 0 ≤ i) (hc : 0 ≤ c ∧ c ≤ 20) (hr : 0 ≤ r ∧ r ≤ 9) (hs : 0 ≤ se ∧ se ≤ 9) (hk : co = 0 ∨ co = 1) (e : x = 4200 * i + 200 * c + 20 * r + 2 * se + co) : Int.tmod (Int.tdiv x 200) 21 = c ∧ Int.tmod (Int.tdiv x 20) 10 = r ∧ Int.tmod (Int.tdiv x 2) 10 = se ∧ Int.tmod x 2 = co := by
  have h0 : 0 ≤ x := by omega
  have e1 : x / 200 = 21 * i + c := by omega
  have e2 : x / 20 = 210 * i + 10 * c + r := by omega
  have e3 : x / 2 = 2100 * i + 100 * c + 10 * r + se := by omega
  rw [Int.tdiv_eq_ediv_of_nonneg h0, Int.tdiv_eq_ediv_of_nonneg h0, Int.tdiv_eq_ediv_of_nonneg h0, e1, e2, e3, Int.tmod_eq_emod_of_nonneg (by omega), Int.tmod_eq_emod_of_nonneg (by omega), Int.tmod_eq_emod_of_nonneg (by omega), Int.tmod_eq_emod_of_nonneg h0]
  clear e1 e2 e3
  refine ⟨?_, ?_, ?_, ?_⟩
  · clear e hr hs hk; omega
  · clear e hs hk; omega
  · clear e hk; omega
  · omega
theorem td_r {x k : Int} (hx : 0 ≤ x ∧ x < 88200) (hk : 0 < k) : -2147483648 ≤ Int.tdiv x k ∧ Int.tdiv x k ≤ 2147483647 := by
  rw [Int.tdiv_eq_ediv_of_nonneg hx.1]
  have h1 := Int.ediv_nonneg hx.1 (Int.le_of_lt hk)
  have h2 := Int.ediv_le_self k hx.1
  omega
theorem bOr_z {a : Int} (ha : 0 ≤ a ∧ a < 2147483648) : bOr a 0 = a := by
  rw [bOr_nat ha (by decide)]
  simp
  omega
theorem stS_eq {Sc Cl : Nat → Int} {p kd s : Int} {i : Nat} (hp : 2 ≤ p ∧ p ≤ 10) (hs : sOk p kd s) : (if kd = 3 then sbm (stO p kd s) (Sc i % p) p else 0) = stO p kd (sdw Sc Cl p kd s i) := by
  have hy := mod_r (Sc i) hp
  unfold stO sdw
  rcases hs with ⟨h1, h2⟩ | ⟨h1, h2⟩ | ⟨h1, h2⟩
  · simp only [if_pos h1]; exact sbm_neg h2 hy
  · simp only [if_neg (show ¬ kd = 3 by omega)]
  · simp only [if_neg (show ¬ kd = 3 by omega)]
theorem ctS_eq {Sc Cl : Nat → Int} {p kd s : Int} {i : Nat} (hs : sOk p kd s) : (if ctO kd s = 1 ∧ Cl i = kd - 4 then 0 else ctO kd s) = ctO kd (sdw Sc Cl p kd s i) := by
  unfold ctO sdw
  rcases hs with ⟨h1, h2⟩ | ⟨h1, h2⟩ | ⟨h1, h2⟩
  · simp only [if_neg (show ¬ 4 ≤ kd by omega)]; split <;> rfl
  · simp only [if_pos h1, if_neg (show ¬ kd = 3 by omega)]
    by_cases hc : Cl i = kd - 4
    · rw [if_pos (show 4 ≤ kd ∧ Cl i = kd - 4 from ⟨h1, hc⟩)]
      split <;> omega
    · rw [if_neg (fun z => hc z.2), if_neg (fun z => hc z.2)]
  · simp only [if_neg (show ¬ 4 ≤ kd by omega)]; split <;> rfl
theorem can_any {N Sc Cl : Nat → Int} {p kd : Int} {n k : Nat} (z : anyQ N Sc Cl p kd n 0 k 0 0) : canA N Sc Cl p kd (n - 0) 0 k 0 0 = true := by
  obtain ⟨c, h1, h2, h3⟩ := z
  rw [Nat.sub_zero]
  unfold canA
  by_cases hk : kd = 1
  · rw [if_pos hk] at h2 ⊢
    exact anyB_iff.mpr ⟨c, by omega, h3⟩
  · rw [if_neg hk] at h2 ⊢
    rw [← h2]
    exact h3
set_option maxRecDepth 100000 in
set_option maxHeartbeats 4000000 in
theorem c_findBy (E : En) (h : Hp) (n : Nat) (p : Int) (N Sc Cl Cs : Nat → Int) (M0 : MH h n p N Sc Cl Cs) (kd k : Int) (hkd : 0 ≤ kd ∧ kd ≤ 7 ∧ kd ≠ 2) (hk : 1 ≤ k ∧ k ≤ 20) : Ct 4 yX12_findBy cX12_findBy 8 (some .int) E [rv E 128, iv kd, iv k] h (fun r hx => r = some (iv (findS N Sc Cl p kd n k.toNat)) ∧ (∀ a b, a ≠ 137 → hx a b = h a b)) := by
  obtain ⟨m0, m1, m2, m3, mN, mS, mC, mK⟩ := id M0
  have hgp := grA_pos (N := N) (Sc := Sc) (Cl := Cl) (p := p) (kd := kd) n 0 k.toNat 0 0
  have hgr := grA_r (N := N) (Sc := Sc) (Cl := Cl) (p := p) (kd := kd) n 0 k.toNat 0 0
  have hs0 : sOk p kd 0 := by unfold sOk; omega
  refine ct_intro (by decide) (Nat.le_of_ble_eq_true rfl) (fun G C => ?_)
  show Wp G E 8 (fun r hx => r = some (iv (findS N Sc Cl p kd n k.toNat)) ∧ (∀ a b, a ≠ 137 → hx a b = h a b)) 0 [(0, rv E 128), (1, iv kd), (2, iv k)] [] h
  refine wp_aloadR_n 0 C dX12_findBy_0 rfl rfl ?_
  refine wp_iload_n 1 C dX12_findBy_1 rfl rfl ?_
  refine wp_callV (rest := []) (c_layCan E h n p N Sc Cl Cs M0 kd (by omega)) svX12_212 sh_128 (by decide) rfl rfl (Nat.le_of_ble_eq_true rfl) C dX12_findBy_2 (fun r0 hf0 pf => ?_)
  obtain ⟨rfl, hall, hf⟩ := pf
  have Mx : MH hf0 n p N Sc Cl Cs := M0.of (fun b => ⟨hf _ _ (by decide), hf _ _ (by decide), hf _ _ (by decide)⟩)
  have hca : ∀ (i c : Nat) (r s : Int), i ≤ n → c < 21 → 0 ≤ r ∧ r < p → sOk p kd s → hf0 137 (4200 * (i : Int) + 200 * (c : Int) + 20 * sbm 0 r p + 2 * stO p kd s + ctO kd s).toNat = bi (canA N Sc Cl p kd (n - i) i c r s = true) := fun i c r s h1 h2 h3 h4 => by
    have q := hall i c h1 h2 (sbm 0 r p) (stO p kd s) (ctO kd s) (sbm_r (by omega) h3) (by unfold stO; rcases h4 with ⟨q1, q2⟩ | ⟨q1, q2⟩ | ⟨q1, q2⟩; rw [if_pos q1, if_pos q1]; exact sbm_r (by omega) q2; rw [if_neg (by omega), if_neg (by omega)]; omega; rw [if_neg (by omega), if_neg (by omega)]; omega) (by unfold ctO; rcases h4 with ⟨q1, q2⟩ | ⟨q1, q2⟩ | ⟨q1, q2⟩; rw [if_neg (by omega)]; exact Or.inl rfl; rw [if_pos q1]; omega; rw [if_neg (by omega)]; exact Or.inl rfl)
    unfold caP at q
    rw [q]
    exact bi_c (cT_can m3 _ _ _ _ _ h3 h4)
  have hso : ∀ s : Int, sOk p kd s → (0 ≤ stO p kd s ∧ stO p kd s < p) ∧ (ctO kd s = 0 ∨ ctO kd s = 1) := fun s h4 => by
    unfold stO ctO
    rcases h4 with ⟨q1, q2⟩ | ⟨q1, q2⟩ | ⟨q1, q2⟩
    · rw [if_pos q1, if_neg (by omega)]; exact ⟨sbm_r (by omega) q2, Or.inl rfl⟩
    · rw [if_neg (by omega), if_pos q1]; omega
    · rw [if_neg (by omega), if_neg (by omega)]; omega
  have q23 : ∀ (x3 : Int), (x3 = 4200 * ((0 : Nat) : Int) + 200 * ((k.toNat : Nat) : Int) + 20 * sbm 0 0 p + 2 * stO p kd 0 + ctO kd 0) → Wp G E 8 (fun r hx => r = some (iv (findS N Sc Cl p kd n k.toNat)) ∧ (∀ a b, a ≠ 137 → hx a b = h a b)) 23 [(0, rv E 128), (1, iv kd), (2, iv k), (3, iv x3)] [] hf0 := by
    intro x3 h3
    have hv0 := hca 0 k.toNat 0 0 (by omega) (by omega) (by omega) hs0
    rw [← h3] at hv0
    have hz8 := (sbm_z (show 0 ≤ (0 : Int) ∧ 0 < p by omega)).mpr rfl
    have hso0 := hso 0 hs0
    refine wp_aloadR_n 0 C dX12_findBy_23 rfl rfl ?_
    refine wp_getR flX12_37 sh_128 rfl C dX12_findBy_24 ?_
    refine wp_iload_n 3 C dX12_findBy_27 rfl rfl ?_
    refine wp_zald sh_137 (by omega) C dX12_findBy_28 ?_
    refine wp_top hv0 ?_
    refine wp_ifb_ne (tgt := 34) C dX12_findBy_29 (by decide) (fun c_29 => ?_) (fun c_29 => ?_)
    · skip
      refine wp_iconst (v := 0) C dX12_findBy_34 rfl ?_
      refine wp_istore (ls' := [(0, rv E 128), (1, iv kd), (2, iv k), (3, iv x3), (4, iv 0)]) [1, 2, 3, 4, 0] C dX12_findBy_35 (by decide) rfl ?_
      refine wp_iconst (v := 0) C dX12_findBy_37 rfl ?_
      refine wp_istore (ls' := [(0, rv E 128), (1, iv kd), (2, iv k), (3, iv x3), (4, iv 0), (5, iv 0)]) [1, 2, 3, 4, 5, 0] C dX12_findBy_38 (by decide) rfl ?_
      have q400 : ∀ n9 : Nat, ∀ (x3 : Int) (x4 : Int) (x5 : Int) (c : Nat) (r : Int) (s : Int), (0 ≤ x5 ∧ x5 ≤ n) → (c ≤ 20) → (0 ≤ r ∧ r < p) → (sOk p kd s) → (x3 = 4200 * ((x5.toNat : Nat) : Int) + 200 * (c : Int) + 20 * sbm 0 r p + 2 * stO p kd s + ctO kd s) → (0 ≤ x4 ∧ x4 < 2 ^ x5.toNat) → (x4 + grA N Sc Cl p kd (n - x5.toNat) x5.toNat c r s = grA N Sc Cl p kd n 0 k.toNat 0 0) → ((n : Int) - x5).toNat < n9 → Wp G E 8 (fun r hx => r = some (iv (findS N Sc Cl p kd n k.toNat)) ∧ (∀ a b, a ≠ 137 → hx a b = h a b)) 40 [(0, rv E 128), (1, iv kd), (2, iv k), (3, iv x3), (4, iv x4), (5, iv x5)] [] hf0 := by
        intro n9
        induction n9 with
        | zero => intro x3 x4 x5 c r s hi hc hr hs hd hl hg hm9; exact absurd hm9 (Nat.not_lt_zero _)
        | succ n9 ih9 =>
          intro x3 x4 x5 c r s hi hc hr hs hd hl hg hm9
          have ih9_40 := ih9
          have h20 : (2 : Int) ^ x5.toNat ≤ 2 ^ 20 := p2_mono (by omega)
          have e20 : (2 : Int) ^ 20 = 1048576 := by decide
          refine wp_iload 5 C dX12_findBy_40 rfl ?_
          refine wp_aloadR_n 0 C dX12_findBy_42 rfl rfl ?_
          refine wp_callVp (rest := [iv x5]) (c_heaps E hf0 n p N Sc Cl Cs Mx) svX12_141 sh_128 (by decide) rfl rfl (Nat.le_of_ble_eq_true rfl) C dX12_findBy_43 ?_
          refine wp_icmp_ge (tgt := 145) (by omega) (by omega) C dX12_findBy_46 (by decide) (fun c_46 => ?_) (fun c_46 => ?_)
          · skip
            refine wp_iload 4 C dX12_findBy_145 rfl ?_
            refine wp_if_ne (tgt := 154) (by omega) C dX12_findBy_147 (by decide) (fun c_147 => ?_) (fun c_147 => ?_)
            · skip
              refine wp_iload 4 C dX12_findBy_154 rfl ?_
              refine wp_iret C dX12_findBy_156 ?_
              exact ⟨by have e9 : x4 = grA N Sc Cl p kd n 0 k.toNat 0 0 := (by rw [← hg, show n - x5.toNat = 0 by omega]; simp [grA]); rw [findS, ← e9, if_neg (by omega)], hf⟩
            · skip
              refine wp_iconst (v := (-1)) C dX12_findBy_150 rfl ?_
              refine wp_goto (tgt := 156) C dX12_findBy_151 (by decide) ?_
              refine wp_iret C dX12_findBy_156 ?_
              exact ⟨by have e9 : x4 = grA N Sc Cl p kd n 0 k.toNat 0 0 := (by rw [← hg, show n - x5.toNat = 0 by omega]; simp [grA]); rw [findS, ← e9, if_pos (by omega)], hf⟩
          · skip
            have hso1 := hso s hs
            have hz1 := sbm_r (r := 0) (x := r) (p := p) (by omega) hr
            have hmn := mod_r (N x5.toNat) m3
            obtain ⟨dc, dr, ds, dk⟩ := dec_now (x := x3) (i := ((x5.toNat : Nat) : Int)) (c := (c : Int)) (r := sbm 0 r p) (se := stO p kd s) (co := ctO kd s) (by omega) (by omega) (by omega) (by omega) hso1.2 hd
            have hx3 : 0 ≤ x3 ∧ x3 < 88200 := (by omega)
            refine wp_aloadR_n 0 C dX12_findBy_49 rfl rfl ?_
            refine wp_iload_n 1 C dX12_findBy_50 rfl rfl ?_
            refine wp_iload 5 C dX12_findBy_51 rfl ?_
            refine wp_iload_n 3 C dX12_findBy_53 rfl rfl ?_
            refine wp_sipush (v := 200) C dX12_findBy_54 rfl ?_
            refine wp_idiv (by omega) (by omega) C dX12_findBy_57 ?_
            refine wp_bipush (v := 21) C dX12_findBy_58 rfl ?_
            refine wp_irem (td_r hx3 (by decide)) (by omega) C dX12_findBy_60 ?_
            refine wp_top (show _ = (c : Int) from dc) ?_
            refine wp_iload_n 3 C dX12_findBy_61 rfl rfl ?_
            refine wp_bipush (v := 20) C dX12_findBy_62 rfl ?_
            refine wp_idiv (by omega) (by omega) C dX12_findBy_64 ?_
            refine wp_bipush (v := 10) C dX12_findBy_65 rfl ?_
            refine wp_irem (td_r hx3 (by decide)) (by omega) C dX12_findBy_67 ?_
            refine wp_top (show _ = sbm 0 r p from dr) ?_
            refine wp_iload_n 3 C dX12_findBy_68 rfl rfl ?_
            refine wp_iconst (v := 2) C dX12_findBy_69 rfl ?_
            refine wp_idiv (by omega) (by omega) C dX12_findBy_70 ?_
            refine wp_bipush (v := 10) C dX12_findBy_71 rfl ?_
            refine wp_irem (td_r hx3 (by decide)) (by omega) C dX12_findBy_73 ?_
            refine wp_top (show _ = stO p kd s from ds) ?_
            refine wp_iload_n 3 C dX12_findBy_74 rfl rfl ?_
            refine wp_iconst (v := 2) C dX12_findBy_75 rfl ?_
            refine wp_irem (by omega) (by omega) C dX12_findBy_76 ?_
            refine wp_top (show _ = ctO kd s from dk) ?_
            refine wp_callVp (rest := []) (c_behind E hf0 n p N Sc Cl Cs Mx kd x5 (c : Int) (sbm 0 r p) (stO p kd s) (ctO kd s) (by omega) (by omega) (by omega) (by omega) (by omega) (by omega)) svX12_208 sh_128 (by decide) rfl rfl (Nat.le_of_ble_eq_true rfl) C dX12_findBy_77 ?_
            refine wp_nm (fun by6 e_by6 => ?_)
            refine wp_istore (ls' := [(0, rv E 128), (1, iv kd), (2, iv k), (3, iv x3), (4, iv x4), (5, iv x5), (6, iv by6)]) [1, 2, 3, 4, 5, 6, 0] C dX12_findBy_80 (by decide) rfl ?_
            have stS : (if kd = 3 then sbm (stO p kd s) (Sc x5.toNat % p) p else 0) = stO p kd (sdw Sc Cl p kd s x5.toNat) := stS_eq m3 hs
            have ctS : (if ctO kd s = 1 ∧ Cl x5.toNat = kd - 4 then 0 else ctO kd s) = ctO kd (sdw Sc Cl p kd s x5.toNat) := ctS_eq hs
            have hb0 : (c : Int) = 0 → by6 = -1 := fun z => by rw [e_by6, if_pos z]
            have hby : ¬ (c : Int) = 0 → by6 = 4200 * (x5 + 1) + 200 * ((c : Int) - 1) + 20 * sbm (sbm 0 r p) (N x5.toNat % p) p + 2 * (if kd = 3 then sbm (stO p kd s) (Sc x5.toNat % p) p else 0) + (if ctO kd s = 1 ∧ Cl x5.toNat = kd - 4 then 0 else ctO kd s) := fun z => by rw [e_by6, if_neg z]
            have hso2 := hso _ (sOk_step (Sc := Sc) (Cl := Cl) (i := x5.toNat) m3 hs)
            have hz2 := sbm_r (r := 0) (x := trn (r + N x5.toNat % p) p) (p := p) (by omega) (trn_r hr hmn)
            rw [sbm_neg hr hmn, stS, ctS] at hby
            have hbr : -1 ≤ by6 ∧ by6 < 88200 := by by_cases q : (c : Int) = 0; rw [hb0 q]; decide; rw [hby q]; omega
            clear e_by6
            refine wp_iload 6 C dX12_findBy_82 rfl ?_
            refine wp_iconst (v := (-1)) C dX12_findBy_84 rfl ?_
            refine wp_icmp_eq (tgt := 102) (by omega) (by omega) C dX12_findBy_85 (by decide) (fun c_85 => ?_) (fun c_85 => ?_)
            · skip
              refine wp_iconst (v := 0) C dX12_findBy_102 rfl ?_
              refine wp_istore (ls' := [(0, rv E 128), (1, iv kd), (2, iv k), (3, iv x3), (4, iv x4), (5, iv x5), (6, iv by6), (7, iv 0)]) [1, 2, 3, 4, 5, 6, 7, 0] C dX12_findBy_103 (by decide) rfl ?_
              have htk : tkA N Sc Cl p kd (n - (x5.toNat + 1)) x5.toNat c r s = true ↔ by6 ≠ -1 ∧ canA N Sc Cl p kd (n - (x5.toNat + 1)) (x5.toNat + 1) (c - 1) (trn (r + N x5.toNat % p) p) (sdw Sc Cl p kd s x5.toNat) = true := by
                unfold tkA
                rw [Bool.and_eq_true, decide_eq_true_eq]
                have hce : c ≠ 0 ↔ by6 ≠ -1 := ⟨fun z w => by have := hby (by omega); omega, fun z w => z (hb0 (by omega))⟩
                rw [hce]
              refine wp_iload 4 C dX12_findBy_105 rfl ?_
              refine wp_iload 7 C dX12_findBy_107 rfl ?_
              refine wp_if_eq (tgt := 119) (by omega) C dX12_findBy_109 (by decide) (fun c_109 => ?_) (fun c_109 => ?_)
              · skip
                refine wp_iconst (v := 0) C dX12_findBy_119 rfl ?_
                refine wp_ior C dX12_findBy_120 ?_
                refine wp_nm (fun lt4 e_lt4 => ?_)
                refine wp_istore (ls' := [(0, rv E 128), (1, iv kd), (2, iv k), (3, iv x3), (4, iv lt4), (5, iv x5), (6, iv by6), (7, iv 0)]) [1, 2, 3, 4, 0, 5, 6, 7] C dX12_findBy_121 (by decide) rfl ?_
                refine wp_iload 7 C dX12_findBy_123 rfl ?_
                refine wp_if_eq (tgt := 133) (by omega) C dX12_findBy_125 (by decide) (fun c_125 => ?_) (fun c_125 => ?_)
                · skip
                  refine wp_iload_n 3 C dX12_findBy_133 rfl rfl ?_
                  refine wp_sipush (v := 4200) C dX12_findBy_134 rfl ?_
                  refine wp_iadd C dX12_findBy_137 ?_
                  refine wp_nm (fun nw3 e_nw3 => ?_)
                  refine wp_istore_n (ls' := [(0, rv E 128), (1, iv kd), (2, iv k), (3, iv nw3), (4, iv lt4), (5, iv x5), (6, iv by6), (7, iv 0)]) [1, 2, 3, 0, 4, 5, 6, 7] C dX12_findBy_138 rfl (by decide) rfl ?_
                  obtain ⟨v1, e_v1⟩ : ∃ z : Int, z = x5 + (1) := ⟨_, rfl⟩
                  refine wp_iinc (j := 5) (y := v1) (ls' := [(0, rv E 128), (1, iv kd), (2, iv k), (3, iv nw3), (4, iv lt4), (5, iv v1), (6, iv by6), (7, iv 0)]) [1, 2, 3, 4, 5, 0, 6, 7] C dX12_findBy_139 rfl e_v1 (by decide) rfl ?_
                  refine wp_goto (tgt := 40) C dX12_findBy_142 (by decide) ?_
                  refine wp_loc [0, 1, 2, 3, 4, 5] rfl ?_
                  exact ih9_40 nw3 lt4 v1 c r s (by omega) (by omega) (hr) (hs) (by rw [e_nw3, hd, e_v1]; omega) (by rw [e_v1, show (x5 + 1).toNat = x5.toNat + 1 by omega, p2_succ, e_lt4]; have := p2_pos x5.toNat; rw [bOr_z (by omega)]; omega) (by rw [← hg, e_v1, show (x5 + 1).toNat = x5.toNat + 1 by omega, show n - x5.toNat = (n - (x5.toNat + 1)) + 1 by omega]; rw [grA, if_neg (fun z => (htk.mp z).1 c_85), e_lt4]; rw [bOr_z (by omega)]) (by omega)
                · skip
                  exact absurd rfl c_125
              · skip
                exact absurd rfl c_109
            · skip
              have hb9 : by6 ≠ -1 := c_85
              have hcn : ¬ (c : Int) = 0 := fun z => hb9 (hb0 z)
              have hbe := hby hcn
              refine wp_aloadR_n 0 C dX12_findBy_88 rfl rfl ?_
              refine wp_getR flX12_37 sh_128 rfl C dX12_findBy_89 ?_
              refine wp_iload 6 C dX12_findBy_92 rfl ?_
              refine wp_zald sh_137 (by omega) C dX12_findBy_94 ?_
              refine wp_top (show _ = bi (canA N Sc Cl p kd (n - (x5.toNat + 1)) (x5.toNat + 1) (c - 1) (trn (r + N x5.toNat % p) p) (sdw Sc Cl p kd s x5.toNat) = true) by have q := hca (x5.toNat + 1) (c - 1) (trn (r + N x5.toNat % p) p) (sdw Sc Cl p kd s x5.toNat) (by omega) (by omega) (trn_r hr hmn) (sOk_step m3 hs); rw [← q]; congr 1; omega) ?_
              refine wp_ifb_eq (tgt := 102) C dX12_findBy_95 (by decide) (fun c_95 => ?_) (fun c_95 => ?_)
              · skip
                refine wp_iconst (v := 0) C dX12_findBy_102 rfl ?_
                refine wp_istore (ls' := [(0, rv E 128), (1, iv kd), (2, iv k), (3, iv x3), (4, iv x4), (5, iv x5), (6, iv by6), (7, iv 0)]) [1, 2, 3, 4, 5, 6, 7, 0] C dX12_findBy_103 (by decide) rfl ?_
                have htk : tkA N Sc Cl p kd (n - (x5.toNat + 1)) x5.toNat c r s = true ↔ by6 ≠ -1 ∧ canA N Sc Cl p kd (n - (x5.toNat + 1)) (x5.toNat + 1) (c - 1) (trn (r + N x5.toNat % p) p) (sdw Sc Cl p kd s x5.toNat) = true := by
                  unfold tkA
                  rw [Bool.and_eq_true, decide_eq_true_eq]
                  have hce : c ≠ 0 ↔ by6 ≠ -1 := ⟨fun z w => by have := hby (by omega); omega, fun z w => z (hb0 (by omega))⟩
                  rw [hce]
                refine wp_iload 4 C dX12_findBy_105 rfl ?_
                refine wp_iload 7 C dX12_findBy_107 rfl ?_
                refine wp_if_eq (tgt := 119) (by omega) C dX12_findBy_109 (by decide) (fun c_109 => ?_) (fun c_109 => ?_)
                · skip
                  refine wp_iconst (v := 0) C dX12_findBy_119 rfl ?_
                  refine wp_ior C dX12_findBy_120 ?_
                  refine wp_nm (fun lt4 e_lt4 => ?_)
                  refine wp_istore (ls' := [(0, rv E 128), (1, iv kd), (2, iv k), (3, iv x3), (4, iv lt4), (5, iv x5), (6, iv by6), (7, iv 0)]) [1, 2, 3, 4, 0, 5, 6, 7] C dX12_findBy_121 (by decide) rfl ?_
                  refine wp_iload 7 C dX12_findBy_123 rfl ?_
                  refine wp_if_eq (tgt := 133) (by omega) C dX12_findBy_125 (by decide) (fun c_125 => ?_) (fun c_125 => ?_)
                  · skip
                    refine wp_iload_n 3 C dX12_findBy_133 rfl rfl ?_
                    refine wp_sipush (v := 4200) C dX12_findBy_134 rfl ?_
                    refine wp_iadd C dX12_findBy_137 ?_
                    refine wp_nm (fun nw3 e_nw3 => ?_)
                    refine wp_istore_n (ls' := [(0, rv E 128), (1, iv kd), (2, iv k), (3, iv nw3), (4, iv lt4), (5, iv x5), (6, iv by6), (7, iv 0)]) [1, 2, 3, 0, 4, 5, 6, 7] C dX12_findBy_138 rfl (by decide) rfl ?_
                    obtain ⟨v2, e_v2⟩ : ∃ z : Int, z = x5 + (1) := ⟨_, rfl⟩
                    refine wp_iinc (j := 5) (y := v2) (ls' := [(0, rv E 128), (1, iv kd), (2, iv k), (3, iv nw3), (4, iv lt4), (5, iv v2), (6, iv by6), (7, iv 0)]) [1, 2, 3, 4, 5, 0, 6, 7] C dX12_findBy_139 rfl e_v2 (by decide) rfl ?_
                    refine wp_goto (tgt := 40) C dX12_findBy_142 (by decide) ?_
                    refine wp_loc [0, 1, 2, 3, 4, 5] rfl ?_
                    exact ih9_40 nw3 lt4 v2 c r s (by omega) (by omega) (hr) (hs) (by rw [e_nw3, hd, e_v2]; omega) (by rw [e_v2, show (x5 + 1).toNat = x5.toNat + 1 by omega, p2_succ, e_lt4]; have := p2_pos x5.toNat; rw [bOr_z (by omega)]; omega) (by rw [← hg, e_v2, show (x5 + 1).toNat = x5.toNat + 1 by omega, show n - x5.toNat = (n - (x5.toNat + 1)) + 1 by omega]; rw [grA, if_neg (fun z => c_95 (htk.mp z).2), e_lt4]; rw [bOr_z (by omega)]) (by omega)
                  · skip
                    exact absurd rfl c_125
                · skip
                  exact absurd rfl c_109
              · skip
                refine wp_iconst (v := 1) C dX12_findBy_98 rfl ?_
                refine wp_goto (tgt := 103) C dX12_findBy_99 (by decide) ?_
                refine wp_istore (ls' := [(0, rv E 128), (1, iv kd), (2, iv k), (3, iv x3), (4, iv x4), (5, iv x5), (6, iv by6), (7, iv 1)]) [1, 2, 3, 4, 5, 6, 7, 0] C dX12_findBy_103 (by decide) rfl ?_
                have htk : tkA N Sc Cl p kd (n - (x5.toNat + 1)) x5.toNat c r s = true ↔ by6 ≠ -1 ∧ canA N Sc Cl p kd (n - (x5.toNat + 1)) (x5.toNat + 1) (c - 1) (trn (r + N x5.toNat % p) p) (sdw Sc Cl p kd s x5.toNat) = true := by
                  unfold tkA
                  rw [Bool.and_eq_true, decide_eq_true_eq]
                  have hce : c ≠ 0 ↔ by6 ≠ -1 := ⟨fun z w => by have := hby (by omega); omega, fun z w => z (hb0 (by omega))⟩
                  rw [hce]
                refine wp_iload 4 C dX12_findBy_105 rfl ?_
                refine wp_iload 7 C dX12_findBy_107 rfl ?_
                refine wp_if_eq (tgt := 119) (by omega) C dX12_findBy_109 (by decide) (fun c_109 => ?_) (fun c_109 => ?_)
                · skip
                  exact absurd c_109 (by decide)
                · skip
                  refine wp_iconst (v := 1) C dX12_findBy_112 rfl ?_
                  refine wp_iload 5 C dX12_findBy_113 rfl ?_
                  refine wp_ishl (by omega) C dX12_findBy_115 ?_
                  refine wp_goto (tgt := 120) C dX12_findBy_116 (by decide) ?_
                  refine wp_ior C dX12_findBy_120 ?_
                  refine wp_nm (fun lt4 e_lt4 => ?_)
                  refine wp_istore (ls' := [(0, rv E 128), (1, iv kd), (2, iv k), (3, iv x3), (4, iv lt4), (5, iv x5), (6, iv by6), (7, iv 1)]) [1, 2, 3, 4, 0, 5, 6, 7] C dX12_findBy_121 (by decide) rfl ?_
                  refine wp_iload 7 C dX12_findBy_123 rfl ?_
                  refine wp_if_eq (tgt := 133) (by omega) C dX12_findBy_125 (by decide) (fun c_125 => ?_) (fun c_125 => ?_)
                  · skip
                    exact absurd c_125 (by decide)
                  · skip
                    refine wp_iload 6 C dX12_findBy_128 rfl ?_
                    refine wp_goto (tgt := 138) C dX12_findBy_130 (by decide) ?_
                    refine wp_istore_n (ls' := [(0, rv E 128), (1, iv kd), (2, iv k), (3, iv by6), (4, iv lt4), (5, iv x5), (6, iv by6), (7, iv 1)]) [1, 2, 3, 0, 4, 5, 6, 7] C dX12_findBy_138 rfl (by decide) rfl ?_
                    obtain ⟨v3, e_v3⟩ : ∃ z : Int, z = x5 + (1) := ⟨_, rfl⟩
                    refine wp_iinc (j := 5) (y := v3) (ls' := [(0, rv E 128), (1, iv kd), (2, iv k), (3, iv by6), (4, iv lt4), (5, iv v3), (6, iv by6), (7, iv 1)]) [1, 2, 3, 4, 5, 0, 6, 7] C dX12_findBy_139 rfl e_v3 (by decide) rfl ?_
                    refine wp_goto (tgt := 40) C dX12_findBy_142 (by decide) ?_
                    refine wp_loc [0, 1, 2, 3, 4, 5] rfl ?_
                    exact ih9_40 by6 lt4 v3 (c - 1) (trn (r + N x5.toNat % p) p) (sdw Sc Cl p kd s x5.toNat) (by omega) (by omega) (trn_r hr hmn) (sOk_step m3 hs) (by rw [hbe, e_v3]; omega) (by rw [e_v3, show (x5 + 1).toNat = x5.toNat + 1 by omega, p2_succ, e_lt4]; have := p2_pos x5.toNat; rw [show (1 : Int) * 2 ^ x5.toNat = 2 ^ x5.toNat by omega, bOr_add (by omega) hl]; omega) (by rw [← hg, e_v3, show (x5 + 1).toNat = x5.toNat + 1 by omega, show n - x5.toNat = (n - (x5.toNat + 1)) + 1 by omega]; rw [grA, if_pos (htk.mpr ⟨hb9, c_95⟩), e_lt4]; rw [show (1 : Int) * 2 ^ x5.toNat = 2 ^ x5.toNat by omega, bOr_add (by omega) hl, Int.add_assoc]) (by omega)
      have q40 : ∀ (x3 : Int) (x4 : Int) (x5 : Int) (c : Nat) (r : Int) (s : Int), (0 ≤ x5 ∧ x5 ≤ n) → (c ≤ 20) → (0 ≤ r ∧ r < p) → (sOk p kd s) → (x3 = 4200 * ((x5.toNat : Nat) : Int) + 200 * (c : Int) + 20 * sbm 0 r p + 2 * stO p kd s + ctO kd s) → (0 ≤ x4 ∧ x4 < 2 ^ x5.toNat) → (x4 + grA N Sc Cl p kd (n - x5.toNat) x5.toNat c r s = grA N Sc Cl p kd n 0 k.toNat 0 0) → Wp G E 8 (fun r hx => r = some (iv (findS N Sc Cl p kd n k.toNat)) ∧ (∀ a b, a ≠ 137 → hx a b = h a b)) 40 [(0, rv E 128), (1, iv kd), (2, iv k), (3, iv x3), (4, iv x4), (5, iv x5)] [] hf0 := fun x3 x4 x5 c r s hi hc hr hs hd hl hg => q400 _ x3 x4 x5 c r s hi hc hr hs hd hl hg (Nat.lt_succ_self _)
      exact q40 x3 0 0 k.toNat 0 0 (by omega) (by omega) (by omega) (hs0) (h3) (by simp) (by simp)
    · skip
      refine wp_iconst (v := (-1)) C dX12_findBy_32 rfl ?_
      refine wp_iret C dX12_findBy_33 ?_
      exact ⟨by rw [findS, if_pos (by have hnq : ¬ anyQ N Sc Cl p kd n 0 k.toNat 0 0 := (fun z => c_29 (can_any z)); have := mt hgp.mp hnq; omega)], hf⟩
  refine wp_iconst (v := 0) C dX12_findBy_5 rfl ?_
  refine wp_iload_n 2 C dX12_findBy_6 rfl rfl ?_
  refine wp_iconst (v := 0) C dX12_findBy_7 rfl ?_
  refine wp_iconst (v := 0) C dX12_findBy_8 rfl ?_
  refine wp_iload_n 1 C dX12_findBy_9 rfl rfl ?_
  refine wp_iconst (v := 4) C dX12_findBy_10 rfl ?_
  refine wp_icmp_lt (tgt := 18) (by omega) (by omega) C dX12_findBy_11 (by decide) (fun c_11 => ?_) (fun c_11 => ?_)
  · skip
    refine wp_iconst (v := 0) C dX12_findBy_18 rfl ?_
    refine wp_callSp (rest := []) (c_placeOf E hf0 0 k 0 0 0) ssX12_204 (by decide) rfl rfl (Nat.le_of_ble_eq_true rfl) C dX12_findBy_19 ?_
    refine wp_nm (fun v4 e_v4 => ?_)
    refine wp_istore_n (ls' := [(0, rv E 128), (1, iv kd), (2, iv k), (3, iv v4)]) [1, 2, 3, 0] C dX12_findBy_22 rfl (by decide) rfl ?_
    exact q23 v4 (by have q1 : stO p kd 0 = 0 := (by unfold stO; split; exact (sbm_z (by omega)).mpr rfl; rfl); have q2 : ctO kd 0 = 0 := (by unfold ctO; rw [if_neg (by omega)]); have q3 : sbm 0 0 p = 0 := (sbm_z (by omega)).mpr rfl; rw [e_v4, q1, q2, q3]; omega)
  · skip
    refine wp_iconst (v := 1) C dX12_findBy_14 rfl ?_
    refine wp_goto (tgt := 19) C dX12_findBy_15 (by decide) ?_
    refine wp_callSp (rest := []) (c_placeOf E hf0 0 k 0 0 1) ssX12_204 (by decide) rfl rfl (Nat.le_of_ble_eq_true rfl) C dX12_findBy_19 ?_
    refine wp_nm (fun v5 e_v5 => ?_)
    refine wp_istore_n (ls' := [(0, rv E 128), (1, iv kd), (2, iv k), (3, iv v5)]) [1, 2, 3, 0] C dX12_findBy_22 rfl (by decide) rfl ?_
    exact q23 v5 (by have q1 : stO p kd 0 = 0 := (by unfold stO; split; exact (sbm_z (by omega)).mpr rfl; rfl); have q2 : ctO kd 0 = 1 := (by unfold ctO; rw [if_pos (by omega)]; rfl); have q3 : sbm 0 0 p = 0 := (sbm_z (by omega)).mpr rfl; rw [e_v5, q1, q2, q3]; omega)


/-! ===== the reference: hasTen, come ===== -/
def expd (f : Nat → Nat) : Nat → List Int
  | 0 => []
  | r + 1 => expd f r ++ List.replicate (f r) (r : Int)
theorem expd_r (f : Nat → Nat) : ∀ q : Nat, ∀ y ∈ expd f q, 0 ≤ y ∧ y < q
  | 0, y, h => by simp [expd] at h
  | q + 1, y, h => by
    rw [expd, List.mem_append] at h
    rcases h with h | h
    · have := expd_r f q y h
      omega
    · have := (List.mem_replicate.mp h).2
      omega
theorem expd_congr {f g : Nat → Nat} : ∀ q : Nat, (∀ i, i < q → f i = g i) → expd f q = expd g q
  | 0, _ => rfl
  | q + 1, h => by rw [expd, expd, expd_congr q (fun i hi => h i (by omega)), h q (by omega)]
theorem expd_count (f : Nat → Nat) (a : Int) : ∀ q : Nat, (expd f q).count a = if 0 ≤ a ∧ a < q then f a.toNat else 0
  | 0 => by rw [expd, if_neg (by omega)]; rfl
  | q + 1 => by
    rw [expd, List.count_append, expd_count f a q]
    by_cases h : a = q
    · have hc : (List.replicate (f q) (q : Int)).count a = f q := by rw [h]; exact List.count_replicate_self
      rw [hc, if_neg (show ¬ (0 ≤ a ∧ a < (q : Int)) by omega), if_pos (show 0 ≤ a ∧ a < ((q + 1 : Nat) : Int) by omega), show a.toNat = q by omega]
      omega
    · have hc : (List.replicate (f q) (q : Int)).count a = 0 := List.count_eq_zero.mpr (fun z => h (List.mem_replicate.mp z).2)
      rw [hc]
      by_cases h2 : 0 ≤ a ∧ a < q
      · rw [if_pos h2, if_pos (show 0 ≤ a ∧ a < ((q + 1 : Nat) : Int) by omega)]; omega
      · rw [if_neg h2, if_neg (show ¬ (0 ≤ a ∧ a < ((q + 1 : Nat) : Int)) by omega)]
theorem expd_perm {L : List Int} {q : Nat} (h : ∀ y ∈ L, 0 ≤ y ∧ y < q) : (expd (fun r => L.count (r : Int)) q).Perm L := by
  rw [List.perm_iff_count]
  intro a
  rw [expd_count]
  by_cases h2 : 0 ≤ a ∧ a < q
  · rw [if_pos h2, show ((a.toNat : Nat) : Int) = a by omega]
  · rw [if_neg h2]
    symm
    exact List.count_eq_zero.mpr (fun hm => h2 (h a hm))
theorem tm_tr {s r q : Int} (hs : 0 ≤ s ∧ s < q) (hr : 0 ≤ r ∧ r < q) : Int.tmod (s + r) q = trn (s + r) q := by
  rw [Int.tmod_eq_emod_of_nonneg (by omega)]
  unfold trn
  split
  · rw [show s + r = (s + r - q) + q by omega, Int.add_emod_right, Int.emod_eq_of_lt (by omega) (by omega)]
    omega
  · exact Int.emod_eq_of_lt (by omega) (by omega)
def hvP (q : Int) (k : Nat) (hx : Hp) (L : List Int) : Prop := ∀ c : Nat, c ≤ k → ∀ s : Nat, (s : Int) < q → hx 141 (10 * c + s) = bi (exL q L c s = true)
set_option maxRecDepth 100000 in
set_option maxHeartbeats 4000000 in
theorem c_hasTen (E : En) (h : Hp) (q k : Int) (f : Nat → Nat) (hq : 2 ≤ q ∧ q ≤ 10) (hk : 1 ≤ k ∧ k ≤ 20) (hof : ∀ r : Nat, (r : Int) < q → h 140 r = (f r : Int) ∧ f r ≤ 20) : Ct 0 yX12_hasTen cX12_hasTen 7 (some .boolean) E [rv E 128, iv q, iv k] h (fun v hx => v = some (iv (bi (exL q (expd f q.toNat) k.toNat 0 = true))) ∧ (∀ a b, a ≠ 141 → hx a b = h a b)) := by
  refine ct_intro (by decide) (Nat.le_of_ble_eq_true rfl) (fun G C => ?_)
  show Wp G E 7 (fun v hx => v = some (iv (bi (exL q (expd f q.toNat) k.toNat 0 = true))) ∧ (∀ a b, a ≠ 141 → hx a b = h a b)) 0 [(0, rv E 128), (1, iv q), (2, iv k)] [] h
  refine wp_iconst (v := 0) C dX12_hasTen_0 rfl ?_
  refine wp_istore_n (ls' := [(0, rv E 128), (1, iv q), (2, iv k), (3, iv 0)]) [1, 2, 3, 0] C dX12_hasTen_1 rfl (by decide) rfl ?_
  have q20 : ∀ n9 : Nat, ∀ (x3 : Int) (hx : Hp), (0 ≤ x3 ∧ x3 ≤ 210) → (∀ b : Nat, (b : Int) < x3 → hx 141 b = if b = 0 then 1 else 0) → (∀ a b, a ≠ 141 → hx a b = h a b) → (210 - x3).toNat < n9 → Wp G E 7 (fun v hx => v = some (iv (bi (exL q (expd f q.toNat) k.toNat 0 = true))) ∧ (∀ a b, a ≠ 141 → hx a b = h a b)) 2 [(0, rv E 128), (1, iv q), (2, iv k), (3, iv x3)] [] hx := by
    intro n9
    induction n9 with
    | zero => intro x3 hx hi hb hf hm9; exact absurd hm9 (Nat.not_lt_zero _)
    | succ n9 ih9 =>
      intro x3 hx hi hb hf hm9
      have ih9_2 := ih9
      refine wp_iload_n 3 C dX12_hasTen_2 rfl rfl ?_
      refine wp_sipush (v := 210) C dX12_hasTen_3 rfl ?_
      refine wp_icmp_ge (tgt := 30) (by omega) (by omega) C dX12_hasTen_6 (by decide) (fun c_6 => ?_) (fun c_6 => ?_)
      · skip
        refine wp_iconst (v := 0) C dX12_hasTen_30 rfl ?_
        refine wp_istore_n (ls' := [(0, rv E 128), (1, iv q), (2, iv k), (3, iv 0)]) [1, 2, 3, 0] C dX12_hasTen_31 rfl (by decide) rfl ?_
        have q320 : ∀ n9 : Nat, ∀ (x3 : Int) (hx : Hp), (0 ≤ x3 ∧ x3 ≤ q) → (hvP q k.toNat hx (expd f x3.toNat)) → (∀ a b, a ≠ 141 → hx a b = h a b) → (q - x3).toNat < n9 → Wp G E 7 (fun v hx => v = some (iv (bi (exL q (expd f q.toNat) k.toNat 0 = true))) ∧ (∀ a b, a ≠ 141 → hx a b = h a b)) 32 [(0, rv E 128), (1, iv q), (2, iv k), (3, iv x3)] [] hx := by
          intro n9
          induction n9 with
          | zero => intro x3 hx hi hv hf hm9; exact absurd hm9 (Nat.not_lt_zero _)
          | succ n9 ih9 =>
            intro x3 hx hi hv hf hm9
            have ih9_32 := ih9
            refine wp_iload_n 3 C dX12_hasTen_32 rfl rfl ?_
            refine wp_iload_n 1 C dX12_hasTen_33 rfl rfl ?_
            refine wp_icmp_ge (tgt := 152) (by omega) (by omega) C dX12_hasTen_34 (by decide) (fun c_34 => ?_) (fun c_34 => ?_)
            · skip
              refine wp_aloadR_n 0 C dX12_hasTen_152 rfl rfl ?_
              refine wp_getR flX12_49 sh_128 rfl C dX12_hasTen_153 ?_
              refine wp_bipush (v := 10) C dX12_hasTen_156 rfl ?_
              refine wp_iload_n 2 C dX12_hasTen_158 rfl rfl ?_
              refine wp_imul C dX12_hasTen_159 ?_
              refine wp_zald sh_141 (by omega) C dX12_hasTen_160 ?_
              refine wp_zret (by have z := hv k.toNat (Nat.le_refl _) 0 (by omega); rw [show (10 * k).toNat = 10 * k.toNat + 0 by omega, z]; exact bi_01) C dX12_hasTen_161 ?_
              exact ⟨by have z := hv k.toNat (Nat.le_refl _) 0 (by omega); rw [show (10 * k).toNat = 10 * k.toNat + 0 by omega, z, show x3 = q by omega]; rfl, hf⟩
            · skip
              refine wp_iconst (v := 0) C dX12_hasTen_37 rfl ?_
              refine wp_istore (ls' := [(0, rv E 128), (1, iv q), (2, iv k), (3, iv x3), (4, iv 0)]) [1, 2, 3, 4, 0] C dX12_hasTen_38 (by decide) rfl ?_
              have q400 : ∀ n9 : Nat, ∀ (x4 : Int) (hx : Hp), (0 ≤ x4 ∧ x4 ≤ f x3.toNat) → (hvP q k.toNat hx (expd f x3.toNat ++ List.replicate x4.toNat x3)) → (∀ a b, a ≠ 141 → hx a b = h a b) → ((f x3.toNat : Int) - x4).toNat < n9 → Wp G E 7 (fun v hx => v = some (iv (bi (exL q (expd f q.toNat) k.toNat 0 = true))) ∧ (∀ a b, a ≠ 141 → hx a b = h a b)) 40 [(0, rv E 128), (1, iv q), (2, iv k), (3, iv x3), (4, iv x4)] [] hx := by
                intro n9
                induction n9 with
                | zero => intro x4 hx hi4 hv hf hm9; exact absurd hm9 (Nat.not_lt_zero _)
                | succ n9 ih9 =>
                  intro x4 hx hi4 hv hf hm9
                  have ih9_40 := ih9
                  have ho := hof x3.toNat (by omega)
                  have s4 : hx 140 x3.toNat = (f x3.toNat : Int) := (hf 140 _ (by decide)).trans ho.1
                  have hyL : ∀ y ∈ expd f x3.toNat ++ List.replicate x4.toNat x3, 0 ≤ y ∧ y < q := fun y hy => by rcases List.mem_append.mp hy with z | z; have := expd_r f x3.toNat y z; omega; have := (List.mem_replicate.mp z).2; omega
                  refine wp_iload 4 C dX12_hasTen_40 rfl ?_
                  refine wp_aloadR_n 0 C dX12_hasTen_42 rfl rfl ?_
                  refine wp_getR flX12_46 sh_128 rfl C dX12_hasTen_43 ?_
                  refine wp_iload_n 3 C dX12_hasTen_46 rfl rfl ?_
                  refine wp_iald sh_140 (by omega) C dX12_hasTen_47 ?_
                  refine wp_icmp_ge (tgt := 146) (by omega) (by omega) C dX12_hasTen_48 (by decide) (fun c_48 => ?_) (fun c_48 => ?_)
                  · skip
                    obtain ⟨y3, e_y3⟩ : ∃ z : Int, z = x3 + (1) := ⟨_, rfl⟩
                    refine wp_iinc (j := 3) (y := y3) (ls' := [(0, rv E 128), (1, iv q), (2, iv k), (3, iv y3), (4, iv x4)]) [1, 2, 3, 0, 4] C dX12_hasTen_146 rfl e_y3 (by decide) rfl ?_
                    refine wp_goto (tgt := 32) C dX12_hasTen_149 (by decide) ?_
                    refine wp_loc [0, 1, 2, 3] rfl ?_
                    exact ih9_32 y3 hx (by omega) (by rw [e_y3, show (x3 + 1).toNat = x3.toNat + 1 by omega, expd, show ((x3.toNat : Nat) : Int) = x3 by omega, show f x3.toNat = x4.toNat by omega]; exact hv) (hf) (by omega)
                  · skip
                    refine wp_iload_n 2 C dX12_hasTen_51 rfl rfl ?_
                    refine wp_istore (ls' := [(0, rv E 128), (1, iv q), (2, iv k), (3, iv x3), (4, iv x4), (5, iv k)]) [1, 2, 3, 4, 5, 0] C dX12_hasTen_52 (by decide) rfl ?_
                    have q540 : ∀ n9 : Nat, ∀ (x5 : Int) (hx : Hp), (0 ≤ x5 ∧ x5 ≤ k) → (∀ c : Nat, c ≤ k.toNat → ∀ s : Nat, (s : Int) < q → hx 141 (10 * c + s) = bi (exL q (if x5 < (c : Int) then ((expd f x3.toNat ++ List.replicate x4.toNat x3) ++ [x3]) else (expd f x3.toNat ++ List.replicate x4.toNat x3)) c s = true)) → (∀ a b, a ≠ 141 → hx a b = h a b) → x5.toNat < n9 → Wp G E 7 (fun v hx => v = some (iv (bi (exL q (expd f q.toNat) k.toNat 0 = true))) ∧ (∀ a b, a ≠ 141 → hx a b = h a b)) 54 [(0, rv E 128), (1, iv q), (2, iv k), (3, iv x3), (4, iv x4), (5, iv x5)] [] hx := by
                      intro n9
                      induction n9 with
                      | zero => intro x5 hx hi5 hu hf hm9; exact absurd hm9 (Nat.not_lt_zero _)
                      | succ n9 ih9 =>
                        intro x5 hx hi5 hu hf hm9
                        have ih9_54 := ih9
                        refine wp_iload 5 C dX12_hasTen_54 rfl ?_
                        refine wp_if_le (tgt := 140) (by omega) C dX12_hasTen_56 (by decide) (fun c_56 => ?_) (fun c_56 => ?_)
                        · skip
                          have hvn : hvP q k.toNat hx ((expd f x3.toNat ++ List.replicate x4.toNat x3) ++ [x3]) := fun c hc s hs => by rw [hu c hc s hs]; by_cases w : x5 < (c : Int); rw [if_pos w]; rw [if_neg w]; apply bi_c; rw [show c = 0 by omega, exL_snoc _ _ _ _ hyL (by omega) (by omega)]; simp
                          obtain ⟨y4, e_y4⟩ : ∃ z : Int, z = x4 + (1) := ⟨_, rfl⟩
                          refine wp_iinc (j := 4) (y := y4) (ls' := [(0, rv E 128), (1, iv q), (2, iv k), (3, iv x3), (4, iv y4), (5, iv x5)]) [1, 2, 3, 4, 0, 5] C dX12_hasTen_140 rfl e_y4 (by decide) rfl ?_
                          refine wp_goto (tgt := 40) C dX12_hasTen_143 (by decide) ?_
                          refine wp_loc [0, 1, 2, 3, 4] rfl ?_
                          exact ih9_40 y4 hx (by omega) (by rw [e_y4, show (x4 + 1).toNat = x4.toNat + 1 by omega, List.replicate_succ', ← List.append_assoc]; exact hvn) (hf) (by omega)
                        · skip
                          refine wp_iconst (v := 0) C dX12_hasTen_59 rfl ?_
                          refine wp_istore (ls' := [(0, rv E 128), (1, iv q), (2, iv k), (3, iv x3), (4, iv x4), (5, iv x5), (6, iv 0)]) [1, 2, 3, 4, 5, 6, 0] C dX12_hasTen_60 (by decide) rfl ?_
                          have q620 : ∀ n9 : Nat, ∀ (x6 : Int) (hx : Hp), (0 ≤ x6 ∧ x6 ≤ q) → (∀ c : Nat, c ≤ k.toNat → (c : Int) ≠ x5 → ∀ s : Nat, (s : Int) < q → hx 141 (10 * c + s) = bi (exL q (if x5 < (c : Int) then ((expd f x3.toNat ++ List.replicate x4.toNat x3) ++ [x3]) else (expd f x3.toNat ++ List.replicate x4.toNat x3)) c s = true)) → (∀ s : Nat, (s : Int) < q → hx 141 (10 * x5.toNat + s) = bi (exL q (expd f x3.toNat ++ List.replicate x4.toNat x3) x5.toNat s = true ∨ (sbm s x3 q < x6 ∧ exL q (expd f x3.toNat ++ List.replicate x4.toNat x3) (x5.toNat - 1) (sbm s x3 q) = true))) → (∀ a b, a ≠ 141 → hx a b = h a b) → (q - x6).toNat < n9 → Wp G E 7 (fun v hx => v = some (iv (bi (exL q (expd f q.toNat) k.toNat 0 = true))) ∧ (∀ a b, a ≠ 141 → hx a b = h a b)) 62 [(0, rv E 128), (1, iv q), (2, iv k), (3, iv x3), (4, iv x4), (5, iv x5), (6, iv x6)] [] hx := by
                            intro n9
                            induction n9 with
                            | zero => intro x6 hx hi6 hu hr0 hf hm9; exact absurd hm9 (Nat.not_lt_zero _)
                            | succ n9 ih9 =>
                              intro x6 hx hi6 hu hr0 hf hm9
                              have ih9_62 := ih9
                              refine wp_iload 6 C dX12_hasTen_62 rfl ?_
                              refine wp_iload_n 1 C dX12_hasTen_64 rfl rfl ?_
                              refine wp_icmp_ge (tgt := 134) (by omega) (by omega) C dX12_hasTen_65 (by decide) (fun c_65 => ?_) (fun c_65 => ?_)
                              · skip
                                have hdone : True := trivial
                                obtain ⟨y5, e_y5⟩ : ∃ z : Int, z = x5 + (-1) := ⟨_, rfl⟩
                                refine wp_iinc (j := 5) (y := y5) (ls' := [(0, rv E 128), (1, iv q), (2, iv k), (3, iv x3), (4, iv x4), (5, iv y5), (6, iv x6)]) [1, 2, 3, 4, 5, 0, 6] C dX12_hasTen_134 rfl e_y5 (by decide) rfl ?_
                                refine wp_goto (tgt := 54) C dX12_hasTen_137 (by decide) ?_
                                refine wp_loc [0, 1, 2, 3, 4, 5] rfl ?_
                                exact ih9_54 y5 hx (by omega) (fun c hc s hs => by have hsb := sbm_r (r := (s : Int)) (x := x3) (p := q) (by omega) (by omega); by_cases w : y5 < (c : Int); rw [if_pos w]; by_cases w2 : (c : Int) = x5; rw [show c = x5.toNat by omega, hr0 s hs]; apply bi_c; rw [exL_snoc _ _ _ _ hyL (by omega) (by omega), Bool.or_eq_true, Bool.and_eq_true, decide_eq_true_eq]; exact ⟨fun z => z.elim Or.inl (fun y => Or.inr ⟨by omega, y.2⟩), fun z => z.elim Or.inl (fun y => Or.inr ⟨by omega, y.2⟩)⟩; rw [hu c hc (by omega) s hs, if_pos (by omega)]; rw [if_neg w, hu c hc (by omega) s hs, if_neg (by omega)]) (hf) (by omega)
                              · skip
                                obtain ⟨wth, e_wth⟩ : ∃ z : Int, z = trn (x6 + x3) q := ⟨_, rfl⟩
                                have hwt := trn_r (r := x6) (x := x3) (p := q) (by omega) (by omega)
                                rw [← e_wth] at hwt
                                have hsw : sbm wth x3 q = x6 := (sbm_trn (r := x6) (by omega) (by omega) hwt).mpr e_wth
                                refine wp_aloadR_n 0 C dX12_hasTen_68 rfl rfl ?_
                                refine wp_getR flX12_49 sh_128 rfl C dX12_hasTen_69 ?_
                                refine wp_bipush (v := 10) C dX12_hasTen_72 rfl ?_
                                refine wp_iload 5 C dX12_hasTen_74 rfl ?_
                                refine wp_imul C dX12_hasTen_76 ?_
                                refine wp_iload 6 C dX12_hasTen_77 rfl ?_
                                refine wp_iload_n 3 C dX12_hasTen_79 rfl rfl ?_
                                refine wp_iadd C dX12_hasTen_80 ?_
                                refine wp_iload_n 1 C dX12_hasTen_81 rfl rfl ?_
                                refine wp_irem (by omega) (by omega) C dX12_hasTen_82 ?_
                                refine wp_top ((tm_tr (by omega) (by omega)).trans e_wth.symm) ?_
                                refine wp_iadd C dX12_hasTen_83 ?_
                                refine wp_aloadR_n 0 C dX12_hasTen_84 rfl rfl ?_
                                refine wp_getR flX12_49 sh_128 rfl C dX12_hasTen_85 ?_
                                refine wp_bipush (v := 10) C dX12_hasTen_88 rfl ?_
                                refine wp_iload 5 C dX12_hasTen_90 rfl ?_
                                refine wp_imul C dX12_hasTen_92 ?_
                                refine wp_iload 6 C dX12_hasTen_93 rfl ?_
                                refine wp_iload_n 3 C dX12_hasTen_95 rfl rfl ?_
                                refine wp_iadd C dX12_hasTen_96 ?_
                                refine wp_iload_n 1 C dX12_hasTen_97 rfl rfl ?_
                                refine wp_irem (by omega) (by omega) C dX12_hasTen_98 ?_
                                refine wp_top ((tm_tr (by omega) (by omega)).trans e_wth.symm) ?_
                                refine wp_iadd C dX12_hasTen_99 ?_
                                refine wp_zald sh_141 (by omega) C dX12_hasTen_100 ?_
                                refine wp_top (show _ = bi (exL q (expd f x3.toNat ++ List.replicate x4.toNat x3) x5.toNat wth = true) by have z := hr0 wth.toNat (by omega); rw [show ((wth.toNat : Nat) : Int) = wth by omega, hsw] at z; rw [show (10 * x5 + wth).toNat = 10 * x5.toNat + wth.toNat by omega, z]; apply bi_c; exact ⟨fun y => y.elim id (fun w => absurd w.1 (by omega)), Or.inl⟩) ?_
                                refine wp_ifb_ne (tgt := 122) C dX12_hasTen_101 (by decide) (fun c_101 => ?_) (fun c_101 => ?_)
                                · skip
                                  refine wp_iconst (v := 1) C dX12_hasTen_122 rfl ?_
                                  refine wp_goto (tgt := 127) C dX12_hasTen_123 (by decide) ?_
                                  refine wp_zast sh_141 (by omega) (by first | exact bi_01 | omega) C dX12_hasTen_127 ?_
                                  obtain ⟨H1, e_H1⟩ : ∃ z : Hp, z = upd2 hx 141 ((10 * x5) + wth).toNat 1 := ⟨_, rfl⟩
                                  refine wp_heq e_H1 ?_
                                  obtain ⟨y6, e_y6⟩ : ∃ z : Int, z = x6 + (1) := ⟨_, rfl⟩
                                  refine wp_iinc (j := 6) (y := y6) (ls' := [(0, rv E 128), (1, iv q), (2, iv k), (3, iv x3), (4, iv x4), (5, iv x5), (6, iv y6)]) [1, 2, 3, 4, 5, 6, 0] C dX12_hasTen_128 rfl e_y6 (by decide) rfl ?_
                                  have hnw : (exL q (expd f x3.toNat ++ List.replicate x4.toNat x3) x5.toNat wth = true ∨ (x6 < y6 ∧ exL q (expd f x3.toNat ++ List.replicate x4.toNat x3) (x5.toNat - 1) x6 = true)) ↔ (exL q (expd f x3.toNat ++ List.replicate x4.toNat x3) x5.toNat wth = true ∨ exL q (expd f x3.toNat ++ List.replicate x4.toNat x3) (x5.toNat - 1) x6 = true) := ⟨fun z => z.elim Or.inl (fun y => Or.inr y.2), fun z => z.elim Or.inl (fun y => Or.inr ⟨by omega, y⟩)⟩
                                  refine wp_goto (tgt := 62) C dX12_hasTen_131 (by decide) ?_
                                  exact ih9_62 y6 H1 (by omega) (fun c hc hn9 s hs => by rw [e_H1]; unfold upd2; rw [if_neg (fun z => by omega)]; exact hu c hc hn9 s hs) (fun s hs => by have h2 := sbm_trn (r := x6) (x := x3) (w := (s : Int)) (p := q) (by omega) (by omega) (by omega); rw [e_H1]; unfold upd2; by_cases w : s = wth.toNat; have h3 : sbm (s : Int) x3 q = x6 := h2.mpr (by omega); rw [if_pos (by omega), h3, show ((s : Nat) : Int) = wth by omega]; exact (bi_t (hnw.mpr (Or.inl c_101))).symm; rw [if_neg (fun z => w (by omega)), hr0 s hs]; apply bi_c; have h4 : ¬ sbm (s : Int) x3 q = x6 := fun z => w (by have := h2.mp z; omega); exact ⟨fun z => z.elim Or.inl (fun y => Or.inr ⟨by omega, y.2⟩), fun z => z.elim Or.inl (fun y => Or.inr ⟨by omega, y.2⟩)⟩) (fun a b hab => by rw [e_H1]; unfold upd2; rw [if_neg (fun z => hab z.1)]; exact hf a b hab) (by omega)
                                · skip
                                  refine wp_aloadR_n 0 C dX12_hasTen_104 rfl rfl ?_
                                  refine wp_getR flX12_49 sh_128 rfl C dX12_hasTen_105 ?_
                                  refine wp_bipush (v := 10) C dX12_hasTen_108 rfl ?_
                                  refine wp_iload 5 C dX12_hasTen_110 rfl ?_
                                  refine wp_iconst (v := 1) C dX12_hasTen_112 rfl ?_
                                  refine wp_isub C dX12_hasTen_113 ?_
                                  refine wp_imul C dX12_hasTen_114 ?_
                                  refine wp_iload 6 C dX12_hasTen_115 rfl ?_
                                  refine wp_iadd C dX12_hasTen_117 ?_
                                  refine wp_zald sh_141 (by omega) C dX12_hasTen_118 ?_
                                  refine wp_top (show _ = bi (exL q (expd f x3.toNat ++ List.replicate x4.toNat x3) (x5.toNat - 1) x6 = true) by have z := hu (x5.toNat - 1) (by omega) (by omega) x6.toNat (by omega); rw [show ((x6.toNat : Nat) : Int) = x6 by omega, if_neg (by omega)] at z; rw [show (10 * (x5 - 1) + x6).toNat = 10 * (x5.toNat - 1) + x6.toNat by omega, z]) ?_
                                  refine wp_ifb_eq (tgt := 126) C dX12_hasTen_119 (by decide) (fun c_119 => ?_) (fun c_119 => ?_)
                                  · skip
                                    refine wp_iconst (v := 0) C dX12_hasTen_126 rfl ?_
                                    refine wp_zast sh_141 (by omega) (by first | exact bi_01 | omega) C dX12_hasTen_127 ?_
                                    obtain ⟨H2, e_H2⟩ : ∃ z : Hp, z = upd2 hx 141 ((10 * x5) + wth).toNat 0 := ⟨_, rfl⟩
                                    refine wp_heq e_H2 ?_
                                    obtain ⟨y6, e_y6⟩ : ∃ z : Int, z = x6 + (1) := ⟨_, rfl⟩
                                    refine wp_iinc (j := 6) (y := y6) (ls' := [(0, rv E 128), (1, iv q), (2, iv k), (3, iv x3), (4, iv x4), (5, iv x5), (6, iv y6)]) [1, 2, 3, 4, 5, 6, 0] C dX12_hasTen_128 rfl e_y6 (by decide) rfl ?_
                                    have hnw : (exL q (expd f x3.toNat ++ List.replicate x4.toNat x3) x5.toNat wth = true ∨ (x6 < y6 ∧ exL q (expd f x3.toNat ++ List.replicate x4.toNat x3) (x5.toNat - 1) x6 = true)) ↔ (exL q (expd f x3.toNat ++ List.replicate x4.toNat x3) x5.toNat wth = true ∨ exL q (expd f x3.toNat ++ List.replicate x4.toNat x3) (x5.toNat - 1) x6 = true) := ⟨fun z => z.elim Or.inl (fun y => Or.inr y.2), fun z => z.elim Or.inl (fun y => Or.inr ⟨by omega, y⟩)⟩
                                    refine wp_goto (tgt := 62) C dX12_hasTen_131 (by decide) ?_
                                    exact ih9_62 y6 H2 (by omega) (fun c hc hn9 s hs => by rw [e_H2]; unfold upd2; rw [if_neg (fun z => by omega)]; exact hu c hc hn9 s hs) (fun s hs => by have h2 := sbm_trn (r := x6) (x := x3) (w := (s : Int)) (p := q) (by omega) (by omega) (by omega); rw [e_H2]; unfold upd2; by_cases w : s = wth.toNat; have h3 : sbm (s : Int) x3 q = x6 := h2.mpr (by omega); rw [if_pos (by omega), h3, show ((s : Nat) : Int) = wth by omega]; exact (bi_f (fun z => (hnw.mp z).elim c_101 c_119)).symm; rw [if_neg (fun z => w (by omega)), hr0 s hs]; apply bi_c; have h4 : ¬ sbm (s : Int) x3 q = x6 := fun z => w (by have := h2.mp z; omega); exact ⟨fun z => z.elim Or.inl (fun y => Or.inr ⟨by omega, y.2⟩), fun z => z.elim Or.inl (fun y => Or.inr ⟨by omega, y.2⟩)⟩) (fun a b hab => by rw [e_H2]; unfold upd2; rw [if_neg (fun z => hab z.1)]; exact hf a b hab) (by omega)
                                  · skip
                                    refine wp_iconst (v := 1) C dX12_hasTen_122 rfl ?_
                                    refine wp_goto (tgt := 127) C dX12_hasTen_123 (by decide) ?_
                                    refine wp_zast sh_141 (by omega) (by first | exact bi_01 | omega) C dX12_hasTen_127 ?_
                                    obtain ⟨H3, e_H3⟩ : ∃ z : Hp, z = upd2 hx 141 ((10 * x5) + wth).toNat 1 := ⟨_, rfl⟩
                                    refine wp_heq e_H3 ?_
                                    obtain ⟨y6, e_y6⟩ : ∃ z : Int, z = x6 + (1) := ⟨_, rfl⟩
                                    refine wp_iinc (j := 6) (y := y6) (ls' := [(0, rv E 128), (1, iv q), (2, iv k), (3, iv x3), (4, iv x4), (5, iv x5), (6, iv y6)]) [1, 2, 3, 4, 5, 6, 0] C dX12_hasTen_128 rfl e_y6 (by decide) rfl ?_
                                    have hnw : (exL q (expd f x3.toNat ++ List.replicate x4.toNat x3) x5.toNat wth = true ∨ (x6 < y6 ∧ exL q (expd f x3.toNat ++ List.replicate x4.toNat x3) (x5.toNat - 1) x6 = true)) ↔ (exL q (expd f x3.toNat ++ List.replicate x4.toNat x3) x5.toNat wth = true ∨ exL q (expd f x3.toNat ++ List.replicate x4.toNat x3) (x5.toNat - 1) x6 = true) := ⟨fun z => z.elim Or.inl (fun y => Or.inr y.2), fun z => z.elim Or.inl (fun y => Or.inr ⟨by omega, y⟩)⟩
                                    refine wp_goto (tgt := 62) C dX12_hasTen_131 (by decide) ?_
                                    exact ih9_62 y6 H3 (by omega) (fun c hc hn9 s hs => by rw [e_H3]; unfold upd2; rw [if_neg (fun z => by omega)]; exact hu c hc hn9 s hs) (fun s hs => by have h2 := sbm_trn (r := x6) (x := x3) (w := (s : Int)) (p := q) (by omega) (by omega) (by omega); rw [e_H3]; unfold upd2; by_cases w : s = wth.toNat; have h3 : sbm (s : Int) x3 q = x6 := h2.mpr (by omega); rw [if_pos (by omega), h3, show ((s : Nat) : Int) = wth by omega]; exact (bi_t (hnw.mpr (Or.inr c_119))).symm; rw [if_neg (fun z => w (by omega)), hr0 s hs]; apply bi_c; have h4 : ¬ sbm (s : Int) x3 q = x6 := fun z => w (by have := h2.mp z; omega); exact ⟨fun z => z.elim Or.inl (fun y => Or.inr ⟨by omega, y.2⟩), fun z => z.elim Or.inl (fun y => Or.inr ⟨by omega, y.2⟩)⟩) (fun a b hab => by rw [e_H3]; unfold upd2; rw [if_neg (fun z => hab z.1)]; exact hf a b hab) (by omega)
                          have q62 : ∀ (x6 : Int) (hx : Hp), (0 ≤ x6 ∧ x6 ≤ q) → (∀ c : Nat, c ≤ k.toNat → (c : Int) ≠ x5 → ∀ s : Nat, (s : Int) < q → hx 141 (10 * c + s) = bi (exL q (if x5 < (c : Int) then ((expd f x3.toNat ++ List.replicate x4.toNat x3) ++ [x3]) else (expd f x3.toNat ++ List.replicate x4.toNat x3)) c s = true)) → (∀ s : Nat, (s : Int) < q → hx 141 (10 * x5.toNat + s) = bi (exL q (expd f x3.toNat ++ List.replicate x4.toNat x3) x5.toNat s = true ∨ (sbm s x3 q < x6 ∧ exL q (expd f x3.toNat ++ List.replicate x4.toNat x3) (x5.toNat - 1) (sbm s x3 q) = true))) → (∀ a b, a ≠ 141 → hx a b = h a b) → Wp G E 7 (fun v hx => v = some (iv (bi (exL q (expd f q.toNat) k.toNat 0 = true))) ∧ (∀ a b, a ≠ 141 → hx a b = h a b)) 62 [(0, rv E 128), (1, iv q), (2, iv k), (3, iv x3), (4, iv x4), (5, iv x5), (6, iv x6)] [] hx := fun x6 hx hi6 hu hr0 hf => q620 _ x6 hx hi6 hu hr0 hf (Nat.lt_succ_self _)
                          exact q62 0 hx (by omega) (fun c hc _ s hs => hu c hc s hs) (fun s hs => by rw [hu x5.toNat (by omega) s hs, if_neg (by omega)]; apply bi_c; have hsb := sbm_r (r := (s : Int)) (x := x3) (p := q) (by omega) (by omega); exact ⟨Or.inl, fun z => z.elim id (fun w => absurd w.1 (by omega))⟩) (hf)
                    have q54 : ∀ (x5 : Int) (hx : Hp), (0 ≤ x5 ∧ x5 ≤ k) → (∀ c : Nat, c ≤ k.toNat → ∀ s : Nat, (s : Int) < q → hx 141 (10 * c + s) = bi (exL q (if x5 < (c : Int) then ((expd f x3.toNat ++ List.replicate x4.toNat x3) ++ [x3]) else (expd f x3.toNat ++ List.replicate x4.toNat x3)) c s = true)) → (∀ a b, a ≠ 141 → hx a b = h a b) → Wp G E 7 (fun v hx => v = some (iv (bi (exL q (expd f q.toNat) k.toNat 0 = true))) ∧ (∀ a b, a ≠ 141 → hx a b = h a b)) 54 [(0, rv E 128), (1, iv q), (2, iv k), (3, iv x3), (4, iv x4), (5, iv x5)] [] hx := fun x5 hx hi5 hu hf => q540 _ x5 hx hi5 hu hf (Nat.lt_succ_self _)
                    exact q54 k hx (by omega) (fun c hc s hs => by rw [if_neg (by omega)]; exact hv c hc s hs) (hf)
              have q40 : ∀ (x4 : Int) (hx : Hp), (0 ≤ x4 ∧ x4 ≤ f x3.toNat) → (hvP q k.toNat hx (expd f x3.toNat ++ List.replicate x4.toNat x3)) → (∀ a b, a ≠ 141 → hx a b = h a b) → Wp G E 7 (fun v hx => v = some (iv (bi (exL q (expd f q.toNat) k.toNat 0 = true))) ∧ (∀ a b, a ≠ 141 → hx a b = h a b)) 40 [(0, rv E 128), (1, iv q), (2, iv k), (3, iv x3), (4, iv x4)] [] hx := fun x4 hx hi4 hv hf => q400 _ x4 hx hi4 hv hf (Nat.lt_succ_self _)
              exact q40 0 hx (by omega) (by simpa using hv) (hf)
        have q32 : ∀ (x3 : Int) (hx : Hp), (0 ≤ x3 ∧ x3 ≤ q) → (hvP q k.toNat hx (expd f x3.toNat)) → (∀ a b, a ≠ 141 → hx a b = h a b) → Wp G E 7 (fun v hx => v = some (iv (bi (exL q (expd f q.toNat) k.toNat 0 = true))) ∧ (∀ a b, a ≠ 141 → hx a b = h a b)) 32 [(0, rv E 128), (1, iv q), (2, iv k), (3, iv x3)] [] hx := fun x3 hx hi hv hf => q320 _ x3 hx hi hv hf (Nat.lt_succ_self _)
        exact q32 0 hx (by omega) (fun c hc s hs => by rw [hb (10 * c + s) (by omega)]; show _ = bi (exL q [] c s = true); by_cases w : c = 0 ∧ s = 0; rw [if_pos (by omega), bi_t (by simp [exL, w.1, w.2])]; rw [if_neg (by omega), bi_f (by simp only [exL, Bool.and_eq_true, decide_eq_true_eq]; omega)]) (hf)
      · skip
        refine wp_aloadR_n 0 C dX12_hasTen_9 rfl rfl ?_
        refine wp_getR flX12_49 sh_128 rfl C dX12_hasTen_10 ?_
        refine wp_iload_n 3 C dX12_hasTen_13 rfl rfl ?_
        refine wp_iload_n 3 C dX12_hasTen_14 rfl rfl ?_
        refine wp_if_ne (tgt := 22) (by omega) C dX12_hasTen_15 (by decide) (fun c_15 => ?_) (fun c_15 => ?_)
        · skip
          refine wp_iconst (v := 0) C dX12_hasTen_22 rfl ?_
          refine wp_zast sh_141 (by omega) (by first | exact bi_01 | omega) C dX12_hasTen_23 ?_
          obtain ⟨H4, e_H4⟩ : ∃ z : Hp, z = upd2 hx 141 x3.toNat 0 := ⟨_, rfl⟩
          refine wp_heq e_H4 ?_
          obtain ⟨z3, e_z3⟩ : ∃ z : Int, z = x3 + (1) := ⟨_, rfl⟩
          refine wp_iinc (j := 3) (y := z3) (ls' := [(0, rv E 128), (1, iv q), (2, iv k), (3, iv z3)]) [1, 2, 3, 0] C dX12_hasTen_24 rfl e_z3 (by decide) rfl ?_
          refine wp_goto (tgt := 2) C dX12_hasTen_27 (by decide) ?_
          exact ih9_2 z3 H4 (by omega) (fun b hb9 => by rw [e_H4]; unfold upd2; by_cases w : b = x3.toNat; rw [if_pos (by omega), if_neg (by omega)]; rw [if_neg (fun z => w z.2)]; exact hb b (by omega)) (fun a b hab => by rw [e_H4]; unfold upd2; rw [if_neg (fun z => hab z.1)]; exact hf a b hab) (by omega)
        · skip
          refine wp_iconst (v := 1) C dX12_hasTen_18 rfl ?_
          refine wp_goto (tgt := 23) C dX12_hasTen_19 (by decide) ?_
          refine wp_zast sh_141 (by omega) (by first | exact bi_01 | omega) C dX12_hasTen_23 ?_
          obtain ⟨H5, e_H5⟩ : ∃ z : Hp, z = upd2 hx 141 x3.toNat 1 := ⟨_, rfl⟩
          refine wp_heq e_H5 ?_
          obtain ⟨z3, e_z3⟩ : ∃ z : Int, z = x3 + (1) := ⟨_, rfl⟩
          refine wp_iinc (j := 3) (y := z3) (ls' := [(0, rv E 128), (1, iv q), (2, iv k), (3, iv z3)]) [1, 2, 3, 0] C dX12_hasTen_24 rfl e_z3 (by decide) rfl ?_
          refine wp_goto (tgt := 2) C dX12_hasTen_27 (by decide) ?_
          exact ih9_2 z3 H5 (by omega) (fun b hb9 => by rw [e_H5]; unfold upd2; by_cases w : b = x3.toNat; rw [if_pos (by omega), if_pos (by omega)]; rw [if_neg (fun z => w z.2)]; exact hb b (by omega)) (fun a b hab => by rw [e_H5]; unfold upd2; rw [if_neg (fun z => hab z.1)]; exact hf a b hab) (by omega)
  have q2 : ∀ (x3 : Int) (hx : Hp), (0 ≤ x3 ∧ x3 ≤ 210) → (∀ b : Nat, (b : Int) < x3 → hx 141 b = if b = 0 then 1 else 0) → (∀ a b, a ≠ 141 → hx a b = h a b) → Wp G E 7 (fun v hx => v = some (iv (bi (exL q (expd f q.toNat) k.toNat 0 = true))) ∧ (∀ a b, a ≠ 141 → hx a b = h a b)) 2 [(0, rv E 128), (1, iv q), (2, iv k), (3, iv x3)] [] hx := fun x3 hx hi hb hf => q20 _ x3 hx hi hb hf (Nat.lt_succ_self _)
  exact q2 0 h (by omega) (fun b hb => absurd hb (by omega)) (fun a b _ => rfl)

theorem count_snoc {L : List Int} {x a : Int} : (L ++ [x]).count a = L.count a + (if x = a then 1 else 0) := by
  rw [List.count_append]
  congr 1
  by_cases h : x = a
  · rw [if_pos h, h]; simp
  · rw [if_neg h]; exact List.count_eq_zero.mpr (fun z => h (List.mem_singleton.mp z).symm)
set_option maxRecDepth 100000 in
set_option maxHeartbeats 4000000 in
theorem m_come (E : En) (h : Hp) (n : Nat) (p : Int) (N Sc Cl Cs : Nat → Int) (M0 : MH h n p N Sc Cl Cs) (k : Int) (hk : -2147483648 ≤ k ∧ k ≤ 2147483647) : Ct 3 yX12_come cX12_come 3 (some .int) E [rv E 128, iv k] h (fun v hx => v = some (iv (if ¬ (1 ≤ k ∧ k ≤ 20) then -3 else comS N p n k.toNat)) ∧ (∀ a b, a ≠ 140 → a ≠ 141 → hx a b = h a b)) := by
  obtain ⟨m0, m1, m2, m3, mN, mS, mC, mK⟩ := id M0
  refine ct_intro (by decide) (Nat.le_of_ble_eq_true rfl) (fun G C => ?_)
  show Wp G E 3 (fun v hx => v = some (iv (if ¬ (1 ≤ k ∧ k ≤ 20) then -3 else comS N p n k.toNat)) ∧ (∀ a b, a ≠ 140 → a ≠ 141 → hx a b = h a b)) 0 [(0, rv E 128), (1, iv k)] [] h
  refine wp_iload_n 1 C dX12_come_0 rfl rfl ?_
  refine wp_callSp (rest := []) (c_misSize E h k (by omega)) ssX12_198 (by decide) rfl rfl (Nat.le_of_ble_eq_true rfl) C dX12_come_1 ?_
  refine wp_ifb_ne (tgt := 10) C dX12_come_4 (by decide) (fun c_4 => ?_) (fun c_4 => ?_)
  · skip
    refine wp_iconst (v := 0) C dX12_come_10 rfl ?_
    refine wp_istore_n (ls' := [(0, rv E 128), (1, iv k), (2, iv 0)]) [1, 2, 0] C dX12_come_11 rfl (by decide) rfl ?_
    have q120 : ∀ n9 : Nat, ∀ (x2 : Int) (hx : Hp), (0 ≤ x2 ∧ x2 ≤ 10) → (∀ b : Nat, (b : Int) < x2 → hx 140 b = 0) → (∀ a b, a ≠ 140 → a ≠ 141 → hx a b = h a b) → (10 - x2).toNat < n9 → Wp G E 3 (fun v hx => v = some (iv (if ¬ (1 ≤ k ∧ k ≤ 20) then -3 else comS N p n k.toNat)) ∧ (∀ a b, a ≠ 140 → a ≠ 141 → hx a b = h a b)) 12 [(0, rv E 128), (1, iv k), (2, iv x2)] [] hx := by
      intro n9
      induction n9 with
      | zero => intro x2 hx hi hb hf hm9; exact absurd hm9 (Nat.not_lt_zero _)
      | succ n9 ih9 =>
        intro x2 hx hi hb hf hm9
        have ih9_12 := ih9
        refine wp_iload_n 2 C dX12_come_12 rfl rfl ?_
        refine wp_bipush (v := 10) C dX12_come_13 rfl ?_
        refine wp_icmp_ge (tgt := 31) (by omega) (by omega) C dX12_come_15 (by decide) (fun c_15 => ?_) (fun c_15 => ?_)
        · skip
          refine wp_iconst (v := 0) C dX12_come_31 rfl ?_
          refine wp_istore_n (ls' := [(0, rv E 128), (1, iv k), (2, iv 0)]) [1, 2, 0] C dX12_come_32 rfl (by decide) rfl ?_
          have q330 : ∀ n9 : Nat, ∀ (x2 : Int) (hx : Hp), (0 ≤ x2 ∧ x2 ≤ n) → (∀ r : Nat, (r : Int) < p → hx 140 r = ((rsL N p x2.toNat).count (r : Int) : Int)) → (∀ j, j < x2.toNat → (fun i => exL p (rsL N p (i + 1)) k.toNat 0) j = false) → (∀ a b, a ≠ 140 → a ≠ 141 → hx a b = h a b) → ((n : Int) - x2).toNat < n9 → Wp G E 3 (fun v hx => v = some (iv (if ¬ (1 ≤ k ∧ k ≤ 20) then -3 else comS N p n k.toNat)) ∧ (∀ a b, a ≠ 140 → a ≠ 141 → hx a b = h a b)) 33 [(0, rv E 128), (1, iv k), (2, iv x2)] [] hx := by
            intro n9
            induction n9 with
            | zero => intro x2 hx hi ho hs hf hm9; exact absurd hm9 (Nat.not_lt_zero _)
            | succ n9 ih9 =>
              intro x2 hx hi ho hs hf hm9
              have ih9_33 := ih9
              have Mx : MH hx n p N Sc Cl Cs := M0.of (fun b => ⟨hf _ _ (by decide) (by decide), hf _ _ (by decide) (by decide), hf _ _ (by decide) (by decide)⟩)
              have hmn := mod_r (N x2.toNat) m3
              refine wp_iload_n 2 C dX12_come_33 rfl rfl ?_
              refine wp_aloadR_n 0 C dX12_come_34 rfl rfl ?_
              refine wp_callVp (rest := [iv x2]) (c_heaps E hx n p N Sc Cl Cs Mx) svX12_141 sh_128 (by decide) rfl rfl (Nat.le_of_ble_eq_true rfl) C dX12_come_35 ?_
              refine wp_icmp_ge (tgt := 77) (by omega) (by omega) C dX12_come_38 (by decide) (fun c_38 => ?_) (fun c_38 => ?_)
              · skip
                refine wp_iconst (v := (-1)) C dX12_come_77 rfl ?_
                refine wp_iret C dX12_come_78 ?_
                exact ⟨by rw [if_neg (not_not_intro c_4)]; have q := firstI_none (p := (fun i => exL p (rsL N p (i + 1)) k.toNat 0)) (n := n) (fun j hj => hs j (by omega)); simp [comS, q], hf⟩
              · skip
                refine wp_aloadR_n 0 C dX12_come_41 rfl rfl ?_
                refine wp_getR flX12_46 sh_128 rfl C dX12_come_42 ?_
                refine wp_aloadR_n 0 C dX12_come_45 rfl rfl ?_
                refine wp_iload_n 2 C dX12_come_46 rfl rfl ?_
                refine wp_callVp (rest := [rv E 140]) (c_mrestOf E hx n p N Sc Cl Cs Mx x2 (by omega)) svX12_162 sh_128 (by decide) rfl rfl (Nat.le_of_ble_eq_true rfl) C dX12_come_47 ?_
                refine wp_dup2 rfl rfl C dX12_come_50 ?_
                refine wp_iald sh_140 (by omega) C dX12_come_51 ?_
                refine wp_iconst (v := 1) C dX12_come_52 rfl ?_
                refine wp_iadd C dX12_come_53 ?_
                refine wp_iast sh_140 (by omega) C dX12_come_54 ?_
                obtain ⟨H1, e_H1⟩ : ∃ z : Hp, z = upd2 hx 140 (N x2.toNat % p).toNat ((hx 140 (N x2.toNat % p).toNat) + 1) := ⟨_, rfl⟩
                refine wp_heq e_H1 ?_
                have hf1 : ∀ a b, a ≠ 140 → a ≠ 141 → H1 a b = h a b := fun a b h1 h2 => by rw [e_H1]; unfold upd2; rw [if_neg (fun z => h1 z.1)]; exact hf a b h1 h2
                have My : MH H1 n p N Sc Cl Cs := M0.of (fun b => ⟨hf1 _ _ (by decide) (by decide), hf1 _ _ (by decide) (by decide), hf1 _ _ (by decide) (by decide)⟩)
                have ho2 : ∀ r : Nat, (r : Int) < p → H1 140 r = ((rsL N p x2.toNat ++ [N x2.toNat % p]).count (r : Int) : Int) := fun r hr => by
                  rw [count_snoc, e_H1]
                  unfold upd2
                  by_cases w : r = (N x2.toNat % p).toNat
                  · rw [if_pos ⟨rfl, w⟩, ← w, ho r hr, if_pos (by omega)]; omega
                  · rw [if_neg (fun z => w z.2), ho r hr, if_neg (by omega)]; omega
                refine wp_aloadR_n 0 C dX12_come_55 rfl rfl ?_
                refine wp_aloadR_n 0 C dX12_come_56 rfl rfl ?_
                refine wp_callVp (rest := [rv E 128]) (c_parts E H1 n p N Sc Cl Cs My) svX12_157 sh_128 (by decide) rfl rfl (Nat.le_of_ble_eq_true rfl) C dX12_come_57 ?_
                refine wp_iload_n 1 C dX12_come_60 rfl rfl ?_
                refine wp_callV (rest := []) (c_hasTen E H1 p k (fun r => (rsL N p (x2.toNat + 1)).count (r : Int)) m3 (by omega) (fun r hr => ⟨by rw [rsL_succ]; exact ho2 r hr, Nat.le_trans List.count_le_length (by rw [rsL_len]; omega)⟩)) svX12_255 sh_128 (by decide) rfl rfl (Nat.le_of_ble_eq_true rfl) C dX12_come_61 (fun r0 hy pf => ?_)
                obtain ⟨rfl, hfy⟩ := pf
                refine wp_top (show _ = bi (exL p (rsL N p (x2.toNat + 1)) k.toNat 0 = true) from bi_c (by rw [exL_perm (expd_perm (q := p.toNat) (fun y hy => by have := rsL_r m3 (x2.toNat + 1) y hy; omega)) (fun y hy => by have := expd_r _ p.toNat y hy; omega) k.toNat 0 (by omega)])) ?_
                refine wp_ifb_eq (tgt := 71) C dX12_come_64 (by decide) (fun c_64 => ?_) (fun c_64 => ?_)
                · skip
                  obtain ⟨v2, e_v2⟩ : ∃ z : Int, z = x2 + (1) := ⟨_, rfl⟩
                  refine wp_iinc (j := 2) (y := v2) (ls' := [(0, rv E 128), (1, iv k), (2, iv v2)]) [1, 2, 0] C dX12_come_71 rfl e_v2 (by decide) rfl ?_
                  refine wp_goto (tgt := 33) C dX12_come_74 (by decide) ?_
                  exact ih9_33 v2 hy (by omega) (fun r hr => by rw [hfy 140 r (by decide), e_v2, show (x2 + 1).toNat = x2.toNat + 1 by omega, rsL_succ]; exact ho2 r hr) (fun j hj => by rcases (show j < x2.toNat ∨ j = x2.toNat by omega) with q | rfl; exact hs j q; show exL _ _ _ _ = false; exact Bool.eq_false_iff.mpr c_64) (fun a b h1 h2 => (hfy a b h2).trans (hf1 a b h1 h2)) (by omega)
                · skip
                  refine wp_iload_n 2 C dX12_come_67 rfl rfl ?_
                  refine wp_iconst (v := 1) C dX12_come_68 rfl ?_
                  refine wp_iadd C dX12_come_69 ?_
                  refine wp_iret C dX12_come_70 ?_
                  exact ⟨by rw [if_neg (not_not_intro c_4)]; have q := firstI_some (p := (fun i => exL p (rsL N p (i + 1)) k.toNat 0)) (n := n) (i := x2.toNat) (by omega) c_64 hs; simp only [comS, q]; rw [if_neg (by omega), show ((x2.toNat : Nat) : Int) = x2 by omega], fun a b h1 h2 => (hfy a b h2).trans (hf1 a b h1 h2)⟩
          have q33 : ∀ (x2 : Int) (hx : Hp), (0 ≤ x2 ∧ x2 ≤ n) → (∀ r : Nat, (r : Int) < p → hx 140 r = ((rsL N p x2.toNat).count (r : Int) : Int)) → (∀ j, j < x2.toNat → (fun i => exL p (rsL N p (i + 1)) k.toNat 0) j = false) → (∀ a b, a ≠ 140 → a ≠ 141 → hx a b = h a b) → Wp G E 3 (fun v hx => v = some (iv (if ¬ (1 ≤ k ∧ k ≤ 20) then -3 else comS N p n k.toNat)) ∧ (∀ a b, a ≠ 140 → a ≠ 141 → hx a b = h a b)) 33 [(0, rv E 128), (1, iv k), (2, iv x2)] [] hx := fun x2 hx hi ho hs hf => q330 _ x2 hx hi ho hs hf (Nat.lt_succ_self _)
          exact q33 0 hx (by omega) (fun r hr => by rw [hb r (by omega)]; rfl) (fun j hj => absurd hj (by omega)) (hf)
        · skip
          refine wp_aloadR_n 0 C dX12_come_18 rfl rfl ?_
          refine wp_getR flX12_46 sh_128 rfl C dX12_come_19 ?_
          refine wp_iload_n 2 C dX12_come_22 rfl rfl ?_
          refine wp_iconst (v := 0) C dX12_come_23 rfl ?_
          refine wp_iast sh_140 (by omega) C dX12_come_24 ?_
          obtain ⟨H3, e_H3⟩ : ∃ z : Hp, z = upd2 hx 140 x2.toNat 0 := ⟨_, rfl⟩
          refine wp_heq e_H3 ?_
          obtain ⟨v4, e_v4⟩ : ∃ z : Int, z = x2 + (1) := ⟨_, rfl⟩
          refine wp_iinc (j := 2) (y := v4) (ls' := [(0, rv E 128), (1, iv k), (2, iv v4)]) [1, 2, 0] C dX12_come_25 rfl e_v4 (by decide) rfl ?_
          refine wp_goto (tgt := 12) C dX12_come_28 (by decide) ?_
          exact ih9_12 v4 H3 (by omega) (fun b hb9 => by rw [e_H3]; unfold upd2; by_cases w : b = x2.toNat; rw [if_pos ⟨rfl, w⟩]; rw [if_neg (fun z => w z.2)]; exact hb b (by omega)) (fun a b h1 h2 => by rw [e_H3]; unfold upd2; rw [if_neg (fun z => h1 z.1)]; exact hf a b h1 h2) (by omega)
    have q12 : ∀ (x2 : Int) (hx : Hp), (0 ≤ x2 ∧ x2 ≤ 10) → (∀ b : Nat, (b : Int) < x2 → hx 140 b = 0) → (∀ a b, a ≠ 140 → a ≠ 141 → hx a b = h a b) → Wp G E 3 (fun v hx => v = some (iv (if ¬ (1 ≤ k ∧ k ≤ 20) then -3 else comS N p n k.toNat)) ∧ (∀ a b, a ≠ 140 → a ≠ 141 → hx a b = h a b)) 12 [(0, rv E 128), (1, iv k), (2, iv x2)] [] hx := fun x2 hx hi hb hf => q120 _ x2 hx hi hb hf (Nat.lt_succ_self _)
    exact q12 0 h (by omega) (fun b hb => absurd hb (by omega)) (fun a b _ _ => rfl)
  · skip
    refine wp_bipush (v := (-3)) C dX12_come_7 rfl ?_
    refine wp_iret C dX12_come_9 ?_
    exact ⟨by rw [if_pos c_4], fun _ _ _ _ => rfl⟩


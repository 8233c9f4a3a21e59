/-! ===== keep, back, market ===== -/
theorem copy_o {h : Hp} {f t : Int} {a b : Nat} (h1 : ¬ (a = 130 ∧ 60 * t ≤ (b : Int) ∧ (b : Int) < 60 * t + 60)) (h2 : ¬ (a = 129 ∧ 20 * t ≤ (b : Int) ∧ (b : Int) < 20 * t + 20)) (h3 : ¬ (a = 132 ∧ 12 * t ≤ (b : Int) ∧ (b : Int) < 12 * t + 12)) (h4 : ¬ (a = 131 ∧ 3 * t ≤ (b : Int) ∧ (b : Int) < 3 * t + 3)) : copyH h f t a b = h a b := by
  unfold copyH
  rw [cp_o h4, cp_o h3, cp_o h2, cp_o h1]
theorem copy_129 {h : Hp} {f t : Int} {b : Nat} (c : Nat) (h1 : 20 * t ≤ (b : Int) ∧ (b : Int) < 20 * t + 20) (hc : 20 * f + ((b : Int) - 20 * t) = c) : copyH h f t 129 b = h 129 c := by
  unfold copyH
  rw [cp_o (by omega), cp_o (by omega), cp_i c h1 hc, cp_o (by omega)]
theorem copy_130 {h : Hp} {f t : Int} {b : Nat} (c : Nat) (h1 : 60 * t ≤ (b : Int) ∧ (b : Int) < 60 * t + 60) (hc : 60 * f + ((b : Int) - 60 * t) = c) : copyH h f t 130 b = h 130 c := by
  unfold copyH
  rw [cp_o (by omega), cp_o (by omega), cp_o (by omega), cp_i c h1 hc]
theorem copy_132 {h : Hp} {f t : Int} {b : Nat} (c : Nat) (h1 : 12 * t ≤ (b : Int) ∧ (b : Int) < 12 * t + 12) (hc : 12 * f + ((b : Int) - 12 * t) = c) : copyH h f t 132 b = h 132 c := by
  unfold copyH
  rw [cp_o (by omega), cp_i c h1 hc, cp_o (by omega), cp_o (by omega)]
theorem copy_131 {h : Hp} {f t : Int} {b : Nat} (c : Nat) (h1 : 3 * t ≤ (b : Int) ∧ (b : Int) < 3 * t + 3) (hc : 3 * f + ((b : Int) - 3 * t) = c) : copyH h f t 131 b = h 131 c := by
  unfold copyH
  rw [cp_i c h1 hc, cp_o (by omega), cp_o (by omega), cp_o (by omega)]
theorem Kq.new {h : Hp} (I : Inv h) (k r : Nat) (hk : k < 2) (hr : r = 24 + k) : Kq (upd2 (copyH (saveH h (k : Int)) 0 (1 + (k : Int))) 133 k 1) k r := by
  subst hr
  have b := I.b
  have b2 := I.b2
  have hs : ∀ x c : Nat, ¬ (x = 24 + k) → ¬ (x = 26) → saveH h (k : Int) x c = h x c := fun x c h1 h2 => by
    unfold saveH
    rw [u_o (by omega), cp_o (by rw [show (k : Int).toNat = k from rfl]; omega)]
  have e26 : upd2 (copyH (saveH h (k : Int)) 0 (1 + (k : Int))) 133 k 1 26 k = h 21 1 := by
    rw [u_o (by omega), copy_o (by omega) (by omega) (by omega) (by omega)]
    unfold saveH
    rw [show (k : Int).toNat = k from rfl, u_i]
  unfold Kq
  rw [e26, u_i]
  refine ⟨rfl, b.1, b.2, ?_, ?_, ?_, fun i hi => ?_, fun i hi => ?_, fun j hj => ?_⟩
  · rw [u_o (by omega), copy_131 2 (by omega) (by omega), hs _ _ (by omega) (by omega), b2]
  · rw [u_o (by omega), u_o (by omega), copy_131 0 (by omega) (by omega), copy_o (by omega) (by omega) (by omega) (by omega)]
  · rw [u_o (by omega), u_o (by omega), copy_131 1 (by omega) (by omega), copy_o (by omega) (by omega) (by omega) (by omega)]
  · rw [u_o (by omega), u_o (by omega), copy_129 i (by omega) (by omega), copy_o (by omega) (by omega) (by omega) (by omega)]
  · rw [u_o (by omega), u_o (by omega), copy_130 i (by omega) (by omega), copy_o (by omega) (by omega) (by omega) (by omega)]
  · rw [u_o (by omega), u_o (by omega), copy_o (by omega) (by omega) (by omega) (by omega), copy_132 j (by omega) (by omega), hs 132 j (by omega) (by omega), I.2.2.1.2 j hj |>.1]
    unfold saveH
    rw [show (k : Int).toNat = k from rfl, u_o (by omega), cp_i j (by omega) (by omega)]
    exact ⟨rfl, I.l j hj⟩
theorem Inv.keepn {h : Hp} (I : Inv h) (k : Nat) (hk : k < 2) : Inv (upd2 (copyH (saveH h (k : Int)) 0 (1 + (k : Int))) 133 k 1) := by
  have b := I.b
  have hs : ∀ x c : Nat, ¬ (x = 24 + k) → ¬ (x = 26 ∧ c = k) → saveH h (k : Int) x c = h x c := fun x c h1 h2 => by
    unfold saveH
    rw [show (k : Int).toNat = k from rfl, u_o h2, cp_o (by omega)]
  have ho : ∀ x c : Nat, ¬ (x = 24 + k) → ¬ ((x = 26 ∨ x = 133) ∧ c = k) → ¬ (x = 129 ∧ 20 + 20 * k ≤ c ∧ c < 40 + 20 * k) → ¬ (x = 130 ∧ 60 + 60 * k ≤ c ∧ c < 120 + 60 * k) → ¬ (x = 132 ∧ 12 + 12 * k ≤ c ∧ c < 24 + 12 * k) → ¬ (x = 131 ∧ 3 + 3 * k ≤ c ∧ c < 6 + 3 * k) → upd2 (copyH (saveH h (k : Int)) 0 (1 + (k : Int))) 133 k 1 x c = h x c := fun x c h1 h2 h3 h4 h5 h6 => by
    rw [u_o (by omega), copy_o (by omega) (by omega) (by omega) (by omega), hs x c h1 (by omega)]
  have kn := Kq.new I k (24 + k) hk rfl
  obtain ⟨i1, i2, i3, i4, i5, i6⟩ := I
  refine ⟨i1.of fun a c z => ho a c (by omega) (by omega) (by omega) (by omega) (by omega) (by omega), i2.of fun a c z => ho a c (by omega) (by omega) (by omega) (by omega) (by omega) (by omega), i3.of fun a c z => ho a c (by omega) (by omega) (by omega) (by omega) (by omega) (by omega), ?_, ?_, i6.of fun c => ho 101 c (by omega) (by omega) (by omega) (by omega) (by omega) (by omega)⟩
  · rcases (show k = 0 ∨ k = 1 by omega) with rfl | rfl
    · exact Or.inr kn
    · exact i4.of fun a c z => ho a c (by omega) (by omega) (by omega) (by omega) (by omega) (by omega)
  · rcases (show k = 0 ∨ k = 1 by omega) with rfl | rfl
    · exact i5.of fun a c z => ho a c (by omega) (by omega) (by omega) (by omega) (by omega) (by omega)
    · exact Or.inr kn
theorem Inv.backn {h : Hp} (I : Inv h) (k : Nat) (hk : k < 2) (Q : Kq h k (24 + k)) : Inv (copyH (restoreH h (k : Int)) (1 + (k : Int)) 0) := by
  obtain ⟨q1, q2, q3, q4, q5, q6, q7, q8, q9⟩ := Q
  have hs : ∀ x c : Nat, x ≠ 22 → ¬ (x = 21 ∧ c = 1) → restoreH h (k : Int) x c = h x c := fun x c h1 h2 => by
    unfold restoreH
    rw [cp_o (by omega), u_o h2]
  have ho : ∀ x c : Nat, x ≠ 22 → ¬ (x = 21 ∧ c = 1) → ¬ (x = 132 ∧ c < 12) → ¬ (x = 131 ∧ c = 2) → copyH (restoreH h (k : Int)) (1 + (k : Int)) 0 x c = h x c := fun x c h1 h2 h3 h4 => by
    by_cases z1 : x = 129 ∧ c < 20
    · obtain ⟨rfl, z1⟩ := z1
      rw [copy_129 (20 + 20 * k + c) (by omega) (by omega), hs _ _ (by omega) (by omega)]
      exact q7 c z1
    by_cases z2 : x = 130 ∧ c < 60
    · obtain ⟨rfl, z2⟩ := z2
      rw [copy_130 (60 + 60 * k + c) (by omega) (by omega), hs _ _ (by omega) (by omega)]
      exact q8 c z2
    by_cases z3 : x = 131 ∧ c < 2
    · obtain ⟨rfl, z3⟩ := z3
      rcases (show c = 0 ∨ c = 1 by omega) with rfl | rfl
      · rw [copy_131 (3 + 3 * k) (by omega) (by omega), hs _ _ (by omega) (by omega)]
        exact q5
      · rw [copy_131 (4 + 3 * k) (by omega) (by omega), hs _ _ (by omega) (by omega)]
        exact q6
    rw [copy_o (by omega) (by omega) (by omega) (by omega), hs x c h1 h2]
  obtain ⟨i1, i2, i3, i4, i5, i6⟩ := I
  refine ⟨i1.of fun a c z => ho a c (by omega) (by omega) (by omega) (by omega), i2.of fun a c z => ho a c (by omega) (by omega) (by omega) (by omega), ?_, i4.of fun a c z => ho a c (by omega) (by omega) (by omega) (by omega), i5.of fun a c z => ho a c (by omega) (by omega) (by omega) (by omega), i6.of fun c => ho 101 c (by omega) (by omega) (by omega) (by omega)⟩
  have e21 : copyH (restoreH h (k : Int)) (1 + (k : Int)) 0 21 1 = h 26 k := by
    rw [copy_o (by omega) (by omega) (by omega) (by omega)]
    unfold restoreH
    rw [cp_o (by omega), u_i]
    rfl
  unfold IS
  rw [e21, copy_131 (5 + 3 * k) (by omega) (by omega), hs 131 _ (by omega) (by omega)]
  refine ⟨⟨q2, q3, q4⟩, fun j hj => ?_⟩
  rw [copy_132 (12 + 12 * k + j) (by omega) (by omega), hs 132 _ (by omega) (by omega), copy_o (by omega) (by omega) (by omega) (by omega)]
  have e22 : restoreH h (k : Int) 22 j = h (24 + k) j := by
    unfold restoreH
    rw [show (k : Int).toNat = k from rfl, cp_i j (by omega) (by omega), u_o (by omega)]
  rw [e22]
  exact ⟨(q9 j hj).1.symm, (q9 j hj).2⟩
theorem Inv.mark {h h1 h2 : Hp} (I : Inv h) {v1 v2 : Option Value} (c : mkQ (h 7) (h 6 1).toNat (AH h) h h1 v1) (m : mkM (h 7) (h 6 1).toNat (AH h) h1 h2 v2) : v1 = v2 ∧ Inv h2 := by
  obtain ⟨J, j1, j2⟩ := c
  obtain ⟨J', k1, k2⟩ := m
  have eJ := fltP_uniq j1 k1
  subst eJ
  rcases j2 with ⟨a1, a2, a3⟩ | ⟨a1, a2, a3, a4, a5, a6, a7, a8⟩
  · rcases k2 with ⟨b1, b2, b3⟩ | ⟨b1, -⟩
    · refine ⟨a2.trans b2.symm, I.of fun a b hd => ?_⟩
      unfold dep at hd
      rw [b3 a b (by omega) (by omega) (by omega)]
      exact a3 a b (by omega) (by omega) (by omega)
    · exact absurd b1 a1
  · rcases k2 with ⟨b1, -⟩ | ⟨b1, b2, b3, b4, b5, b6, b7, b8⟩
    · exact absurd a1 b1
    · refine ⟨a2.trans b2.symm, ?_⟩
      have ok := (apS_ok (tx := h 7) (L := (h 6 1).toNat) (A := AH h) I.1.2.1 rfl (J + 1) (fun j hj => by
        rcases (show j < J ∨ j = J by omega) with z | z
        · exact (j1.2.1 j z).1
        · subst z
          unfold fltV at a1
          split at a1
          · rename_i w; exact w.1
          · omega)).1
      have f : ∀ a b : Nat, (a < 128) → h2 a b = h1 a b := fun a b ha => b8 a b (by omega) (by omega) (by omega) (by omega) (by omega) (by omega) (by omega)
      obtain ⟨c1, c2, c3⟩ := a3
      obtain ⟨d1, d2, d3⟩ := b3
      generalize apS (h 7) (h 6 1).toNat ((AH h).1 : Int) (AH h) (J + 1) = B at ok c1 c2 c3 d1 d2 d3
      have hn : (h2 1 4).toNat = B.1 := by rw [f 1 4 (by omega), c1]; rfl
      have hp : h2 1 5 = B.2.1 := by rw [f 1 5 (by omega), c2]
      have hq : ∀ i, i < B.1 → h2 2 i = B.2.2.1 i ∧ h2 3 i = B.2.2.2.1 i ∧ h2 4 i = B.2.2.2.2.1 i ∧ h2 5 i = B.2.2.2.2.2 i := fun i hi => by
        rw [f 2 i (by omega), f 3 i (by omega), f 4 i (by omega), f 5 i (by omega)]; exact c3 i hi
      refine ⟨⟨by rw [f 1 4 (by omega), c1]; omega, ⟨?_, ?_, ?_⟩, ?_, ?_, ?_⟩, ⟨?_, ?_⟩, ⟨?_, ?_⟩, Or.inl ?_, Or.inl ?_, ?_⟩
      · show (h2 1 4).toNat ≤ 20
        rw [hn]; exact ok.1
      · show 2 ≤ h2 1 5 ∧ h2 1 5 ≤ 10
        rw [hp]; exact ok.2.1
      · intro i hi
        have hi' : i < B.1 := by rw [← hn]; exact hi
        obtain ⟨g1, g2, g3, g4⟩ := hq i hi'
        show (0 ≤ h2 2 i ∧ _) ∧ (0 ≤ h2 3 i ∧ h2 3 i ≤ 999) ∧ (0 ≤ h2 4 i ∧ h2 4 i ≤ 3) ∧ (0 ≤ h2 5 i ∧ h2 5 i ≤ 99)
        rw [g2, g3, g4]
        show (0 ≤ h2 2 i ∧ h2 2 i ≤ 999999999999999) ∧ _
        rw [g1]
        exact ok.2.2 i hi'
      · show h2 131 0 = ((h2 1 4).toNat : Int)
        rw [hn]; exact d1
      · show h2 131 1 = h2 1 5
        rw [hp]; exact d2
      · intro i hi
        have hi' : i < B.1 := by rw [← hn]; exact hi
        obtain ⟨g1, g2, g3, g4⟩ := hq i hi'
        show h2 129 i = h2 2 i ∧ h2 130 (3 * i) = h2 3 i ∧ h2 130 (3 * i + 1) = h2 4 i ∧ h2 130 (3 * i + 2) = h2 5 i
        rw [g1, g2, g3, g4]
        exact d3 i hi'
      · rw [f 6 1 (by omega), a4, b7]; decide
      · intro i hi
        rw [f 6 1 (by omega), a4] at hi
        omega
      · rw [f 21 1 (by omega), a5, b4]; decide
      · intro i hi
        rw [f 21 1 (by omega), a5] at hi
        omega
      · rw [f 26 0 (by omega), a6, b5]; decide
      · rw [f 26 1 (by omega), a7, b6]; decide
      · have e : ∀ b : Nat, h2 101 b = h 101 b := fun b => by rw [f 101 b (by omega)]; exact a8 101 b (by omega) (by omega) (by omega) (by omega) (by omega) (by omega) (by omega)
        exact IC.of I.2.2.2.2.2 e

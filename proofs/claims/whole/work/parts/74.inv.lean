/-! ===== what ties the class and the reference ===== -/
def AH (h : Hp) : HA := ((h 1 4).toNat, h 1 5, h 2, h 3, h 4, h 5)
def IA (h : Hp) : Prop := 0 ≤ h 1 4 ∧ okA (AH h) ∧ mH h (AH h)
def IT (h : Hp) : Prop := (0 ≤ h 6 1 ∧ h 6 1 ≤ 200 ∧ h 128 6 = h 6 1) ∧ ∀ i : Nat, (i : Int) < h 6 1 → h 134 i = h 7 i ∧ 0 ≤ h 7 i ∧ h 7 i ≤ 255
def IS (h : Hp) : Prop := (0 ≤ h 21 1 ∧ h 21 1 ≤ 12 ∧ h 131 2 = h 21 1) ∧ ∀ j : Nat, (j : Int) < h 21 1 → h 132 j = h 22 j ∧ 0 ≤ h 22 j ∧ h 22 j ≤ 1048575
def Kq (h : Hp) (k r : Nat) : Prop := h 133 k = 1 ∧ 0 ≤ h 26 k ∧ h 26 k ≤ 12 ∧ h 131 (5 + 3 * k) = h 26 k ∧ h 131 (3 + 3 * k) = h 131 0 ∧ h 131 (4 + 3 * k) = h 131 1 ∧ (∀ i : Nat, i < 20 → h 129 (20 + 20 * k + i) = h 129 i) ∧ (∀ i : Nat, i < 60 → h 130 (60 + 60 * k + i) = h 130 i) ∧ ∀ j : Nat, (j : Int) < h 26 k → h r j = h 132 (12 + 12 * k + j) ∧ 0 ≤ h r j ∧ h r j ≤ 1048575
def Kp (h : Hp) (k r : Nat) : Prop := (h 26 k = -1 ∧ h 133 k = 0) ∨ Kq h k r
def IC (h : Hp) : Prop := h 101 0 = 1 ∧ ∀ r : Nat, 0 < r → r < 10 → h 101 r = 0
def Inv (h : Hp) : Prop := IA h ∧ IT h ∧ IS h ∧ Kp h 0 24 ∧ Kp h 1 25 ∧ IC h
theorem IA.of {h hx : Hp} (I : IA h) (e : ∀ a b : Nat, (1 ≤ a ∧ a ≤ 5) ∨ (a = 129 ∧ b < 20) ∨ (a = 130 ∧ b < 60) ∨ (a = 131 ∧ b ≤ 1) → hx a b = h a b) : IA hx := by
  have r1 : hx 1 = h 1 := funext fun b => e 1 b (by omega)
  have r2 : hx 2 = h 2 := funext fun b => e 2 b (by omega)
  have r3 : hx 3 = h 3 := funext fun b => e 3 b (by omega)
  have r4 : hx 4 = h 4 := funext fun b => e 4 b (by omega)
  have r5 : hx 5 = h 5 := funext fun b => e 5 b (by omega)
  have rA : AH hx = AH h := by unfold AH; rw [r1, r2, r3, r4, r5]
  obtain ⟨i1, i2, i3, i4, i5⟩ := I
  have i20 : (AH h).1 ≤ 20 := i2.1
  refine ⟨by rw [r1]; exact i1, by rw [rA]; exact i2, ?_⟩
  rw [rA]
  refine ⟨by rw [e 131 0 (by omega)]; exact i3, by rw [e 131 1 (by omega)]; exact i4, fun i hi => ?_⟩
  rw [e 129 i (by omega), e 130 (3 * i) (by omega), e 130 (3 * i + 1) (by omega), e 130 (3 * i + 2) (by omega)]
  exact i5 i hi
theorem IT.of {h hx : Hp} (I : IT h) (e : ∀ a b : Nat, (a = 6 ∧ b = 1) ∨ a = 7 ∨ a = 134 ∨ (a = 128 ∧ b = 6) → hx a b = h a b) : IT hx := by
  unfold IT
  rw [e 6 1 (by omega), e 128 6 (by omega)]
  refine ⟨I.1, fun i hi => ?_⟩
  rw [e 134 i (by omega), e 7 i (by omega)]
  exact I.2 i hi
theorem IS.of {h hx : Hp} (I : IS h) (e : ∀ a b : Nat, (a = 21 ∧ b = 1) ∨ a = 22 ∨ (a = 132 ∧ b < 12) ∨ (a = 131 ∧ b = 2) → hx a b = h a b) : IS hx := by
  unfold IS
  rw [e 21 1 (by omega), e 131 2 (by omega)]
  refine ⟨I.1, fun j hj => ?_⟩
  have := I.1.2.1
  rw [e 132 j (by omega), e 22 j (by omega)]
  exact I.2 j hj
theorem Kp.of {h hx : Hp} {k r : Nat} (I : Kp h k r) (e : ∀ a b : Nat, ((a = 26 ∨ a = 133) ∧ b = k) ∨ (a = 131 ∧ (b ≤ 1 ∨ (3 + 3 * k ≤ b ∧ b ≤ 5 + 3 * k))) ∨ (a = 129 ∧ (b < 20 ∨ (20 + 20 * k ≤ b ∧ b < 40 + 20 * k))) ∨ (a = 130 ∧ (b < 60 ∨ (60 + 60 * k ≤ b ∧ b < 120 + 60 * k))) ∨ a = r ∨ (a = 132 ∧ 12 + 12 * k ≤ b ∧ b < 24 + 12 * k) → hx a b = h a b) : Kp hx k r := by
  unfold Kp Kq
  rw [e 26 k (by omega), e 133 k (by omega)]
  rcases I with z | ⟨z1, z2, z3, z4, z5, z6, z7, z8, z9⟩
  · exact Or.inl z
  · right
    rw [e 131 (5 + 3 * k) (by omega), e 131 (3 + 3 * k) (by omega), e 131 (4 + 3 * k) (by omega), e 131 0 (by omega), e 131 1 (by omega)]
    refine ⟨z1, z2, z3, z4, z5, z6, fun i hi => ?_, fun i hi => ?_, fun j hj => ?_⟩
    · rw [e 129 _ (by omega), e 129 i (by omega)]; exact z7 i hi
    · rw [e 130 _ (by omega), e 130 i (by omega)]; exact z8 i hi
    · rw [e r j (by omega), e 132 _ (by omega)]; exact z9 j hj
theorem IC.of {h hx : Hp} (I : IC h) (e : ∀ b : Nat, hx 101 b = h 101 b) : IC hx := by
  unfold IC
  rw [e 0]
  exact ⟨I.1, fun r h1 h2 => by rw [e r]; exact I.2 r h1 h2⟩
/-- where it reads -/
def dep (a b : Nat) : Prop := (1 ≤ a ∧ a ≤ 7) ∨ (21 ≤ a ∧ a ≤ 22) ∨ (24 ≤ a ∧ a ≤ 26) ∨ a = 101 ∨ (a = 128 ∧ b = 6) ∨ (129 ≤ a ∧ a ≤ 134)
theorem Inv.of {h hx : Hp} (I : Inv h) (e : ∀ a b : Nat, dep a b → hx a b = h a b) : Inv hx := by
  obtain ⟨i1, i2, i3, i4, i5, i6⟩ := I
  exact ⟨i1.of fun a b z => e a b (by unfold dep; omega), i2.of fun a b z => e a b (by unfold dep; omega), i3.of fun a b z => e a b (by unfold dep; omega), i4.of fun a b z => e a b (by unfold dep; omega), i5.of fun a b z => e a b (by unfold dep; omega), i6.of fun b => e 101 b (by unfold dep; omega)⟩
section FACTS
variable {h : Hp}
theorem Inv.z (I : Inv h) : 0 ≤ h 1 4 ∧ h 1 4 ≤ 20 := by
  have h1 := I.1.1
  have h2 : (h 1 4).toNat ≤ 20 := I.1.2.1.1
  omega
theorem Inv.n (I : Inv h) : ((h 1 4).toNat : Int) = h 1 4 := Int.toNat_of_nonneg I.1.1
theorem Inv.p (I : Inv h) : 2 ≤ h 1 5 ∧ h 1 5 ≤ 10 := I.1.2.1.2.1
theorem Inv.q (I : Inv h) (i : Nat) (hi : (i : Int) < h 1 4) : (0 ≤ h 2 i ∧ h 2 i ≤ 999999999999999) ∧ (0 ≤ h 3 i ∧ h 3 i ≤ 999) ∧ (0 ≤ h 4 i ∧ h 4 i ≤ 3) ∧ (0 ≤ h 5 i ∧ h 5 i ≤ 99) := I.1.2.1.2.2 i (show i < (h 1 4).toNat by omega)
theorem Inv.N (I : Inv h) (i : Nat) (hi : (i : Int) < h 1 4) : 0 ≤ h 2 i ∧ h 2 i ≤ 999999999999999 := (I.q i hi).1
theorem Inv.S (I : Inv h) (i : Nat) (hi : (i : Int) < h 1 4) : 0 ≤ h 3 i ∧ h 3 i ≤ 999999999999999 := ⟨(I.q i hi).2.1.1, by have := (I.q i hi).2.1.2; omega⟩
theorem Inv.C (I : Inv h) (i : Nat) (hi : (i : Int) < h 1 4) : 0 ≤ h 4 i ∧ h 4 i ≤ 999999999999999 := ⟨(I.q i hi).2.2.1.1, by have := (I.q i hi).2.2.1.2; omega⟩
theorem Inv.K (I : Inv h) (i : Nat) (hi : (i : Int) < h 1 4) : 0 ≤ h 5 i ∧ h 5 i ≤ 999999999999999 := ⟨(I.q i hi).2.2.2.1, by have := (I.q i hi).2.2.2.2; omega⟩
theorem Inv.M (I : Inv h) : MH h (h 1 4).toNat (h 1 5) (h 2) (h 3) (h 4) (h 5) := mH_MH I.1.2.1 I.1.2.2
theorem Inv.cH (I : Inv h) : cH h (AH h) := ⟨I.n.symm, rfl, fun _ _ => ⟨rfl, rfl, rfl, rfl⟩⟩
theorem Inv.T (I : Inv h) : TX h (h 7) (h 6 1).toNat := by
  have h1 := I.2.1.1
  exact ⟨by omega, by omega, fun i hi => ⟨rfl, (I.2.1.2 i (by omega)).2⟩⟩
theorem Inv.TM (I : Inv h) : TM h (h 7) (h 6 1).toNat := by
  have h1 := I.2.1.1
  exact ⟨by omega, by omega, fun i hi => ⟨(I.2.1.2 i (by omega)).1, (I.2.1.2 i (by omega)).2⟩⟩
theorem Inv.b (I : Inv h) : 0 ≤ h 21 1 ∧ h 21 1 ≤ 12 := ⟨I.2.2.1.1.1, I.2.2.1.1.2.1⟩
theorem Inv.b2 (I : Inv h) : h 131 2 = h 21 1 := I.2.2.1.1.2.2
theorem Inv.l (I : Inv h) (j : Nat) (hj : (j : Int) < h 21 1) : 0 ≤ h 22 j ∧ h 22 j ≤ 1048575 := (I.2.2.1.2 j hj).2
theorem Inv.l2 (I : Inv h) (j : Nat) (hj : (j : Int) < h 131 2) : h 132 j = h 22 j ∧ 0 ≤ h 22 j ∧ h 22 j ≤ 1048575 := I.2.2.1.2 j (by rw [← I.b2]; exact hj)
theorem Inv.t (I : Inv h) : 0 ≤ h 6 1 ∧ h 6 1 ≤ 200 := ⟨I.2.1.1.1, I.2.1.1.2.1⟩
theorem Inv.t2 (I : Inv h) : h 128 6 = h 6 1 := I.2.1.1.2.2
theorem Inv.c (I : Inv h) : h 101 0 = 1 ∧ ∀ r : Nat, 0 < r → r < 10 → h 101 r = 0 := I.2.2.2.2.2
theorem Inv.m0 (I : Inv h) : h 131 0 = h 1 4 := by rw [I.1.2.2.1]; exact I.n
theorem Inv.k26 (I : Inv h) (j : Nat) (hj : j < 2) : -1 ≤ h 26 j ∧ h 26 j ≤ 12 := by
  rcases (show j = 0 ∨ j = 1 by omega) with rfl | rfl
  · rcases I.2.2.2.1 with z | z
    · rw [z.1]; decide
    · have := z.2; omega
  · rcases I.2.2.2.2.1 with z | z
    · rw [z.1]; decide
    · have := z.2; omega
theorem Inv.k133 (I : Inv h) (j : Nat) (hj : j < 2) : h 133 j = 0 ∨ h 133 j = 1 := by
  rcases (show j = 0 ∨ j = 1 by omega) with rfl | rfl
  · rcases I.2.2.2.1 with z | z
    · exact Or.inl z.2
    · exact Or.inr z.1
  · rcases I.2.2.2.2.1 with z | z
    · exact Or.inl z.2
    · exact Or.inr z.1
end FACTS
theorem u_o {h : Hp} {id j a b : Nat} {v : Int} (hn : ¬ (a = id ∧ b = j)) : upd2 h id j v a b = h a b := if_neg hn
theorem u_i {h : Hp} {id j : Nat} {v : Int} : upd2 h id j v id j = v := if_pos ⟨rfl, rfl⟩
theorem cp_o {h : Hp} {s t a b : Nat} {sp dp n : Int} (hn : ¬ (a = t ∧ dp ≤ (b : Int) ∧ (b : Int) < dp + n)) : cpH h s t sp dp n a b = h a b := if_neg hn
theorem cp_i {h : Hp} {s t b : Nat} {sp dp n : Int} (c : Nat) (h1 : dp ≤ (b : Int) ∧ (b : Int) < dp + n) (hc : sp + ((b : Int) - dp) = c) : cpH h s t sp dp n t b = h s c := by
  unfold cpH
  rw [if_pos ⟨rfl, h1⟩, hc]
  rfl
theorem wr_o {h : Hp} {id a k : Nat} {len b i : Int} (hn : ¬ (a = id ∧ len ≤ (k : Int) ∧ (k : Int) < len + i)) : wrH h id len b i a k = h a k := if_neg hn
theorem Inv.I0 : Inv hI := by
  refine ⟨⟨by decide, ⟨by decide, by decide, fun i hi => absurd hi (Nat.not_lt_zero _)⟩, by decide, by decide, fun i hi => absurd hi (Nat.not_lt_zero _)⟩, ⟨by decide, fun i hi => ?_⟩, ⟨by decide, fun j hj => ?_⟩, Or.inl (by decide), Or.inl (by decide), by decide, ?_⟩
  · have : hI 6 1 = 0 := by decide
    omega
  · have : hI 21 1 = 0 := by decide
    omega
  · intro r h1 h2
    unfold hI
    rw [if_neg (by omega), if_neg (by omega), if_neg (by omega), if_neg (by omega), if_neg (by omega), if_neg (by omega), if_neg (by omega), if_neg (by omega)]
theorem Inv.write {h : Hp} (I : Inv h) {b n : Int} (hn : 1 ≤ n ∧ n ≤ 8) (hl : h 6 1 + n ≤ 200) : Inv (upd2 (wrH (putH h b n) 134 (h 6 1) b n) 128 6 (h 6 1 + n)) := by
  have ho : ∀ a c : Nat, a ≠ 6 → a ≠ 7 → a ≠ 134 → a ≠ 128 → upd2 (wrH (putH h b n) 134 (h 6 1) b n) 128 6 (h 6 1 + n) a c = h a c := fun a c h1 h2 h3 h4 => by
    unfold putH
    rw [u_o (by omega), wr_o (by omega), u_o (by omega), wr_o (by omega)]
  have t := I.t
  obtain ⟨i1, i2, i3, i4, i5, i6⟩ := I
  refine ⟨i1.of fun a c z => ho a c (by omega) (by omega) (by omega) (by omega), ?_, i3.of fun a c z => ho a c (by omega) (by omega) (by omega) (by omega), i4.of fun a c z => ho a c (by omega) (by omega) (by omega) (by omega), i5.of fun a c z => ho a c (by omega) (by omega) (by omega) (by omega), i6.of fun c => ho 101 c (by omega) (by omega) (by omega) (by omega)⟩
  have e6 : upd2 (wrH (putH h b n) 134 (h 6 1) b n) 128 6 (h 6 1 + n) 6 1 = h 6 1 + n := by
    unfold putH
    rw [u_o (by omega), wr_o (by omega), u_i]
  unfold IT
  rw [e6, u_i]
  refine ⟨⟨by omega, hl, rfl⟩, fun i hi => ?_⟩
  rw [u_o (by omega), u_o (by omega), wr_o (a := 7) (by omega)]
  unfold putH
  rw [u_o (a := 7) (by omega)]
  by_cases z : h 6 1 ≤ (i : Int)
  · have e1 : ∀ (g : Hp) (x : Nat), wrH g x (h 6 1) b n x i = b / 2 ^ (8 * ((i : Int) - h 6 1)).toNat % 256 := fun g x => by
      unfold wrH
      rw [if_pos ⟨rfl, z, hi⟩]
    rw [e1, e1]
    refine ⟨rfl, Int.emod_nonneg _ (by decide), ?_⟩
    have := Int.emod_lt_of_pos (b / 2 ^ (8 * ((i : Int) - h 6 1)).toNat) (show (0 : Int) < 256 by decide)
    omega
  · rw [wr_o (by omega), u_o (by omega), wr_o (by omega), wr_o (by omega)]
    exact i2.2 i (by omega)
theorem Inv.erase {h : Hp} (I : Inv h) : Inv (upd2 (upd2 h 6 1 0) 128 6 0) := by
  have ho : ∀ a c : Nat, ¬ (a = 6 ∧ c = 1) → a ≠ 128 → upd2 (upd2 h 6 1 0) 128 6 0 a c = h a c := fun a c h1 h2 => by rw [u_o (by omega), u_o h1]
  obtain ⟨i1, i2, i3, i4, i5, i6⟩ := I
  refine ⟨i1.of fun a c z => ho a c (by omega) (by omega), ?_, i3.of fun a c z => ho a c (by omega) (by omega), i4.of fun a c z => ho a c (by omega) (by omega), i5.of fun a c z => ho a c (by omega) (by omega), i6.of fun c => ho 101 c (by omega) (by omega)⟩
  unfold IT
  rw [u_i, u_o (by omega), u_i]
  exact ⟨by decide, fun i hi => by omega⟩
theorem Inv.burn {h : Hp} (I : Inv h) : Inv (upd2 (upd2 h 21 1 0) 131 2 0) := by
  have ho : ∀ a c : Nat, ¬ (a = 21 ∧ c = 1) → ¬ (a = 131 ∧ c = 2) → upd2 (upd2 h 21 1 0) 131 2 0 a c = h a c := fun a c h1 h2 => by rw [u_o h2, u_o h1]
  obtain ⟨i1, i2, i3, i4, i5, i6⟩ := I
  refine ⟨i1.of fun a c z => ho a c (by omega) (by omega), i2.of fun a c z => ho a c (by omega) (by omega), ?_, i4.of fun a c z => ho a c (by omega) (by omega), i5.of fun a c z => ho a c (by omega) (by omega), i6.of fun c => ho 101 c (by omega) (by omega)⟩
  unfold IS
  rw [u_i, u_o (by omega), u_i]
  exact ⟨by decide, fun i hi => by omega⟩
theorem Inv.sale {h : Hp} (I : Inv h) {a : Int} (ha : 0 ≤ a ∧ a ≤ 1048575) (hb : h 21 1 < 12) : Inv (menterH (enterH h a) a) := by
  have b := I.b
  have b2 := I.b2
  have e0 : enterH h a 131 2 = h 21 1 := by
    unfold enterH
    rw [u_o (by omega), u_o (by omega)]
    exact b2
  unfold menterH
  rw [e0]
  unfold enterH
  have ho : ∀ x c : Nat, x ≠ 22 → ¬ (x = 21 ∧ c = 1) → ¬ (x = 132 ∧ c < 12) → ¬ (x = 131 ∧ c = 2) → upd2 (upd2 (upd2 (upd2 h 22 (h 21 1).toNat a) 21 1 (h 21 1 + 1)) 132 (h 21 1).toNat a) 131 2 (h 21 1 + 1) x c = h x c := fun x c h1 h2 h3 h4 => by rw [u_o h4, u_o (by omega), u_o h2, u_o (by omega)]
  obtain ⟨i1, i2, i3, i4, i5, i6⟩ := I
  refine ⟨i1.of fun a c z => ho a c (by omega) (by omega) (by omega) (by omega), i2.of fun a c z => ho a c (by omega) (by omega) (by omega) (by omega), ?_, i4.of fun a c z => ho a c (by omega) (by omega) (by omega) (by omega), i5.of fun a c z => ho a c (by omega) (by omega) (by omega) (by omega), i6.of fun c => ho 101 c (by omega) (by omega) (by omega) (by omega)⟩
  unfold IS
  rw [u_i, u_o (a := 21) (by omega), u_o (a := 21) (by omega), u_i]
  refine ⟨⟨by omega, by omega, rfl⟩, fun j hj => ?_⟩
  rw [u_o (a := 132) (by omega), u_o (a := 22) (by omega), u_o (a := 22) (by omega), u_o (a := 22) (by omega)]
  by_cases z : j = (h 21 1).toNat
  · rw [z, u_i, u_i]
    exact ⟨rfl, ha⟩
  · rw [u_o (by omega), u_o (by omega), u_o (by omega), u_o (by omega)]
    exact i3.2 j (by omega)

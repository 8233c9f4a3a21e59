/-! ===== what lines do to the heaps of the class ===== -/
def cH (h : Hp) (A : HA) : Prop := h 1 4 = (A.1 : Int) ∧ h 1 5 = A.2.1 ∧ ∀ i, i < A.1 → h 2 i = A.2.2.1 i ∧ h 3 i = A.2.2.2.1 i ∧ h 4 i = A.2.2.2.2.1 i ∧ h 5 i = A.2.2.2.2.2 i
theorem away_rd {h : Hp} {v : Int} {c i : Nat} (hc : c = 2 ∨ c = 3 ∨ c = 4 ∨ c = 5) : awayH h v c i = if v ≤ (i : Int) ∧ (i : Int) < v + (h 1 4 - v - 1) then h c (v + 1 + ((i : Int) - v)).toNat else h c i := by
  rcases hc with rfl | rfl | rfl | rfl <;> simp [awayH, upd2, cpH]
theorem away_14 {h : Hp} {v : Int} : awayH h v 1 4 = h 1 4 - 1 := by simp [awayH, upd2]
theorem away_15 {h : Hp} {v : Int} : awayH h v 1 5 = h 1 5 := by simp [awayH, upd2, cpH]
theorem away_ne {h : Hp} {v : Int} {a b : Nat} (h1 : ¬ (1 ≤ a ∧ a ≤ 5)) : awayH h v a b = h a b := by
  have : a ≠ 1 ∧ a ≠ 2 ∧ a ≠ 3 ∧ a ≠ 4 ∧ a ≠ 5 := by omega
  simp [awayH, upd2, cpH, this]
theorem add_rd {h : Hp} {row c j i : Nat} (hc : (c = 2 ∧ j = 0) ∨ (c = 3 ∧ j = 2) ∨ (c = 4 ∧ j = 1) ∨ (c = 5 ∧ j = 3)) : addH h row c i = if i = (h 1 4).toNat then h row j else h c i := by
  rcases hc with ⟨rfl, rfl⟩ | ⟨rfl, rfl⟩ | ⟨rfl, rfl⟩ | ⟨rfl, rfl⟩ <;> simp [addH, upd2]
theorem add_14 {h : Hp} {row : Nat} : addH h row 1 4 = h 1 4 + 1 := by simp [addH, upd2]
theorem add_15 {h : Hp} {row : Nat} : addH h row 1 5 = h 1 5 := by simp [addH, upd2]
theorem add_ne {h : Hp} {row a b : Nat} (h1 : ¬ (1 ≤ a ∧ a ≤ 5)) : addH h row a b = h a b := by
  have : a ≠ 1 ∧ a ≠ 2 ∧ a ≠ 3 ∧ a ≠ 4 ∧ a ≠ 5 := by omega
  simp [addH, upd2, this]
theorem obey_ne {h : Hp} {w : Int} {row a b : Nat} (h1 : ¬ (1 ≤ a ∧ a ≤ 5)) : obeyH h w row a b = h a b := by
  unfold obeyH
  split
  · unfold upd2; rw [if_neg (by omega)]
  split
  · exact add_ne h1
  split
  · exact away_ne h1
  · unfold upd2; rw [if_neg (by omega)]
theorem obey_A {h : Hp} {A : HA} {R : LR} {hp : Int} {j : Nat} (ho : lineOK hp R) (hc : cRec h j R) (hA : cH h A) (hn : (A.1 : Int) = hp) (h20 : A.1 ≤ 20) : cH (obeyH h R.2.2.2.1 (11 + j)) (apR R A) := by
  obtain ⟨c0, c1, c2, c3, c4⟩ := hc
  obtain ⟨a1, a2, a3⟩ := hA
  unfold obeyH apR
  rcases ho with ⟨w, h1, h2, h3⟩ | ⟨w, h0, h1, h2, h3, h4, h5⟩ | ⟨w, h1, h2, h3⟩ | ⟨w, h1⟩
  · rw [if_pos w, if_pos w]
    refine ⟨?_, ?_, fun i hi => ?_⟩
    · show upd2 _ _ _ _ 1 4 = _; unfold upd2; rw [if_neg (by omega)]; exact a1
    · show upd2 _ _ _ _ 1 5 = R.2.2.2.2.1; rw [upd2_s]; exact c1
    · unfold upd2; rw [if_neg (by omega), if_neg (by omega), if_neg (by omega), if_neg (by omega)]; exact a3 i hi
  · rw [if_neg (by omega), if_pos w, if_neg (by omega), if_pos w]
    refine ⟨?_, ?_, fun i hi => ?_⟩
    · show _ = ((A.1 + 1 : Nat) : Int); rw [add_14, a1]; rfl
    · rw [add_15]; exact a2
    · have hi' : i < A.1 + 1 := hi
      rw [add_rd (j := 0) (by omega), add_rd (j := 2) (by omega), add_rd (j := 1) (by omega), add_rd (j := 3) (by omega), a1, Int.toNat_natCast]
      show _ = setF _ _ _ i ∧ _ = setF _ _ _ i ∧ _ = setF _ _ _ i ∧ _ = setF _ _ _ i
      unfold setF
      by_cases z : i = A.1
      · rw [if_pos z, if_pos z, if_pos z, if_pos z, if_pos z, if_pos z, if_pos z, if_pos z]
        exact ⟨c1, c3, c2, c4⟩
      · rw [if_neg z, if_neg z, if_neg z, if_neg z, if_neg z, if_neg z, if_neg z, if_neg z]
        exact a3 i (by omega)
  · rw [if_neg (by omega), if_neg (by omega), if_pos w, if_neg (by omega), if_neg (by omega), if_pos w]
    refine ⟨?_, ?_, fun i hi => ?_⟩
    · show _ = ((A.1 - 1 : Nat) : Int); rw [away_14, a1]; omega
    · rw [away_15]; exact a2
    · have hi' : i < A.1 - 1 := hi
      rw [away_rd (by omega), away_rd (by omega), away_rd (by omega), away_rd (by omega), a1, c1]
      show _ = shF _ _ i ∧ _ = shF _ _ i ∧ _ = shF _ _ i ∧ _ = shF _ _ i
      unfold shF
      by_cases z : i < R.2.2.2.2.1.toNat
      · have zn : ¬ (R.2.2.2.2.1 ≤ (i : Int) ∧ (i : Int) < R.2.2.2.2.1 + ((A.1 : Int) - R.2.2.2.2.1 - 1)) := by omega
        rw [if_neg zn, if_neg zn, if_neg zn, if_neg zn, if_pos z, if_pos z, if_pos z, if_pos z]
        exact a3 i (by omega)
      · have zn : (R.2.2.2.2.1 ≤ (i : Int) ∧ (i : Int) < R.2.2.2.2.1 + ((A.1 : Int) - R.2.2.2.2.1 - 1)) := by omega
        rw [if_pos zn, if_pos zn, if_pos zn, if_pos zn, if_neg z, if_neg z, if_neg z, if_neg z, show (R.2.2.2.2.1 + 1 + ((i : Int) - R.2.2.2.2.1)).toNat = i + 1 by omega]
        exact a3 (i + 1) (by omega)
  · rw [if_neg (by omega), if_neg (by omega), if_neg (by omega), if_neg (by omega), if_neg (by omega), if_neg (by omega)]
    refine ⟨?_, ?_, fun i hi => absurd hi (Nat.not_lt_zero i)⟩
    · rw [upd2_s]; rfl
    · unfold upd2; rw [if_neg (by omega)]; exact a2

/-! ===== find: what is still wanted, instead of what was taken ===== -/
def cT (N Sc Cl : Nat → Int) (p kd : Int) : Nat → Nat → Nat → Int → Int → Int → Bool
  | 0, _, c, rt, st, ct => decide (rt = 0 ∧ st = 0 ∧ ct = 0) && (decide (c = 0) || decide (kd = 1))
  | m + 1, i, c, rt, st, ct => cT N Sc Cl p kd m (i + 1) c rt st ct || (decide (c ≠ 0) && cT N Sc Cl p kd m (i + 1) (c - 1) (sbm rt (N i % p) p) (if kd = 3 then sbm st (Sc i % p) p else 0) (if ct = 1 ∧ Cl i = kd - 4 then 0 else ct))
def stO (p kd s : Int) : Int := if kd = 3 then sbm 0 s p else 0
def ctO (kd s : Int) : Int := if 4 ≤ kd then 1 - s else 0
/-- a side that can be -/
def sOk (p kd s : Int) : Prop := (kd = 3 ∧ 0 ≤ s ∧ s < p) ∨ (4 ≤ kd ∧ (s = 0 ∨ s = 1)) ∨ (kd < 3 ∧ s = 0)
theorem sbm_neg {r x p : Int} (hr : 0 ≤ r ∧ r < p) (hx : 0 ≤ x ∧ x < p) : sbm (sbm 0 r p) x p = sbm 0 (trn (r + x) p) p := by
  unfold sbm trn
  split <;> split <;> split <;> (try split) <;> omega
theorem sbm_z {r p : Int} (hr : 0 ≤ r ∧ r < p) : sbm 0 r p = 0 ↔ r = 0 := by
  unfold sbm; split <;> omega
section FT
variable {N Sc Cl : Nat → Int} {p kd : Int}
theorem canA_succ {m i c : Nat} {r s : Int} : canA N Sc Cl p kd (m + 1) i c r s = true ↔ canA N Sc Cl p kd m (i + 1) c r s = true ∨ (c ≠ 0 ∧ canA N Sc Cl p kd m (i + 1) (c - 1) (trn (r + N i % p) p) (sdw Sc Cl p kd s i) = true) := by
  unfold canA
  by_cases hk : kd = 1
  · simp only [if_pos hk]
    rw [anyB_iff, anyB_iff, anyB_iff]
    constructor
    · rintro ⟨c', h1, h2⟩
      rcases exA_iff.mp h2 with q | ⟨q1, q2⟩
      · exact Or.inl ⟨c', h1, q⟩
      · exact Or.inr ⟨by omega, c' - 1, by omega, q2⟩
    · rintro (⟨c', h1, h2⟩ | ⟨h0, c', h1, h2⟩)
      · exact ⟨c', h1, exA_iff.mpr (Or.inl h2)⟩
      · exact ⟨c' + 1, by omega, exA_iff.mpr (Or.inr ⟨by omega, by rw [show c' + 1 - 1 = c' by omega]; exact h2⟩)⟩
  · simp only [if_neg hk]
    exact exA_iff
theorem sOk_step (hp : 2 ≤ p ∧ p ≤ 10) {s : Int} {i : Nat} (h : sOk p kd s) : sOk p kd (sdw Sc Cl p kd s i) := by
  have hm := mod_r (Sc i) hp
  unfold sOk sdw at *
  rcases h with ⟨h1, h2⟩ | ⟨h1, h2⟩ | ⟨h1, h2⟩
  · rw [if_pos h1]
    exact Or.inl ⟨h1, trn_r h2 hm⟩
  · rw [if_neg (by omega)]
    refine Or.inr (Or.inl ⟨h1, ?_⟩)
    split
    · exact Or.inr rfl
    · exact h2
  · rw [if_neg (by omega), if_neg (by omega)]
    exact Or.inr (Or.inr ⟨h1, h2⟩)
theorem cT_can (hp : 2 ≤ p ∧ p ≤ 10) : ∀ (m i c : Nat) (r s : Int), 0 ≤ r ∧ r < p → sOk p kd s → (cT N Sc Cl p kd m i c (sbm 0 r p) (stO p kd s) (ctO kd s) = true ↔ canA N Sc Cl p kd m i c r s = true)
  | 0, i, c, r, s, hr, hs => by
    have h0 := sbm_z hr
    unfold cT canA
    rw [Bool.and_eq_true, Bool.or_eq_true, decide_eq_true_eq, decide_eq_true_eq, decide_eq_true_eq, h0]
    have e : (stO p kd s = 0 ∧ ctO kd s = 0) ↔ s = (if 4 ≤ kd then 1 else 0) := by
      unfold stO ctO
      rcases hs with ⟨h1, h2⟩ | ⟨h1, h2⟩ | ⟨h1, h2⟩
      · rw [if_pos h1, if_neg (by omega), if_neg (by omega), sbm_z h2]; simp
      · rw [if_neg (by omega), if_pos h1, if_pos h1]; omega
      · rw [if_neg (by omega), if_neg (by omega), if_neg (by omega)]; simp [h2]
    by_cases hk : kd = 1
    · rw [if_pos hk, anyB_iff]
      constructor
      · rintro ⟨⟨h1, h2⟩, -⟩
        exact ⟨0, by omega, by rw [exA]; simp [h1, e.mp h2]⟩
      · rintro ⟨c', h1, h2⟩
        rw [exA] at h2
        simp only [Bool.and_eq_true, decide_eq_true_eq] at h2
        exact ⟨⟨h2.1.2, e.mpr h2.2⟩, Or.inr hk⟩
    · rw [if_neg hk, exA]
      simp only [Bool.and_eq_true, decide_eq_true_eq]
      constructor
      · rintro ⟨⟨h1, h2⟩, h3 | h3⟩
        · exact ⟨⟨h3, h1⟩, e.mp h2⟩
        · exact absurd h3 hk
      · rintro ⟨⟨h1, h2⟩, h3⟩
        exact ⟨⟨h2, e.mpr h3⟩, Or.inl h1⟩
  | m + 1, i, c, r, s, hr, hs => by
    have hx := mod_r (N i) hp
    have hy := mod_r (Sc i) hp
    rw [cT, Bool.or_eq_true, Bool.and_eq_true, decide_eq_true_eq, canA_succ, cT_can hp m (i + 1) c r s hr hs, sbm_neg hr hx]
    have e1 : (if kd = 3 then sbm (stO p kd s) (Sc i % p) p else 0) = stO p kd (sdw Sc Cl p kd s i) := by
      unfold stO sdw
      rcases hs with ⟨h1, h2⟩ | ⟨h1, h2⟩ | ⟨h1, h2⟩
      · simp only [if_pos h1]; exact sbm_neg h2 hy
      · simp only [if_neg (show ¬ kd = 3 by omega)]
      · simp only [if_neg (show ¬ kd = 3 by omega)]
    have e2 : (if ctO kd s = 1 ∧ Cl i = kd - 4 then 0 else ctO kd s) = ctO kd (sdw Sc Cl p kd s i) := by
      unfold ctO sdw
      rcases hs with ⟨h1, h2⟩ | ⟨h1, h2⟩ | ⟨h1, h2⟩
      · simp only [if_neg (show ¬ 4 ≤ kd by omega)]; split <;> rfl
      · simp only [if_pos h1, if_neg (show ¬ kd = 3 by omega)]
        by_cases hc : Cl i = kd - 4
        · rw [if_pos (show 4 ≤ kd ∧ Cl i = kd - 4 from ⟨h1, hc⟩)]
          split <;> omega
        · rw [if_neg (fun z => hc z.2), if_neg (fun z => hc z.2)]
      · simp only [if_neg (show ¬ 4 ≤ kd by omega)]; split <;> rfl
    rw [e1, e2, cT_can hp m (i + 1) (c - 1) _ _ (trn_r hr hx) (sOk_step hp hs)]
end FT

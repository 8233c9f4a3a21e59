/-! ===== the text: tokens, numbers, lines ===== -/
def scan (P : Nat → Bool) : Nat → Nat → Nat
  | 0, q => q
  | f + 1, q => if P q = true then scan P f (q + 1) else q
def scn (P : Nat → Bool) (L q : Nat) : Nat := scan P (L - q) q
theorem scn_t {P : Nat → Bool} {L q : Nat} (hq : q < L) (h : P q = true) : scn P L q = scn P L (q + 1) := by
  unfold scn
  rw [show L - q = (L - (q + 1)) + 1 by omega, scan, if_pos h]
theorem scn_f {P : Nat → Bool} {L q : Nat} (h : ¬ (q < L ∧ P q = true)) : scn P L q = q := by
  unfold scn
  rcases (show L ≤ q ∨ q < L by omega) with z | z
  · rw [show L - q = 0 by omega]; rfl
  · rw [show L - q = (L - (q + 1)) + 1 by omega, scan, if_neg (fun w => h ⟨z, w⟩)]
theorem scn_r {P : Nat → Bool} {L : Nat} : ∀ (f q : Nat), L - q = f → q ≤ scn P L q ∧ (q ≤ L → scn P L q ≤ L) ∧ (∀ j, q ≤ j → j < scn P L q → P j = true)
  | 0, q, e => by
    rw [scn_f (by omega)]
    exact ⟨Nat.le_refl q, id, fun j h1 h2 => by omega⟩
  | f + 1, q, e => by
    by_cases h : P q = true
    · rw [scn_t (by omega) h]
      obtain ⟨h1, h2, h3⟩ := scn_r (P := P) (L := L) f (q + 1) (by omega)
      refine ⟨by omega, fun _ => h2 (by omega), fun j j1 j2 => ?_⟩
      rcases (show j = q ∨ q + 1 ≤ j by omega) with z | z
      · rw [z]; exact h
      · exact h3 j z j2
    · rw [scn_f (fun z => h z.2)]
      exact ⟨Nat.le_refl q, id, fun j h1 h2 => by omega⟩
def srt (c : Int) : Int := if 97 ≤ c ∧ c ≤ 122 then 1 else if 48 ≤ c ∧ c ≤ 57 then 2 else 0
theorem srt_1 {c : Int} : srt c = 1 ↔ 97 ≤ c ∧ c ≤ 122 := by unfold srt; split <;> (try split) <;> omega
theorem srt_2 {c : Int} : srt c = 2 ↔ 48 ≤ c ∧ c ≤ 57 := by unfold srt; split <;> (try split) <;> omega
theorem srt_r (c : Int) : 0 ≤ srt c ∧ srt c ≤ 2 := by unfold srt; split <;> (try split) <;> omega
def bkP (tx : Nat → Int) : Nat → Bool := fun q => decide (tx q = 32)
def soP (tx : Nat → Int) (s : Nat) : Nat → Bool := fun q => decide (srt (tx s) ≠ 0 ∧ srt (tx q) = srt (tx s))
def tkS (tx : Nat → Int) (L p : Nat) : Nat := scn (bkP tx) L p
def tkE (tx : Nat → Int) (L p : Nat) : Nat := if L ≤ tkS tx L p then tkS tx L p else scn (soP tx (tkS tx L p)) L (tkS tx L p + 1)
def nx (tx : Nat → Int) (L : Nat) (t : Nat × Nat) : Nat × Nat := (tkS tx L t.2, tkE tx L t.2)
/-- a token as the text has it -/
def tkB (tx : Nat → Int) (L : Nat) (t : Nat × Nat) : Prop := t.1 ≤ t.2 ∧ t.2 ≤ L ∧ (t.1 < L → t.1 < t.2) ∧ (∀ j, t.1 ≤ j → j < t.2 → t.1 < j → srt (tx t.1) ≠ 0 ∧ srt (tx j) = srt (tx t.1))
theorem nx_B {tx : Nat → Int} {L : Nat} {t : Nat × Nat} (h : t.2 ≤ L) : tkB tx L (nx tx L t) := by
  obtain ⟨a1, a2, a3⟩ := scn_r (P := bkP tx) (L := L) (L - t.2) t.2 rfl
  have a2' := a2 h
  unfold tkB nx tkE
  show tkS tx L t.2 ≤ (if L ≤ tkS tx L t.2 then _ else _) ∧ _
  change t.2 ≤ tkS tx L t.2 at a1
  change tkS tx L t.2 ≤ L at a2'
  by_cases z : L ≤ tkS tx L t.2
  · rw [if_pos z]
    exact ⟨Nat.le_refl _, a2', fun y => by have y' : tkS tx L t.2 < L := y; omega, fun j j1 j2 => by have j1' : tkS tx L t.2 ≤ j := j1; have j2' : j < tkS tx L t.2 := j2; omega⟩
  · rw [if_neg z]
    obtain ⟨b1, b2, b3⟩ := scn_r (P := soP tx (tkS tx L t.2)) (L := L) (L - (tkS tx L t.2 + 1)) (tkS tx L t.2 + 1) rfl
    refine ⟨by omega, b2 (by omega), fun _ => b1, fun j j1 j2 j3 => ?_⟩
    have := b3 j j3 j2
    unfold soP at this
    exact of_decide_eq_true this
/-- numbers -/
def numA (tx : Nat → Int) (s : Nat) : Nat → Int
  | 0 => 0
  | k + 1 => numA tx s k * 10 + tx (s + k) - 48
def isN (tx : Nat → Int) (L : Nat) (t : Nat × Nat) : Prop := t.1 < L ∧ 48 ≤ tx t.1 ∧ tx t.1 ≤ 57
def numH (tx : Nat → Int) (L d : Nat) (t : Nat × Nat) : Int := if (t.1 < L ∧ 48 ≤ tx t.1 ∧ tx t.1 ≤ 57) ∧ t.2 ≤ t.1 + d then numA tx t.1 (t.2 - t.1) else -1
theorem numA_d {tx : Nat → Int} {s : Nat} : ∀ k : Nat, (∀ j, j < k → 48 ≤ tx (s + j) ∧ tx (s + j) ≤ 57) → 0 ≤ numA tx s k ∧ numA tx s k < ((10 ^ k : Nat) : Int)
  | 0, _ => by show (0 : Int) ≤ 0 ∧ (0 : Int) < ((10 ^ 0 : Nat) : Int); decide
  | k + 1, h => by
    have ih := numA_d k (fun j hj => h j (by omega))
    have hk := h k (by omega)
    rw [numA, Nat.pow_succ]
    omega
theorem p10 {k d : Nat} (h : k ≤ d) : ((10 ^ k : Nat) : Int) ≤ ((10 ^ d : Nat) : Int) := Int.ofNat_le.mpr (Nat.pow_le_pow_right (by decide) h)
theorem tk_dig {tx : Nat → Int} {L : Nat} {t : Nat × Nat} (B : tkB tx L t) (h : 48 ≤ tx t.1 ∧ tx t.1 ≤ 57) : ∀ j, j < t.2 - t.1 → 48 ≤ tx (t.1 + j) ∧ tx (t.1 + j) ≤ 57 := fun j hj => by
  rcases (show j = 0 ∨ 0 < j by omega) with z | z
  · rw [z]; exact h
  · have h1 := B.2.2.2 (t.1 + j) (by omega) (by omega) (by omega)
    rw [srt_2.mpr h] at h1
    exact srt_2.mp h1.2
theorem numA_t {tx : Nat → Int} {L k : Nat} {t : Nat × Nat} (B : tkB tx L t) (h : 48 ≤ tx t.1 ∧ tx t.1 ≤ 57) (hk : k ≤ t.2 - t.1) (h15 : t.2 ≤ t.1 + 15) : 0 ≤ numA tx t.1 k ∧ numA tx t.1 k < 1000000000000000 := by
  have h1 := numA_d (tx := tx) (s := t.1) k (fun j hj => tk_dig B h j (by omega))
  have h2 := p10 (k := k) (d := 15) (by omega)
  have h3 : ((10 ^ 15 : Nat) : Int) = 1000000000000000 := by decide
  omega
theorem numH_r {tx : Nat → Int} {L d : Nat} {t : Nat × Nat} (B : tkB tx L t) (hd : d ≤ 15) : -1 ≤ numH tx L d t ∧ numH tx L d t < 1000000000000000 := by
  unfold numH
  split
  · rename_i z
    have := numA_t (k := t.2 - t.1) B z.1.2 (Nat.le_refl _) (by omega)
    omega
  · decide
theorem numH_3 {tx : Nat → Int} {L : Nat} {t : Nat × Nat} (B : tkB tx L t) : -1 ≤ numH tx L 3 t ∧ numH tx L 3 t ≤ 999 := by
  unfold numH
  split
  · rename_i z
    have h1 := numA_d (tx := tx) (s := t.1) (t.2 - t.1) (tk_dig B z.1.2)
    have h2 := p10 (k := t.2 - t.1) (d := 3) (by omega)
    have h3 : ((10 ^ 3 : Nat) : Int) = 1000 := by decide
    omega
  · decide
def okN (tx : Nat → Int) (L d : Nat) (lo hi : Int) (t : Nat × Nat) : Prop := lo ≤ numH tx L d t ∧ numH tx L d t ≤ hi
def colH (tx : Nat → Int) (L : Nat) (t : Nat × Nat) : Int := if t.1 < L ∧ t.2 = t.1 + 1 then (if tx t.1 = 114 then 0 else if tx t.1 = 103 then 1 else if tx t.1 = 98 then 2 else if tx t.1 = 121 then 3 else -1) else -1
theorem colH_r (tx : Nat → Int) (L : Nat) (t : Nat × Nat) : -1 ≤ colH tx L t ∧ colH tx L t ≤ 3 := by
  unfold colH
  split <;> (try split) <;> (try split) <;> (try split) <;> (try split) <;> decide
/-- words -/
def wTab : List (List Int) := [[112, 97, 114, 116, 115], [104, 101, 97, 112], [97, 119, 97, 121], [115, 119, 101, 101, 112], [114, 103, 98, 121]]
def wCh (w i : Nat) : Int := (wTab.getD w []).getD i 0
def wAll (w : Nat) (tx : Nat → Int) (s : Nat) : Nat → Bool
  | 0 => true
  | i + 1 => wAll w tx s i && decide (tx (s + i) = wCh w i)
theorem wAll_f {w : Nat} {tx : Nat → Int} {s i : Nat} (h : tx (s + i) ≠ wCh w i) : ∀ n : Nat, i < n → wAll w tx s n = false
  | 0, h2 => absurd h2 (Nat.not_lt_zero _)
  | n + 1, h2 => by
    rw [wAll]
    rcases (show i = n ∨ i < n by omega) with z | z
    · rw [← z, decide_eq_false h, Bool.and_false]
    · rw [wAll_f h n z, Bool.false_and]
def isW (w : Nat) (tx : Nat → Int) (t : Nat × Nat) : Bool := decide (t.2 = t.1 + lenL.getD w 0) && wAll w tx t.1 (lenL.getD w 0)
def wrdV (tx : Nat → Int) (t : Nat × Nat) : Int := if isW 0 tx t = true then 0 else if isW 1 tx t = true then 1 else if isW 2 tx t = true then 2 else if isW 3 tx t = true then 3 else -1
/-- a line: whether it is read, the token behind it, how many heaps there are then; its word, number, colour, second, cost -/
abbrev LR : Type := Bool × (Nat × Nat) × Int × Int × Int × Int × Int × Int
def noL (t : Nat × Nat) : LR := (false, t, 0, 0, 0, 0, 0, 0)
def heapR (tx : Nat → Int) (L : Nat) (hp : Int) (t : Nat × Nat) : LR :=
  if 20 ≤ hp then noL t else
  if ¬ (0 ≤ numH tx L 15 (nx tx L t)) then noL (nx tx L t) else
  if colH tx L (nx tx L (nx tx L t)) = -1 then noL (nx tx L (nx tx L t)) else
  if ¬ ((nx tx L (nx tx L (nx tx L t))).1 < L ∧ 48 ≤ tx (nx tx L (nx tx L (nx tx L t))).1 ∧ tx (nx tx L (nx tx L (nx tx L t))).1 ≤ 57) then (true, nx tx L (nx tx L (nx tx L t)), hp + 1, 1, numH tx L 15 (nx tx L t), colH tx L (nx tx L (nx tx L t)), 0, 0) else
  if ¬ (0 ≤ numH tx L 3 (nx tx L (nx tx L (nx tx L t))) ∧ numH tx L 3 (nx tx L (nx tx L (nx tx L t))) ≤ 999) then noL (nx tx L (nx tx L (nx tx L t))) else
  if ¬ ((nx tx L (nx tx L (nx tx L (nx tx L t)))).1 < L ∧ 48 ≤ tx (nx tx L (nx tx L (nx tx L (nx tx L t)))).1 ∧ tx (nx tx L (nx tx L (nx tx L (nx tx L t)))).1 ≤ 57) then (true, nx tx L (nx tx L (nx tx L (nx tx L t))), hp + 1, 1, numH tx L 15 (nx tx L t), colH tx L (nx tx L (nx tx L t)), numH tx L 3 (nx tx L (nx tx L (nx tx L t))), 0) else
  if ¬ (0 ≤ numH tx L 3 (nx tx L (nx tx L (nx tx L (nx tx L t)))) ∧ numH tx L 3 (nx tx L (nx tx L (nx tx L (nx tx L t)))) ≤ 99) then noL (nx tx L (nx tx L (nx tx L (nx tx L t)))) else
  (true, nx tx L (nx tx L (nx tx L (nx tx L (nx tx L t)))), hp + 1, 1, numH tx L 15 (nx tx L t), colH tx L (nx tx L (nx tx L t)), numH tx L 3 (nx tx L (nx tx L (nx tx L t))), numH tx L 3 (nx tx L (nx tx L (nx tx L (nx tx L t)))))
def lineR (tx : Nat → Int) (L : Nat) (hp : Int) (t : Nat × Nat) : LR :=
  if wrdV tx t = 0 then (if 2 ≤ numH tx L 3 (nx tx L t) ∧ numH tx L 3 (nx tx L t) ≤ 10 then (true, nx tx L (nx tx L t), hp, 0, numH tx L 3 (nx tx L t), 0, 0, 0) else noL (nx tx L t)) else
  if wrdV tx t = 1 then heapR tx L hp t else
  if wrdV tx t = 2 then (if 0 ≤ numH tx L 3 (nx tx L t) ∧ numH tx L 3 (nx tx L t) ≤ hp - 1 then (true, nx tx L (nx tx L t), hp - 1, 2, numH tx L 3 (nx tx L t), 0, 0, 0) else noL (nx tx L t)) else
  if wrdV tx t = 3 then (true, nx tx L t, 0, 3, 0, 0, 0, 0) else noL t
/-- line behind line -/
def seqR (tx : Nat → Int) (L : Nat) (hp : Int) : Nat → (Nat × Nat) × Int
  | 0 => (nx tx L (0, 0), hp)
  | i + 1 => (nx tx L (lineR tx L (seqR tx L hp i).2 (seqR tx L hp i).1).2.1, (lineR tx L (seqR tx L hp i).2 (seqR tx L hp i).1).2.2.1)
def lnR (tx : Nat → Int) (L : Nat) (hp : Int) (i : Nat) : LR := lineR tx L (seqR tx L hp i).2 (seqR tx L hp i).1
theorem seqR_s {tx : Nat → Int} {L : Nat} {hp : Int} {i : Nat} : seqR tx L hp (i + 1) = (nx tx L (lnR tx L hp i).2.1, (lnR tx L hp i).2.2.1) := rfl
def goP (tx : Nat → Int) (L : Nat) (hp : Int) (i : Nat) : Prop := (lnR tx L hp i).1 = true ∧ (lnR tx L hp i).2.1.1 < L ∧ tx (lnR tx L hp i).2.1.1 = 59 ∧ i < 9
def fltV (tx : Nat → Int) (L : Nat) (hp : Int) (i : Nat) : Int := if (lnR tx L hp i).1 = true ∧ L ≤ (lnR tx L hp i).2.1.1 then -1 else ((lnR tx L hp i).2.1.1 : Int)
def fltP (tx : Nat → Int) (L : Nat) (hp : Int) (i : Nat) : Prop := i ≤ 9 ∧ (∀ j, j < i → goP tx L hp j) ∧ ¬ goP tx L hp i
theorem fltP_uniq {tx : Nat → Int} {L : Nat} {hp : Int} {i j : Nat} (a : fltP tx L hp i) (b : fltP tx L hp j) : i = j := by
  rcases (show i = j ∨ i < j ∨ j < i by omega) with z | z | z
  · exact z
  · exact absurd (b.2.1 i z) a.2.2
  · exact absurd (a.2.1 j z) b.2.2
theorem nx_le {tx : Nat → Int} {L : Nat} {t : Nat × Nat} (h : t.2 ≤ L) : (nx tx L t).2 ≤ L := (nx_B h).2.1
theorem heapR_le {tx : Nat → Int} {L : Nat} {hp : Int} {t : Nat × Nat} (B : tkB tx L t) : tkB tx L (heapR tx L hp t).2.1 := by
  have h0 := B.2.1
  have b1 : tkB tx L (nx tx L t) := nx_B h0
  have b2 : tkB tx L (nx tx L (nx tx L t)) := nx_B b1.2.1
  have b3 : tkB tx L (nx tx L (nx tx L (nx tx L t))) := nx_B b2.2.1
  have b4 : tkB tx L (nx tx L (nx tx L (nx tx L (nx tx L t)))) := nx_B b3.2.1
  have b5 : tkB tx L (nx tx L (nx tx L (nx tx L (nx tx L (nx tx L t))))) := nx_B b4.2.1
  unfold heapR noL
  split
  · exact B
  split
  · exact b1
  split
  · exact b2
  split
  · exact b3
  split
  · exact b3
  split
  · exact b4
  split
  · exact b4
  exact b5
theorem lineR_B {tx : Nat → Int} {L : Nat} {hp : Int} {t : Nat × Nat} (B : tkB tx L t) : tkB tx L (lineR tx L hp t).2.1 := by
  have b1 : tkB tx L (nx tx L t) := nx_B B.2.1
  have b2 : tkB tx L (nx tx L (nx tx L t)) := nx_B b1.2.1
  unfold lineR
  split
  · split
    · exact b2
    · exact b1
  split
  · exact heapR_le B
  split
  · split
    · exact b2
    · exact b1
  split
  · exact b1
  exact B
theorem seqR_B {tx : Nat → Int} {L : Nat} {hp : Int} : ∀ i : Nat, tkB tx L (seqR tx L hp i).1
  | 0 => nx_B (Nat.zero_le L)
  | i + 1 => nx_B (lineR_B (seqR_B i)).2.1
theorem lnR_B {tx : Nat → Int} {L : Nat} {hp : Int} (i : Nat) : tkB tx L (lnR tx L hp i).2.1 := lineR_B (seqR_B i)
/-- what a line that is read holds -/
def lineOK (hp : Int) (R : LR) : Prop := (R.2.2.2.1 = 0 ∧ R.2.2.1 = hp ∧ 2 ≤ R.2.2.2.2.1 ∧ R.2.2.2.2.1 ≤ 10) ∨ (R.2.2.2.1 = 1 ∧ hp < 20 ∧ R.2.2.1 = hp + 1 ∧ (0 ≤ R.2.2.2.2.1 ∧ R.2.2.2.2.1 ≤ 999999999999999) ∧ (0 ≤ R.2.2.2.2.2.1 ∧ R.2.2.2.2.2.1 ≤ 3) ∧ (0 ≤ R.2.2.2.2.2.2.1 ∧ R.2.2.2.2.2.2.1 ≤ 999) ∧ (0 ≤ R.2.2.2.2.2.2.2 ∧ R.2.2.2.2.2.2.2 ≤ 99)) ∨ (R.2.2.2.1 = 2 ∧ R.2.2.1 = hp - 1 ∧ 0 ≤ R.2.2.2.2.1 ∧ R.2.2.2.2.1 ≤ hp - 1) ∨ (R.2.2.2.1 = 3 ∧ R.2.2.1 = 0)
theorem heapR_ok {tx : Nat → Int} {L : Nat} {hp : Int} {t : Nat × Nat} (B : tkB tx L t) (h : (heapR tx L hp t).1 = true) : lineOK hp (heapR tx L hp t) := by
  have b1 : tkB tx L (nx tx L t) := nx_B B.2.1
  have hn := numH_r (d := 15) b1 (by decide)
  have hc := colH_r tx L (nx tx L (nx tx L t))
  unfold heapR noL at h ⊢
  split at h
  · cases h
  rename_i z1
  rw [if_neg z1]
  split at h
  · cases h
  rename_i z2
  rw [if_neg z2]
  split at h
  · cases h
  rename_i z3
  rw [if_neg z3]
  split at h
  · rename_i z4
    rw [if_pos z4]
    exact Or.inr (Or.inl ⟨rfl, by omega, rfl, ⟨by show 0 ≤ numH _ _ _ _; omega, by show numH _ _ _ _ ≤ _; omega⟩, ⟨by show 0 ≤ colH _ _ _; omega, hc.2⟩, ⟨Int.le_refl 0, show (0 : Int) ≤ 999 by decide⟩, Int.le_refl 0, show (0 : Int) ≤ 99 by decide⟩)
  rename_i z4
  rw [if_neg z4]
  split at h
  · cases h
  rename_i z5
  rw [if_neg z5]
  split at h
  · rename_i z6
    rw [if_pos z6]
    exact Or.inr (Or.inl ⟨rfl, by omega, rfl, ⟨by show 0 ≤ numH _ _ _ _; omega, by show numH _ _ _ _ ≤ _; omega⟩, ⟨by show 0 ≤ colH _ _ _; omega, hc.2⟩, Decidable.byContradiction z5, Int.le_refl 0, show (0 : Int) ≤ 99 by decide⟩)
  rename_i z6
  rw [if_neg z6]
  split at h
  · cases h
  rename_i z7
  rw [if_neg z7]
  exact Or.inr (Or.inl ⟨rfl, by omega, rfl, ⟨by show 0 ≤ numH _ _ _ _; omega, by show numH _ _ _ _ ≤ _; omega⟩, ⟨by show 0 ≤ colH _ _ _; omega, hc.2⟩, Decidable.byContradiction z5, Decidable.byContradiction z7⟩)
theorem lineR_ok {tx : Nat → Int} {L : Nat} {hp : Int} {t : Nat × Nat} (B : tkB tx L t) (h : (lineR tx L hp t).1 = true) : lineOK hp (lineR tx L hp t) := by
  unfold lineR at h ⊢
  split at h
  · rename_i z1
    rw [if_pos z1]
    split at h
    · rename_i z2
      rw [if_pos z2]
      exact Or.inl ⟨rfl, rfl, z2.1, z2.2⟩
    · cases h
  rename_i z1
  rw [if_neg z1]
  split at h
  · rename_i z2
    rw [if_pos z2]
    exact heapR_ok B h
  rename_i z2
  rw [if_neg z2]
  split at h
  · rename_i z3
    rw [if_pos z3]
    split at h
    · rename_i z4
      rw [if_pos z4]
      exact Or.inr (Or.inr (Or.inl ⟨rfl, rfl, z4.1, z4.2⟩))
    · cases h
  rename_i z3
  rw [if_neg z3]
  split at h
  · rename_i z4
    rw [if_pos z4]
    exact Or.inr (Or.inr (Or.inr ⟨rfl, rfl⟩))
  · cases h
theorem lnR_ok {tx : Nat → Int} {L : Nat} {hp : Int} {i : Nat} (h : (lnR tx L hp i).1 = true) : lineOK (seqR tx L hp i).2 (lnR tx L hp i) := lineR_ok (seqR_B i) h
/-- what lines do -/
abbrev HA : Type := Nat × Int × (Nat → Int) × (Nat → Int) × (Nat → Int) × (Nat → Int)
def setF (f : Nat → Int) (n : Nat) (v : Int) : Nat → Int := fun i => if i = n then v else f i
def shF (f : Nat → Int) (k : Nat) : Nat → Int := fun i => if i < k then f i else f (i + 1)
def apR (R : LR) (A : HA) : HA :=
  if R.2.2.2.1 = 0 then (A.1, R.2.2.2.2.1, A.2.2) else
  if R.2.2.2.1 = 1 then (A.1 + 1, A.2.1, setF A.2.2.1 A.1 R.2.2.2.2.1, setF A.2.2.2.1 A.1 R.2.2.2.2.2.2.1, setF A.2.2.2.2.1 A.1 R.2.2.2.2.2.1, setF A.2.2.2.2.2 A.1 R.2.2.2.2.2.2.2) else
  if R.2.2.2.1 = 2 then (A.1 - 1, A.2.1, shF A.2.2.1 R.2.2.2.2.1.toNat, shF A.2.2.2.1 R.2.2.2.2.1.toNat, shF A.2.2.2.2.1 R.2.2.2.2.1.toNat, shF A.2.2.2.2.2 R.2.2.2.2.1.toNat) else (0, A.2.1, A.2.2)
def apS (tx : Nat → Int) (L : Nat) (hp : Int) (A : HA) : Nat → HA
  | 0 => A
  | i + 1 => apR (lnR tx L hp i) (apS tx L hp A i)
def okA (A : HA) : Prop := A.1 ≤ 20 ∧ (2 ≤ A.2.1 ∧ A.2.1 ≤ 10) ∧ ∀ i, i < A.1 → (0 ≤ A.2.2.1 i ∧ A.2.2.1 i ≤ 999999999999999) ∧ (0 ≤ A.2.2.2.1 i ∧ A.2.2.2.1 i ≤ 999) ∧ (0 ≤ A.2.2.2.2.1 i ∧ A.2.2.2.2.1 i ≤ 3) ∧ (0 ≤ A.2.2.2.2.2 i ∧ A.2.2.2.2.2 i ≤ 99)
theorem apR_ok {hp : Int} {R : LR} {A : HA} (h : lineOK hp R) (hA : okA A) (hn : (A.1 : Int) = hp) : okA (apR R A) ∧ ((apR R A).1 : Int) = R.2.2.1 := by
  obtain ⟨a1, a2, a3⟩ := hA
  unfold apR
  rcases h with ⟨w, h1, h2, h3⟩ | ⟨w, h0, h1, h2, h3, h4, h5⟩ | ⟨w, h1, h2, h3⟩ | ⟨w, h1⟩
  · rw [if_pos w]
    exact ⟨⟨a1, ⟨h2, h3⟩, a3⟩, by show (A.1 : Int) = _; omega⟩
  · rw [if_neg (by omega), if_pos w]
    refine ⟨⟨by show A.1 + 1 ≤ 20; omega, a2, fun i hi => ?_⟩, by show ((A.1 + 1 : Nat) : Int) = _; omega⟩
    have hi' : i < A.1 + 1 := hi
    show (0 ≤ setF _ _ _ i ∧ setF _ _ _ i ≤ _) ∧ (0 ≤ setF _ _ _ i ∧ setF _ _ _ i ≤ _) ∧ (0 ≤ setF _ _ _ i ∧ setF _ _ _ i ≤ _) ∧ (0 ≤ setF _ _ _ i ∧ setF _ _ _ i ≤ _)
    unfold setF
    by_cases z : i = A.1
    · rw [if_pos z, if_pos z, if_pos z, if_pos z]
      exact ⟨h2, h4, h3, h5⟩
    · rw [if_neg z, if_neg z, if_neg z, if_neg z]
      exact a3 i (by omega)
  · rw [if_neg (by omega), if_neg (by omega), if_pos w]
    refine ⟨⟨by show A.1 - 1 ≤ 20; omega, a2, fun i hi => ?_⟩, by show ((A.1 - 1 : Nat) : Int) = _; omega⟩
    have hi' : i < A.1 - 1 := hi
    show (0 ≤ shF _ _ i ∧ shF _ _ i ≤ _) ∧ (0 ≤ shF _ _ i ∧ shF _ _ i ≤ _) ∧ (0 ≤ shF _ _ i ∧ shF _ _ i ≤ _) ∧ (0 ≤ shF _ _ i ∧ shF _ _ i ≤ _)
    unfold shF
    by_cases z : i < R.2.2.2.2.1.toNat
    · rw [if_pos z, if_pos z, if_pos z, if_pos z]
      exact a3 i (by omega)
    · rw [if_neg z, if_neg z, if_neg z, if_neg z]
      exact a3 (i + 1) (by omega)
  · rw [if_neg (by omega), if_neg (by omega), if_neg (by omega)]
    exact ⟨⟨Nat.zero_le _, a2, fun i hi => absurd hi (Nat.not_lt_zero i)⟩, by show ((0 : Nat) : Int) = _; omega⟩
theorem apS_ok {tx : Nat → Int} {L : Nat} {hp : Int} {A : HA} (hA : okA A) (hn : (A.1 : Int) = hp) : ∀ i : Nat, (∀ j, j < i → (lnR tx L hp j).1 = true) → okA (apS tx L hp A i) ∧ ((apS tx L hp A i).1 : Int) = (seqR tx L hp i).2
  | 0, _ => ⟨hA, hn⟩
  | i + 1, h => by
    obtain ⟨h1, h2⟩ := apS_ok hA hn i (fun j hj => h j (by omega))
    exact apR_ok (lnR_ok (h i (by omega))) h1 h2
theorem seqR_hp {tx : Nat → Int} {L : Nat} {hp : Int} (h0 : 0 ≤ hp ∧ hp ≤ 20) : ∀ i : Nat, (∀ j, j < i → (lnR tx L hp j).1 = true) → 0 ≤ (seqR tx L hp i).2 ∧ (seqR tx L hp i).2 ≤ 20
  | 0, _ => h0
  | i + 1, h => by
    have ih := seqR_hp h0 i (fun j hj => h j (by omega))
    have := lnR_ok (h i (by omega))
    rw [seqR_s]
    show 0 ≤ (lnR tx L hp i).2.2.1 ∧ (lnR tx L hp i).2.2.1 ≤ 20
    rcases this with ⟨w, h1, h2, h3⟩ | ⟨w, h0, h1, h2, h3, h4, h5⟩ | ⟨w, h1, h2, h3⟩ | ⟨w, h1⟩ <;> omega

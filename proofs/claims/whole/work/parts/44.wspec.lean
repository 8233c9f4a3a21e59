/-! ===== whatever comes: numbers without a ten ===== -/
def cntP (P : Nat → Bool) : Nat → Nat
  | 0 => 0
  | V + 1 => cntP P V + if P V = true then 1 else 0
def nthP (P : Nat → Bool) (i : Int) : Nat → Int
  | 0 => -1
  | V + 1 => if P V = true ∧ (cntP P V : Int) = i then (V : Int) else nthP P i V
theorem cntP_le {P : Nat → Bool} : ∀ V : Nat, cntP P V ≤ V
  | 0 => Nat.le_refl 0
  | V + 1 => by
    have := cntP_le (P := P) V
    rw [cntP]
    split <;> omega
theorem cntP_mono {P : Nat → Bool} {V : Nat} : ∀ V' : Nat, V ≤ V' → cntP P V ≤ cntP P V'
  | 0, h => by rw [show V = 0 by omega]; exact Nat.le_refl _
  | V' + 1, h => by
    rcases (show V = V' + 1 ∨ V ≤ V' by omega) with z | z
    · rw [z]; exact Nat.le_refl _
    · have := cntP_mono (P := P) V' z
      rw [cntP]
      omega
theorem nthP_small {P : Nat → Bool} {i : Int} : ∀ V : Nat, (cntP P V : Int) ≤ i → nthP P i V = -1
  | 0, _ => rfl
  | V + 1, h => by
    rw [cntP] at h
    rw [nthP]
    by_cases q : P V = true
    · rw [if_pos q] at h
      rw [if_neg (fun z => by omega)]
      exact nthP_small V (by omega)
    · rw [if_neg q] at h
      rw [if_neg (fun z => q z.1)]
      exact nthP_small V (by omega)
theorem nthP_stop {P : Nat → Bool} {i : Int} {V : Nat} (h : (cntP P V : Int) > i) : ∀ V' : Nat, V ≤ V' → nthP P i V' = nthP P i V
  | 0, h2 => by rw [show V = 0 by omega]
  | V' + 1, h2 => by
    rcases (show V = V' + 1 ∨ V ≤ V' by omega) with z | z
    · rw [z]
    · have := cntP_mono (P := P) V' z
      rw [nthP, if_neg (fun y => by omega)]
      exact nthP_stop h V' z
theorem skipP {P : Nat → Bool} {i : Int} {V : Nat} : ∀ V' : Nat, V ≤ V' → (∀ v, V ≤ v → v < V' → P v = false) → cntP P V' = cntP P V ∧ nthP P i V' = nthP P i V
  | 0, h, _ => by rw [show V = 0 by omega]; exact ⟨rfl, rfl⟩
  | V' + 1, h, hP => by
    rcases (show V = V' + 1 ∨ V ≤ V' by omega) with z | z
    · rw [z]; exact ⟨rfl, rfl⟩
    · have h1 := skipP (P := P) (i := i) V' z (fun v a b => hP v a (by omega))
      have h2 := hP V' z (by omega)
      rw [cntP, nthP, h2, h1.1, h1.2]
      exact ⟨by simp, by simp⟩
def SI (P : Nat → Bool) (i f a : Int) (V : Nat) : Prop := a = nthP P i V ∧ 0 ≤ f ∧ f ≤ (cntP P V : Int) ∧ (f = (cntP P V : Int) ∨ f > i)
theorem SI_skip {P : Nat → Bool} {i f a : Int} {V V' : Nat} (h : SI P i f a V) (hV : V ≤ V') (hP : ∀ v, V ≤ v → v < V' → P v = false) : SI P i f a V' := by
  obtain ⟨h1, h2⟩ := skipP (i := i) V' hV hP
  unfold SI
  rw [h1, h2]
  exact h
theorem SI_stop {P : Nat → Bool} {i f a : Int} {V V' : Nat} (h : SI P i f a V) (hf : f > i) (hV : V ≤ V') : SI P i f a V' := by
  obtain ⟨h1, h2, h3, h4⟩ := h
  have h5 := cntP_mono (P := P) V' hV
  exact ⟨by rw [h1, nthP_stop (by omega) V' hV], h2, by omega, Or.inr hf⟩
theorem SI_one {P : Nat → Bool} {i f a : Int} {V : Nat} (h : SI P i f a V) (hf : ¬ f > i) (hP : P V = true) : SI P i (f + 1) (if f = i then (V : Int) else a) (V + 1) := by
  obtain ⟨h1, h2, h3, h4⟩ := h
  have h5 : f = (cntP P V : Int) := by omega
  refine ⟨?_, by omega, by rw [cntP, if_pos hP]; omega, Or.inl (by rw [cntP, if_pos hP]; omega)⟩
  rw [nthP]
  by_cases q : f = i
  · rw [if_pos q, if_pos ⟨hP, by omega⟩]
  · rw [if_neg q, if_neg (fun z => q (by omega)), h1]
def wrS (P : Nat → Bool) (V : Nat) (i : Int) : Int := if i = -1 then (cntP P V : Int) else nthP P i V
/-- figures -/
def dgT (v : Nat) : Nat → Nat := fun r => v / 10 ^ r % 10
def wkB (p : Int) (m k v : Nat) : Bool := decide (sN (dgT v) p.toNat = m) && !exL p (expd (dgT v) p.toNat) k 0
theorem dgT_sh {c q r : Nat} : dgT (c * 10 ^ q) r = if r < q then 0 else c / 10 ^ (r - q) % 10 := by
  unfold dgT
  by_cases h : r < q
  · rw [if_pos h, show q = (q - r - 1) + 1 + r by omega, Nat.pow_add, ← Nat.mul_assoc, Nat.mul_div_cancel _ (Nat.pow_pos (by decide)), Nat.pow_succ, ← Nat.mul_assoc, Nat.mul_mod_left]
  · rw [if_neg h]
    have e : 10 ^ r = 10 ^ (r - q) * 10 ^ q := by rw [← Nat.pow_add, show r - q + q = r by omega]
    rw [e, Nat.mul_div_mul_right _ _ (Nat.pow_pos (by decide))]
theorem div10s {x j : Nat} : x / 10 ^ (j + 1) = x / 10 / 10 ^ j := by rw [Nat.pow_succ', Nat.div_div_eq_div_mul]
theorem dgT_add {c t q : Nat} (ht : t < 9) : dgT ((c * 10 + (t + 1)) * 10 ^ q) = incF (dgT ((c * 10 + t) * 10 ^ q)) q := by
  funext r
  by_cases h : r = q
  · subst h
    rw [incF_eq, dgT_sh, dgT_sh, if_neg (by omega), if_neg (by omega), Nat.sub_self, Nat.pow_zero, Nat.div_one, Nat.div_one]
    omega
  · rw [incF_ne h, dgT_sh, dgT_sh]
    by_cases h2 : r < q
    · rw [if_pos h2, if_pos h2]
    · rw [if_neg h2, if_neg h2, show r - q = (r - q - 1) + 1 by omega, div10s, div10s, show (c * 10 + (t + 1)) / 10 = c by omega, show (c * 10 + t) / 10 = c by omega]
theorem dgT_le {c t q v : Nat} (ht : t ≤ 9) (h1 : (c * 10 + t) * 10 ^ q ≤ v) (h2 : v < (c + 1) * 10 ^ (q + 1)) (r : Nat) : dgT ((c * 10 + t) * 10 ^ q) r ≤ dgT v r := by
  rw [dgT_sh]
  by_cases h : r < q
  · rw [if_pos h]; exact Nat.zero_le _
  · rw [if_neg h]
    have hp : 0 < 10 ^ q := Nat.pow_pos (by decide)
    have a1 : c * 10 + t ≤ v / 10 ^ q := (Nat.le_div_iff_mul_le hp).mpr h1
    have a2 : v / 10 ^ q < c * 10 + 10 := (Nat.div_lt_iff_lt_mul hp).mpr (by rw [show c * 10 + 10 = (c + 1) * 10 by omega, Nat.mul_assoc, ← Nat.pow_succ']; exact h2)
    have e : dgT v r = v / 10 ^ q / 10 ^ (r - q) % 10 := by
      unfold dgT
      rw [Nat.div_div_eq_div_mul, ← Nat.pow_add, show q + (r - q) = r by omega]
    rw [e]
    by_cases h3 : r = q
    · rw [h3, Nat.sub_self, Nat.pow_zero, Nat.div_one, Nat.div_one]
      omega
    · rw [show r - q = (r - q - 1) + 1 by omega, div10s, div10s, show (c * 10 + t) / 10 = c by omega, show v / 10 ^ q / 10 = c by omega]
      exact Nat.le_refl _
theorem wk_many {p : Int} {m k c t q v : Nat} (ht : t ≤ 9) (h1 : (c * 10 + t) * 10 ^ q ≤ v) (h2 : v < (c + 1) * 10 ^ (q + 1)) (hs : m < sN (dgT ((c * 10 + t) * 10 ^ q)) p.toNat) : wkB p m k v = false := by
  have := sN_mono p.toNat (fun r _ => dgT_le ht h1 h2 r)
  unfold wkB
  rw [decide_eq_false (by omega)]
  rfl
theorem wk_ten {p : Int} {m k c t q v : Nat} (ht : t ≤ 9) (h1 : (c * 10 + t) * 10 ^ q ≤ v) (h2 : v < (c + 1) * 10 ^ (q + 1)) (hs : exL p (expd (dgT ((c * 10 + t) * 10 ^ q)) p.toNat) k 0 = true) : wkB p m k v = false := by
  unfold wkB
  rw [exL_sub (expd_sub p.toNat (fun r _ => dgT_le ht h1 h2 r)) _ _ hs]
  simp
/-- sums as bits -/
def swP (p : Int) (k : Nat) (L : List Int) (z : Nat) : Prop := z < 2 ^ ((k + 1) * p.toNat) ∧ ∀ c, c ≤ k → ∀ s : Nat, (s : Int) < p → z.testBit (c * p.toNat + s) = exL p L c s
theorem swP_perm {p : Int} {k : Nat} {L L' : List Int} {z : Nat} (h : L.Perm L') (hr : ∀ y ∈ L, 0 ≤ y ∧ y < p) (w : swP p k L z) : swP p k L' z := ⟨w.1, fun c hc s hs => by rw [w.2 c hc s hs]; exact exL_perm h hr c s (by omega)⟩
def stB (p : Int) (k x y : Nat) : Prop := ∀ j, y.testBit j = decide (j < (k + 1) * p.toNat ∧ j % p.toNat < p.toNat - x)
theorem stB_lt {p : Int} {k x y : Nat} (h : stB p k x y) : y < 2 ^ ((k + 1) * p.toNat) := by
  apply Nat.lt_pow_two_of_testBit
  intro j hj
  rw [h j]
  exact decide_eq_false (fun z => by omega)
theorem stB_0 {p : Int} {k y j : Nat} (hp : 2 ≤ p) (h : stB p k 0 y) : y.testBit j = decide (j < (k + 1) * p.toNat) := by
  rw [h j]
  have := Nat.mod_lt j (show 0 < p.toNat by omega)
  by_cases q : j < (k + 1) * p.toNat
  · rw [decide_eq_true q, decide_eq_true ⟨q, by omega⟩]
  · rw [decide_eq_false q, decide_eq_false (fun z => q z.1)]
def womN (p : Int) (x z y y0 : Nat) : Nat := (z ||| (((z &&& y) * 2 ^ x) ||| (anN z y / 2 ^ (p.toNat - x))) * 2 ^ p.toNat) &&& y0
theorem womN_ok {p : Int} {k x z y y0 : Nat} {L : List Int} (hp : 2 ≤ p ∧ p ≤ 5) (hx : (x : Int) < p) (hL : ∀ a ∈ L, 0 ≤ a ∧ a < p) (hy : stB p k x y) (hy0 : stB p k 0 y0) (w : swP p k L z) : swP p k (L ++ [(x : Int)]) (womN p x z y y0) := by
  refine ⟨Nat.lt_of_le_of_lt Nat.and_le_right (stB_lt hy0), fun c hc s hs => ?_⟩
  have hcm : c * p.toNat + s < (k + 1) * p.toNat := by
    have h1 : (c + 1) * p.toNat ≤ (k + 1) * p.toNat := Nat.mul_le_mul_right _ (by omega)
    rw [Nat.add_mul] at h1
    omega
  unfold womN
  rw [Nat.testBit_and, stB_0 hp.1 hy0, decide_eq_true hcm, Bool.and_true, Nat.testBit_or, w.2 c hc s hs, exL_snoc L x c s hL (by omega) (by omega)]
  congr 1
  rw [mul_tb, Nat.testBit_or, mul_tb, div_tb, Nat.testBit_and, anN_tb, hy, hy]
  cases c with
  | zero => rw [decide_eq_false (show ¬ p.toNat ≤ 0 * p.toNat + s by omega), decide_eq_false (show ¬ (0 : Nat) ≠ 0 by omega)]; rfl
  | succ c =>
    have hcc : (c + 1) * p.toNat = c * p.toNat + p.toNat := by rw [Nat.add_mul]; omega
    have hmod : ∀ a b : Nat, b < p.toNat → (a * p.toNat + b) % p.toNat = b := fun a b hb => by rw [Nat.add_comm, Nat.add_mul_mod_self_right, Nat.mod_eq_of_lt hb]
    have hck : c * p.toNat + p.toNat ≤ k * p.toNat := by rw [← hcc]; exact Nat.mul_le_mul_right _ hc
    have hkk : (k + 1) * p.toNat = k * p.toNat + p.toNat := by rw [Nat.add_mul]; omega
    rw [decide_eq_true (show p.toNat ≤ (c + 1) * p.toNat + s by omega), decide_eq_true (show c + 1 ≠ 0 by omega), Bool.true_and, Bool.true_and, show (c + 1) * p.toNat + s - p.toNat = c * p.toNat + s by omega, show c + 1 - 1 = c by omega]
    by_cases hsx : x ≤ s
    · have e1 : sbm (s : Int) x p = ((s - x : Nat) : Int) := by unfold sbm; split <;> omega
      rw [e1, ← w.2 c (by omega) (s - x) (by omega), show c * p.toNat + s - x = c * p.toNat + (s - x) by omega, show p.toNat - x + (c * p.toNat + s) = (c + 1) * p.toNat + (s - x) by omega, hmod _ _ (by omega), hmod _ _ (by omega)]
      rw [decide_eq_true (show x ≤ c * p.toNat + s by omega), decide_eq_true (show c * p.toNat + (s - x) < (k + 1) * p.toNat ∧ s - x < p.toNat - x by omega), decide_eq_true (show (c + 1) * p.toNat + (s - x) < (k + 1) * p.toNat ∧ s - x < p.toNat - x by omega)]
      simp
    · have e1 : sbm (s : Int) x p = ((p.toNat + s - x : Nat) : Int) := by unfold sbm; split <;> omega
      rw [e1, ← w.2 c (by omega) (p.toNat + s - x) (by omega), show p.toNat - x + (c * p.toNat + s) = c * p.toNat + (p.toNat + s - x) by omega, hmod _ _ (by omega)]
      rw [decide_eq_false (show ¬ (c * p.toNat + (p.toNat + s - x) < (k + 1) * p.toNat ∧ p.toNat + s - x < p.toNat - x) by omega)]
      have e2 : (decide (x ≤ c * p.toNat + s) && (z.testBit (c * p.toNat + s - x) && decide (c * p.toNat + s - x < (k + 1) * p.toNat ∧ (c * p.toNat + s - x) % p.toNat < p.toNat - x))) = false := by
        cases c with
        | zero => rw [decide_eq_false (by omega)]; rfl
        | succ c =>
          have hc2 : (c + 1) * p.toNat = c * p.toNat + p.toNat := by rw [Nat.add_mul]; omega
          rw [show (c + 1) * p.toNat + s - x = c * p.toNat + (p.toNat + s - x) by omega, hmod _ _ (by omega), decide_eq_false (show ¬ (c * p.toNat + (p.toNat + s - x) < (k + 1) * p.toNat ∧ p.toNat + s - x < p.toNat - x) by omega)]
          simp
      rw [e2]
      simp
theorem womN_1 {p : Int} {k : Nat} (hp : 2 ≤ p) : swP p k [] 1 := by
  refine ⟨Nat.one_lt_two_pow (Nat.mul_ne_zero (by omega) (by omega)), fun c hc s hs => ?_⟩
  have e : (1 : Nat) = 2 ^ 0 := rfl
  rw [e, Nat.testBit_two_pow]
  simp only [exL]
  rcases Nat.eq_zero_or_pos c with z | z
  · subst z
    rw [Nat.zero_mul, Nat.zero_add]
    by_cases q : s = 0
    · rw [q]; rfl
    · rw [decide_eq_false (Ne.symm q), decide_eq_false (show ¬ (s : Int) = 0 by omega)]; rfl
  · have : 0 < c * p.toNat := Nat.mul_pos z (by omega)
    rw [decide_eq_false (by omega), decide_eq_false (show ¬ c = 0 by omega)]
    rfl

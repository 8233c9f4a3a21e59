/-! ===== turns: what a state comes to ===== -/
theorem sumB_p2 {f : Nat → Int} {n b : Nat} (hb : b < n) : sumB f ((2 ^ b : Nat) : Int) n = f b := by
  have h0 : ∀ m : Nat, m ≤ b → sumB f ((2 ^ b : Nat) : Int) m = 0 := fun m => by
    induction m with
    | zero => intro _; rfl
    | succ m ih =>
      intro hm
      rw [sumB_nat, ih (by omega), Nat.testBit_two_pow, decide_eq_false (by omega)]
      rfl
  rw [sumB_hi (n := b + 1) (Nat.pow_lt_pow_right (by decide) (by omega)) n (by omega), sumB_nat, h0 b (Nat.le_refl b), Nat.testBit_two_pow, decide_eq_true rfl, if_pos rfl, Int.zero_add]
def tenIn (N : Nat → Int) (p : Int) (n : Nat) (k : Int) (S : Nat) : Prop := ∃ L, sb L S ∧ teB N p n k L
theorem tenIn_0 {N : Nat → Int} {p k : Int} {n : Nat} (hk : 1 ≤ k) : ¬ tenIn N p n k 0 := fun ⟨L, h1, h2⟩ => by
  have := te_ne hk h2
  have := sb_le h1
  omega
theorem tenIn_step {N : Nat → Int} {p k : Int} {n S : Nat} : tenIn N p n k S ↔ teB N p n k S ∨ ∃ b, S.testBit b = true ∧ tenIn N p n k (S ^^^ 2 ^ b) := by
  constructor
  · rintro ⟨L, h1, h2⟩
    by_cases q : L = S
    · left; rw [← q]; exact h2
    · obtain ⟨b, b1, b2⟩ := sb_out h1 q
      exact Or.inr ⟨b, b1, L, sb_xb h1 b1 b2, h2⟩
  · rintro (z | ⟨b, b1, L, h1, h2⟩)
    · exact ⟨S, sb_refl S, z⟩
    · exact ⟨L, sb_tr h1 (sb_x (p2_sb b1)), h2⟩
noncomputable def tenT (N : Nat → Int) (p : Int) (n : Nat) (k : Int) : Nat → Bool := fun S => @decide (tenIn N p n k S) (Classical.propDecidable _)
theorem tenT_iff {N : Nat → Int} {p k : Int} {n S : Nat} : tenT N p n k S = true ↔ tenIn N p n k S := by
  unfold tenT
  exact @decide_eq_true_iff _ (Classical.propDecidable _)
def bestT (g : Nat → Int) (U : Nat) : Nat → Int
  | 0 => -1
  | i + 1 => if U.testBit i = true then bestT g U i else max (bestT g U i) (g i)
def vlT (T : Nat → Bool) (n : Nat) : Nat → Nat → Nat → Int
  | 0, _, _ => 0
  | f + 1, own, oth => bestT (fun i => if T (own ||| 2 ^ i) = true then 1 else -(vlT T n f oth (own ||| 2 ^ i))) (own ||| oth) n
def gT (T : Nat → Bool) (n f own oth i : Nat) : Int := if T (own ||| 2 ^ i) = true then 1 else -(vlT T n f oth (own ||| 2 ^ i))
theorem vlT_succ {T : Nat → Bool} {n f own oth : Nat} : vlT T n (f + 1) own oth = bestT (gT T n f own oth) (own ||| oth) n := rfl
theorem bestT_r {g : Nat → Int} {U : Nat} (hg : ∀ i, -1 ≤ g i ∧ g i ≤ 1) : ∀ m : Nat, -1 ≤ bestT g U m ∧ bestT g U m ≤ 1
  | 0 => by show (-1 : Int) ≤ -1 ∧ (-1 : Int) ≤ 1; decide
  | m + 1 => by
    have := bestT_r (U := U) hg m
    have := hg m
    unfold bestT
    split <;> omega
theorem vlT_r {T : Nat → Bool} {n : Nat} : ∀ f own oth : Nat, -1 ≤ vlT T n f own oth ∧ vlT T n f own oth ≤ 1
  | 0, _, _ => by unfold vlT; decide
  | f + 1, own, oth => by
    rw [vlT_succ]
    apply bestT_r
    intro i
    have := vlT_r (T := T) (n := n) f oth (own ||| 2 ^ i)
    unfold gT
    split <;> omega
theorem gT_r {T : Nat → Bool} {n f own oth : Nat} (i : Nat) : -1 ≤ gT T n f own oth i ∧ gT T n f own oth i ≤ 1 := by
  have := vlT_r (T := T) (n := n) f oth (own ||| 2 ^ i)
  unfold gT
  split <;> omega
theorem bestT_top {g : Nat → Int} {U i : Nat} (hg : ∀ i, -1 ≤ g i ∧ g i ≤ 1) (h : bestT g U i = 1) : ∀ m : Nat, i ≤ m → bestT g U m = 1
  | 0, hm => by rw [show i = 0 by omega] at h; exact h
  | m + 1, hm => by
    rcases (show i = m + 1 ∨ i ≤ m by omega) with z | z
    · rw [← z]; exact h
    · have h1 := bestT_top hg h m z
      have h2 := hg m
      unfold bestT
      rw [h1]
      split <;> omega
theorem bestT_ext {g g' : Nat → Int} {U U' : Nat} : ∀ m : Nat, (∀ i, i < m → U.testBit i = U'.testBit i) → (∀ i, i < m → U.testBit i = false → g i = g' i) → bestT g U m = bestT g' U' m
  | 0, _, _ => rfl
  | m + 1, h1, h2 => by
    have ih := bestT_ext m (fun i hi => h1 i (by omega)) (fun i hi => h2 i (by omega))
    unfold bestT
    rw [← h1 m (by omega), ih]
    cases q : U.testBit m with
    | true => rfl
    | false => rw [h2 m (by omega) q]
/-! states -/
def fgN (S n : Nat) : Int := sumB (fun i => ((3 ^ i : Nat) : Int)) (S : Int) n
def cdN (a b n : Nat) : Int := fgN a n + 2 * fgN b n
def dj (a b : Nat) : Prop := ∀ j, a.testBit j = true → ¬ b.testBit j = true
theorem dj_s {a b : Nat} (h : dj a b) : dj b a := fun j h1 h2 => h j h2 h1
theorem cdN_succ {a b n : Nat} : cdN a b (n + 1) = cdN a b n + ((if a.testBit n = true then ((3 ^ n : Nat) : Int) else 0) + 2 * (if b.testBit n = true then ((3 ^ n : Nat) : Int) else 0)) := by
  unfold cdN fgN
  rw [sumB_nat, sumB_nat]
  omega
theorem cdN_r {a b : Nat} (h : dj a b) : ∀ n : Nat, 0 ≤ cdN a b n ∧ cdN a b n < ((3 ^ n : Nat) : Int)
  | 0 => by unfold cdN fgN sumB; decide
  | n + 1 => by
    have ih := cdN_r h n
    have := h n
    rw [cdN_succ, Nat.pow_succ]
    cases q : a.testBit n <;> cases q2 : b.testBit n <;> simp_all <;> omega
theorem cdN_inj {a b a' b' : Nat} (h : dj a b) (h' : dj a' b') : ∀ n : Nat, cdN a b n = cdN a' b' n → ∀ j, j < n → a.testBit j = a'.testBit j ∧ b.testBit j = b'.testBit j
  | 0, _, j, hj => absurd hj (by omega)
  | n + 1, e, j, hj => by
    have r1 := cdN_r h n
    have r2 := cdN_r h' n
    have d1 := h n
    have d2 := h' n
    rw [cdN_succ, cdN_succ] at e
    have key : cdN a b n = cdN a' b' n ∧ a.testBit n = a'.testBit n ∧ b.testBit n = b'.testBit n := by
      generalize ((3 ^ n : Nat) : Int) = P at *
      cases q1 : a.testBit n <;> cases q2 : b.testBit n <;> cases q3 : a'.testBit n <;> cases q4 : b'.testBit n <;> rw [q1, q2, q3, q4] at e <;> rw [q1, q2] at d1 <;> rw [q3, q4] at d2 <;> simp at e d1 d2 ⊢ <;> omega
    rcases (show j = n ∨ j < n by omega) with z | z
    · rw [z]; exact key.2
    · exact cdN_inj h h' n key.1 j z
theorem cdN_inj' {a b a' b' n : Nat} (h : dj a b) (h' : dj a' b') (ha : a < 2 ^ n) (hb : b < 2 ^ n) (ha' : a' < 2 ^ n) (hb' : b' < 2 ^ n) (e : (cdN a b n).toNat = (cdN a' b' n).toNat) : a = a' ∧ b = b' := by
  have r1 := cdN_r h n
  have r2 := cdN_r h' n
  have k := cdN_inj h h' n (by omega)
  have hi : ∀ (x : Nat), x < 2 ^ n → ∀ j, n ≤ j → x.testBit j = false := fun x hx j hj => Nat.testBit_lt_two_pow (Nat.lt_of_lt_of_le hx (Nat.pow_le_pow_right (by decide) hj))
  constructor
  · apply Nat.eq_of_testBit_eq
    intro j
    by_cases hj : j < n
    · exact (k j hj).1
    · rw [hi a ha j (by omega), hi a' ha' j (by omega)]
  · apply Nat.eq_of_testBit_eq
    intro j
    by_cases hj : j < n
    · exact (k j hj).2
    · rw [hi b hb j (by omega), hi b' hb' j (by omega)]
theorem or_x {S i : Nat} (h : S.testBit i = false) : (S ||| 2 ^ i) ^^^ 2 ^ i = S := by
  apply Nat.eq_of_testBit_eq
  intro j
  rw [Nat.testBit_xor, Nat.testBit_or, Nat.testBit_two_pow]
  by_cases hj : i = j
  · rw [← hj, h, decide_eq_true rfl]; rfl
  · rw [decide_eq_false hj]; simp
theorem or_i {S i : Nat} : (S ||| 2 ^ i).testBit i = true := by rw [Nat.testBit_or, Nat.testBit_two_pow, decide_eq_true rfl, Bool.or_true]
theorem or_ne {S i j : Nat} (h : i ≠ j) : (S ||| 2 ^ i).testBit j = S.testBit j := by rw [Nat.testBit_or, Nat.testBit_two_pow, decide_eq_false h, Bool.or_false]
theorem or_l {S i n : Nat} (hS : S < 2 ^ n) (hi : i < n) : S ||| 2 ^ i < 2 ^ n := Nat.or_lt_two_pow hS (Nat.pow_lt_pow_right (by decide) hi)
theorem cnt_or {S i n : Nat} (hi : i < n) (h : S.testBit i = false) : cntB ((S ||| 2 ^ i : Nat) : Int) n = cntB (S : Int) n + 1 := by
  have h1 := addF_cnt n (2 ^ i) (S ||| 2 ^ i) (p2_sb or_i)
  simp only at h1
  rw [or_x h, cnt_p2 hi] at h1
  omega
theorem fg_x {S i n : Nat} (hi : i < n) (h : S.testBit i = true) : fgN (S ^^^ 2 ^ i) n + ((3 ^ i : Nat) : Int) = fgN S n := by
  have h1 := addF_sumB (fun i => ((3 ^ i : Nat) : Int)) n (2 ^ i) S (p2_sb h)
  simp only at h1
  rw [sumB_p2 hi] at h1
  exact h1
theorem dj_or {a b i : Nat} (h : dj a b) (hb : b.testBit i = false) : dj b (a ||| 2 ^ i) := fun j h1 h2 => by
  by_cases hj : i = j
  · rw [← hj, hb] at h1; cases h1
  · rw [or_ne hj] at h2
    exact h j h2 h1
theorem or_tbf {a b i : Nat} : (a ||| b).testBit i = false ↔ a.testBit i = false ∧ b.testBit i = false := by
  rw [Nat.testBit_or, Bool.or_eq_false_iff]
def knI (T : Nat → Bool) (n : Nat) (g : Nat → Int) : Prop := ∀ a b, a < 2 ^ n → b < 2 ^ n → dj a b → g (cdN a b n).toNat = 0 ∨ g (cdN a b n).toNat = 2 + vlT T n ((n : Int) - cntB (a : Int) n - cntB (b : Int) n).toNat a b
theorem knI_set {T : Nat → Bool} {n f a b : Nat} {h : Hp} (hk : knI T n (h 27)) (ha : a < 2 ^ n) (hb : b < 2 ^ n) (hd : dj a b) (hf : (f : Int) = (n : Int) - cntB (a : Int) n - cntB (b : Int) n) : knI T n (upd2 h 27 (cdN a b n).toNat (2 + vlT T n f a b) 27) := fun a' b' ha' hb' hd' => by
  unfold upd2
  by_cases q : (cdN a' b' n).toNat = (cdN a b n).toNat
  · obtain ⟨e1, e2⟩ := cdN_inj' hd' hd ha' hb' ha hb q
    subst e1; subst e2
    rw [if_pos ⟨rfl, rfl⟩]
    right
    rw [← hf, Int.toNat_natCast]
  · rw [if_neg (fun z => q z.2)]
    exact hk a' b' ha' hb' hd'
def turI (T : Nat → Bool) (n : Nat) (h : Hp) : Prop := h 1 4 = (n : Int) ∧ (∀ S, S < 2 ^ n → (h 126 S = 0 ∨ h 126 S = 1) ∧ (h 126 S = 1 ↔ T S = true)) ∧ (∀ S, S < 2 ^ n → h 127 S = fgN S n) ∧ knI T n (h 27)
theorem turI_of {T : Nat → Bool} {n : Nat} {h hx : Hp} (I : turI T n h) (k : knI T n (hx 27)) (f : ∀ a b, a ≠ 27 → hx a b = h a b) : turI T n hx := by
  obtain ⟨i1, i2, i3, i4⟩ := I
  exact ⟨(f 1 4 (by decide)).trans i1, fun S hS => by rw [f 126 S (by decide)]; exact i2 S hS, fun S hS => by rw [f 127 S (by decide)]; exact i3 S hS, k⟩
theorem or01b {x y : Int} (h : x = 0 ∨ x = 1) (h2 : y = 0 ∨ y = 1) : (bOr x y = 0 ∨ bOr x y = 1) ∧ (bOr x y = 1 ↔ x = 1 ∨ y = 1) := by
  rcases h with rfl | rfl <;> rcases h2 with rfl | rfl <;> decide
theorem bOr_p {a j : Nat} (ha : a < 2147483648) (hj : j < 31) : bOr (a : Int) (1 * 2 ^ j) = ((a ||| 2 ^ j : Nat) : Int) := by
  rw [show (1 * 2 ^ j : Int) = ((2 ^ j : Nat) : Int) by rw [Int.one_mul, p2_cast], bOr_N ha (p2_31 hj)]
theorem p8 {n S : Nat} (hn : n ≤ 8) (hS : S < 2 ^ n) : S < 256 := Nat.lt_of_lt_of_le hS (Nat.pow_le_pow_right (by decide) hn)
theorem t8 {n : Nat} (hn : n ≤ 8) : 3 ^ n ≤ 6561 := Nat.pow_le_pow_right (n := 3) (by decide) hn
noncomputable def turS (N : Nat → Int) (p : Int) (n : Nat) (k w : Int) : Int := if ¬ (1 ≤ k ∧ k ≤ 20) ∨ ¬ (0 ≤ w ∧ w ≤ 1) then -3 else if 8 < n then -4 else if w = 0 then vlT (tenT N p n k) n n 0 0 + 1 else firstI (fun i => decide (gT (tenT N p n k) n (n - 1) 0 0 i = vlT (tenT N p n k) n n 0 0)) n

/-! ===== the lightest from behind ===== -/
def sumW (f : Nat → Int) (l : Nat) : Nat → Nat → Int
  | _, 0 => 0
  | i, m + 1 => (if l.testBit i = true then f i else 0) + sumW f l (i + 1) m
theorem sumB_W {f : Nat → Int} {l : Nat} : ∀ (m i : Nat), sumB f (l : Int) i + sumW f l i m = sumB f (l : Int) (i + m)
  | 0, i => by simp [sumW]
  | m + 1, i => by
    have h := sumB_W (f := f) (l := l) m (i + 1)
    rw [sumB_nat] at h
    rw [sumW, show i + (m + 1) = i + 1 + m by omega, ← h]
    omega
theorem sumW_bits {f : Nat → Int} {a b : Nat} : ∀ (m i : Nat), (∀ j, i ≤ j → a.testBit j = b.testBit j) → sumW f a i m = sumW f b i m
  | 0, _, _ => rfl
  | m + 1, i, h => by rw [sumW, sumW, h i (Nat.le_refl i), sumW_bits m (i + 1) (fun j hj => h j (by omega))]
/-- a lot of c of the m heaps from i on, of a rest -/
def svl (N : Nat → Int) (p : Int) (m i c : Nat) (r : Int) (l : Nat) : Prop := (∀ j, l.testBit j = true → i ≤ j ∧ j < i + m) ∧ sumW (fun _ => 1) l i m = c ∧ sumW N l i m % p = r
theorem svl_vl {N : Nat → Int} {p r : Int} {n c l : Nat} : svl N p n 0 c r l ↔ vl N p n c r l := by
  have e : ∀ f : Nat → Int, sumW f l 0 n = sumB f (l : Int) n := fun f => by
    have h := sumB_W (f := f) (l := l) n 0
    simp only [sumB, Nat.zero_add, Int.zero_add] at h
    exact h
  unfold svl vl cntB
  rw [e, e]
  constructor
  · rintro ⟨h1, h2, h3⟩
    refine ⟨?_, h2, h3⟩
    apply Nat.lt_pow_two_of_testBit
    intro j hj
    cases q : l.testBit j with
    | false => rfl
    | true => have := (h1 j q).2; omega
  · rintro ⟨h1, h2, h3⟩
    refine ⟨fun j hj => ⟨Nat.zero_le j, ?_⟩, h2, h3⟩
    apply Nat.lt_of_not_le
    intro hc
    have : l < 2 ^ j := Nat.lt_of_lt_of_le h1 (Nat.pow_le_pow_right (by decide) (by omega))
    rw [Nat.testBit_lt_two_pow this] at hj
    cases hj
theorem or_tb {i l j : Nat} : (2 ^ i ||| l).testBit j = (decide (i = j) || l.testBit j) := by rw [Nat.testBit_or, Nat.testBit_two_pow]
theorem sumW_or {f : Nat → Int} {l i m : Nat} (h : l.testBit i = false) : sumW f (2 ^ i ||| l) i (m + 1) = f i + sumW f l (i + 1) m := by
  rw [sumW, if_pos (by rw [or_tb]; simp), sumW_bits (b := l) m (i + 1) (fun j hj => by rw [or_tb, decide_eq_false (by omega)]; rfl)]
theorem sumW_skip {f : Nat → Int} {l i m : Nat} (h : l.testBit i = false) : sumW f l i (m + 1) = sumW f l (i + 1) m := by
  rw [sumW, if_neg (by rw [h]; simp)]
  omega
theorem svl_no {N : Nat → Int} {p r : Int} {m i c l : Nat} (h : svl N p m (i + 1) c r l) : l.testBit i = false := by
  cases q : l.testBit i with
  | false => rfl
  | true => have := (h.1 i q).1; omega
theorem sumW_1 {l : Nat} : ∀ (m i : Nat), 0 ≤ sumW (fun _ => 1) l i m
  | 0, _ => Int.le_refl 0
  | m + 1, i => by
    have := sumW_1 (l := l) m (i + 1)
    rw [sumW]
    split <;> omega
theorem svl_succ {N : Nat → Int} {p r : Int} {m i c l : Nat} (hp : 2 ≤ p ∧ p ≤ 10) (hr : 0 ≤ r ∧ r < p) : svl N p (m + 1) i c r l ↔ svl N p m (i + 1) c r l ∨ ∃ l0, l = 2 ^ i ||| l0 ∧ 1 ≤ c ∧ svl N p m (i + 1) (c - 1) (sbm r (N i % p) p) l0 := by
  constructor
  · rintro ⟨h1, h2, h3⟩
    cases q : l.testBit i with
    | false =>
      left
      rw [sumW_skip q] at h2 h3
      refine ⟨fun j hj => ?_, h2, h3⟩
      have := h1 j hj
      have hne : j ≠ i := fun z => by rw [z, q] at hj; cases hj
      omega
    | true =>
      right
      have e : l = 2 ^ i ||| (l ^^^ 2 ^ i) := by
        apply Nat.eq_of_testBit_eq
        intro j
        rw [or_tb, Nat.testBit_xor, Nat.testBit_two_pow]
        by_cases hj : i = j
        · subst hj; simp [q]
        · rw [decide_eq_false hj]; simp
      have q0 : (l ^^^ 2 ^ i).testBit i = false := by rw [Nat.testBit_xor, Nat.testBit_two_pow, q]; simp
      rw [e, sumW_or q0] at h2 h3
      have h0 := sumW_1 (l := l ^^^ 2 ^ i) m (i + 1)
      refine ⟨l ^^^ 2 ^ i, e, by omega, fun j hj => ?_, by omega, ?_⟩
      · have hne : j ≠ i := fun z => by rw [z, q0] at hj; cases hj
        have : l.testBit j = true := by
          rw [Nat.testBit_xor, Nat.testBit_two_pow, decide_eq_false (fun z => hne z.symm)] at hj
          simpa using hj
        have := h1 j this
        omega
      · rw [Int.add_comm] at h3
        exact (mod_sbm hp hr).mp h3
  · rintro (h | ⟨l0, rfl, hc, h⟩)
    · have q := svl_no h
      obtain ⟨h1, h2, h3⟩ := h
      exact ⟨fun j hj => by have := h1 j hj; omega, by rw [sumW_skip q]; exact h2, by rw [sumW_skip q]; exact h3⟩
    · have q := svl_no h
      obtain ⟨h1, h2, h3⟩ := h
      refine ⟨fun j hj => ?_, by rw [sumW_or q]; omega, by rw [sumW_or q, Int.add_comm]; exact (mod_sbm hp hr).mpr h3⟩
      rw [or_tb, Bool.or_eq_true, decide_eq_true_eq] at hj
      rcases hj with z | z
      · omega
      · have := h1 j z; omega
def farI : Int := 1152921504606846976
def lsA (N w : Nat → Int) (p : Int) : Nat → Nat → Nat → Int → Int
  | 0, _, c, r => if c = 0 ∧ r = 0 then 0 else farI
  | m + 1, i, c, r => if (if c = 0 then farI else if lsA N w p m (i + 1) (c - 1) (sbm r (N i % p) p) = farI then farI else lsA N w p m (i + 1) (c - 1) (sbm r (N i % p) p) + w i) < lsA N w p m (i + 1) c r then (if c = 0 then farI else if lsA N w p m (i + 1) (c - 1) (sbm r (N i % p) p) = farI then farI else lsA N w p m (i + 1) (c - 1) (sbm r (N i % p) p) + w i) else lsA N w p m (i + 1) c r
def wtA (N w : Nat → Int) (p : Int) (m i c : Nat) (r : Int) : Int := if c = 0 then farI else if lsA N w p m (i + 1) (c - 1) (sbm r (N i % p) p) = farI then farI else lsA N w p m (i + 1) (c - 1) (sbm r (N i % p) p) + w i
theorem lsA_succ {N w : Nat → Int} {p r : Int} {m i c : Nat} : lsA N w p (m + 1) i c r = if wtA N w p m i c r < lsA N w p m (i + 1) c r then wtA N w p m i c r else lsA N w p m (i + 1) c r := rfl
def glA (N w : Nat → Int) (p : Int) : Nat → Nat → Nat → Int → Nat
  | 0, _, _, _ => 0
  | m + 1, i, c, r => if wtA N w p m i c r = lsA N w p (m + 1) i c r then 2 ^ i ||| glA N w p m (i + 1) (c - 1) (sbm r (N i % p) p) else glA N w p m (i + 1) c r
theorem lsA_main {N w : Nat → Int} {p : Int} (hp : 2 ≤ p ∧ p ≤ 10) : ∀ (m i c : Nat) (r : Int), 0 ≤ r ∧ r < p → m ≤ 20 → (∀ j, i ≤ j → j < i + m → 0 ≤ w j ∧ w j ≤ 999999999999999) →
    (lsA N w p m i c r = farI ∧ ∀ l, ¬ svl N p m i c r l) ∨ ((0 ≤ lsA N w p m i c r ∧ lsA N w p m i c r ≤ m * 999999999999999) ∧ svl N p m i c r (glA N w p m i c r) ∧ sumW w (glA N w p m i c r) i m = lsA N w p m i c r ∧ ∀ l', svl N p m i c r l' → l' = glA N w p m i c r ∨ lsA N w p m i c r < sumW w l' i m ∨ (lsA N w p m i c r = sumW w l' i m ∧ ahd (glA N w p m i c r) l'))
  | 0, i, c, r, hr, _, _ => by
    unfold lsA glA
    by_cases q : c = 0 ∧ r = 0
    · right
      rw [if_pos q]
      refine ⟨by omega, ⟨fun j hj => by simp at hj, by simp [sumW, q.1], by simp [sumW, q.2]⟩, rfl, fun l' hl' => Or.inl ?_⟩
      apply Nat.eq_of_testBit_eq
      intro j
      cases z : l'.testBit j with
      | false => simp
      | true => have := hl'.1 j z; omega
    · left
      rw [if_neg q]
      refine ⟨rfl, fun l hl => q ?_⟩
      obtain ⟨-, h2, h3⟩ := hl
      simp only [sumW] at h2 h3
      exact ⟨by omega, by rw [← h3]; exact Int.zero_emod p⟩
  | m + 1, i, c, r, hr, hm, hw => by
    have hx := mod_r (N i) hp
    have hw0 := hw i (Nat.le_refl i) (by omega)
    have A := lsA_main (N := N) (w := w) hp m (i + 1) c r hr (by omega) (fun j h1 h2 => hw j (by omega) (by omega))
    have B := lsA_main (N := N) (w := w) hp m (i + 1) (c - 1) (sbm r (N i % p) p) (sbm_r hr hx) (by omega) (fun j h1 h2 => hw j (by omega) (by omega))
    have hfar : (20 : Int) * 999999999999999 < farI := by decide
    have hmm : (m : Int) * 999999999999999 ≤ 19 * 999999999999999 := by omega
    have hcast : (((m + 1 : Nat) : Int)) * 999999999999999 = m * 999999999999999 + 999999999999999 := by rw [Int.natCast_add, Int.add_mul]; rfl
    rw [lsA_succ, hcast]
    have hg : glA N w p (m + 1) i c r = if wtA N w p m i c r = lsA N w p (m + 1) i c r then 2 ^ i ||| glA N w p m (i + 1) (c - 1) (sbm r (N i % p) p) else glA N w p m (i + 1) c r := rfl
    rw [lsA_succ] at hg
    -- is there a lot with heap i
    by_cases hB : c = 0 ∨ lsA N w p m (i + 1) (c - 1) (sbm r (N i % p) p) = farI
    · have hwt : wtA N w p m i c r = farI := by
        unfold wtA
        rcases hB with z | z
        · rw [if_pos z]
        · split
          · rfl
          · rfl
      have hnoB : ∀ l, svl N p (m + 1) i c r l → svl N p m (i + 1) c r l := fun l hl => by
        rcases (svl_succ hp hr).mp hl with z | ⟨l0, -, z1, z2⟩
        · exact z
        · rcases hB with y | y
          · omega
          · rcases B with ⟨-, b2⟩ | ⟨b1, -⟩
            · exact absurd z2 (b2 l0)
            · omega
      rcases A with ⟨a1, a2⟩ | ⟨a1, a2, a3, a4⟩
      · left
        rw [hwt, a1, if_neg (by omega)]
        exact ⟨rfl, fun l hl => a2 l (hnoB l hl)⟩
      · right
        rw [hwt, if_neg (by omega)] at hg ⊢
        try rw [if_neg (by omega)] at hg
        have qn := svl_no a2
        rw [hg]
        refine ⟨by omega, (svl_succ hp hr).mpr (Or.inl a2), by rw [sumW_skip qn]; exact a3, fun l' hl' => ?_⟩
        have h1 := hnoB l' hl'
        rw [sumW_skip (svl_no h1)]
        exact a4 l' h1
    · have hc : c ≠ 0 := fun z => hB (Or.inl z)
      have hnf : ¬ lsA N w p m (i + 1) (c - 1) (sbm r (N i % p) p) = farI := fun z => hB (Or.inr z)
      have hwt : wtA N w p m i c r = lsA N w p m (i + 1) (c - 1) (sbm r (N i % p) p) + w i := by unfold wtA; rw [if_neg hc, if_neg hnf]
      rcases B with ⟨b1, -⟩ | ⟨b1, b2, b3, b4⟩
      · exact absurd b1 hnf
      have qb := svl_no b2
      have hwith : ∀ l0, svl N p m (i + 1) (c - 1) (sbm r (N i % p) p) l0 → (2 ^ i ||| l0) = 2 ^ i ||| glA N w p m (i + 1) (c - 1) (sbm r (N i % p) p) ∨ lsA N w p m (i + 1) (c - 1) (sbm r (N i % p) p) + w i < sumW w (2 ^ i ||| l0) i (m + 1) ∨ (lsA N w p m (i + 1) (c - 1) (sbm r (N i % p) p) + w i = sumW w (2 ^ i ||| l0) i (m + 1) ∧ ahd (2 ^ i ||| glA N w p m (i + 1) (c - 1) (sbm r (N i % p) p)) (2 ^ i ||| l0)) := fun l0 hl0 => by
        rw [sumW_or (svl_no hl0)]
        rcases b4 l0 hl0 with z | z | ⟨z1, z2⟩
        · exact Or.inl (by rw [z])
        · exact Or.inr (Or.inl (by omega))
        · refine Or.inr (Or.inr ⟨by omega, ?_⟩)
          obtain ⟨j, j1, j2, j3⟩ := z2
          have hji : j ≠ i := fun z => by rw [z, qb] at j1; cases j1
          refine ⟨j, by rw [or_tb, j1]; simp, by rw [or_tb, j2, decide_eq_false (fun z => hji z.symm)]; rfl, fun k hk => ?_⟩
          rw [or_tb, or_tb, j3 k hk]
      right
      by_cases hlt : lsA N w p m (i + 1) c r < lsA N w p m (i + 1) (c - 1) (sbm r (N i % p) p) + w i
      · rw [hwt, if_neg (by omega)] at hg ⊢
        try rw [if_neg (by omega)] at hg
        rcases A with ⟨a1, -⟩ | ⟨a1, a2, a3, a4⟩
        · omega
        have qn := svl_no a2
        rw [hg]
        refine ⟨by omega, (svl_succ hp hr).mpr (Or.inl a2), by rw [sumW_skip qn]; exact a3, fun l' hl' => ?_⟩
        rcases (svl_succ hp hr).mp hl' with z | ⟨l0, rfl, -, z⟩
        · rw [sumW_skip (svl_no z)]
          exact a4 l' z
        · right
          left
          rcases hwith l0 z with y | y | y
          · rw [y, sumW_or qb, b3]; omega
          · omega
          · omega
      · have hle : (if lsA N w p m (i + 1) (c - 1) (sbm r (N i % p) p) + w i < lsA N w p m (i + 1) c r then lsA N w p m (i + 1) (c - 1) (sbm r (N i % p) p) + w i else lsA N w p m (i + 1) c r) = lsA N w p m (i + 1) (c - 1) (sbm r (N i % p) p) + w i := by
          split <;> omega
        rw [hwt, hle] at hg ⊢
        rw [if_pos rfl] at hg
        rw [hg]
        refine ⟨by omega, (svl_succ hp hr).mpr (Or.inr ⟨_, rfl, by omega, b2⟩), by rw [sumW_or qb, b3]; omega, fun l' hl' => ?_⟩
        rcases (svl_succ hp hr).mp hl' with z | ⟨l0, rfl, -, z⟩
        · right
          have qz := svl_no z
          have hge : lsA N w p m (i + 1) c r ≤ sumW w l' (i + 1) m := by
            rcases A with ⟨a1, a2⟩ | ⟨a1, a2, a3, a4⟩
            · exact absurd z (a2 l')
            · rcases a4 l' z with y | y | y
              · rw [y, a3]; exact Int.le_refl _
              · omega
              · omega
          rw [sumW_skip qz]
          by_cases y : lsA N w p m (i + 1) (c - 1) (sbm r (N i % p) p) + w i < sumW w l' (i + 1) m
          · exact Or.inl y
          · refine Or.inr ⟨by omega, i, by rw [or_tb]; simp, qz, fun k hk => ?_⟩
            rw [or_tb, decide_eq_false (by omega)]
            have h1 : (glA N w p m (i + 1) (c - 1) (sbm r (N i % p) p)).testBit k = false := by
              cases u : (glA N w p m (i + 1) (c - 1) (sbm r (N i % p) p)).testBit k with
              | false => rfl
              | true => have := b2.1 k u; omega
            have h2 : l'.testBit k = false := by
              cases u : l'.testBit k with
              | false => rfl
              | true => have := z.1 k u; omega
            rw [h1, h2]
            rfl
        · exact hwith l0 z

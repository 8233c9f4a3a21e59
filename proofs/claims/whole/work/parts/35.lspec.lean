/-! ===== the lightest: lots by sum, then by order ===== -/
theorem ahd_irr {a : Nat} : ¬ ahd a a := by
  rintro ⟨i, h1, h2, -⟩
  rw [h1] at h2
  cases h2
theorem ahd_trans {a b c : Nat} (h1 : ahd a b) (h2 : ahd b c) : ahd a c := by
  obtain ⟨i, a1, a2, a3⟩ := h1
  obtain ⟨j, b1, b2, b3⟩ := h2
  rcases Nat.lt_trichotomy i j with q | q | q
  · exact ⟨i, a1, by rw [← b3 i q]; exact a2, fun k hk => (a3 k hk).trans (b3 k (by omega))⟩
  · subst q
    rw [b1] at a2
    cases a2
  · exact ⟨j, by rw [a3 j q]; exact b1, b2, fun k hk => (a3 k (by omega)).trans (b3 k hk)⟩
theorem ahd_total {a b : Nat} (h : a ≠ b) : ahd a b ∨ ahd b a := by
  have hx : 0 < a ^^^ b := by
    apply Nat.pos_of_ne_zero
    intro h0
    apply h
    apply Nat.eq_of_testBit_eq
    intro i
    have := congrArg (fun z => z.testBit i) h0
    simp only [Nat.testBit_xor, Nat.zero_testBit] at this
    revert this
    cases a.testBit i <;> cases b.testBit i <;> simp
  obtain ⟨s, m, e⟩ := low_ex (a ^^^ b) hx
  have hbit : ∀ j, (a ^^^ b).testBit j = if j < s then false else if j = s then true else m.testBit (j - s - 1) := fun j => by rw [e]; exact low_tb
  have hlow : ∀ j, j < s → a.testBit j = b.testBit j := fun j hj => by
    have := hbit j
    rw [Nat.testBit_xor, if_pos hj] at this
    revert this
    cases a.testBit j <;> cases b.testBit j <;> simp
  have hs := hbit s
  rw [Nat.testBit_xor, if_neg (by omega), if_pos rfl] at hs
  cases ha : a.testBit s with
  | true =>
    left
    refine ⟨s, ha, ?_, hlow⟩
    rw [ha] at hs
    revert hs
    cases b.testBit s <;> simp
  | false =>
    right
    refine ⟨s, ?_, ha, fun j hj => (hlow j hj).symm⟩
    rw [ha] at hs
    revert hs
    cases b.testBit s <;> simp
def ahdB (a b : Nat) : Bool := decide (bAnd (bAnd (a : Int) (bXor (a : Int) (b : Int))) (-(bXor (a : Int) (b : Int))) ≠ 0)
theorem ahdB_iff {a b : Nat} (ha : a < 2147483648) (hb : b < 2147483648) : ahdB a b = true ↔ ahd a b := by
  unfold ahdB
  rw [decide_eq_true_eq]
  exact ahd_iff ha hb
/-- sums by bits -/
theorem sumB_nat {f : Nat → Int} {a i : Nat} : sumB f (a : Int) (i + 1) = sumB f (a : Int) i + (if a.testBit i = true then f i else 0) := by
  rw [sumB]
  by_cases h : a.testBit i = true
  · rw [if_pos h, if_pos (show (a : Int) / 2 ^ i % 2 = 1 from tb_nat.mpr h)]
  · rw [if_neg h, if_neg (show ¬ (a : Int) / 2 ^ i % 2 = 1 from fun z => h (tb_nat.mp z))]
theorem sumB_bits {f : Nat → Int} {a b : Nat} : ∀ i : Nat, (∀ j, j < i → a.testBit j = b.testBit j) → sumB f (a : Int) i = sumB f (b : Int) i
  | 0, _ => rfl
  | i + 1, h => by rw [sumB_nat, sumB_nat, sumB_bits i (fun j hj => h j (by omega)), h i (by omega)]
theorem top_tb {l i j : Nat} (hl : l < 2 ^ i) : (l + 2 ^ i).testBit j = if j < i then l.testBit j else decide (j = i) := by
  have h := Nat.testBit_two_pow_mul_add (i := i) 1 (b := l) hl j
  rw [Nat.mul_one, Nat.add_comm] at h
  rw [h]
  by_cases q : j < i
  · rw [if_pos q, if_pos q]
  · rw [if_neg q, if_neg q]
    rw [show (1 : Nat) = 2 ^ 0 from rfl, Nat.testBit_two_pow]
    by_cases q2 : j = i
    · subst q2; simp
    · simp [q2]; omega
theorem sumB_top {f : Nat → Int} {l i : Nat} (hl : l < 2 ^ i) : sumB f ((l + 2 ^ i : Nat) : Int) (i + 1) = sumB f (l : Int) i + f i := by
  rw [sumB_nat, sumB_bits (b := l) i (fun j hj => by rw [top_tb hl, if_pos hj]), if_pos (by rw [top_tb hl, if_neg (by omega)]; simp)]
theorem sumB_low {f : Nat → Int} {l i : Nat} (hl : l < 2 ^ i) : sumB f (l : Int) (i + 1) = sumB f (l : Int) i := by
  rw [sumB_nat, if_neg (by rw [Nat.testBit_lt_two_pow hl]; simp)]
  omega
/-- a lot of c of the first i heaps, of a rest -/
def vl (N : Nat → Int) (p : Int) (i c : Nat) (r : Int) (l : Nat) : Prop := l < 2 ^ i ∧ cntB (l : Int) i = c ∧ sumB N (l : Int) i % p = r
def ltw (w : Nat → Int) (i a b : Nat) : Prop := sumB w (a : Int) i < sumB w (b : Int) i ∨ (sumB w (a : Int) i = sumB w (b : Int) i ∧ ahd a b)
def bt (N w : Nat → Int) (p : Int) (i c : Nat) (r : Int) (l : Nat) : Prop := vl N p i c r l ∧ ∀ l', vl N p i c r l' → l' = l ∨ ltw w i l l'
theorem ltw_trans {w : Nat → Int} {i a b c : Nat} (h1 : ltw w i a b) (h2 : ltw w i b c) : ltw w i a c := by
  rcases h1 with h1 | ⟨h1, g1⟩ <;> rcases h2 with h2 | ⟨h2, g2⟩
  · exact Or.inl (by omega)
  · exact Or.inl (by omega)
  · exact Or.inl (by omega)
  · exact Or.inr ⟨by omega, ahd_trans g1 g2⟩
theorem bt_uniq {N w : Nat → Int} {p r : Int} {i c a b : Nat} (ha : bt N w p i c r a) (hb : bt N w p i c r b) : a = b := by
  rcases ha.2 b hb.1 with q | q
  · exact q.symm
  · rcases hb.2 a ha.1 with q2 | q2
    · exact q2
    · have := ltw_trans q q2
      rcases this with z | ⟨-, z⟩
      · omega
      · exact absurd z ahd_irr
theorem mod_sbm {a x r p : Int} (hp : 2 ≤ p ∧ p ≤ 10) (hr : 0 ≤ r ∧ r < p) : (a + x) % p = r ↔ a % p = sbm r (x % p) p := by
  rw [← trn_mod hp]
  have h1 := mod_r a hp
  have h2 := mod_r x hp
  rw [eq_comm, ← sbm_trn (r := a % p) (w := r) h1 h2 hr, eq_comm]
theorem vl_succ {N : Nat → Int} {p r : Int} {i c l : Nat} (hp : 2 ≤ p ∧ p ≤ 10) (hr : 0 ≤ r ∧ r < p) : vl N p (i + 1) c r l ↔ vl N p i c r l ∨ ∃ l0, l = l0 + 2 ^ i ∧ 1 ≤ c ∧ vl N p i (c - 1) (sbm r (N i % p) p) l0 := by
  have hpw : 2 ^ (i + 1) = 2 ^ i + 2 ^ i := by rw [Nat.pow_succ]; omega
  constructor
  · rintro ⟨h1, h2, h3⟩
    by_cases q : l < 2 ^ i
    · left
      unfold cntB at h2
      rw [sumB_low q] at h2 h3
      exact ⟨q, h2, h3⟩
    · right
      obtain ⟨l0, rfl⟩ : ∃ l0, l = l0 + 2 ^ i := ⟨l - 2 ^ i, by omega⟩
      have q0 : l0 < 2 ^ i := by omega
      unfold cntB at h2
      rw [sumB_top q0] at h2 h3
      have h0 : 0 ≤ sumB (fun _ => 1) (l0 : Int) i := (cntB_r l0 i).1
      exact ⟨l0, rfl, by omega, q0, by unfold cntB; omega, (mod_sbm hp hr).mp h3⟩
  · rintro (⟨h1, h2, h3⟩ | ⟨l0, rfl, hc, h1, h2, h3⟩)
    · refine ⟨by omega, ?_, ?_⟩
      · unfold cntB at h2 ⊢
        rw [sumB_low h1]
        exact h2
      · rw [sumB_low h1]
        exact h3
    · refine ⟨by omega, ?_, ?_⟩
      · unfold cntB at h2 ⊢
        rw [sumB_top h1]
        omega
      · rw [sumB_top h1]
        exact (mod_sbm hp hr).mpr h3
/-- what a cell of the lightest holds -/
def cOk (N w : Nat → Int) (p : Int) (i c : Nat) (r L S : Int) : Prop := (L = -1 ∧ ∀ l, ¬ vl N p i c r l) ∨ ∃ l : Nat, L = l ∧ S = sumB w (l : Int) i ∧ bt N w p i c r l
theorem ltw_low {w : Nat → Int} {i a b : Nat} (ha : a < 2 ^ i) (hb : b < 2 ^ i) : ltw w (i + 1) a b ↔ ltw w i a b := by
  unfold ltw
  rw [sumB_low ha, sumB_low hb]
theorem ahd_top {i a b : Nat} (ha : a < 2 ^ i) (hb : b < 2 ^ i) (h : ahd a b) : ahd (a + 2 ^ i) (b + 2 ^ i) := by
  obtain ⟨j, h1, h2, h3⟩ := h
  have hj : j < i := by
    apply Nat.lt_of_not_le
    intro hc
    have : a < 2 ^ j := Nat.lt_of_lt_of_le ha (Nat.pow_le_pow_right (by decide) hc)
    rw [Nat.testBit_lt_two_pow this] at h1
    cases h1
  refine ⟨j, by rw [top_tb ha, if_pos hj]; exact h1, by rw [top_tb hb, if_pos hj]; exact h2, fun k hk => ?_⟩
  rw [top_tb ha, top_tb hb, if_pos (by omega), if_pos (by omega)]
  exact h3 k hk
theorem ltw_top {w : Nat → Int} {i a b : Nat} (ha : a < 2 ^ i) (hb : b < 2 ^ i) (h : ltw w i a b) : ltw w (i + 1) (a + 2 ^ i) (b + 2 ^ i) := by
  unfold ltw at *
  rw [sumB_top ha, sumB_top hb]
  rcases h with h | ⟨h, g⟩
  · exact Or.inl (by omega)
  · exact Or.inr ⟨by omega, ahd_top ha hb g⟩
theorem cOk_skip {N w : Nat → Int} {p r L S : Int} {i c : Nat} (hp : 2 ≤ p ∧ p ≤ 10) (hr : 0 ≤ r ∧ r < p) (h : cOk N w p i c r L S) (hno : c = 0 ∨ ∀ l, ¬ vl N p i (c - 1) (sbm r (N i % p) p) l) : cOk N w p (i + 1) c r L S := by
  have hiff : ∀ l, vl N p (i + 1) c r l ↔ vl N p i c r l := fun l => by
    rw [vl_succ hp hr]
    constructor
    · rintro (q | ⟨l0, -, h1, h2⟩)
      · exact q
      · rcases hno with z | z
        · omega
        · exact absurd h2 (z l0)
    · exact Or.inl
  rcases h with ⟨h1, h2⟩ | ⟨l, h1, h2, h3, h4⟩
  · exact Or.inl ⟨h1, fun l hl => h2 l ((hiff l).mp hl)⟩
  · refine Or.inr ⟨l, h1, by rw [sumB_low h3.1]; exact h2, (hiff l).mpr h3, fun l' hl' => ?_⟩
    have hl := (hiff l').mp hl'
    rcases h4 l' hl with q | q
    · exact Or.inl q
    · exact Or.inr ((ltw_low h3.1 hl.1).mpr q)
theorem cOk_offer {N w : Nat → Int} {p r L S : Int} {i c l1 : Nat} (hp : 2 ≤ p ∧ p ≤ 10) (hr : 0 ≤ r ∧ r < p) (hi : i < 20) (hc : 1 ≤ c) (h : cOk N w p i c r L S) (h1 : bt N w p i (c - 1) (sbm r (N i % p) p) l1) :
    (L = -1 ∨ sumB w (l1 : Int) i + w i < S ∨ (sumB w (l1 : Int) i + w i = S ∧ ahdB (l1 + 2 ^ i) L.toNat = true) → cOk N w p (i + 1) c r ((l1 + 2 ^ i : Nat) : Int) (sumB w (l1 : Int) i + w i)) ∧
    (¬ (L = -1 ∨ sumB w (l1 : Int) i + w i < S ∨ (sumB w (l1 : Int) i + w i = S ∧ ahdB (l1 + 2 ^ i) L.toNat = true)) → cOk N w p (i + 1) c r L S) := by
  have hb1 := h1.1.1
  have hpw : 2 ^ i ≤ 2 ^ 19 := Nat.pow_le_pow_right (by decide) (by omega)
  have e19 : (2 : Nat) ^ 19 = 524288 := rfl
  have hv : vl N p (i + 1) c r (l1 + 2 ^ i) := (vl_succ hp hr).mpr (Or.inr ⟨l1, rfl, hc, h1.1⟩)
  have hwith : ∀ l0, vl N p i (c - 1) (sbm r (N i % p) p) l0 → l0 + 2 ^ i = l1 + 2 ^ i ∨ ltw w (i + 1) (l1 + 2 ^ i) (l0 + 2 ^ i) := fun l0 hl0 => by
    rcases h1.2 l0 hl0 with q | q
    · exact Or.inl (by rw [q])
    · exact Or.inr (ltw_top hb1 hl0.1 q)
  have es := sumB_top (f := w) hb1
  constructor
  · intro hcond
    refine Or.inr ⟨l1 + 2 ^ i, rfl, es.symm, hv, fun l' hl' => ?_⟩
    rcases (vl_succ hp hr).mp hl' with q | ⟨l0, rfl, -, q⟩
    · rcases h with ⟨g1, g2⟩ | ⟨l, g1, g2, g3, g4⟩
      · exact absurd q (g2 l')
      · right
        have hlt : ltw w (i + 1) (l1 + 2 ^ i) l := by
          unfold ltw
          rw [es, sumB_low g3.1, ← g2]
          rcases hcond with z | z | ⟨z1, z2⟩
          · omega
          · exact Or.inl z
          · refine Or.inr ⟨z1, ?_⟩
            rw [g1, Int.toNat_natCast] at z2
            have := g3.1
            exact (ahdB_iff (by omega) (by omega)).mp z2
        rcases g4 l' q with z | z
        · rw [z]; exact hlt
        · exact ltw_trans hlt ((ltw_low g3.1 q.1).mpr z)
    · exact hwith l0 q
  · intro hcond
    rcases h with ⟨g1, g2⟩ | ⟨l, g1, g2, g3, g4⟩
    · exact absurd (Or.inl g1) hcond
    · refine Or.inr ⟨l, g1, by rw [sumB_low g3.1]; exact g2, (vl_succ hp hr).mpr (Or.inl g3), fun l' hl' => ?_⟩
      have hne : l ≠ l1 + 2 ^ i := by have := g3.1; omega
      have hlt : ltw w (i + 1) l (l1 + 2 ^ i) := by
        unfold ltw
        rw [es, sumB_low g3.1, ← g2]
        by_cases z : S < sumB w (l1 : Int) i + w i
        · exact Or.inl z
        · have z2 : sumB w (l1 : Int) i + w i = S := by
            have : ¬ sumB w (l1 : Int) i + w i < S := fun y => hcond (Or.inr (Or.inl y))
            omega
          refine Or.inr ⟨z2.symm, ?_⟩
          rcases ahd_total hne with y | y
          · exact y
          · exfalso
            apply hcond
            refine Or.inr (Or.inr ⟨z2, ?_⟩)
            rw [g1, Int.toNat_natCast]
            have := g3.1
            exact (ahdB_iff (by omega) (by omega)).mpr y
      rcases (vl_succ hp hr).mp hl' with q | ⟨l0, rfl, -, q⟩
      · rcases g4 l' q with z | z
        · exact Or.inl z
        · exact Or.inr ((ltw_low g3.1 q.1).mpr z)
      · right
        rcases hwith l0 q with z | z
        · rw [z]; exact hlt
        · exact ltw_trans hlt z

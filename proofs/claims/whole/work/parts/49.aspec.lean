/-! ===== lots apart: rows, and sets told the other way round ===== -/
theorem lt_tbt : ∀ (i : Nat) {x y : Nat}, x.testBit i = false → y.testBit i = true → (∀ j, i < j → x.testBit j = y.testBit j) → x < y
  | 0, x, y, hx, hy, h => by
    rw [Nat.testBit_zero] at hx hy
    have e : x / 2 = y / 2 := Nat.eq_of_testBit_eq (fun j => by rw [Nat.testBit_div_two, Nat.testBit_div_two]; exact h (j + 1) (by omega))
    have h1 := of_decide_eq_false hx
    have h2 := of_decide_eq_true hy
    omega
  | i + 1, x, y, hx, hy, h => by
    have := lt_tbt i (x := x / 2) (y := y / 2) (by rw [Nat.testBit_div_two]; exact hx) (by rw [Nat.testBit_div_two]; exact hy) (fun j hj => by rw [Nat.testBit_div_two, Nat.testBit_div_two]; exact h (j + 1) (by omega))
    omega
theorem addF_sumB (f : Nat → Int) (n : Nat) : addF (fun S => sumB f (S : Int) n) := by
  intro U S h
  show sumB f ((S ^^^ U : Nat) : Int) n + sumB f (U : Int) n = sumB f (S : Int) n
  induction n with
  | zero => rfl
  | succ n ih =>
    rw [sumB_nat, sumB_nat, sumB_nat]
    have h1 := x_tb (j := n) h
    have h2 := h n
    cases q : S.testBit n <;> cases q2 : U.testBit n <;> cases q3 : (S ^^^ U).testBit n <;> simp_all <;> omega
def teB (N : Nat → Int) (p : Int) (n : Nat) (k : Int) : Nat → Prop := teP (fun S => cntB (S : Int) n) (fun S => sumB N (S : Int) n) p k
def elg (te : Nat → Prop) (S r L : Nat) : Prop := sb L S ∧ te L ∧ mxP te (S ^^^ L) r
def fsP (te : Nat → Prop) (S r L : Nat) : Prop := elg te S r L ∧ ∀ L', elg te S r L' → L' = L ∨ ahd L L'
def fsG (te : Nat → Prop) (S r L : Nat) : Prop := elg te S r L ∧ ∀ L', elg te S r L' → L' ≤ L
theorem fsP_uniq {te : Nat → Prop} {S r a b : Nat} (ha : fsP te S r a) (hb : fsP te S r b) : a = b := by
  rcases ha.2 b hb.1 with z | z
  · exact z.symm
  · rcases hb.2 a ha.1 with y | y
    · exact y
    · exact absurd (ahd_trans z y) ahd_irr
def rowQ (te : Nat → Prop) (full A : Nat) : Nat → Nat → Prop
  | 0, S => S = full
  | t + 1, S => ∃ S' L, rowQ te full A t S' ∧ fsP te S' (A - t - 1) L ∧ S = S' ^^^ L
def rowG (te : Nat → Prop) (full A : Nat) : Nat → Nat → Prop
  | 0, S => S = full
  | t + 1, S => ∃ S' L, rowG te full A t S' ∧ fsG te S' (A - t - 1) L ∧ S = S' ^^^ L
theorem rowQ_uniq {te : Nat → Prop} {full A : Nat} : ∀ (t a b : Nat), rowQ te full A t a → rowQ te full A t b → a = b
  | 0, a, b, ha, hb => by
    have h1 : a = full := ha
    have h2 : b = full := hb
    rw [h1, h2]
  | t + 1, a, b, ⟨S, L, h1, h2, h3⟩, ⟨S', L', g1, g2, g3⟩ => by
    have e := rowQ_uniq t S S' h1 g1
    subst e
    rw [h3, g3, fsP_uniq h2 g2]
def aptP (te : Nat → Prop) (full : Nat) (i a : Int) : Prop := ∃ A : Nat, mxP te full A ∧ ((i = -1 ∧ a = A) ∨ ((A : Int) ≤ i ∧ a = -1) ∨ (0 ≤ i ∧ i < A ∧ ∃ S L : Nat, rowQ te full A i.toNat S ∧ fsP te S (A - i.toNat - 1) L ∧ a = L))
theorem aptP_uniq {te : Nat → Prop} {full : Nat} {i a b : Int} (ha : aptP te full i a) (hb : aptP te full i b) : a = b := by
  obtain ⟨A, a1, a2⟩ := ha
  obtain ⟨B, b1, b2⟩ := hb
  have e := mxP_uniq a1 b1
  subst e
  rcases a2 with ⟨x1, x2⟩ | ⟨x1, x2⟩ | ⟨x1, x2, S, L, x3, x4, x5⟩ <;> rcases b2 with ⟨y1, y2⟩ | ⟨y1, y2⟩ | ⟨y1, y2, S', L', y3, y4, y5⟩
  · omega
  · omega
  · omega
  · omega
  · omega
  · omega
  · omega
  · omega
  · have e := rowQ_uniq _ _ _ x3 y3
    subst e
    rw [x5, y5, fsP_uniq x4 y4]
theorem elg_ex {te : Nat → Prop} {S r : Nat} (h : mxP te S (r + 1)) : ∃ L, elg te S r L := by
  obtain ⟨L, l1, l2, l3⟩ := pk_split h.1
  refine ⟨L, l1, l2, l3, fun j hj => ?_⟩
  have := h.2 (j + 1) (pk_add l2 l1 hj)
  omega
/-- what may come behind a lot could have come in its place -/
theorem elg_up {te : Nat → Prop} {S r L L' : Nat} (hm : mxP te S (r + 2)) (hL : elg te S (r + 1) L) (h : elg te (S ^^^ L) r L') : elg te S (r + 1) L' := by
  obtain ⟨l1, l2, l3⟩ := hL
  obtain ⟨m1, m2, m3⟩ := h
  have hS : sb L' S := sb_tr m1 (sb_x l1)
  have hd : sb L (S ^^^ L') := fun i hi => by
    rw [x_tb hS]
    exact ⟨l1 i hi, fun z => ((x_tb l1).mp (m1 i z)).2 hi⟩
  refine ⟨hS, m2, ?_, fun j hj => ?_⟩
  · apply pk_add l2 hd
    rw [Nat.xor_assoc, Nat.xor_comm L' L, ← Nat.xor_assoc]
    exact m3.1
  · have := hm.2 (j + 1) (pk_add m2 hS hj)
    omega
/-- the other way round -/
def rvA (n S : Nat) : Nat → Nat
  | 0 => 0
  | b + 1 => rvA n S b ||| (if S.testBit b = true then 2 ^ (n - 1 - b) else 0)
def rvN (n S : Nat) : Nat := rvA n S n
theorem rvA_tb {n S : Nat} : ∀ (b j : Nat), b ≤ n → (rvA n S b).testBit j = (decide (j < n ∧ n - 1 - j < b) && S.testBit (n - 1 - j))
  | 0, j, _ => by rw [rvA, decide_eq_false (by omega)]; simp
  | b + 1, j, hb => by
    rw [rvA, Nat.testBit_or, rvA_tb b j (by omega)]
    by_cases h : j < n ∧ n - 1 - j = b
    · rw [decide_eq_false (show ¬ (j < n ∧ n - 1 - j < b) by omega), decide_eq_true (show j < n ∧ n - 1 - j < b + 1 by omega), h.2]
      cases q : S.testBit b with
      | true => rw [if_pos rfl, Nat.testBit_two_pow, decide_eq_true (by omega)]; rfl
      | false => simp
    · have e : (if S.testBit b = true then 2 ^ (n - 1 - b) else 0).testBit j = false := by
        split
        · rw [Nat.testBit_two_pow]; exact decide_eq_false (by omega)
        · simp
      rw [e, Bool.or_false]
      congr 1
      by_cases h2 : j < n ∧ n - 1 - j < b
      · rw [decide_eq_true h2, decide_eq_true (by omega)]
      · rw [decide_eq_false h2, decide_eq_false (by omega)]
theorem rvN_tb {n S j : Nat} : (rvN n S).testBit j = (decide (j < n) && S.testBit (n - 1 - j)) := by
  unfold rvN
  rw [rvA_tb n j (Nat.le_refl n)]
  by_cases h : j < n
  · rw [decide_eq_true h, decide_eq_true (by omega)]
  · rw [decide_eq_false h, decide_eq_false (by omega)]
theorem rvN_lt {n S : Nat} : rvN n S < 2 ^ n := by
  apply Nat.lt_pow_two_of_testBit
  intro j hj
  rw [rvN_tb, decide_eq_false (by omega)]
  rfl
theorem lt_tb {n S j : Nat} (h : S < 2 ^ n) (hj : S.testBit j = true) : j < n := by
  apply Nat.lt_of_not_le
  intro z
  rw [Nat.testBit_lt_two_pow (Nat.lt_of_lt_of_le h (Nat.pow_le_pow_right (by decide) z))] at hj
  cases hj
theorem sb_lt {n L S : Nat} (h : sb L S) (hS : S < 2 ^ n) : L < 2 ^ n := by
  apply Nat.lt_pow_two_of_testBit
  intro j hj
  cases q : L.testBit j with
  | false => rfl
  | true => have := lt_tb hS (h j q); omega
theorem rvN_rvN {n S : Nat} (h : S < 2 ^ n) : rvN n (rvN n S) = S := by
  apply Nat.eq_of_testBit_eq
  intro j
  rw [rvN_tb, rvN_tb]
  by_cases hj : j < n
  · rw [decide_eq_true hj, decide_eq_true (show n - 1 - j < n by omega), show n - 1 - (n - 1 - j) = j by omega]; rfl
  · rw [decide_eq_false hj, Nat.testBit_lt_two_pow (x := S) (i := j) (Nat.lt_of_lt_of_le h (Nat.pow_le_pow_right (by decide) (by omega)))]; rfl
theorem rvN_x {n S L : Nat} : rvN n (S ^^^ L) = rvN n S ^^^ rvN n L := by
  apply Nat.eq_of_testBit_eq
  intro j
  rw [Nat.testBit_xor, rvN_tb, rvN_tb, rvN_tb, Nat.testBit_xor]
  cases decide (j < n) <;> simp
theorem rvN_sb {n S L : Nat} (h : sb L S) : sb (rvN n L) (rvN n S) := fun j hj => by
  rw [rvN_tb, Bool.and_eq_true] at hj ⊢
  exact ⟨hj.1, h _ hj.2⟩
theorem rvN_0 {n : Nat} : rvN n 0 = 0 := by
  apply Nat.eq_of_testBit_eq
  intro j
  rw [rvN_tb]
  simp
theorem rvN_sum {f : Nat → Int} {n S : Nat} : ∀ m : Nat, m ≤ n → sumB (fun b => f (n - 1 - b)) (S : Int) m + sumB f (rvN n S : Int) (n - m) = sumB f (rvN n S : Int) n
  | 0, _ => by simp [sumB]
  | m + 1, h => by
    have ih := rvN_sum (f := f) (n := n) (S := S) m (by omega)
    rw [sumB_nat]
    rw [show n - m = (n - (m + 1)) + 1 by omega, sumB_nat, rvN_tb, decide_eq_true (show n - (m + 1) < n by omega), Bool.true_and, show n - 1 - (n - (m + 1)) = m by omega] at ih
    rw [show n - 1 - m = n - (m + 1) by omega]
    omega
theorem rvN_sum' {f : Nat → Int} {n S : Nat} : sumB (fun b => f (n - 1 - b)) (S : Int) n = sumB f (rvN n S : Int) n := by
  have h := rvN_sum (f := f) (S := S) n (Nat.le_refl n)
  rw [Nat.sub_self] at h
  simp only [sumB] at h
  omega
/-- going over -/
theorem rv_tU {te te' : Nat → Prop} {n : Nat} (h : ∀ L, L < 2 ^ n → te' L → te (rvN n L)) : ∀ (j U : Nat), U < 2 ^ n → tU te' j U → tU te j (rvN n U)
  | 0, U, _, hU => by
    have e : U = 0 := hU
    rw [e, rvN_0]
    rfl
  | j + 1, U, hl, ⟨L, l1, l2, l3⟩ => ⟨rvN n L, rvN_sb l1, h L (sb_lt l1 hl) l2, by rw [← rvN_x]; exact rv_tU h j _ (sb_lt (sb_x l1) hl) l3⟩
theorem rv_pk {te te' : Nat → Prop} {n j S : Nat} (h : ∀ L, L < 2 ^ n → te' L → te (rvN n L)) (hS : S < 2 ^ n) (q : pk te' j S) : pk te j (rvN n S) := by
  obtain ⟨U, u1, u2⟩ := q
  exact ⟨rvN n U, rvN_sb u1, rv_tU h j U (sb_lt u1 hS) u2⟩
theorem rv_mx {te te' : Nat → Prop} {n S a : Nat} (h : ∀ L, L < 2 ^ n → (te' L ↔ te (rvN n L))) (hS : S < 2 ^ n) (q : mxP te' S a) : mxP te (rvN n S) a := by
  refine ⟨rv_pk (fun L hL z => (h L hL).mp z) hS q.1, fun j hj => q.2 j ?_⟩
  have := rv_pk (te := te') (te' := te) (n := n) (fun L hL z => (h _ rvN_lt).mpr (by rw [rvN_rvN hL]; exact z)) rvN_lt hj
  rw [rvN_rvN hS] at this
  exact this
theorem rv_elg {te te' : Nat → Prop} {n S r L : Nat} (h : ∀ L, L < 2 ^ n → (te' L ↔ te (rvN n L))) (hS : S < 2 ^ n) (q : elg te' S r L) : elg te (rvN n S) r (rvN n L) := by
  obtain ⟨q1, q2, q3⟩ := q
  refine ⟨rvN_sb q1, (h L (sb_lt q1 hS)).mp q2, ?_⟩
  rw [← rvN_x]
  exact rv_mx h (sb_lt (sb_x q1) hS) q3
/-- the greater comes first -/
theorem rv_ahd {n a b : Nat} (ha : a < 2 ^ n) (hb : b < 2 ^ n) (h : b < a) : ahd (rvN n a) (rvN n b) := by
  rcases ahd_total (a := rvN n a) (b := rvN n b) (fun z => by have := congrArg (rvN n) z; rw [rvN_rvN ha, rvN_rvN hb] at this; omega) with q | ⟨j, j1, j2, j3⟩
  · exact q
  · exfalso
    rw [rvN_tb, Bool.and_eq_true, decide_eq_true_eq] at j1
    rw [rvN_tb, decide_eq_true j1.1, Bool.true_and] at j2
    have : a < b := by
      apply lt_tbt (n - 1 - j) j2 j1.2
      intro i hi
      by_cases hin : i < n
      · have h3 := j3 (n - 1 - i) (by omega)
        rw [rvN_tb, rvN_tb, decide_eq_true (show n - 1 - i < n by omega), Bool.true_and, Bool.true_and, show n - 1 - (n - 1 - i) = i by omega] at h3
        exact h3.symm
      · rw [Nat.testBit_lt_two_pow (Nat.lt_of_lt_of_le ha (Nat.pow_le_pow_right (by decide) (by omega))), Nat.testBit_lt_two_pow (Nat.lt_of_lt_of_le hb (Nat.pow_le_pow_right (by decide) (by omega)))]
    omega
theorem rv_fs {te te' : Nat → Prop} {n S r L : Nat} (h : ∀ L, L < 2 ^ n → (te' L ↔ te (rvN n L))) (hS : S < 2 ^ n) (q : fsG te' S r L) : fsP te (rvN n S) r (rvN n L) := by
  refine ⟨rv_elg h hS q.1, fun L' hL' => ?_⟩
  have h' : ∀ L, L < 2 ^ n → (te L ↔ te' (rvN n L)) := fun L hL => by rw [h _ rvN_lt, rvN_rvN hL]
  have hl : L' < 2 ^ n := sb_lt hL'.1 rvN_lt
  have h1 := rv_elg h' rvN_lt hL'
  rw [rvN_rvN hS] at h1
  have h2 := q.2 _ h1
  rcases (show rvN n L' = L ∨ rvN n L' < L by omega) with z | z
  · left
    rw [← z, rvN_rvN hl]
  · right
    have := rv_ahd (sb_lt q.1.1 hS) rvN_lt z
    rw [rvN_rvN hl] at this
    exact this
theorem rv_row {te te' : Nat → Prop} {n A full : Nat} (h : ∀ L, L < 2 ^ n → (te' L ↔ te (rvN n L))) (hf : full < 2 ^ n) (hr : rvN n full = full) : ∀ (t S : Nat), rowG te' full A t S → S < 2 ^ n ∧ rowQ te full A t (rvN n S)
  | 0, S, q => by
    have e : S = full := q
    rw [e]
    exact ⟨hf, hr⟩
  | t + 1, S, ⟨S', L, g1, g2, g3⟩ => by
    obtain ⟨h1, h2⟩ := rv_row h hf hr t S' g1
    rw [g3]
    exact ⟨sb_lt (sb_x g2.1.1) h1, rvN n S', rvN n L, h2, rv_fs h h1 g2, rvN_x⟩
theorem rv_full {n : Nat} : rvN n (2 ^ n - 1) = 2 ^ n - 1 := by
  apply Nat.eq_of_testBit_eq
  intro j
  rw [rvN_tb, Nat.testBit_two_pow_sub_one, Nat.testBit_two_pow_sub_one]
  by_cases hj : j < n
  · rw [decide_eq_true hj, decide_eq_true (show n - 1 - j < n by omega)]; rfl
  · rw [decide_eq_false hj]; rfl
theorem te_rv {N : Nat → Int} {p k : Int} {n L : Nat} : teB (fun b => N (n - 1 - b)) p n k L ↔ teB N p n k (rvN n L) := by
  unfold teB teP
  show cntB (L : Int) n = k ∧ sumB (fun b => N (n - 1 - b)) (L : Int) n % p = 0 ↔ cntB (rvN n L : Int) n = k ∧ sumB N (rvN n L : Int) n % p = 0
  rw [rvN_sum']
  have e : cntB (L : Int) n = cntB (rvN n L : Int) n := by
    unfold cntB
    exact rvN_sum' (f := fun _ => 1)
  rw [e]

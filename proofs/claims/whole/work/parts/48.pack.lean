/-! ===== lots apart: sets as numbers ===== -/
def sb (L S : Nat) : Prop := ∀ j, L.testBit j = true → S.testBit j = true
theorem sb_refl (S : Nat) : sb S S := fun _ h => h
theorem sb_tr {a b c : Nat} (h : sb a b) (h2 : sb b c) : sb a c := fun j z => h2 j (h j z)
theorem sb_0 (S : Nat) : sb 0 S := fun j h => by simp at h
theorem sb_x {L S : Nat} (h : sb L S) : sb (S ^^^ L) S := fun j z => by
  rw [Nat.testBit_xor] at z
  cases q : S.testBit j with
  | true => rfl
  | false =>
    cases q2 : L.testBit j with
    | true => exact absurd (h j q2) (by rw [q]; decide)
    | false => rw [q, q2] at z; exact absurd z (by decide)
theorem x_tb {L S j : Nat} (h : sb L S) : (S ^^^ L).testBit j = true ↔ S.testBit j = true ∧ ¬ L.testBit j = true := by
  rw [Nat.testBit_xor]
  have := h j
  cases q : S.testBit j <;> cases q2 : L.testBit j <;> simp_all
theorem x_x {S L : Nat} : S ^^^ L ^^^ L = S := by
  apply Nat.eq_of_testBit_eq
  intro j
  rw [Nat.testBit_xor, Nat.testBit_xor]
  cases S.testBit j <;> cases L.testBit j <;> rfl
theorem x_self {S : Nat} : S ^^^ S = 0 := Nat.xor_self S
theorem sb_ext {a b : Nat} (h : sb a b) (h2 : sb b a) : a = b := by
  apply Nat.eq_of_testBit_eq
  intro j
  have h1 := h j
  have h3 := h2 j
  cases q : a.testBit j <;> cases q2 : b.testBit j <;> simp_all
theorem sb_out {U S : Nat} (h : sb U S) (hne : U ≠ S) : ∃ b, S.testBit b = true ∧ ¬ U.testBit b = true := by
  apply Classical.byContradiction
  intro z
  refine hne (sb_ext h fun j hj => Classical.byContradiction fun q => z ⟨j, hj, q⟩)
theorem sb_mono_x {a b L : Nat} (h : sb a b) (hL : sb L a) : sb (a ^^^ L) (b ^^^ L) := fun j z => by
  rw [x_tb hL] at z
  rw [x_tb (sb_tr hL h)]
  exact ⟨h j z.1, z.2⟩
theorem p2_sb {S b : Nat} (h : S.testBit b = true) : sb (2 ^ b) S := fun j z => by
  rw [Nat.testBit_two_pow, decide_eq_true_eq] at z
  rw [← z]; exact h
theorem sb_xb {U S b : Nat} (h : sb U S) (hb : S.testBit b = true) (hn : ¬ U.testBit b = true) : sb U (S ^^^ 2 ^ b) := fun j z => by
  rw [x_tb (p2_sb hb)]
  refine ⟨h j z, fun y => ?_⟩
  rw [Nat.testBit_two_pow, decide_eq_true_eq] at y
  rw [← y] at z
  exact hn z
def tU (te : Nat → Prop) : Nat → Nat → Prop
  | 0, S => S = 0
  | j + 1, S => ∃ L, sb L S ∧ te L ∧ tU te j (S ^^^ L)
def pk (te : Nat → Prop) (j S : Nat) : Prop := ∃ U, sb U S ∧ tU te j U
def mxP (te : Nat → Prop) (S a : Nat) : Prop := pk te a S ∧ ∀ j, pk te j S → j ≤ a
theorem mxP_uniq {te : Nat → Prop} {S a b : Nat} (ha : mxP te S a) (hb : mxP te S b) : a = b := by
  have h1 := ha.2 b hb.1
  have h2 := hb.2 a ha.1
  omega
theorem pk_mono {te : Nat → Prop} {j S S' : Nat} (h : sb S S') (q : pk te j S) : pk te j S' := by
  obtain ⟨U, u1, u2⟩ := q
  exact ⟨U, sb_tr u1 h, u2⟩
theorem pk_add {te : Nat → Prop} {j S L : Nat} (hL : te L) (h : sb L S) (q : pk te j (S ^^^ L)) : pk te (j + 1) S := by
  obtain ⟨U, u1, u2⟩ := q
  have hd : ∀ i, U.testBit i = true → ¬ L.testBit i = true := fun i hi => ((x_tb h).mp (u1 i hi)).2
  refine ⟨U ^^^ L, fun i hi => ?_, L, fun i hi => ?_, hL, by rw [x_x]; exact u2⟩
  · rw [Nat.testBit_xor] at hi
    cases q : L.testBit i with
    | true => exact h i q
    | false => rw [q] at hi; exact (sb_x h) i (u1 i (by simpa using hi))
  · rw [Nat.testBit_xor, hi]
    have := hd i
    cases q : U.testBit i with
    | false => rfl
    | true => exact absurd hi (this q)
theorem pk_split {te : Nat → Prop} {j S : Nat} (q : pk te (j + 1) S) : ∃ L, sb L S ∧ te L ∧ pk te j (S ^^^ L) := by
  obtain ⟨U, u1, L, l1, l2, l3⟩ := q
  exact ⟨L, sb_tr l1 u1, l2, U ^^^ L, sb_mono_x u1 l1, l3⟩
theorem tU_pull {te : Nat → Prop} {b : Nat} : ∀ (j U : Nat), tU te (j + 1) U → U.testBit b = true → ∃ L, sb L U ∧ te L ∧ L.testBit b = true ∧ tU te j (U ^^^ L)
  | 0, U, ⟨L, l1, l2, l3⟩, hb => by
    have e : U = L := by
      have : U ^^^ L = 0 := l3
      have h2 : U ^^^ L ^^^ L = 0 ^^^ L := by rw [this]
      rw [x_x, Nat.zero_xor] at h2
      exact h2
    exact ⟨L, l1, l2, by rw [← e]; exact hb, l3⟩
  | j + 1, U, ⟨L, l1, l2, l3⟩, hb => by
    cases q : L.testBit b with
    | true => exact ⟨L, l1, l2, q, l3⟩
    | false =>
      have hb2 : (U ^^^ L).testBit b = true := by rw [Nat.testBit_xor, hb, q]; rfl
      obtain ⟨M, m1, m2, m3, m4⟩ := tU_pull j (U ^^^ L) l3 hb2
      have hML : ∀ i, M.testBit i = true → ¬ L.testBit i = true := fun i hi => ((x_tb l1).mp (m1 i hi)).2
      refine ⟨M, sb_tr m1 (sb_x l1), m2, m3, L, fun i hi => ?_, l2, ?_⟩
      · rw [x_tb (sb_tr m1 (sb_x l1))]
        exact ⟨l1 i hi, fun z => hML i z hi⟩
      · rw [Nat.xor_assoc, Nat.xor_comm M L, ← Nat.xor_assoc]
        exact m4
/-- the reference's step -/
theorem mx_ref {te : Nat → Prop} {S b best : Nat} {A : Nat → Nat} (hb : S.testBit b = true) (h0 : mxP te (S ^^^ 2 ^ b) (A (S ^^^ 2 ^ b))) (hA : ∀ L, sb L S → L.testBit b = true → mxP te (S ^^^ L) (A (S ^^^ L)))
    (h1 : A (S ^^^ 2 ^ b) ≤ best) (h2 : ∀ L, sb L S → L.testBit b = true → te L → A (S ^^^ L) + 1 ≤ best) (h3 : best = A (S ^^^ 2 ^ b) ∨ ∃ L, sb L S ∧ L.testBit b = true ∧ te L ∧ best = A (S ^^^ L) + 1) : mxP te S best := by
  refine ⟨?_, fun j hj => ?_⟩
  · rcases h3 with z | ⟨L, z1, z2, z3, z4⟩
    · rw [z]; exact pk_mono (sb_x (p2_sb hb)) h0.1
    · rw [z4]; exact pk_add z3 z1 (hA L z1 z2).1
  · obtain ⟨U, u1, u2⟩ := hj
    cases q : U.testBit b with
    | false => exact Nat.le_trans (h0.2 j ⟨U, sb_xb u1 hb (by rw [q]; decide), u2⟩) h1
    | true =>
      cases j with
      | zero => exact Nat.zero_le _
      | succ j =>
        obtain ⟨L, l1, l2, l3, l4⟩ := tU_pull j U u2 q
        have h4 := (hA L (sb_tr l1 u1) l3).2 j ⟨U ^^^ L, sb_mono_x u1 l1, l4⟩
        have h5 := h2 L (sb_tr l1 u1) l3 l2
        omega
/-! sizes and sums -/
def addF (c : Nat → Int) : Prop := ∀ U S, sb U S → c (S ^^^ U) + c U = c S
theorem addF_0 {c : Nat → Int} (h : addF c) : c 0 = 0 := by
  have := h 0 0 (sb_0 0)
  rw [x_self] at this
  omega
def teP (c s : Nat → Int) (p k : Int) : Nat → Prop := fun L => c L = k ∧ s L % p = 0
theorem tU_card {c s : Nat → Int} {p k : Int} (hc : addF c) : ∀ (j U : Nat), tU (teP c s p k) j U → c U = j * k
  | 0, U, h => by
    have h1 : U = 0 := h
    rw [h1, addF_0 hc]; simp
  | j + 1, U, ⟨L, l1, l2, l3⟩ => by
    have h1 := tU_card hc j _ l3
    have h2 := hc L U l1
    rw [Int.natCast_add, Int.add_mul]
    have h3 := l2.1
    omega
theorem tU_rest {c s : Nat → Int} {p k : Int} (hs : addF s) : ∀ (j U : Nat), tU (teP c s p k) j U → s U % p = 0
  | 0, U, h => by
    have h1 : U = 0 := h
    rw [h1, addF_0 hs]; exact Int.zero_emod p
  | j + 1, U, ⟨L, l1, l2, l3⟩ => by
    have h1 := tU_rest hs j _ l3
    have h2 := hs L U l1
    rw [← h2, Int.add_emod, h1, l2.2]
    exact Int.zero_emod p
def lay (c s : Nat → Int) (p k : Int) (S : Nat) : Prop := ∃ j U, sb U S ∧ tU (teP c s p k) j U ∧ c S < c U + k
theorem mulk {j : Nat} {k x : Int} (hk : 1 ≤ k) (h0 : 0 ≤ x) (hx : x < k) (h : ((j : Int) * k + x) % k = 0) : x = 0 := by
  rw [Int.add_comm, Int.add_mul_emod_self_right, Int.emod_eq_of_lt h0 hx] at h
  exact h
theorem mulk2 {j : Nat} {k x : Int} (hk : 1 ≤ k) (h0 : 1 ≤ x) (hx : x ≤ k) (h : ((j : Int) * k + x) % k = 0) : x = k := by
  rcases (show x = k ∨ x < k by omega) with z | z
  · exact z
  · have := mulk hk (by omega) z h
    omega
/-- the class's step -/
theorem lay_step {c s : Nat → Int} {p k : Int} {S : Nat} (hc : addF c) (hs : addF s) (hk : 1 ≤ k) (hc0 : ∀ U, 0 ≤ c U) (h1 : ∀ b, S.testBit b = true → c (2 ^ b) = 1) (hS : S ≠ 0) :
    lay c s p k S ↔ (∃ b, S.testBit b = true ∧ lay c s p k (S ^^^ 2 ^ b)) ∧ (¬ c S % k = 0 ∨ s S % p = 0) := by
  constructor
  · rintro ⟨j, U, u1, u2, u3⟩
    have hcU := tU_card hc j U u2
    by_cases q : U = S
    · subst q
      refine ⟨?_, Or.inr (tU_rest hs j U u2)⟩
      cases j with
      | zero => exact absurd u2 hS
      | succ j =>
        obtain ⟨L, l1, l2, l3⟩ := u2
        have hL0 : L ≠ 0 := fun z => by have := l2.1; rw [z, addF_0 hc] at this; omega
        obtain ⟨b, hb⟩ := Nat.exists_testBit_of_ne_zero hL0
        have hbU := l1 b hb
        refine ⟨b, hbU, j, U ^^^ L, fun i hi => ?_, l3, ?_⟩
        · rw [x_tb (p2_sb hbU)]
          rw [x_tb l1] at hi
          refine ⟨hi.1, fun y => ?_⟩
          rw [Nat.testBit_two_pow, decide_eq_true_eq] at y
          rw [← y] at hi
          exact hi.2 hb
        · have e1 := hc _ _ (p2_sb hbU)
          have e2 := hc _ _ l1
          have e3 := h1 b hbU
          have e4 := l2.1
          omega
    · obtain ⟨b, b1, b2⟩ := sb_out u1 q
      have e1 := hc _ _ (p2_sb b1)
      have e3 := h1 b b1
      have e4 := hc _ _ (sb_xb u1 b1 b2)
      have e5 := hc0 (S ^^^ 2 ^ b ^^^ U)
      refine ⟨⟨b, b1, j, U, sb_xb u1 b1 b2, u2, by omega⟩, Or.inl fun z => ?_⟩
      have := mulk (j := j) (k := k) (x := c S - c U) hk (by omega) (by omega) (by rw [← hcU, show c U + (c S - c U) = c S by omega]; exact z)
      omega
  · rintro ⟨⟨b, b1, j, U, u1, u2, u3⟩, hor⟩
    have hcU := tU_card hc j U u2
    have e1 := hc _ _ (p2_sb b1)
    have e3 := h1 b b1
    have hUS := sb_tr u1 (sb_x (p2_sb b1))
    have e4 := hc _ _ u1
    have e5 := hc0 (S ^^^ 2 ^ b ^^^ U)
    have e6 := hc _ _ hUS
    by_cases q : c S % k = 0
    · have hx := mulk2 (j := j) (k := k) (x := c S - c U) hk (by omega) (by omega) (by rw [← hcU, show c U + (c S - c U) = c S by omega]; exact q)
      have hr : s S % p = 0 := hor.elim (fun z => absurd q z) id
      have e7 := hs _ _ hUS
      have hUr := tU_rest hs j U u2
      refine ⟨j + 1, S, sb_refl S, ⟨S ^^^ U, sb_x hUS, ⟨by omega, ?_⟩, ?_⟩, by omega⟩
      · rw [show s (S ^^^ U) = s S - s U by omega, Int.sub_emod, hr, hUr]
        simp
      · rw [Nat.xor_comm S U, ← Nat.xor_assoc, Nat.xor_comm S U, Nat.xor_assoc, x_self, Nat.xor_zero]
        exact u2
    · refine ⟨j, U, hUS, u2, ?_⟩
      rcases (show c S < c U + k ∨ c S = c U + k by omega) with z | z
      · exact z
      · exact absurd (by rw [z, hcU, Int.add_emod_right, Int.mul_emod_left]) q
theorem mx_step {c s : Nat → Int} {p k : Int} {S m r : Nat} {A : Nat → Nat} (hc : addF c) (hs : addF s) (hk : 1 ≤ k) (hc0 : ∀ U, 0 ≤ c U) (h1 : ∀ b, S.testBit b = true → c (2 ^ b) = 1) (hS : S ≠ 0)
    (hA : ∀ b, S.testBit b = true → mxP (teP c s p k) (S ^^^ 2 ^ b) (A (S ^^^ 2 ^ b))) (hm : ∀ b, S.testBit b = true → A (S ^^^ 2 ^ b) ≤ m) (hm2 : m = 0 ∨ ∃ b, S.testBit b = true ∧ m = A (S ^^^ 2 ^ b))
    (hr : (((∃ b, S.testBit b = true ∧ lay c s p k (S ^^^ 2 ^ b)) ∧ c S % k = 0 ∧ s S % p = 0) ∧ r = (c S / k).toNat) ∨ (¬ ((∃ b, S.testBit b = true ∧ lay c s p k (S ^^^ 2 ^ b)) ∧ c S % k = 0 ∧ s S % p = 0) ∧ r = m)) :
    mxP (teP c s p k) S r := by
  have hge : pk (teP c s p k) m S := by
    rcases hm2 with z | ⟨b, z1, z2⟩
    · rw [z]; exact ⟨0, sb_0 S, rfl⟩
    · rw [z2]; exact pk_mono (sb_x (p2_sb z1)) (hA b z1).1
  have hle : ∀ j U, sb U S → tU (teP c s p k) j U → U ≠ S → j ≤ m := fun j U u1 u2 q => by
    obtain ⟨b, b1, b2⟩ := sb_out u1 q
    exact Nat.le_trans ((hA b b1).2 j ⟨U, sb_xb u1 b1 b2, u2⟩) (hm b b1)
  have hdiv : ∀ j : Nat, c S = j * k → (c S / k).toNat = j := fun j e => by
    rw [e, Int.mul_ediv_cancel _ (by omega), Int.toNat_natCast]
  rcases hr with ⟨z, rfl⟩ | ⟨z, rfl⟩
  · obtain ⟨z1, z2, z3⟩ := z
    obtain ⟨j, U, u1, u2, u3⟩ := (lay_step hc hs hk hc0 h1 hS).mpr ⟨z1, Or.inr z3⟩
    have hcU := tU_card hc j U u2
    have e6 := hc _ _ u1
    have e7 := hc0 (S ^^^ U)
    have hx := mulk (j := j) (k := k) (x := c S - c U) hk (by omega) (by omega) (by rw [← hcU, show c U + (c S - c U) = c S by omega]; exact z2)
    refine ⟨?_, fun i hi => ?_⟩
    · rw [hdiv j (by omega)]
      exact ⟨U, u1, u2⟩
    · obtain ⟨V, v1, v2⟩ := hi
      have hcV := tU_card hc i V v2
      have e8 := hc _ _ v1
      have e9 := hc0 (S ^^^ V)
      have h8 : (i : Int) * k ≤ c S := by omega
      have h9 : (i : Int) ≤ c S / k := Int.le_ediv_of_mul_le (by omega) h8
      omega
  · refine ⟨hge, fun j hj => ?_⟩
    obtain ⟨U, u1, u2⟩ := hj
    by_cases q : U = S
    · subst q
      have hcU := tU_card hc j U u2
      have hl : lay c s p k U := ⟨j, U, u1, u2, by omega⟩
      have h3 := (lay_step hc hs hk hc0 h1 hS).mp hl
      exact absurd ⟨h3.1, by rw [hcU]; exact Int.mul_emod_left _ _, tU_rest hs j U u2⟩ z
    · exact hle j U u1 u2 q

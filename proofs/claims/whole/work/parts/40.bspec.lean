/-! ===== handed badly: counts of rests ===== -/
def sN (f : Nat → Nat) : Nat → Nat
  | 0 => 0
  | q + 1 => sN f q + f q
theorem sN_congr {f g : Nat → Nat} : ∀ q : Nat, (∀ r, r < q → f r = g r) → sN f q = sN g q
  | 0, _ => rfl
  | q + 1, h => by rw [sN, sN, sN_congr q (fun r hr => h r (by omega)), h q (by omega)]
theorem sN_mono {f g : Nat → Nat} : ∀ q : Nat, (∀ r, r < q → f r ≤ g r) → sN f q ≤ sN g q
  | 0, _ => Nat.le_refl 0
  | q + 1, h => by
    have h1 := sN_mono q (fun r hr => h r (by omega))
    have h2 := h q (by omega)
    simp only [sN]
    omega
theorem sN_le {f : Nat → Nat} : ∀ {a b : Nat}, a ≤ b → sN f a ≤ sN f b := by
  intro a b h
  induction b with
  | zero => rw [show a = 0 by omega]; exact Nat.le_refl _
  | succ b ih =>
    rcases (show a = b + 1 ∨ a ≤ b by omega) with q | q
    · rw [q]; exact Nat.le_refl _
    · have := ih q
      simp only [sN]
      omega
theorem sN_sub {S f : Nat → Nat} : ∀ q : Nat, (∀ r, r < q → f r ≤ S r) → sN (fun r => S r - f r) q + sN f q = sN S q
  | 0, _ => rfl
  | q + 1, h => by
    have h1 := sN_sub q (fun r hr => h r (by omega))
    have h2 := h q (by omega)
    simp only [sN]
    omega
def incF (f : Nat → Nat) (x : Nat) : Nat → Nat := fun r => if r = x then f r + 1 else f r
theorem incF_eq {f : Nat → Nat} {x : Nat} : incF f x x = f x + 1 := if_pos rfl
theorem incF_ne {f : Nat → Nat} {x r : Nat} (h : r ≠ x) : incF f x r = f r := if_neg h
theorem sN_inc {f : Nat → Nat} {x : Nat} : ∀ q : Nat, sN (incF f x) q = sN f q + if x < q then 1 else 0
  | 0 => rfl
  | q + 1 => by
    simp only [sN]
    rw [sN_inc q]
    by_cases h : x < q
    · rw [if_pos h, if_pos (by omega), incF_ne (by omega)]; omega
    · by_cases h2 : x = q
      · rw [if_neg h, if_pos (by omega), h2, incF_eq]; omega
      · rw [if_neg h, if_neg (by omega), incF_ne (Ne.symm h2)]; omega
theorem expd_len {f : Nat → Nat} : ∀ q : Nat, (expd f q).length = sN f q
  | 0 => rfl
  | q + 1 => by rw [expd, List.length_append, expd_len q, List.length_replicate]; rfl
theorem expd_inc {f : Nat → Nat} {x q : Nat} (hx : x < q) : (expd f q ++ [(x : Int)]).Perm (expd (incF f x) q) := by
  rw [List.perm_iff_count]
  intro a
  rw [count_snoc, expd_count, expd_count]
  by_cases h : (x : Int) = a
  · rw [if_pos h, if_pos (by omega), if_pos (by omega), ← h, Int.toNat_natCast, incF_eq]
  · rw [if_neg h]
    by_cases h2 : 0 ≤ a ∧ a < (q : Int)
    · rw [if_pos h2, if_pos h2, incF_ne (by omega)]; omega
    · rw [if_neg h2, if_neg h2]
theorem exL_sub {p : Int} {xs ys : List Int} (h : xs.Sublist ys) : ∀ (c : Nat) (r : Int), exL p xs c r = true → exL p ys c r = true := by
  induction h with
  | slnil => intro c r z; exact z
  | cons a h ih =>
    intro c r z
    unfold exL
    rw [ih c r z]
    rfl
  | cons_cons a h ih =>
    intro c r z
    unfold exL at z ⊢
    rw [Bool.or_eq_true] at z ⊢
    rcases z with z | z
    · exact Or.inl (ih c r z)
    · rw [Bool.and_eq_true] at z ⊢
      exact Or.inr ⟨z.1, ih _ _ z.2⟩
theorem expd_sub {f g : Nat → Nat} : ∀ q : Nat, (∀ r, r < q → f r ≤ g r) → (expd f q).Sublist (expd g q)
  | 0, _ => List.Sublist.refl _
  | q + 1, h => by
    rw [expd, expd]
    exact List.Sublist.append (expd_sub q (fun r hr => h r (by omega))) (List.replicate_sublist_replicate (q : Int) |>.mpr (h q (by omega)))
def noT (p : Int) (k : Nat) (f : Nat → Nat) : Prop := ¬ exL p (expd f p.toNat) k 0 = true
theorem noT_le {p : Int} {k : Nat} {f g : Nat → Nat} (h : ∀ r, r < p.toNat → f r ≤ g r) (hg : noT p k g) : noT p k f := fun z => hg (exL_sub (expd_sub _ h) _ _ z)
def badOk (S : Nat → Nat) (p : Int) (k : Nat) (g : Nat → Nat) : Prop := (∀ r, r < p.toNat → g r ≤ S r) ∧ noT p k g
def badP (S : Nat → Nat) (p : Int) (k : Nat) (a : Int) : Prop := (∃ g, badOk S p k g ∧ a = (sN g p.toNat : Int)) ∧ ∀ g, badOk S p k g → (sN g p.toNat : Int) ≤ a
theorem badP_uniq {S : Nat → Nat} {p a b : Int} {k : Nat} (ha : badP S p k a) (hb : badP S p k b) : a = b := by
  obtain ⟨⟨g, g1, g2⟩, g3⟩ := ha
  obtain ⟨⟨f, f1, f2⟩, f3⟩ := hb
  have h1 := g3 f f1
  have h2 := f3 g g1
  omega
theorem noT_0 {p : Int} {k : Nat} (hk : 1 ≤ k) : noT p k (fun _ => 0) := by
  have e : ∀ q : Nat, expd (fun _ => 0) q = [] := fun q => by
    induction q with
    | zero => rfl
    | succ q ih => rw [expd, ih]; rfl
  unfold noT
  rw [e]
  simp only [exL, Bool.and_eq_true, decide_eq_true_eq]
  omega
theorem rowP_perm {p : Int} {h : Hp} {b : Nat} {xs ys : List Int} (hp : xs.Perm ys) (hr : ∀ y ∈ xs, 0 ≤ y ∧ y < p) (q : rowP p h b xs) : rowP p h b ys := by
  intro r hr9
  obtain ⟨a1, a2, a3⟩ := q r hr9
  refine ⟨a1, by rw [← hp.length_eq]; exact a2, fun c => ?_⟩
  rw [← exL_perm hp hr c r (by omega)]
  exact a3 c
/-- what may still come behind f, of the rests from rest on -/
def extB (S f : Nat → Nat) (p : Int) (k rest : Nat) (g : Nat → Nat) : Prop := (∀ r, r < p.toNat → f r ≤ g r ∧ g r ≤ S r) ∧ (∀ r, r < rest → g r = f r) ∧ noT p k g
def handQ (S f : Nat → Nat) (p : Int) (k rest b : Nat) (h : Hp) : Option Value → Hp → Prop := fun v hx => v = none ∧ h 99 3 ≤ hx 99 3 ∧ (hx 99 3 = h 99 3 ∨ ∃ g, extB S f p k rest g ∧ hx 99 3 = (sN g p.toNat : Int)) ∧ (∀ g, extB S f p k rest g → (sN g p.toNat : Int) ≤ hx 99 3) ∧ ∀ a i, ¬ (102 + b ≤ a ∧ a < 122) → ¬ (a = 99 ∧ i = 3) → hx a i = h a i
def handI (S f : Nat → Nat) (p : Int) (k rest b : Nat) (left : Int) (h : Hp) : Prop := h 1 5 = p ∧ (2 ≤ p ∧ p ≤ 10) ∧ (1 ≤ k ∧ k ≤ 20) ∧ (rest : Int) < p ∧ (∀ r, r < p.toNat → f r ≤ S r) ∧ (∀ r, rest < r → r < p.toNat → f r = 0) ∧ sN f p.toNat = b ∧ noT p k f ∧ rowP p h b (expd f p.toNat) ∧ (∀ r : Nat, (r : Int) < p → h 122 r = (S r : Int)) ∧ sN S p.toNat ≤ 20 ∧ (0 ≤ h 99 3 ∧ h 99 3 ≤ 20) ∧ left + (sN (fun r => S r - f r) rest : Int) = (sN (fun r => S r - f r) p.toNat : Int)
theorem extB_sum {S f g : Nat → Nat} {p : Int} {k rest : Nat} (h : extB S f p k rest g) : sN g p.toNat ≤ sN S p.toNat := sN_mono _ (fun r hr => (h.1 r hr).2)
theorem sN_1 {f : Nat → Nat} {x q : Nat} (h : x < q) : f x ≤ sN f q := by
  have := sN_le (f := f) (a := x + 1) (b := q) h
  simp only [sN] at this
  omega
/-- those that go on at next -/
theorem extB_next {S f g : Nat → Nat} {p : Int} {k rest nx : Nat} (hn : nx < p.toNat) (hr : rest ≤ nx) (h : extB S f p k rest g) (h1 : ∀ r, r < nx → g r = f r) (h2 : ¬ g nx = f nx) : extB S (incF f nx) p k nx g := by
  obtain ⟨e1, e2, e3⟩ := h
  refine ⟨fun r hr9 => ?_, fun r hr9 => ?_, e3⟩
  · have := e1 r hr9
    by_cases q : r = nx
    · subst q; rw [incF_eq]; omega
    · rw [incF_ne q]; omega
  · rw [incF_ne (by omega)]; exact h1 r hr9
theorem extB_back {S f g : Nat → Nat} {p : Int} {k rest nx : Nat} (hr : rest ≤ nx) (h : extB S (incF f nx) p k nx g) : extB S f p k rest g := by
  obtain ⟨e1, e2, e3⟩ := h
  refine ⟨fun r hr9 => ?_, fun r hr9 => ?_, e3⟩
  · have := e1 r hr9
    by_cases q : r = nx
    · subst q; rw [incF_eq] at this; omega
    · rw [incF_ne q] at this; omega
  · have := e2 r (by omega)
    rw [incF_ne (by omega)] at this
    exact this
/-- those that are alike below next come to no more than what is left -/
theorem extB_left {S f g : Nat → Nat} {p : Int} {k rest nx : Nat} (hn : nx ≤ p.toNat) (h : extB S f p k rest g) (h1 : ∀ r, r < nx → g r = f r) : sN g p.toNat + sN (fun r => S r - f r) nx ≤ sN f p.toNat + sN (fun r => S r - f r) p.toNat := by
  have : ∀ q : Nat, nx ≤ q → q ≤ p.toNat → sN g q + sN (fun r => S r - f r) nx ≤ sN f q + sN (fun r => S r - f r) q := by
    intro q
    induction q with
    | zero => intro a b; rw [show nx = 0 by omega]; exact Nat.le_refl _
    | succ q ih =>
      intro a b
      rcases (show nx = q + 1 ∨ nx ≤ q by omega) with z | z
      · rw [z, sN_congr (q + 1) (fun r hr => h1 r (by omega))]; exact Nat.le_refl _
      · have h2 := ih z (by omega)
        have h3 := h.1 q (by omega)
        simp only [sN]
        omega
  exact this _ hn (Nat.le_refl _)

/-! ===== turns: states by number ===== -/
def tkN (c w : Nat) : Nat → Nat
  | 0 => 0
  | i + 1 => tkN c w i ||| (if c / 3 ^ i % 3 = w then 2 ^ i else 0)
theorem tkN_tb {c w : Nat} : ∀ (n j : Nat), (tkN c w n).testBit j = (decide (j < n) && decide (c / 3 ^ j % 3 = w))
  | 0, j => by rw [tkN, decide_eq_false (Nat.not_lt_zero j)]; simp
  | n + 1, j => by
    rw [tkN, Nat.testBit_or, tkN_tb n j]
    by_cases hj : j = n
    · rw [hj, decide_eq_false (Nat.lt_irrefl n), decide_eq_true (Nat.lt_succ_self n), Bool.false_and, Bool.true_and, Bool.false_or]
      by_cases q : c / 3 ^ n % 3 = w
      · rw [if_pos q, Nat.testBit_two_pow, decide_eq_true rfl, decide_eq_true q]
      · rw [if_neg q, Nat.zero_testBit, decide_eq_false q]
    · have e : (if c / 3 ^ n % 3 = w then 2 ^ n else 0).testBit j = false := by
        split
        · rw [Nat.testBit_two_pow]; exact decide_eq_false (fun z => hj z.symm)
        · exact Nat.zero_testBit j
      rw [e, Bool.or_false]
      congr 1
      by_cases h : j < n
      · rw [decide_eq_true h, decide_eq_true (by omega)]
      · rw [decide_eq_false h, decide_eq_false (by omega)]
theorem tkN_lt {c w n : Nat} : tkN c w n < 2 ^ n := by
  apply Nat.lt_pow_two_of_testBit
  intro j hj
  rw [tkN_tb, decide_eq_false (by omega)]
  rfl
theorem tk_iff {c w n j : Nat} (hj : j < n) : (tkN c w n).testBit j = true ↔ c / 3 ^ j % 3 = w := by
  rw [tkN_tb, decide_eq_true hj, Bool.true_and, decide_eq_true_eq]
theorem tk_iff' {c w n j : Nat} (hj : j < n) : (tkN c w n).testBit j = false ↔ ¬ c / 3 ^ j % 3 = w := by
  rw [tkN_tb, decide_eq_true hj, Bool.true_and, decide_eq_false_iff_not]
theorem tk_dj {c n : Nat} : dj (tkN c 1 n) (tkN c 2 n) := fun j h1 h2 => by
  rw [tkN_tb, Bool.and_eq_true, decide_eq_true_eq, decide_eq_true_eq] at h1 h2
  omega
theorem tk_cd {c n : Nat} : ∀ m : Nat, m ≤ n → cdN (tkN c 1 n) (tkN c 2 n) m = ((c % 3 ^ m : Nat) : Int)
  | 0, _ => by rw [Nat.pow_zero, Nat.mod_one]; rfl
  | m + 1, h => by
    rw [cdN_succ, tk_cd m (by omega), Nat.mod_pow_succ, tkN_tb, tkN_tb, decide_eq_true (show m < n by omega), Bool.true_and, Bool.true_and]
    have h3 : c / 3 ^ m % 3 < 3 := Nat.mod_lt _ (by decide)
    generalize c / 3 ^ m % 3 = d at *
    generalize c % 3 ^ m = e at *
    generalize 3 ^ m = P at *
    rcases (show d = 0 ∨ d = 1 ∨ d = 2 by omega) with q | q | q <;> rw [q] <;> simp <;> omega
theorem cd_code {c n : Nat} (hc : c < 3 ^ n) : cdN (tkN c 1 n) (tkN c 2 n) n = (c : Int) := by
  rw [tk_cd n (Nat.le_refl n), Nat.mod_eq_of_lt hc]
theorem tk_of {a b n : Nat} (hd : dj a b) (ha : a < 2 ^ n) (hb : b < 2 ^ n) : tkN (cdN a b n).toNat 1 n = a ∧ tkN (cdN a b n).toNat 2 n = b := by
  have r := cdN_r hd n
  have h := cd_code (c := (cdN a b n).toNat) (n := n) (by omega)
  exact cdN_inj' tk_dj hd tkN_lt tkN_lt ha hb (by rw [h, Int.toNat_natCast])
theorem fg_or {S i n : Nat} (hi : i < n) (h : S.testBit i = false) : fgN (S ||| 2 ^ i) n = fgN S n + ((3 ^ i : Nat) : Int) := by
  have := fg_x (S := S ||| 2 ^ i) hi or_i
  rw [or_x h] at this
  omega
theorem tk_add1 {c n i : Nat} (hc : c < 3 ^ n) (hi : i < n) (h0 : c / 3 ^ i % 3 = 0) : c + 3 ^ i < 3 ^ n ∧ tkN (c + 3 ^ i) 1 n = tkN c 1 n ||| 2 ^ i ∧ tkN (c + 3 ^ i) 2 n = tkN c 2 n := by
  have b1 : (tkN c 1 n).testBit i = false := (tk_iff' hi).mpr (by omega)
  have b2 : (tkN c 2 n).testBit i = false := (tk_iff' hi).mpr (by omega)
  have hd : dj (tkN c 1 n ||| 2 ^ i) (tkN c 2 n) := dj_s (dj_or tk_dj b2)
  have e : cdN (tkN c 1 n ||| 2 ^ i) (tkN c 2 n) n = ((c + 3 ^ i : Nat) : Int) := by
    have h1 := cd_code hc
    unfold cdN at h1 ⊢
    rw [fg_or hi b1]
    omega
  have r := cdN_r hd n
  have t := tk_of hd (or_l tkN_lt hi) tkN_lt
  rw [e, Int.toNat_natCast] at t
  exact ⟨by omega, t.1, t.2⟩
theorem tk_add2 {c n i : Nat} (hc : c < 3 ^ n) (hi : i < n) (h0 : c / 3 ^ i % 3 = 0) : c + 2 * 3 ^ i < 3 ^ n ∧ tkN (c + 2 * 3 ^ i) 1 n = tkN c 1 n ∧ tkN (c + 2 * 3 ^ i) 2 n = tkN c 2 n ||| 2 ^ i := by
  have b1 : (tkN c 1 n).testBit i = false := (tk_iff' hi).mpr (by omega)
  have b2 : (tkN c 2 n).testBit i = false := (tk_iff' hi).mpr (by omega)
  have hd : dj (tkN c 1 n) (tkN c 2 n ||| 2 ^ i) := dj_or (dj_s tk_dj) b1
  have e : cdN (tkN c 1 n) (tkN c 2 n ||| 2 ^ i) n = ((c + 2 * 3 ^ i : Nat) : Int) := by
    have h1 := cd_code hc
    unfold cdN at h1 ⊢
    rw [fg_or hi b2]
    omega
  have r := cdN_r hd n
  have t := tk_of hd tkN_lt (or_l tkN_lt hi)
  rw [e, Int.toNat_natCast] at t
  exact ⟨by omega, t.1, t.2⟩
def wkC (n c t : Nat) : Prop := cntB (tkN c 1 n : Int) n + cntB (tkN c 2 n : Int) n = t ∧ cntB (tkN c 1 n : Int) n - cntB (tkN c 2 n : Int) n = ((t % 2 : Nat) : Int)
def owC (n c t : Nat) : Nat := if t % 2 = 0 then tkN c 1 n else tkN c 2 n
def otC (n c t : Nat) : Nat := if t % 2 = 0 then tkN c 2 n else tkN c 1 n
def wvC (T : Nat → Bool) (n c t : Nat) : Int := if 0 < t ∧ T (otC n c t) = true then -1 else vlT T n (n - t) (owC n c t) (otC n c t)
theorem free_iff {n c t i : Nat} (hi : i < n) : (owC n c t ||| otC n c t).testBit i = false ↔ c / 3 ^ i % 3 = 0 := by
  have h3 : c / 3 ^ i % 3 < 3 := Nat.mod_lt _ (by decide)
  rw [or_tbf]
  unfold owC otC
  split
  · rw [tk_iff' hi, tk_iff' hi]; omega
  · rw [tk_iff' hi, tk_iff' hi]; omega
theorem wv_next {T : Nat → Bool} {n c t i : Nat} (hc : c < 3 ^ n) (hi : i < n) (h0 : c / 3 ^ i % 3 = 0) (hw : wkC n c t) : c + (1 + t % 2) * 3 ^ i < 3 ^ n ∧ wkC n (c + (1 + t % 2) * 3 ^ i) (t + 1) ∧ -(wvC T n (c + (1 + t % 2) * 3 ^ i) (t + 1)) = gT T n (n - t - 1) (owC n c t) (otC n c t) i := by
  have b1 : (tkN c 1 n).testBit i = false := (tk_iff' hi).mpr (by omega)
  have b2 : (tkN c 2 n).testBit i = false := (tk_iff' hi).mpr (by omega)
  unfold wkC at hw ⊢
  rcases (show t % 2 = 0 ∨ t % 2 = 1 by omega) with q | q
  · obtain ⟨h1, h2, h3⟩ := tk_add1 hc hi h0
    rw [q, show 1 + 0 = 1 from rfl, Nat.one_mul, show (t + 1) % 2 = 1 by omega, h2, h3, cnt_or hi b1]
    rw [q] at hw
    refine ⟨h1, ⟨by omega, by omega⟩, ?_⟩
    have e1 : otC n (c + 3 ^ i) (t + 1) = owC n c t ||| 2 ^ i := by unfold otC owC; rw [if_neg (by omega), if_pos q, h2]
    have e2 : owC n (c + 3 ^ i) (t + 1) = otC n c t := by unfold otC owC; rw [if_neg (by omega), if_pos q, h3]
    unfold wvC gT
    rw [e1, e2, Nat.sub_sub]
    by_cases z : T (owC n c t ||| 2 ^ i) = true
    · rw [if_pos ⟨Nat.succ_pos t, z⟩, if_pos z]; rfl
    · rw [if_neg (fun y => z y.2), if_neg z]
  · obtain ⟨h1, h2, h3⟩ := tk_add2 hc hi h0
    rw [q, show 1 + 1 = 2 from rfl, show (t + 1) % 2 = 0 by omega, h2, h3, cnt_or hi b2]
    rw [q] at hw
    refine ⟨h1, ⟨by omega, by omega⟩, ?_⟩
    have e1 : otC n (c + 2 * 3 ^ i) (t + 1) = owC n c t ||| 2 ^ i := by unfold otC owC; rw [if_pos (by omega), if_neg (by omega), h3]
    have e2 : owC n (c + 2 * 3 ^ i) (t + 1) = otC n c t := by unfold otC owC; rw [if_pos (by omega), if_neg (by omega), h2]
    unfold wvC gT
    rw [e1, e2, Nat.sub_sub]
    by_cases z : T (owC n c t ||| 2 ^ i) = true
    · rw [if_pos ⟨Nat.succ_pos t, z⟩, if_pos z]; rfl
    · rw [if_neg (fun y => z y.2), if_neg z]
theorem tk_0 {w n : Nat} (hw : w ≠ 0) : tkN 0 w n = 0 := by
  apply Nat.eq_of_testBit_eq
  intro j
  rw [tkN_tb, Nat.zero_div, Nat.zero_mod, decide_eq_false (show ¬ (0 = w) from fun z => hw z.symm), Bool.and_false, Nat.zero_testBit]
theorem wk_0 {n : Nat} : wkC n 0 0 := by
  unfold wkC
  rw [tk_0 (by decide), tk_0 (by decide), cnt_z]
  exact ⟨rfl, rfl⟩
theorem wv_0 {T : Nat → Bool} {n : Nat} : wvC T n 0 0 = vlT T n n 0 0 := by
  unfold wvC owC otC
  rw [if_neg (fun z => absurd z.1 (by decide)), if_pos rfl, if_pos rfl, tk_0 (by decide), tk_0 (by decide), Nat.sub_zero]
theorem wv_1 {T : Nat → Bool} {n i : Nat} (hi : i < n) : 3 ^ i < 3 ^ n ∧ wkC n (3 ^ i) 1 ∧ -(wvC T n (3 ^ i) 1) = gT T n (n - 1) 0 0 i := by
  have h := wv_next (T := T) (t := 0) (c := 0) (Nat.pow_pos (by decide)) hi (by rw [Nat.zero_div]) (wk_0 (n := n))
  rw [show (0 + (1 + 0 % 2) * 3 ^ i) = 3 ^ i by omega, show (0 + 1) = 1 from rfl, Nat.sub_zero] at h
  unfold owC otC at h
  rw [if_pos rfl, if_pos rfl, tk_0 (by decide), tk_0 (by decide)] at h
  exact h
theorem wv_r {T : Nat → Bool} {n c t : Nat} : -1 ≤ wvC T n c t ∧ wvC T n c t ≤ 1 := by
  unfold wvC
  split
  · decide
  · exact vlT_r _ _ _
theorem wk_t {n c t t' : Nat} (h : wkC n c t) (h' : wkC n c t') : t = t' := by
  have h1 := h.1
  have h2 := h'.1
  omega
theorem bi_of {p : Prop} [Decidable p] {x : Int} (h : x = 0 ∨ x = 1) (h2 : x = 1 ↔ p) : x = bi p := by
  by_cases q : p
  · rw [bi_t q]; exact h2.mpr q
  · rw [bi_f q]
    rcases h with z | z
    · exact z
    · exact absurd (h2.mp z) q
theorem tk_or0 {a : Nat} (ha : a < 2147483648) : bOr (a : Int) 0 = ((a ||| 0 : Nat) : Int) := bOr_N (a := a) (b := 0) ha (by decide)

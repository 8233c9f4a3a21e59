/-! ===== System.arraycopy ===== -/
def cpH (h : Hp) (s t : Nat) (sp dp n : Int) : Hp := fun a b => if a = t ∧ dp ≤ b ∧ (b : Int) < dp + n then h s (sp + (b - dp)).toNat else h a b
theorem cpH_ne {h : Hp} {s t : Nat} {sp dp n : Int} : ∀ i, i ≠ t → cpH h s t sp dp n i = h i := fun i hi => by
  funext b
  simp [cpH, hi]
theorem cpW {E : En} {h : Hp} {s t : Nat} {sp dp n : Int} {e : va_E} {H : Heap} (hi : t < 147) (hc : cel E (cpH h s t sp dp n) t = e) (hP : va_P (DE E) vwCl ((wld E h).set t (E.1 t, e)) H) : va_P (DE E) vwCl (wld E (cpH h s t sp dp n)) H := by
  rw [← hc, wld_set E h _ hi cpH_ne] at hP
  exact hP
theorem cpF {α : Type} {f : Int → α} {h : Hp} {s t : Nat} {sp dp n : Int} (h1 : 0 ≤ sp) (h2 : 0 ≤ dp) (h3 : 0 ≤ n) : (fun k => f (cpH h s t sp dp n t k)) = va_cpy (fun k => f (h s k)) (fun k => f (h t k)) sp.toNat dp.toNat n.toNat := by
  funext k
  unfold va_cpy cpH
  by_cases e : dp ≤ (k : Int) ∧ (k : Int) < dp + n
  · have e2 : dp.toNat ≤ k ∧ k < dp.toNat + n.toNat := by omega
    have e3 : (sp + ((k : Int) - dp)).toNat = sp.toNat + (k - dp.toNat) := by omega
    simp [e, e2, e3]
  · have e2 : ¬ (dp.toNat ≤ k ∧ k < dp.toNat + n.toNat) := by omega
    rw [if_neg (fun w => e w.2), if_neg e2]
section COPY
variable {G : Gx} {E : En} {cc : ByteArray} {nL : Nat} {own : String} {ret : Option FieldType} {d : Nat} {post : Option Value → Hp → Prop} {pc : Nat} {ls : List (Nat × Value)} {st : List Value} {h : Hp}
def CW (own : String) (idx : Nat) : Prop := Cond.methodLink own idx arraycopyName ∈ wsG ∧ Cond.native arraycopyName ∈ wsG ∧ Cond.static arraycopyName ∈ wsG ∧ Cond.initialized "java/lang/System" ∈ wsG
theorem nfw : nativeFrameWords "java/lang/System" "arraycopy" 5 ≤ 20 := by decide
theorem wp_copyI {s t n0 n1 b0 b1 idx : Nat} {f0 f1 : List (Option Nat)} {sp dp n : Int} (hw : CW own idx) (hs0 : shL[s]? = some (1, n0, b0, f0)) (hs1 : shL[t]? = some (1, n1, b1, f1)) (h1 : 0 ≤ sp ∧ 0 ≤ dp ∧ 0 ≤ n ∧ sp + n ≤ n0 ∧ dp + n ≤ n1) (hr : (st.map fun v => v.category).sum ≤ 20) (hd1 : 1 ≤ d) (C : Cx G E cc nL own ret d) (hd : decode cc pc = .ok (.invokestatic idx, 3)) (k : Wp G E nL post (pc + 3) ls st (cpH h s t sp dp n)) : Wp G E nL post pc ls (iv n :: iv dp :: rv E t :: iv sp :: rv E s :: st) h := by
  intro H locs la hP hS hL
  have hR := C.2.2.2.2.2.2.2.2
  have q0 : n0 < 2147483648 := sh_n hs0
  have q1 : n1 < 2147483648 := sh_n hs1
  have nl : ∀ z : Int, 0 ≤ z → z < 2147483648 → ¬ Int32.ofInt z < 0 := fun z a b w => by
    have := (i_lt (a := z) (b := 0) (by omega) (by omega)).mp w
    omega
  refine va_copyi (D := DE E) (cl := vwCl) (tys := tyE E) (ws := wld E h) (A := Ax E) (ty := .int) C.1 C.2.1 (by rw [C.2.2.1]; exact hL.1.symm) C.2.2.2.1 (C.2.2.2.2.1 _ hw.1) (C.2.2.2.2.1 _ hw.2.1) (C.2.2.2.2.1 _ hw.2.2.1) (C.2.2.2.2.1 _ hw.2.2.2) C.2.2.2.2.2.1.1 hP (wld_D C.2.2.2.2.2.1.2.1 h) hS s t 0 0 (at_w hs0 (cel_1 hs0)) (at_w hs1 (cel_1 hs1)) rfl rfl rfl (nl sp (by omega) (by omega)) (nl dp (by omega) (by omega)) (nl n (by omega) (by omega)) (by rw [i_cl (by omega), i_cl (by omega)]; omega) (by rw [i_cl (by omega), i_cl (by omega)]; omega) (fun _ _ => rfl) (Nat.le_trans hd1 hR.1) (by have := hR.2.1; have := nfw; omega) hd (fun H1 locs1 hP1 _ hS1 => ?_)
  rw [i_cl (by omega), i_cl (by omega), i_cl (by omega)] at hP1
  exact k H1 locs1 la (cpW (sh_lt hs1) (by rw [cel_1 hs1, cpF (by omega) (by omega) (by omega)]) hP1) hS1 hL
theorem wp_copyL {s t n0 n1 b0 b1 idx : Nat} {f0 f1 : List (Option Nat)} {sp dp n : Int} (hw : CW own idx) (hs0 : shL[s]? = some (2, n0, b0, f0)) (hs1 : shL[t]? = some (2, n1, b1, f1)) (h1 : 0 ≤ sp ∧ 0 ≤ dp ∧ 0 ≤ n ∧ sp + n ≤ n0 ∧ dp + n ≤ n1) (hr : (st.map fun v => v.category).sum ≤ 20) (hd1 : 1 ≤ d) (C : Cx G E cc nL own ret d) (hd : decode cc pc = .ok (.invokestatic idx, 3)) (k : Wp G E nL post (pc + 3) ls st (cpH h s t sp dp n)) : Wp G E nL post pc ls (iv n :: iv dp :: rv E t :: iv sp :: rv E s :: st) h := by
  intro H locs la hP hS hL
  have hR := C.2.2.2.2.2.2.2.2
  have q0 : n0 < 2147483648 := sh_n hs0
  have q1 : n1 < 2147483648 := sh_n hs1
  have nl : ∀ z : Int, 0 ≤ z → z < 2147483648 → ¬ Int32.ofInt z < 0 := fun z a b w => by
    have := (i_lt (a := z) (b := 0) (by omega) (by omega)).mp w
    omega
  refine va_copyl (D := DE E) (cl := vwCl) (tys := tyE E) (ws := wld E h) (A := Ax E) (ty := .long) C.1 C.2.1 (by rw [C.2.2.1]; exact hL.1.symm) C.2.2.2.1 (C.2.2.2.2.1 _ hw.1) (C.2.2.2.2.1 _ hw.2.1) (C.2.2.2.2.1 _ hw.2.2.1) (C.2.2.2.2.1 _ hw.2.2.2) C.2.2.2.2.2.1.1 hP (wld_D C.2.2.2.2.2.1.2.1 h) hS s t 1 1 (at_w hs0 (cel_2 hs0)) (at_w hs1 (cel_2 hs1)) rfl rfl rfl (nl sp (by omega) (by omega)) (nl dp (by omega) (by omega)) (nl n (by omega) (by omega)) (by rw [i_cl (by omega), i_cl (by omega)]; omega) (by rw [i_cl (by omega), i_cl (by omega)]; omega) (fun _ _ => rfl) (Nat.le_trans hd1 hR.1) (by have := hR.2.1; have := nfw; omega) hd (fun H1 locs1 hP1 _ hS1 => ?_)
  rw [i_cl (by omega), i_cl (by omega), i_cl (by omega)] at hP1
  exact k H1 locs1 la (cpW (sh_lt hs1) (by rw [cel_2 hs1, cpF (by omega) (by omega) (by omega)]) hP1) hS1 hL
end COPY

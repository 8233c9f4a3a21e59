/-! ===== the rules of cells, calls ===== -/
theorem shL_len : shL.length = 147 := by decide +kernel
theorem shL_small : ∀ q ∈ shL, q.2.1 < 2147483648 := by decide +kernel
theorem sh_lt {id : Nat} {q : Nat × Nat × Nat × List (Option Nat)} (hs : shL[id]? = some q) : id < 147 := by
  have := (List.getElem?_eq_some_iff.mp hs).1
  rw [shL_len] at this
  exact this
theorem sh_n {id : Nat} {q : Nat × Nat × Nat × List (Option Nat)} (hs : shL[id]? = some q) : q.2.1 < 2147483648 := shL_small q (List.mem_of_getElem? hs)
theorem sh_D {id : Nat} {q : Nat × Nat × Nat × List (Option Nat)} (hs : shL[id]? = some q) : shL.getD id (9, 0, 0, []) = q := by
  rw [List.getD_eq_getElem?_getD, hs]
  rfl
theorem cel_0 {E : En} {h : Hp} {id ci b : Nat} {fs : List (Option Nat)} (hs : shL[id]? = some (0, ci, b, fs)) : cel E h id = .inr (ci, objE E h id fs) := by
  unfold cel; rw [sh_D hs]; rfl
theorem cel_1 {E : En} {h : Hp} {id n b : Nat} {fs : List (Option Nat)} (hs : shL[id]? = some (1, n, b, fs)) : cel E h id = .inl (E.2.2.2.1 1, n, .inl (fun j => Int32.ofInt (h id j))) := by
  unfold cel; rw [sh_D hs]; rfl
theorem cel_2 {E : En} {h : Hp} {id n b : Nat} {fs : List (Option Nat)} (hs : shL[id]? = some (2, n, b, fs)) : cel E h id = .inl (E.2.2.2.1 2, n, .inr (.inl (fun j => Int64.ofInt (h id j)))) := by
  unfold cel; rw [sh_D hs]; rfl
theorem cel_3 {E : En} {h : Hp} {id n b : Nat} {fs : List (Option Nat)} (hs : shL[id]? = some (3, n, b, fs)) : cel E h id = .inl (E.2.2.2.1 3, n, .inl (fun j => Int32.ofInt (h id j))) := by
  unfold cel; rw [sh_D hs]; rfl
theorem cel_4 {E : En} {h : Hp} {id n b : Nat} {fs : List (Option Nat)} (hs : shL[id]? = some (4, n, b, fs)) : cel E h id = .inl (E.2.2.2.1 4, n, .inr (.inr (.inr (.inr (fun j => some (E.1 (b + j))))))) := by
  unfold cel; rw [sh_D hs]; rfl
theorem cel_5 {E : En} {h : Hp} {id n b : Nat} {fs : List (Option Nat)} (hs : shL[id]? = some (5, n, b, fs)) : cel E h id = .inl (E.2.2.2.1 5, n, .inr (.inr (.inr (.inr (fun j => some (E.1 (b + j))))))) := by
  unfold cel; rw [sh_D hs]; rfl
theorem at_w {E : En} {h : Hp} {id : Nat} {q : Nat × Nat × Nat × List (Option Nat)} {c : va_E} (hs : shL[id]? = some q) (hc : cel E h id = c) : (wld E h)[id]? = some (E.1 id, c) := by
  rw [wld_get E h (sh_lt hs), hc]
theorem objE_get {E : En} {h : Hp} {id k : Nat} {fs : List (Option Nat)} {o : Option Nat} (hf : fs[k]? = some o) : (objE E h id fs)[k]? = some (fvE E h id k o) := by
  have hl := (List.getElem?_eq_some_iff.mp hf).1
  unfold objE
  rw [List.getElem?_map, List.getElem?_range hl]
  show some (fvE E h id k (fs.getD k none)) = _
  rw [List.getD_eq_getElem?_getD, hf]
  rfl
theorem objE_set {E : En} {h : Hp} {id k : Nat} {v : Int} {fs : List (Option Nat)} (hf : fs[k]? = some none) : objE E (upd2 h id k v) id fs = (objE E h id fs).set k (iv v) := by
  have hl := (List.getElem?_eq_some_iff.mp hf).1
  apply List.ext_getElem?
  intro j
  rw [List.getElem?_set]
  by_cases hj : k = j
  · subst hj
    rw [objE_get hf, if_pos rfl, if_pos (by unfold objE; simpa using hl)]
    show some (iv (upd2 h id k v id k)) = _
    simp [upd2]
  · rw [if_neg hj]
    by_cases hjl : j < fs.length
    · have hf2 : fs[j]? = some fs[j] := List.getElem?_eq_getElem hjl
      rw [objE_get hf2, objE_get hf2]
      congr 1
      unfold fvE
      cases fs[j] with
      | some t => rfl
      | none =>
        show iv (upd2 h id k v id j) = iv (h id j)
        simp [upd2, Ne.symm hj]
    · have e1 : (objE E (upd2 h id k v) id fs)[j]? = none := List.getElem?_eq_none (by unfold objE; simp; omega)
      have e2 : (objE E h id fs)[j]? = none := List.getElem?_eq_none (by unfold objE; simp; omega)
      rw [e1, e2]
def FL (own : String) (idx ci k : Nat) : Prop := ∃ (C : String) (T : u_T) (N : Nat), vwCl[ci]? = some (C, T, N) ∧ k < N ∧ (∀ w ∈ u_ws C T N, w ∈ wsG) ∧ Cond.fieldLink own idx (T k).1 (T k).2.1 (T k).2.2.1 ∈ wsG
def FP (own : String) (idx ci k : Nat) : Prop := ∃ (C : String) (T : u_T) (N : Nat) (ty0 : Nat → FieldType), vwCl[ci]? = some (C, T, N) ∧ k < N ∧ (∀ w ∈ u_ws C T N, w ∈ wsG) ∧ Cond.fieldLink own idx (T k).1 (T k).2.1 (T k).2.2.1 ∈ wsG ∧ (∀ k, k < N → parseFieldDescriptor (T k).2.2.1 = some (ty0 k)) ∧ (∀ a, a < N → ∀ b, b < N → a ≠ b → (T a).2.1 ≠ (T b).2.1) ∧ (T k).2.2.2 = false ∧ (T k).2.2.1 = "I"
section HRUL
variable {G : Gx} {E : En} {cc : ByteArray} {nL : Nat} {own : String} {ret : Option FieldType} {d : Nat} {post : Option Value → Hp → Prop} {pc : Nat} {ls : List (Nat × Value)} {st : List Value} {h : Hp}
theorem wp_getV {id k ci idx b : Nat} {fs : List (Option Nat)} {o : Option Nat} (hF : FL own idx ci k) (hs : shL[id]? = some (0, ci, b, fs)) (hf : fs[k]? = some o) (C : Cx G E cc nL own ret d) (hd : decode cc pc = .ok (.getfield idx, 3)) (kk : Wp G E nL post (pc + 3) ls (fvE E h id k o :: st) h) : Wp G E nL post pc ls (rv E id :: st) h := by
  intro H locs la hP hS hl
  obtain ⟨Cn, T, N, h1, h2, h3, h4⟩ := hF
  exact va_get (D := DE E) (cl := vwCl) (tys := tyE E) (ws := wld E h) C.1 C.2.1 C.2.2.2.2.1 h3 C.2.2.2.1 C.2.2.2.2.2.1.1 hP id (at_w hs (cel_0 hs)) h1 k h2 (C.2.2.2.2.1 _ h4) (fun _ z => z) (objE_get hf) hd (kk H locs la hP hS hl)
/-- a field that holds a cell -/
theorem wp_getR {id k ci idx b t : Nat} {fs : List (Option Nat)} (hF : FL own idx ci k) (hs : shL[id]? = some (0, ci, b, fs)) (hf : fs[k]? = some (some t)) (C : Cx G E cc nL own ret d) (hd : decode cc pc = .ok (.getfield idx, 3)) (kk : Wp G E nL post (pc + 3) ls (rv E t :: st) h) : Wp G E nL post pc ls (rv E id :: st) h :=
  wp_getV hF hs hf C hd kk
/-- a field that holds an int -/
theorem wp_getI {id k ci idx b : Nat} {fs : List (Option Nat)} (hF : FL own idx ci k) (hs : shL[id]? = some (0, ci, b, fs)) (hf : fs[k]? = some none) (C : Cx G E cc nL own ret d) (hd : decode cc pc = .ok (.getfield idx, 3)) (kk : Wp G E nL post (pc + 3) ls (iv (h id k) :: st) h) : Wp G E nL post pc ls (rv E id :: st) h :=
  wp_getV hF hs hf C hd kk
theorem wp_putI {id k ci idx b : Nat} {v : Int} {fs : List (Option Nat)} (hF : FP own idx ci k) (hs : shL[id]? = some (0, ci, b, fs)) (hf : fs[k]? = some none) (C : Cx G E cc nL own ret d) (hd : decode cc pc = .ok (.putfield idx, 3)) (kk : Wp G E nL post (pc + 3) ls st (upd2 h id k v)) : Wp G E nL post pc ls (iv v :: rv E id :: st) h := by
  intro H locs la hP hS hl
  obtain ⟨Cn, T, N, ty0, h1, h2, h3, h4, h5, h6, h7, h8⟩ := hF
  refine va_put (D := DE E) (cl := vwCl) (tys := tyE E) (ws := wld E h) (A := Ax E) (ty := .int) C.1 C.2.1 C.2.2.2.2.1 h3 ty0 h5 h6 C.2.2.2.1 C.2.2.2.2.2.1.1 hP (wld_D C.2.2.2.2.2.1.2.1 h) hS id (at_w hs (cel_0 hs)) h1 k h2 (C.2.2.2.2.1 _ h4) (fun _ z => z) h7 (by rw [h8]; decide) rfl rfl (by unfold objE; simpa using (List.getElem?_eq_some_iff.mp hf).1) hd (fun H1 locs1 hP1 hD1 hS1 => ?_)
  have e : (wld E h).set id (E.1 id, .inr (ci, (objE E h id fs).set k (iv v))) = wld E (upd2 h id k v) := by
    rw [← objE_set hf, ← cel_0 (h := upd2 h id k v) hs]
    exact wld_set E h _ (sh_lt hs) upd2_ne
  have hP2 : va_P (DE E) vwCl ((wld E h).set id (E.1 id, .inr (ci, (objE E h id fs).set k (iv v)))) H1 := hP1
  rw [e] at hP2
  exact kk H1 locs1 la hP2 hS1 hl
theorem wp_iald {id n b : Nat} {a : Int} {fs : List (Option Nat)} (hs : shL[id]? = some (1, n, b, fs)) (hin : 0 ≤ a ∧ a < n) (C : Cx G E cc nL own ret d) (hd : decode cc pc = .ok (.iaload, 1)) (kk : Wp G E nL post (pc + 1) ls (iv (h id a.toNat) :: st) h) : Wp G E nL post pc ls (iv a :: rv E id :: st) h := by
  intro H locs la hP hS hl
  have hn : n < 2147483648 := sh_n hs
  refine va_iald (D := DE E) (cl := vwCl) (tys := tyE E) (ws := wld E h) C.1 C.2.1 C.2.2.2.2.2.1.1 hP id 0 (at_w hs (cel_1 hs)) rfl (i_in hin hn) hd ?_
  rw [i_cl (by omega)]
  exact kk H locs la hP hS hl
theorem wp_lald {id n b : Nat} {a : Int} {fs : List (Option Nat)} (hs : shL[id]? = some (2, n, b, fs)) (hin : 0 ≤ a ∧ a < n) (C : Cx G E cc nL own ret d) (hd : decode cc pc = .ok (.laload, 1)) (kk : Wp G E nL post (pc + 1) ls (jv (h id a.toNat) :: st) h) : Wp G E nL post pc ls (iv a :: rv E id :: st) h := by
  intro H locs la hP hS hl
  have hn : n < 2147483648 := sh_n hs
  refine va_lald (D := DE E) (cl := vwCl) (tys := tyE E) (ws := wld E h) C.1 C.2.1 C.2.2.2.2.2.1.1 hP id 1 (at_w hs (cel_2 hs)) rfl (i_in hin hn) hd ?_
  rw [i_cl (by omega)]
  exact kk H locs la hP hS hl
theorem wp_zald {id n b : Nat} {a : Int} {fs : List (Option Nat)} (hs : shL[id]? = some (3, n, b, fs)) (hin : 0 ≤ a ∧ a < n) (C : Cx G E cc nL own ret d) (hd : decode cc pc = .ok (.baload, 1)) (kk : Wp G E nL post (pc + 1) ls (iv (h id a.toNat) :: st) h) : Wp G E nL post pc ls (iv a :: rv E id :: st) h := by
  intro H locs la hP hS hl
  have hn : n < 2147483648 := sh_n hs
  refine va_zald (D := DE E) (cl := vwCl) (tys := tyE E) (ws := wld E h) C.1 C.2.1 C.2.2.2.2.2.1.1 hP id 2 (at_w hs (cel_3 hs)) rfl (i_in hin hn) hd ?_
  rw [i_cl (by omega)]
  exact kk H locs la hP hS hl
theorem updW {E : En} {h : Hp} {id : Nat} {e : va_E} {j : Nat} {v : Int} {H : Heap} (hi : id < 147) (hc : cel E (upd2 h id j v) id = e) (hP : va_P (DE E) vwCl ((wld E h).set id (E.1 id, e)) H) : va_P (DE E) vwCl (wld E (upd2 h id j v)) H := by
  rw [← hc, wld_set E h _ hi upd2_ne] at hP
  exact hP
theorem upF {α : Type} {f : Int → α} {h : Hp} {id j : Nat} {v : Int} : (fun k => f (upd2 h id j v id k)) = fun k => if k = j then f v else f (h id k) := by
  funext k
  by_cases e : k = j
  · subst e; simp [upd2]
  · simp [upd2, e]
theorem wp_iast {id n b : Nat} {a v : Int} {fs : List (Option Nat)} (hs : shL[id]? = some (1, n, b, fs)) (hin : 0 ≤ a ∧ a < n) (C : Cx G E cc nL own ret d) (hd : decode cc pc = .ok (.iastore, 1)) (kk : Wp G E nL post (pc + 1) ls st (upd2 h id a.toNat v)) : Wp G E nL post pc ls (iv v :: iv a :: rv E id :: st) h := by
  intro H locs la hP hS hl
  have hn : n < 2147483648 := sh_n hs
  refine va_iast (D := DE E) (cl := vwCl) (tys := tyE E) (ws := wld E h) (A := Ax E) C.1 C.2.1 C.2.2.2.2.2.1.1 hP (wld_D C.2.2.2.2.2.1.2.1 h) hS id 0 (at_w hs (cel_1 hs)) rfl (i_in hin hn) hd (fun H1 locs1 hP1 hD1 hS1 => ?_)
  rw [i_cl (by omega)] at hP1
  exact kk H1 locs1 la (updW (sh_lt hs) (by rw [cel_1 hs, upF]; rfl) hP1) hS1 hl
theorem wp_last {id n b : Nat} {a v : Int} {fs : List (Option Nat)} (hs : shL[id]? = some (2, n, b, fs)) (hin : 0 ≤ a ∧ a < n) (C : Cx G E cc nL own ret d) (hd : decode cc pc = .ok (.lastore, 1)) (kk : Wp G E nL post (pc + 1) ls st (upd2 h id a.toNat v)) : Wp G E nL post pc ls (jv v :: iv a :: rv E id :: st) h := by
  intro H locs la hP hS hl
  have hn : n < 2147483648 := sh_n hs
  refine va_last (D := DE E) (cl := vwCl) (tys := tyE E) (ws := wld E h) (A := Ax E) C.1 C.2.1 C.2.2.2.2.2.1.1 hP (wld_D C.2.2.2.2.2.1.2.1 h) hS id 1 (at_w hs (cel_2 hs)) rfl (i_in hin hn) hd (fun H1 locs1 hP1 hD1 hS1 => ?_)
  rw [i_cl (by omega)] at hP1
  exact kk H1 locs1 la (updW (sh_lt hs) (by rw [cel_2 hs, upF]; rfl) hP1) hS1 hl
theorem wp_zast {id n b : Nat} {a v : Int} {fs : List (Option Nat)} (hs : shL[id]? = some (3, n, b, fs)) (hin : 0 ≤ a ∧ a < n) (hv : v = 0 ∨ v = 1) (C : Cx G E cc nL own ret d) (hd : decode cc pc = .ok (.bastore, 1)) (kk : Wp G E nL post (pc + 1) ls st (upd2 h id a.toNat v)) : Wp G E nL post pc ls (iv v :: iv a :: rv E id :: st) h := by
  intro H locs la hP hS hl
  have hn : n < 2147483648 := sh_n hs
  refine va_zast (D := DE E) (cl := vwCl) (tys := tyE E) (ws := wld E h) (A := Ax E) C.1 C.2.1 C.2.2.2.2.2.1.1 hP (wld_D C.2.2.2.2.2.1.2.1 h) hS id 2 (at_w hs (cel_3 hs)) rfl (i_in hin hn) hd (fun H1 locs1 hP1 hD1 hS1 => ?_)
  rw [i_cl (by omega)] at hP1
  have hz : vp_nar .boolean (Int32.ofInt v) = Int32.ofInt v := by rcases hv with rfl | rfl <;> rfl
  rw [hz] at hP1
  exact kk H1 locs1 la (updW (sh_lt hs) (by rw [cel_3 hs, upF]; rfl) hP1) hS1 hl
theorem wp_aald {id n b t0 : Nat} {a : Int} {ty : FieldType} {fs : List (Option Nat)} {κ : Nat} (hs : shL[id]? = some (κ, n, b, fs)) (hκ : (κ = 4 ∧ t0 = 3 ∧ ty = .int) ∨ (κ = 5 ∧ t0 = 4 ∧ ty = .long)) (hin : 0 ≤ a ∧ a < n) (C : Cx G E cc nL own ret d) (hd : decode cc pc = .ok (.aaload, 1)) (kk : Wp G E nL post (pc + 1) ls (rv E (b + a.toNat) :: st) h) : Wp G E nL post pc ls (iv a :: rv E id :: st) h := by
  intro H locs la hP hS hl
  have hn : n < 2147483648 := sh_n hs
  have hc : cel E h id = .inl (E.2.2.2.1 κ, n, .inr (.inr (.inr (.inr (fun j => some (E.1 (b + j))))))) := by
    rcases hκ with ⟨rfl, -, -⟩ | ⟨rfl, -, -⟩
    · exact cel_4 hs
    · exact cel_5 hs
  have ht : (tyE E)[t0]? = some (E.2.2.2.1 κ, .array ty) := by
    rcases hκ with ⟨rfl, rfl, rfl⟩ | ⟨rfl, rfl, rfl⟩ <;> rfl
  have hcell : H[E.1 id]? = some (vp_cell (E.2.2.2.1 κ) (n, .inr (.inr (.inr (.inr (fun j => some (E.1 (b + j)))))))) := hP id _ (at_w hs hc)
  rw [vp_cell_q] at hcell
  have hK := (C.2.2.2.2.2.1.1.2 t0 _ ht).1 n (fun j => va_rf (some (E.1 (b + j))))
  have hi : (Int32.ofInt a).toNatClampNeg < n := by rw [i_cl (by omega)]; omega
  refine W.aald C.1 C.2.1 (v := rv E (b + a.toNat)) (ty := .array ty) hcell hK rfl (fun q => by cases q) ?_ ?_ rfl rfl hd (kk H locs la hP hS hl)
  · show ¬ (_ ∨ (arrV _ _ _).slots.size ≤ _)
    rw [arrV_size]
    exact i_in hin hn
  · show (Array.ofFn _)[_]? = _
    rw [Array.getElem?_ofFn, i_cl (by omega)]
    rw [dif_pos (by omega)]
    rfl
end HRUL

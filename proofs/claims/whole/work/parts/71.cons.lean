/-! ===== making the world: what a constructor does ===== -/
def wsN (E : En) (h : Hp) (lo n : Nat) : va_W := (List.range n).map (fun j => (E.1 (lo + j), cel E h (lo + j)))
def Az (E : En) (id0 : Nat) : Nat → Prop := fun q => q = E.1 id0 ∨ E.1 (id0 + 1) ≤ q
/-- the one that is made, what is made behind it, what is just allocated -/
def wsC (E : En) (h : Hp) (id0 ci : Nat) (fs : List Value) (n : Nat) (ex : va_W) : va_W := (E.1 id0, .inr (ci, fs)) :: (wsN E h (id0 + 1) n ++ ex)
def Aff (E : En) : Prop := ∀ i, E.1 i = E.1 0 + i
theorem wsN_get {E : En} {h : Hp} {lo n k : Nat} (hk : k < n) : (wsN E h lo n)[k]? = some (E.1 (lo + k), cel E h (lo + k)) := by
  unfold wsN
  rw [List.getElem?_map, List.getElem?_range hk]
  rfl
theorem wsN_len {E : En} {h : Hp} {lo n : Nat} : (wsN E h lo n).length = n := by unfold wsN; simp
theorem wsN_at {E : En} {h : Hp} {lo n k : Nat} {q : Nat × va_E} (hq : (wsN E h lo n)[k]? = some q) : k < n ∧ q = (E.1 (lo + k), cel E h (lo + k)) := by
  have hl := (List.getElem?_eq_some_iff.mp hq).1
  rw [wsN_len] at hl
  rw [wsN_get hl] at hq
  exact ⟨hl, (Option.some.inj hq).symm⟩
theorem wsN_add {E : En} {h : Hp} {lo a b : Nat} : wsN E h lo (a + b) = wsN E h lo a ++ wsN E h (lo + a) b := by
  apply List.ext_getElem?
  intro k
  by_cases h1 : k < a
  · rw [wsN_get (by omega), List.getElem?_append_left (by rw [wsN_len]; exact h1), wsN_get h1]
  · rw [List.getElem?_append_right (by rw [wsN_len]; omega), wsN_len]
    by_cases h2 : k < a + b
    · rw [wsN_get h2, wsN_get (by omega), show lo + a + (k - a) = lo + k by omega]
    · rw [List.getElem?_eq_none (by rw [wsN_len]; omega), List.getElem?_eq_none (by rw [wsN_len]; omega)]
theorem wsN_1 {E : En} {h : Hp} {lo : Nat} : wsN E h lo 1 = [(E.1 lo, cel E h lo)] := rfl
def AdW (E : En) (lo : Nat) (ws : va_W) : Prop := ∀ k q, ws[k]? = some q → q.1 = E.1 (lo + k)
theorem AdW.D {E : En} {id0 : Nat} {ws : va_W} (hE : Aff E) (h : AdW E id0 ws) : va_D (Az E id0) ws := by
  refine ⟨fun i j p q hi hj e => ?_, fun k q hk => ?_⟩
  · rw [h i p hi, h j q hj, hE (id0 + i), hE (id0 + j)] at e
    omega
  · rw [h k q hk]
    rcases (show k = 0 ∨ 1 ≤ k by omega) with z | z
    · rw [z]; exact Or.inl rfl
    · right; rw [hE (id0 + k), hE (id0 + 1)]; omega
theorem AdW.app {E : En} {lo : Nat} {w1 w2 : va_W} (h1 : AdW E lo w1) (h2 : AdW E (lo + w1.length) w2) : AdW E lo (w1 ++ w2) := fun k q hk => by
  by_cases hl : k < w1.length
  · rw [List.getElem?_append_left hl] at hk; exact h1 k q hk
  · rw [List.getElem?_append_right (by omega)] at hk
    rw [h2 _ q hk, show lo + w1.length + (k - w1.length) = lo + k by omega]
theorem AdW_N {E : En} {h : Hp} {lo n : Nat} : AdW E lo (wsN E h lo n) := fun k q hk => by rw [(wsN_at hk).2]
theorem AdW_1 {E : En} {lo : Nat} {e : va_E} : AdW E lo [(E.1 lo, e)] := fun k q hk => by
  have hz : k < 1 := (List.getElem?_eq_some_iff.mp hk).1
  rw [show k = 0 by omega] at hk ⊢
  cases hk
  rfl
theorem AdW_C {E : En} {h : Hp} {id0 ci n : Nat} {fs : List Value} {ex : va_W} (hx : AdW E (id0 + 1 + n) ex) : AdW E id0 (wsC E h id0 ci fs n ex) := by
  show AdW E id0 ([(E.1 id0, .inr (ci, fs))] ++ (wsN E h (id0 + 1) n ++ ex))
  refine AdW_1.app ?_
  show AdW E (id0 + 1) _
  refine AdW_N.app ?_
  rw [wsN_len]
  exact hx
theorem AdW_0 {E : En} {lo : Nat} : AdW E lo [] := fun k q hk => by cases hk
/-- arrays of arrays can be made -/
def OV (U : State) : Prop := (Cond.arrayOver (.array .int)).before #[] U = true ∧ (Cond.arrayOver (.array .long)).before #[] U = true
def Ky (E : En) (U : State) : Prop := Kx E U ∧ OV U
theorem Ky.blind {E : En} {U : State} {g : JFrame} {mk : MethodId} {a : Array Value} (h : Ky E U) : Ky E (U.calling g mk a) := ⟨h.1.blind, over_moved (Vm.Alike.refl U.vm) h.2.1, over_moved (Vm.Alike.refl U.vm) h.2.2⟩
theorem Ky.move {E : En} {s U : State} (hW : s.WarmedH U.vm) (hq : ∀ a : Nat, a < s.heap.size → ¬ Ax E a → U.heap[a]? = s.heap[a]?) (h : Ky E s) : Ky E U := ⟨h.1.move hW hq, over_moved hW.alike h.2.1, over_moved hW.alike h.2.2⟩
def rmC (d mc ms : Nat) : Room := { frames := d, cells := mc, slots := ms, locals := 64 * d }
def Qn (E : En) (h0 : Hp) (id0 N : Nat) : Array Value → State → Outcome → State → Prop := fun _ st o t => o = .returned none ∧ t.heap.size = E.1 (id0 + N) ∧ va_P (DE E) vwCl (wsN E h0 id0 N) t.heap ∧ va_F (Az E id0) st t
def Wc (G : Gx) (E : En) (nL : Nat) (h0 : Hp) (id0 ci N κ σ : Nat) (pc : Nat) (ls : List (Nat × Value)) (st : List Value) (fs : List Value) (n : Nat) (ex : va_W) (h : Hp) : Prop :=
  ∀ (H : Heap) (locs : List Loc) (la : Array Slot), H.size = E.1 (id0 + 1 + n + ex.length) → AdW E (id0 + 1 + n) ex → va_P (DE E) vwCl (wsC E h id0 ci fs n ex) H → va_S (Az E id0) G.2.2.2.2.1.heap H locs → lv_has la nL ls →
    W G.1 G.2.1 G.2.2.1 G.2.2.2.1 G.2.2.2.2.1 G.2.2.2.2.2.1 G.2.2.2.2.2.2.1 G.2.2.2.2.2.2.2.1 G.2.2.2.2.2.2.2.2.1 G.2.2.2.2.2.2.2.2.2.1 H locs κ σ (MQ G.2.2.2.2.2.2.2.1 (Qn E h0 id0 N) G.2.2.2.2.2.2.1 G.2.2.2.2.1 G.2.2.2.2.2.2.2.2.2.2.1 G.2.2.2.2.2.2.2.2.2.2.2 (Az E id0)) (F0 G.2.2.2.2.2.1 pc la st)
def Cz (G : Gx) (E : En) (cc : ByteArray) (nL : Nat) (own : String) (d id0 : Nat) : Prop :=
  G.1.tables.exec = Jvm.exec ∧ G.2.2.2.2.2.2.2.2.2.1.code = cc ∧ G.2.2.2.2.2.2.2.2.2.1.maxLocals = nL ∧ G.2.2.2.2.1.vm.findClass own = some G.2.2.2.2.2.1.cls ∧ (∀ w ∈ wsG, w.before G.2.2.2.2.2.2.1 G.2.2.2.2.1 = true) ∧ Ky E G.2.2.2.2.1 ∧ G.2.2.2.2.2.2.2.2.1.sig.returnType = none ∧ G.2.2.2.2.2.2.2.2.1.locks = false ∧ G.2.2.2.1 = rmC d G.2.2.2.2.2.2.2.2.2.2.1 G.2.2.2.2.2.2.2.2.2.2.2 ∧ G.2.2.2.2.2.2.2.2.1.name = "<init>" ∧ G.2.2.2.2.1.heap.size = E.1 (id0 + 1) ∧ Aff E
def Cn (d mc ms : Nat) (y : MethodName) (cc : ByteArray) (nL : Nat) (E : En) (as : List Value) (h0 : Hp) (id0 ci N : Nat) (f0 : List Value) : Prop :=
  Aff E → ∀ l : Launch, Met l y (Cond.code y cc nL none :: wsG) (rmC d mc ms) (va_Pc (rv E id0 :: as) (fun U => U.heap.size = E.1 (id0 + 1) ∧ va_P (DE E) vwCl [(E.1 id0, .inr (ci, f0))] U.heap ∧ Ky E U)) (Qn E h0 id0 N) mc ms (Az E id0)
theorem cn_intro {d mc ms : Nat} {y : MethodName} {cc : ByteArray} {nL : Nat} {E : En} {as : List Value} {h0 : Hp} {id0 ci N : Nat} {f0 : List Value} (hy : plainName y.cls = true) (hy1 : y.name = "<init>") (hlen : (lg_sl (rv E id0 :: as)).length ≤ nL) (h : Hp)
    (body : ∀ G : Gx, G.2.2.2.2.2.2.2.2.2.2.1 = mc → G.2.2.2.2.2.2.2.2.2.2.2 = ms → Cz G E cc nL y.cls d id0 → Wc G E nL h0 id0 ci N 0 0 0 (lv_args 0 (rv E id0 :: as)) [] f0 0 [] h) : Cn d mc ms y cc nL E as h0 id0 ci N f0 := by
  intro hE l
  refine Met.ofW (cc := cc) (maxL := nL) (ret := none) hy rfl ?_
  intro p e s m args below meth c s₁ B hml hv
  obtain ⟨rfl, hsz, hP, hK⟩ := hv
  have hts := atoms_spec (ws := Cond.code y cc nL none :: wsG) B.pre
  have hown : s.vm.findClass y.cls = some m.cls := findClass_of_methodNamed B.named
  have hin : meth.name = "<init>" := (name_of_methodNamed B.named B.method).1.trans hy1
  have hl := lv_entry (rv E id0 :: as) (n := nL) hlen
  rw [lg_entry_eq]
  exact body (p, l, e, rmC d mc ms, s, m, (rv E id0 :: as).toArray, below, meth, c, mc, ms) rfl rfl ⟨B.exec, B.bytes, hml, hown, fun w hw => hts w (List.mem_cons_of_mem _ hw), hK, B.returns, B.notSynchronized, rfl, hin, hsz, hE⟩ s.heap [] _ hsz AdW_0 hP va_S.rf hl
section CONS
variable {G : Gx} {E : En} {cc : ByteArray} {nL : Nat} {own : String} {d : Nat} {h0 : Hp} {id0 ci N κ σ : Nat} {pc : Nat} {ls : List (Nat × Value)} {st : List Value} {fs : List Value} {n : Nat} {ex : va_W} {h : Hp}
theorem Cz.K (C : Cz G E cc nL own d id0) : va_K (DE E) vwCl (tyE E) G.2.2.2.2.1 := C.2.2.2.2.2.1.1.1
theorem Cz.af (C : Cz G E cc nL own d id0) : Aff E := C.2.2.2.2.2.2.2.2.2.2.2
theorem Cz.R (C : Cz G E cc nL own d id0) : G.2.2.2.1 = rmC d G.2.2.2.2.2.2.2.2.2.2.1 G.2.2.2.2.2.2.2.2.2.2.2 := C.2.2.2.2.2.2.2.2.1
theorem Cz.sz (C : Cz G E cc nL own d id0) : G.2.2.2.2.1.heap.size = E.1 (id0 + 1) := C.2.2.2.2.2.2.2.2.2.2.1
theorem Cz.nm (C : Cz G E cc nL own d id0) : G.2.2.2.2.2.2.2.2.1.name = "<init>" := C.2.2.2.2.2.2.2.2.2.1
theorem wc_aload_n {kk : Fin 4} {i x : Nat} (j : Nat) (C : Cz G E cc nL own d id0) (hd : decode cc pc = .ok (.aload_n kk, 1)) (hi : (kk : Nat) = i) (hk : ls[j]? = some (i, rv E x)) (k : Wc G E nL h0 id0 ci N κ σ (pc + 1) ls (rv E x :: st) fs n ex h) : Wc G E nL h0 id0 ci N κ σ pc ls st fs n ex h := by
  intro H locs la a1 a2 a3 a4 hl
  exact lv_aload_n C.1 C.2.1 hd hi (lv_at hl j hk) (k H locs la a1 a2 a3 a4 hl)
theorem wc_astore_n {kk : Fin 4} {i x : Nat} {ls' : List (Nat × Value)} (ks : List Nat) (C : Cz G E cc nL own d id0) (hd : decode cc pc = .ok (.astore_n kk, 1)) (hi : (kk : Nat) = i) (hn : i < nL) (hl' : lv_pick ((i, rv E x) :: ls.filter (fun q => !(q.1 == i) && !(q.1 + 1 == i && q.2.category == 2))) ks = ls') (k : Wc G E nL h0 id0 ci N κ σ (pc + 1) ls' st fs n ex h) : Wc G E nL h0 id0 ci N κ σ pc ls (rv E x :: st) fs n ex h := by
  intro H locs la a1 a2 a3 a4 hl
  exact lv_astore_n C.1 C.2.1 hd hi hl hn rfl (fun la' hl2 => k H locs la' a1 a2 a3 a4 (lv_sub hl2 ks hl'))
theorem wc_iconst {z : Int} {v : Int} (C : Cz G E cc nL own d id0) (hd : decode cc pc = .ok (.iconst z, 1)) (hv : Int32.ofInt z = Int32.ofInt v) (k : Wc G E nL h0 id0 ci N κ σ (pc + 1) ls (iv v :: st) fs n ex h) : Wc G E nL h0 id0 ci N κ σ pc ls st fs n ex h := by
  intro H locs la a1 a2 a3 a4 hl
  exact lv_iconst C.1 C.2.1 hd hv (k H locs la a1 a2 a3 a4 hl)
theorem wc_bipush {z : Int} {v : Int} (C : Cz G E cc nL own d id0) (hd : decode cc pc = .ok (.bipush z, 2)) (hv : (Int8.ofInt z).toInt32 = Int32.ofInt v) (k : Wc G E nL h0 id0 ci N κ σ (pc + 2) ls (iv v :: st) fs n ex h) : Wc G E nL h0 id0 ci N κ σ pc ls st fs n ex h := by
  intro H locs la a1 a2 a3 a4 hl
  exact lv_bipush C.1 C.2.1 hd hv (k H locs la a1 a2 a3 a4 hl)
theorem wc_sipush {z : Int} {v : Int} (C : Cz G E cc nL own d id0) (hd : decode cc pc = .ok (.sipush z, 3)) (hv : (Int16.ofInt z).toInt32 = Int32.ofInt v) (k : Wc G E nL h0 id0 ci N κ σ (pc + 3) ls (iv v :: st) fs n ex h) : Wc G E nL h0 id0 ci N κ σ pc ls st fs n ex h := by
  intro H locs la a1 a2 a3 a4 hl
  exact lv_sipush C.1 C.2.1 hd hv (k H locs la a1 a2 a3 a4 hl)
theorem wc_ldc {index : Nat} {v : Int} (C : Cz G E cc nL own d id0) (hc : Cond.constant own index (Int32.ofInt v) ∈ wsG) (hd : decode cc pc = .ok (.ldc index, 2)) (k : Wc G E nL h0 id0 ci N κ σ (pc + 2) ls (iv v :: st) fs n ex h) : Wc G E nL h0 id0 ci N κ σ pc ls st fs n ex h := by
  intro H locs la a1 a2 a3 a4 hl
  exact lv_ldc C.1 C.2.1 C.2.2.2.1 (C.2.2.2.2.1 _ hc) hd (k H locs la a1 a2 a3 a4 hl)
theorem wc_dup {v : Value} (hc : v.category = 1) (C : Cz G E cc nL own d id0) (hd : decode cc pc = .ok (.dup, 1)) (k : Wc G E nL h0 id0 ci N κ σ (pc + 1) ls (v :: v :: st) fs n ex h) : Wc G E nL h0 id0 ci N κ σ pc ls (v :: st) fs n ex h := by
  intro H locs la a1 a2 a3 a4 hl
  exact lv_dup C.1 C.2.1 hd hc (k H locs la a1 a2 a3 a4 hl)
theorem wc_obj {idx x : Nat} (h1 : Cond.methodLink own idx Lib.objectInit ∈ wsG) (h2 : Cond.instanceMethod Lib.objectInit ∈ wsG) (h3 : Cond.code Lib.objectInit ⟨#[0xb1]⟩ 1 none ∈ wsG) (hd1 : 1 ≤ d) (C : Cz G E cc nL own d id0) (hd : decode cc pc = .ok (.invokespecial idx, 3)) (k : Wc G E nL h0 id0 ci N κ σ (pc + 3) ls [] fs n ex h) : Wc G E nL h0 id0 ci N κ σ pc ls [rv E x] fs n ex h := by
  intro H locs la a1 a2 a3 a4 hl
  refine W.objInit C.1 C.2.1 C.2.2.2.1 (C.2.2.2.2.1 _ h1) (C.2.2.2.2.1 _ h2) (C.2.2.2.2.1 _ h3) rfl (by rw [C.2.2.1]; exact hl.1) rfl hd (by rw [C.R]; exact hd1) (by rw [C.R]; show 2 * 0 + 0 + 12 ≤ 64 * d; omega) (k H locs la a1 a2 a3 a4 hl)
theorem RA_eq {s : State} {cA cB : ClassId} {ty : FieldType} (hno : ∀ C, ty ≠ .object C) (h1 : va_RA s cA ty) (h2 : s.vm.findClass ("[" ++ ty.toString) = some cB) : cB = cA := by
  have h3 : s.vm.findClass ("[" ++ ty.toString) = some cA := by
    cases ty with
    | object C => exact absurd rfl (hno C)
    | _ => exact h1
  exact Option.some.inj (h2.symm.trans h3)
theorem Az_up (hE : Aff E) {q : Nat} (h : E.1 (id0 + 1) ≤ q) : Az E id0 q := Or.inr h
theorem wsC_push : wsC E h id0 ci fs n [] ++ wsN E h (id0 + 1 + n) κ = wsC E h id0 ci fs (n + κ) [] := by
  unfold wsC
  rw [List.append_nil, List.append_nil, wsN_add]
  rfl
/-- a row of numbers -/
theorem wc_newa {atype : ArrayType} {ty : FieldType} {kd t0 M : Nat} {a0 : vp_A} {z : Int} (hty : newarray.typeOf atype = ty) (hno : ∀ C, ty ≠ .object C) (ht0 : (tyE E)[t0]? = some (E.2.2.2.1 kd, ty)) (hc : cel E h (id0 + 1 + n) = .inl (E.2.2.2.1 kd, a0)) (ha : ∀ cA : ClassId, vp_cell cA a0 = arrV cA M (fun _ => defaultValue ty)) (hw : Cond.arrayClass (newarray.typeOf atype) ∈ wsG) (hz : ¬ Int32.ofInt z < 0) (hM : (Int32.ofInt z).toNatClampNeg = M) (hb : M * componentBytes ty ≤ 536870912) (hk1 : κ + 1 ≤ G.2.2.2.2.2.2.2.2.2.2.1) (hs1 : σ + M ≤ G.2.2.2.2.2.2.2.2.2.2.2) (C : Cz G E cc nL own d id0) (hd : decode cc pc = .ok (.newarray atype, 2))
    (k : Wc G E nL h0 id0 ci N (κ + 1) (σ + M) (pc + 2) ls (rv E (id0 + 1 + n) :: st) fs (n + 1) [] h) : Wc G E nL h0 id0 ci N κ σ pc ls (iv z :: st) fs n [] h := by
  intro H locs la a1 a2 a3 a4 hl
  subst hty
  have a1' : H.size = E.1 (id0 + 1 + n) := a1
  refine va_newaK C.1 C.2.1 (C.2.2.2.2.1 _ hw) rfl hd rfl hz hM hb (by rw [C.R]; exact hk1) (by rw [C.R]; exact hs1) rfl fun H1 cA e1 z1 o1 hAr hNm => ?_
  have hcA := RA_eq hno (C.K.2 t0 _ ht0).2 hNm
  subst hcA
  have hP1 : va_P (DE E) vwCl (wsC E h id0 ci fs n [] ++ wsN E h (id0 + 1 + n) 1) H1 := by
    refine (a3.kept (fun k x hx => o1 x.1 ((a3 k x hx).lt))).app ?_
    rw [wsN_1, hc]
    intro k x hx
    have hz : k < 1 := (List.getElem?_eq_some_iff.mp hx).1
    rw [show k = 0 by omega] at hx
    cases hx
    show H1[E.1 (id0 + 1 + n)]? = some (vp_cell _ _)
    rw [ha, ← a1']
    exact e1
  rw [wsC_push] at hP1
  have hsz : H1.size = E.1 (id0 + 1 + (n + 1) + 0) := by rw [z1, a1', C.af (id0 + 1 + n), C.af (id0 + 1 + (n + 1) + 0)]; omega
  have := k H1 locs la hsz AdW_0 hP1 ⟨Nat.le_trans a4.1 (by omega), fun x g1 g2 => (o1 x (Nat.lt_of_lt_of_le g1 a4.1)).trans (a4.2.1 x g1 g2), a4.2.2⟩ hl
  unfold rv at this
  rw [← a1'] at this
  exact this
theorem arrV_congr {cA : ClassId} {M : Nat} {f g : Nat → Value} (hfg : ∀ j, j < M → f j = g j) : arrV cA M f = arrV cA M g := by
  unfold arrV
  congr 1
  apply Array.ext
  · simp
  · intro j h1 h2
    simp only [Array.getElem_ofFn]
    exact hfg j (by simpa using h1)
/-- rows of numbers -/
theorem wc_mnew {index kd kr to tr A M : Nat} {ty : FieldType} {a0 : vp_A} {z y : Int} (hno : ∀ C, ty ≠ .object C) (hto : (tyE E)[to]? = some (E.2.2.2.1 kd, .array ty)) (htr : (tyE E)[tr]? = some (E.2.2.2.1 kr, ty))
    (hco : cel E h (id0 + 1 + n) = .inl (E.2.2.2.1 kd, A, .inr (.inr (.inr (.inr (fun j => some (E.1 (id0 + 1 + n + 1 + j)))))))) (hcr : ∀ j, j < A → cel E h (id0 + 1 + n + 1 + j) = .inl (E.2.2.2.1 kr, a0)) (ha : ∀ cA : ClassId, vp_cell cA a0 = arrV cA M (fun _ => defaultValue ty))
    (hw1 : Cond.classLink own index ("[" ++ (FieldType.array ty).toString) ∈ wsG) (hw2 : (Cond.arrayOver (.array ty)).before #[] G.2.2.2.2.1 = true) (hw3 : Cond.arrayClass ty ∈ wsG) (hz : ¬ Int32.ofInt z < 0) (hy : ¬ Int32.ofInt y < 0) (hA : (Int32.ofInt z).toNatClampNeg = A) (hM : (Int32.ofInt y).toNatClampNeg = M) (hb : A * 4 ≤ 536870912 ∧ M * componentBytes ty ≤ 536870912 ∧ M ≤ 536870912) (hf : fits ty (defaultValue ty) = true)
    (hk1 : κ + (1 + A) ≤ G.2.2.2.2.2.2.2.2.2.2.1) (hs1 : σ + (A + A * M) ≤ G.2.2.2.2.2.2.2.2.2.2.2) (C : Cz G E cc nL own d id0) (hd : decode cc pc = .ok (.multianewarray index 2, 4))
    (k : Wc G E nL h0 id0 ci N (κ + 1 + A) (σ + A + A * M) (pc + 4) ls (rv E (id0 + 1 + n) :: st) fs (n + (1 + A)) [] h) : Wc G E nL h0 id0 ci N κ σ pc ls (iv y :: iv z :: st) fs n [] h := by
  intro H locs la a1 a2 a3 a4 hl
  have a1' : H.size = E.1 (id0 + 1 + n) := a1
  refine W_mnew C.1 C.2.1 C.2.2.2.1 (C.2.2.2.2.1 _ hw1) (over_moved (Vm.Alike.refl _) hw2) (C.2.2.2.2.1 _ hw3) rfl hd rfl hz hy hA hM hb.1 hb.2.1 hb.2.2 hf (by rw [C.R]; exact hk1) (by rw [C.R]; exact hs1) fun H1 cA cB f1 f2 g1 g2 z1 e1 e2 o1 => ?_
  have hcA := RA_eq (fun C z => by cases z) (C.K.2 to _ hto).2 f1
  have hcB : cB = E.2.2.2.1 kr := by
    have h1 : va_RA _ (E.2.2.2.1 kr) ty := (C.K.2 tr _ htr).2
    exact RA_eq hno h1 (by
      have h2 := f2
      rw [show (FieldType.array ty).toString = "[" ++ ty.toString from rfl] at h2
      exact h2)
  subst hcA
  subst hcB
  have hP1 : va_P (DE E) vwCl (wsC E h id0 ci fs n [] ++ wsN E h (id0 + 1 + n) (1 + A)) H1 := by
    refine (a3.kept (fun k x hx => o1 x.1 ((a3 k x hx).lt))).app ?_
    intro k x hx
    obtain ⟨hk, rfl⟩ := wsN_at hx
    rcases (show k = 0 ∨ 1 ≤ k by omega) with q | q
    · subst q
      show va_at (DE E) vwCl (E.1 (id0 + 1 + n), cel E h (id0 + 1 + n)) H1
      rw [hco]
      show H1[E.1 (id0 + 1 + n)]? = some (vp_cell _ _)
      rw [vp_cell_q, ← a1', e1]
      congr 1
      apply arrV_congr
      intro j hj
      unfold rowsV
      rw [if_pos hj]
      have e9 : H.size + 1 + j = E.1 (id0 + 1 + n + 1 + j) := by rw [a1', C.af (id0 + 1 + n), C.af (id0 + 1 + n + 1 + j)]; omega
      rw [e9]
      rfl
    · show va_at (DE E) vwCl (E.1 (id0 + 1 + n + k), cel E h (id0 + 1 + n + k)) H1
      rw [show id0 + 1 + n + k = id0 + 1 + n + 1 + (k - 1) by omega, hcr (k - 1) (by omega)]
      show H1[E.1 (id0 + 1 + n + 1 + (k - 1))]? = some (vp_cell _ _)
      have e9 : H.size + 1 + (k - 1) = E.1 (id0 + 1 + n + 1 + (k - 1)) := by rw [a1', C.af (id0 + 1 + n), C.af (id0 + 1 + n + 1 + (k - 1))]; omega
      rw [ha, ← e2 (k - 1) (by omega), e9]
  rw [wsC_push] at hP1
  have hsz : H1.size = E.1 (id0 + 1 + (n + (1 + A)) + 0) := by rw [z1, a1', C.af (id0 + 1 + n), C.af (id0 + 1 + (n + (1 + A)) + 0)]; omega
  have := k H1 (locs ++ (List.range A).map fun j => (⟨H.size, j⟩ : Loc)) la hsz AdW_0 hP1 ⟨Nat.le_trans a4.1 (by omega), fun x g1 g2 => (o1 x (Nat.lt_of_lt_of_le g1 a4.1)).trans (a4.2.1 x g1 g2), fun q hq => by
    rcases List.mem_append.mp hq with g | g
    · exact a4.2.2 q g
    · obtain ⟨j, -, rfl⟩ := List.mem_map.mp g
      right
      show E.1 (id0 + 1) ≤ H.size
      rw [a1', C.af (id0 + 1), C.af (id0 + 1 + n)]
      omega⟩ hl
  unfold rv at this
  rw [← a1'] at this
  exact this
end CONS

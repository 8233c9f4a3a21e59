/-! ===== making the world: fields, calls, the end ===== -/
/-- a final field; a field that is not -/
def FC (own : String) (idx ci k : Nat) (fin : Bool) (v : Value) : Prop := ∃ (C : String) (T : u_T) (N : Nat) (ty0 : Nat → FieldType) (ty : FieldType), vwCl[ci]? = some (C, T, N) ∧ k < N ∧ (∀ w ∈ u_ws C T N, w ∈ wsG) ∧ Cond.fieldLink own idx (T k).1 (T k).2.1 (T k).2.2.1 ∈ wsG ∧ (∀ k, k < N → parseFieldDescriptor (T k).2.2.1 = some (ty0 k)) ∧ (∀ a, a < N → ∀ b, b < N → a ≠ b → (T a).2.1 ≠ (T b).2.1) ∧ (T k).2.2.2 = fin ∧ (T k).1 = own ∧ parseFieldDescriptor (T k).2.2.1 = some ty ∧ narrow ty v = v ∧ fits ty v = true
section CON2
variable {G : Gx} {E : En} {cc : ByteArray} {nL : Nat} {own : String} {d : Nat} {h0 : Hp} {id0 ci N κ σ : Nat} {pc : Nat} {ls : List (Nat × Value)} {st : List Value} {fs : List Value} {n : Nat} {ex : va_W} {h : Hp}
theorem wc_put {fin : Bool} {idx k : Nat} {v : Value} {fs' : List Value} (hF : FC own idx ci k fin v) (hl9 : k < fs.length) (e' : fs.set k v = fs') (C : Cz G E cc nL own d id0) (hd : decode cc pc = .ok (.putfield idx, 3)) (kk : Wc G E nL h0 id0 ci N κ σ (pc + 3) ls st fs' n ex h) : Wc G E nL h0 id0 ci N κ σ pc ls (v :: rv E id0 :: st) fs n ex h := by
  intro H locs la a1 a2 a3 a4 hl
  subst e'
  obtain ⟨Cn, T, N, ty0, ty, b1, b2, b3, b4, b5, b6, b7, b8, b9, b10, b11⟩ := hF
  have hw := C.2.2.2.2.1
  have hD := (AdW_C (h := h) (ci := ci) (fs := fs) a2).D C.af
  have hap := va_apart (own := own) hw b3 ty0 b5 b6 C.K b1
  obtain ⟨r, g1, cell, q1, q2, q3, q4⟩ := a3 0 _ rfl
  have hr : r = (Cn, T, N) := Option.some.inj (g1.symm.trans b1)
  subst hr
  obtain ⟨hS, hfc, kC, hkC, hkind⟩ := C.K.1 ci _ b1
  obtain ⟨cf, kf, fi, f, hi, hsl⟩ := hS k b2
  have hlay := hw _ (b3 _ (u_in_lay b2))
  have hst := (u_facts hfc hkC (u_lays hw b3 b2) hi).1
  have fin9 : ∀ (H1 : Heap), H1[E.1 id0]? = some (cell.setSlot f.slot v) → H1.size = H.size → (∀ q, q ≠ E.1 id0 → H1[q]? = H[q]?) → W G.1 G.2.1 G.2.2.1 G.2.2.2.1 G.2.2.2.2.1 G.2.2.2.2.2.1 G.2.2.2.2.2.2.1 G.2.2.2.2.2.2.2.1 G.2.2.2.2.2.2.2.2.1 G.2.2.2.2.2.2.2.2.2.1 H1 (locs ++ [⟨E.1 id0, f.slot⟩]) κ σ (MQ G.2.2.2.2.2.2.2.1 (Qn E h0 id0 _) G.2.2.2.2.2.2.1 G.2.2.2.2.1 G.2.2.2.2.2.2.2.2.2.2.1 G.2.2.2.2.2.2.2.2.2.2.2 (Az E id0)) (F0 G.2.2.2.2.2.1 (pc + 3) la st) := fun H1 e1 e2 e3 => by
    rw [hsl] at e1 ⊢
    have hat : va_at (DE E) vwCl (E.1 id0, .inr (ci, fs.set k v)) H1 := ⟨_, b1, t_OB.to (V := updV (vp_V fs) k v) ⟨_, e1, q2, q3, t_set q4 hap b2 v⟩ (fun j _ => vp_updV_set hl9 v j)⟩
    have hP2 := a3.set (p := 0) (a := E.1 id0) (e0 := .inr (ci, fs)) hD rfl hat e3
    exact kk H1 _ la (e2.trans a1) a2 hP2 (a4.put e2 e3 (Or.inl rfl)) hl
  unfold u_lay at hlay
  cases fin with
  | true =>
    rw [if_pos b7] at hlay
    have hcf : G.2.2.2.2.2.1.cls = cf := by
      obtain ⟨_, _, c', _, _, _, -, -, hf', -, -, -, hown2, -⟩ := Cond.laysFinal_spec hlay
      have e1 : c' = cf := by have := hi.symm.trans hf'; simp at this; exact this.1.symm
      rw [b8] at hown2
      rw [← e1]; exact Option.some.inj (C.2.2.2.1.symm.trans hown2)
    exact W.putFinK C.1 C.2.1 C.2.2.2.1 (hw _ b4) hi hst hcf C.nm (by rw [q2]; exact u_fits hfc hkC hkind (Or.inr hlay) hi b9 b10 b11) q1 q3 (by rw [hsl]; exact k2_hasslot (q4 k b2)) rfl rfl hd fin9
  | false =>
    rw [if_neg (by rw [b7]; decide)] at hlay
    exact W.putK C.1 C.2.1 (f := f) ⟨C.2.2.2.1, hw _ b4, ⟨_, _, _, hi⟩, hst⟩ (by rw [q2]; exact u_store hfc hkC hkind hlay hi b9 b10 b11) q1 q3 (by rw [hsl]; exact k2_hasslot (q4 k b2)) rfl rfl hd fin9
theorem wc_get {idx k : Nat} {v : Value} (hF : FL own idx ci k) (hv : fs[k]? = some v) (C : Cz G E cc nL own d id0) (hd : decode cc pc = .ok (.getfield idx, 3)) (kk : Wc G E nL h0 id0 ci N κ σ (pc + 3) ls (v :: st) fs n ex h) : Wc G E nL h0 id0 ci N κ σ pc ls (rv E id0 :: st) fs n ex h := by
  intro H locs la a1 a2 a3 a4 hl
  obtain ⟨Cn, T, N, h1, h2, h3, h4⟩ := hF
  exact va_get (D := DE E) (cl := vwCl) (tys := tyE E) (ws := wsC E h id0 ci fs n ex) C.1 C.2.1 C.2.2.2.2.1 h3 C.2.2.2.1 C.K a3 0 rfl h1 k h2 (C.2.2.2.2.1 _ h4) (fun _ z => z) hv hd (kk H locs la a1 a2 a3 a4 hl)
theorem wsC_at {j : Nat} (hj : j < n) : (wsC E h id0 ci fs n ex)[1 + j]? = some (E.1 (id0 + 1 + j), cel E h (id0 + 1 + j)) := by
  unfold wsC
  rw [Nat.add_comm 1 j, List.getElem?_cons_succ, List.getElem?_append_left (by rw [wsN_len]; exact hj), wsN_get hj]
theorem wsC_set {j k : Nat} {v : Int} (hj : j < n) : (wsC E h id0 ci fs n ex).set (1 + j) (E.1 (id0 + 1 + j), cel E (upd2 h (id0 + 1 + j) k v) (id0 + 1 + j)) = wsC E (upd2 h (id0 + 1 + j) k v) id0 ci fs n ex := by
  unfold wsC
  rw [Nat.add_comm 1 j, List.set_cons_succ, List.set_append_left _ _ (by rw [wsN_len]; exact hj)]
  congr 2
  apply List.ext_getElem?
  intro i
  rw [List.getElem?_set, wsN_len]
  by_cases hi : j = i
  · subst hi
    rw [if_pos rfl, if_pos hj, wsN_get hj]
  · rw [if_neg hi]
    by_cases h2 : i < n
    · rw [wsN_get h2, wsN_get h2]
      congr 2
      unfold cel objE fvE
      rw [upd2_ne _ (show id0 + 1 + i ≠ id0 + 1 + j by omega)]
    · rw [List.getElem?_eq_none (by rw [wsN_len]; omega), List.getElem?_eq_none (by rw [wsN_len]; omega)]
theorem wc_iast {j M : Nat} {a v : Int} (hj : j < n) (hs : shL[id0 + 1 + j]? = some (1, M, 0, [])) (hin : 0 ≤ a ∧ a < M) (C : Cz G E cc nL own d id0) (hd : decode cc pc = .ok (.iastore, 1)) (kk : Wc G E nL h0 id0 ci N κ σ (pc + 1) ls st fs n ex (upd2 h (id0 + 1 + j) a.toNat v)) : Wc G E nL h0 id0 ci N κ σ pc ls (iv v :: iv a :: rv E (id0 + 1 + j) :: st) fs n ex h := by
  intro H locs la a1 a2 a3 a4 hl
  have hM : M < 2147483648 := sh_n hs
  have hD := (AdW_C (h := h) (ci := ci) (fs := fs) a2).D C.af
  have hat := wsC_at (E := E) (h := h) (id0 := id0) (ci := ci) (fs := fs) (n := n) (ex := ex) hj
  rw [cel_1 hs] at hat
  have hcell : H[E.1 (id0 + 1 + j)]? = some (arrV (E.2.2.2.1 1) M (fun k => .int (Int32.ofInt (h (id0 + 1 + j) k)))) := a3 (1 + j) _ hat
  have hK := (C.K.2 0 _ rfl).1 M (fun k => .int (Int32.ofInt (h (id0 + 1 + j) k)))
  refine W.iast C.1 C.2.1 hcell hK (fun q => by cases q) (by rw [arrV_size]; exact i_in hin hM) rfl rfl hd fun H1 e1 e2 e3 => ?_
  rw [i_cl (by omega), arrV_store] at e1
  rw [i_cl (by omega)]
  refine kk H1 _ la (e2.trans a1) a2 ?_ (a4.put e2 e3 (hD.2 _ _ hat)) hl
  have hP2 := a3.set (e := cel E (upd2 h (id0 + 1 + j) a.toNat v) (id0 + 1 + j)) hD hat (by
    rw [cel_1 hs]
    show H1[E.1 (id0 + 1 + j)]? = some (vp_cell _ _)
    rw [vp_cell_i, e1]
    congr 1
    apply arrV_congr
    intro k hk
    unfold updV upd2
    by_cases q : k = a.toNat
    · rw [if_pos q, if_pos ⟨rfl, q⟩]
    · rw [if_neg q, if_neg (fun z => q z.2)]) e3
  rw [wsC_set hj] at hP2
  exact hP2
theorem wc_aald {j A b : Nat} {a : Int} (hj : j < n) (hs : shL[id0 + 1 + j]? = some (4, A, b, [])) (hin : 0 ≤ a ∧ a < A) (C : Cz G E cc nL own d id0) (hd : decode cc pc = .ok (.aaload, 1)) (kk : Wc G E nL h0 id0 ci N κ σ (pc + 1) ls (rv E (b + a.toNat) :: st) fs n ex h) : Wc G E nL h0 id0 ci N κ σ pc ls (iv a :: rv E (id0 + 1 + j) :: st) fs n ex h := by
  intro H locs la a1 a2 a3 a4 hl
  have hA : A < 2147483648 := sh_n hs
  have hat := wsC_at (E := E) (h := h) (id0 := id0) (ci := ci) (fs := fs) (n := n) (ex := ex) hj
  rw [cel_4 hs] at hat
  have hcell : H[E.1 (id0 + 1 + j)]? = some (arrV (E.2.2.2.1 4) A (fun k => va_rf (some (E.1 (b + k))))) := a3 (1 + j) _ hat
  have hK := (C.K.2 3 _ rfl).1 A (fun k => va_rf (some (E.1 (b + k))))
  refine W.aald C.1 C.2.1 (v := rv E (b + a.toNat)) (ty := .array .int) hcell hK rfl (fun q => by cases q) ?_ ?_ rfl rfl hd (kk H locs la a1 a2 a3 a4 hl)
  · rw [arrV_size]; exact i_in hin hA
  · rw [i_cl (by omega), arrV_read _ _ (by omega)]; rfl
/-- a new object -/
theorem wc_new {index cj M : Nat} {Cn : String} {T : u_T} {ty0 : Nat → FieldType} {f0 : List Value} (hc : vwCl[cj]? = some (Cn, T, M)) (hin : ∀ w ∈ u_ws Cn T M, w ∈ wsG) (hty : ∀ k, k < M → parseFieldDescriptor (T k).2.2.1 = some (ty0 k)) (hw1 : Cond.classLink own index Cn ∈ wsG) (hw2 : Cond.instantiable Cn M ∈ wsG) (hw3 : Cond.initialized Cn ∈ wsG) (hf : ∀ j, j < M → defaultValue (ty0 j) = vp_V f0 j)
    (hk1 : κ + 1 ≤ G.2.2.2.2.2.2.2.2.2.2.1) (hs1 : σ + M ≤ G.2.2.2.2.2.2.2.2.2.2.2) (C : Cz G E cc nL own d id0) (hd : decode cc pc = .ok (.new index, 3)) (kk : Wc G E nL h0 id0 ci N (κ + 1) (σ + M) (pc + 3) ls (rv E (id0 + 1 + n) :: st) fs n [(E.1 (id0 + 1 + n), .inr (cj, f0))] h) : Wc G E nL h0 id0 ci N κ σ pc ls st fs n [] h := by
  intro H locs la a1 a2 a3 a4 hl
  have a1' : H.size = E.1 (id0 + 1 + n) := a1
  have hw := C.2.2.2.2.1
  have hKn := C.K.1 cj _ hc
  refine W.newcK C.1 C.2.1 C.2.2.2.1 (hw _ hw1) (hw _ hw2) (hw _ hw3) rfl hd (by rw [C.R]; exact hk1) (by rw [C.R]; exact hs1) hKn.2.1 rfl fun H1 kC hkC e1 z1 o1 => ?_
  have hP1 : va_P (DE E) vwCl (wsC E h id0 ci fs n [] ++ [(E.1 (id0 + 1 + n), .inr (cj, f0))]) H1 := by
    refine (a3.kept (fun k x hx => o1 x.1 ((a3 k x hx).lt))).app ?_
    intro k x hx
    have hz : k < 1 := (List.getElem?_eq_some_iff.mp hx).1
    rw [show k = 0 by omega] at hx
    cases hx
    rw [← a1']
    exact ⟨_, hc, (u_born ty0 hw hin hKn hkC e1 hty).to hf⟩
  have e9 : wsC E h id0 ci fs n [] ++ [(E.1 (id0 + 1 + n), .inr (cj, f0))] = wsC E h id0 ci fs n [(E.1 (id0 + 1 + n), .inr (cj, f0))] := by
    unfold wsC; rw [List.append_nil]; rfl
  rw [e9] at hP1
  have := kk H1 locs la (by rw [z1, a1']; show _ = E.1 (id0 + 1 + n + 1); rw [C.af (id0 + 1 + n), C.af (id0 + 1 + n + 1)]; omega) AdW_1 hP1 ⟨Nat.le_trans a4.1 (by omega), fun x g1 g2 => (o1 x (Nat.lt_of_lt_of_le g1 a4.1)).trans (a4.2.1 x g1 g2), a4.2.2⟩ hl
  unfold rv at this
  rw [← a1'] at this
  exact this
/-- a call of a constructor -/
def SIc (own : String) (idx : Nat) (y : MethodName) (host : Option String) (cc : ByteArray) (nL n : Nat) : Prop :=
  (match host with | none => Cond.methodLink own idx y ∈ wsG | some hs => Cond.methodLinkNest own idx y hs ∈ lw_tbl) ∧ Cond.instanceMethod y ∈ wsG ∧ Cond.initialized y.cls ∈ wsG ∧ Cond.code y cc nL none ∈ wsG ∧ nL ≤ 45 ∧ y.name = "<init>" ∧ (y.cls ≠ "java/lang/invoke/MethodHandle" ∧ y.cls ≠ "java/lang/invoke/VarHandle" ∧ (parseMethodDescriptor y.desc).map (fun d => d.parameters.length) = some n)
theorem wc_call {y : MethodName} {host : Option String} {cy : ByteArray} {nY m9 idx d' mc ms cj N' : Nat} {as rest : List Value} {f0 : List Value} (hM : Cn d' mc ms y cy nY E as h (id0 + 1 + n) cj N' f0) (hid : id0 < 147) (hq : SIc own idx y host cy nY m9) (hd' : d' < d) (hn : as.length = m9) (hst : st = as.reverse ++ rv E (id0 + 1 + n) :: rest) (hw : (rest.map fun v => v.category).sum ≤ 8) (hk1 : κ + mc ≤ G.2.2.2.2.2.2.2.2.2.2.1) (hs1 : σ + ms ≤ G.2.2.2.2.2.2.2.2.2.2.2) (C : Cz G E cc nL own d id0) (hdg : decode cc pc = .ok (.invokespecial idx, 3))
    (kk : Wc G E nL h0 id0 ci N (κ + mc) (σ + ms) (pc + 3) ls rest fs (n + N') [] h) : Wc G E nL h0 id0 ci N κ σ pc ls st fs n [(E.1 (id0 + 1 + n), .inr (cj, f0))] h := by
  intro H locs la a1 a2 a3 a4 hl
  obtain ⟨q1, q2, q3, q4, q5, q6, q7⟩ := hq
  have hG := good_ws q4
  have hE := C.af
  have a1' : H.size = E.1 (id0 + 1 + n + 1) := a1
  have hR : (rmC d' mc ms).frames + 1 ≤ G.2.2.2.1.frames ∧ 8 + (nY + 11) + (rmC d' mc ms).locals ≤ G.2.2.2.1.locals := by
    rw [C.R]
    refine ⟨hd', ?_⟩
    show 8 + (nY + 11) + 64 * d' ≤ 64 * d
    omega
  have hPn : va_P (DE E) vwCl (wsC E h id0 ci fs n []) H ∧ va_P (DE E) vwCl [(E.1 (id0 + 1 + n), .inr (cj, f0))] H := by
    have e9 : wsC E h id0 ci fs n [(E.1 (id0 + 1 + n), .inr (cj, f0))] = wsC E h id0 ci fs n [] ++ [(E.1 (id0 + 1 + n), .inr (cj, f0))] := by
      unfold wsC; rw [List.append_nil]; rfl
    rw [e9] at a3
    refine ⟨fun k q hk => a3 k q ?_, fun k q hk => a3 ((wsC E h id0 ci fs n []).length + k) q ?_⟩
    · rw [List.getElem?_append_left (List.getElem?_eq_some_iff.mp hk).1]; exact hk
    · rw [List.getElem?_append_right (by omega), Nat.add_sub_cancel_left]; exact hk
  have hp : PreS G.2.2.2.2.1 H (va_Pc (rv E (id0 + 1 + n) :: as) (fun U => U.heap.size = E.1 (id0 + 1 + n + 1) ∧ va_P (DE E) vwCl [(E.1 (id0 + 1 + n), .inr (cj, f0))] U.heap ∧ Ky E U)) (rv E (id0 + 1 + n) :: as) := by
    refine ⟨fun a U g mk q => ⟨q.1, q.2.1, q.2.2.1, q.2.2.2.blind⟩, fun U hU hW => ⟨rfl, by rw [hU]; exact a1', by rw [hU]; exact hPn.2, ?_⟩⟩
    refine Ky.move hW (fun a g1 g2 => ?_) C.2.2.2.2.2.1
    rw [hU]
    exact a4.2.1 a g1 (fun z => by
      rcases z with z | z
      · exact g2 ⟨id0, hid, z⟩
      · rw [C.sz] at g1; omega)
  have run : va_Run G.1 G.2.1 G.2.2.1 G.2.2.2.1 G.2.2.2.2.1 G.2.2.2.2.2.1 G.2.2.2.2.2.2.1 G.2.2.2.2.2.2.2.1 G.2.2.2.2.2.2.2.2.1 G.2.2.2.2.2.2.2.2.2.1 H locs κ σ mc ms (F0 G.2.2.2.2.2.1 pc la st) rest (Qn E h (id0 + 1 + n) N' (Value.ref (E.1 (id0 + 1 + n)) :: as).toArray) (Az E (id0 + 1 + n)) := by
    cases host with
    | none => exact va_runI (b := E.1 (id0 + 1 + n)) (As := as) (n := m9) (bytes := cy) (maxL := nY) (own := own) (Ts := wsG) ⟨C.1, C.2.1, C.2.2.1, C.2.2.2.1, C.2.2.2.2.1⟩ (hM hE G.2.1) (cwI m9 C.2.2.2.2.1 hG rfl rfl rfl (C.2.2.2.2.1 _ q3) (C.2.2.2.2.1 _ q1) (C.2.2.2.2.1 _ q2) q6 q7 hR) hp rfl hn hl.1 hst (lv_room hw) hdg ⟨by rw [C.R]; exact hk1, by rw [C.R]; exact hs1⟩
    | some hs => exact va_runIN (b := E.1 (id0 + 1 + n)) (As := as) (n := m9) (bytes := cy) (maxL := nY) (own := own) (host := hs) (Ts := wsG) ⟨C.1, C.2.1, C.2.2.1, C.2.2.2.1, C.2.2.2.2.1⟩ (hM hE G.2.1) ⟨va_cnB m9 C.2.2.2.2.1 hG rfl rfl rfl (C.2.2.2.2.2.1.1.2.2.1 _ _ _ _ q1) (C.2.2.2.2.1 _ q3) q7 hR, q6, C.2.2.2.2.1 _ q2⟩ hp rfl hn hl.1 hst (lv_room hw) hdg ⟨by rw [C.R]; exact hk1, by rw [C.R]; exact hs1⟩
  intro T hT X
  obtain ⟨v, st₀, t, T', L, b0, X', hL, e1, e2, ⟨hv, hsz, hP1, hz, hk⟩, stp⟩ := run T hT X
  cases hv
  rw [b0] at hz hk
  have hlt : ∀ q, q < E.1 (id0 + 1 + n) → T'.heap[q]? = H[q]? := fun q hq => by
    rw [e1]
    refine hk q (by rw [a1', hE (id0 + 1 + n + 1)]; rw [hE (id0 + 1 + n)] at hq; omega) (fun z => ?_)
    rcases z with z | z
    · omega
    · rw [hE (id0 + 1 + n + 1)] at z; rw [hE (id0 + 1 + n)] at hq; omega
  have hP2 : va_P (DE E) vwCl (wsC E h id0 ci fs n [] ++ wsN E h (id0 + 1 + n) N') T'.heap := by
    refine (hPn.1.kept (fun k x hx => hlt x.1 ?_)).app (by rw [e1]; exact hP1)
    have hk9 := (List.getElem?_eq_some_iff.mp hx).1
    have hl9 : (wsC E h id0 ci fs n []).length = 1 + n := by unfold wsC; simp [wsN_len, Nat.add_comm]
    rw [AdW_C (n := n) AdW_0 k x hx, hE (id0 + k), hE (id0 + 1 + n)]
    omega
  rw [wsC_push] at hP2
  obtain ⟨t2, c1, c2⟩ := kk T'.heap (locs ++ L) la (by rw [e1, hsz]; show _ = E.1 (id0 + 1 + (n + N') + 0); rw [show id0 + 1 + n + N' = id0 + 1 + (n + N') + 0 by omega]) AdW_0 hP2 ⟨Nat.le_trans a4.1 (by rw [e1]; exact hz), fun q g1 g2 => by
      rw [hlt q (by rw [C.sz, hE (id0 + 1)] at g1; rw [hE (id0 + 1 + n)]; omega)]; exact a4.2.1 q g1 g2, fun q hq => by
      rcases List.mem_append.mp hq with g | g
      · exact a4.2.2 q g
      · rcases hL q g with z | z
        · right; rw [z, hE (id0 + 1 + n), hE (id0 + 1)]; omega
        · right; rw [hE (id0 + 1 + n + 1)] at z; rw [hE (id0 + 1)]; omega⟩ hl T' rfl X'
  exact ⟨t2, stp t2 c1, c2⟩
/-- the end -/
theorem wc_ret (hN : N = n + 1) (hc : cel E h0 id0 = .inr (ci, fs)) (hh : ∀ j, j < n → cel E h (id0 + 1 + j) = cel E h0 (id0 + 1 + j)) (hk : κ ≤ G.2.2.2.2.2.2.2.2.2.2.1) (hs : σ ≤ G.2.2.2.2.2.2.2.2.2.2.2) (C : Cz G E cc nL own d id0) (hd : decode cc pc = .ok (.return_, 1)) : Wc G E nL h0 id0 ci N κ σ pc ls [] fs n [] h := by
  intro H locs la a1 a2 a3 a4 hl
  have e9 : wsC E h id0 ci fs n [] = wsN E h0 id0 N := by
    unfold wsC
    rw [List.append_nil, hN, Nat.add_comm n 1, wsN_add, wsN_1, hc]
    show _ :: wsN E h (id0 + 1) n = _ :: wsN E h0 (id0 + 1) n
    congr 1
    apply List.ext_getElem?
    intro i
    by_cases h2 : i < n
    · rw [wsN_get h2, wsN_get h2, hh i h2]
    · rw [List.getElem?_eq_none (by rw [wsN_len]; omega), List.getElem?_eq_none (by rw [wsN_len]; omega)]
  rw [e9] at a3
  refine W.widen hk hs ?_
  refine W.vret C.1 C.2.1 C.2.2.2.2.2.2.1 (fun t ht hW => ⟨rfl, ?_, by rw [ht]; exact a3, a4.F ht⟩) a4.2.2 hd C.2.2.2.2.2.2.2.1
  rw [ht, a1, hN]
  show E.1 (id0 + 1 + n + 0) = _
  rw [show id0 + 1 + n + 0 = id0 + (n + 1) by omega]
end CON2

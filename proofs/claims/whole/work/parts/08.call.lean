/-! ===== calls ===== -/
/-- a callee's words at a site, static and plain -/
def SS (own : String) (idx : Nat) (y : MethodName) (cc : ByteArray) (nL : Nat) (ret : Option FieldType) (n : Nat) : Prop :=
  Cond.methodLink own idx y ∈ wsG ∧ Cond.static y ∈ wsG ∧ Cond.initialized y.cls ∈ wsG ∧ Cond.code y cc nL ret ∈ wsG ∧ nL ≤ 45 ∧ (y.cls ≠ "java/lang/invoke/MethodHandle" ∧ y.cls ≠ "java/lang/invoke/VarHandle" ∧ (parseMethodDescriptor y.desc).map (fun d => d.parameters.length) = some n)
/-- static, private of a nest mate -/
def SN (own : String) (idx : Nat) (y : MethodName) (host : String) (cc : ByteArray) (nL : Nat) (ret : Option FieldType) (n : Nat) : Prop :=
  Cond.methodLinkNest own idx y host ∈ lw_tbl ∧ Cond.static y ∈ wsG ∧ Cond.initialized y.cls ∈ wsG ∧ Cond.code y cc nL ret ∈ wsG ∧ nL ≤ 45 ∧ (y.cls ≠ "java/lang/invoke/MethodHandle" ∧ y.cls ≠ "java/lang/invoke/VarHandle" ∧ (parseMethodDescriptor y.desc).map (fun d => d.parameters.length) = some n)
/-- of an object -/
def SV (own : String) (idx : Nat) (y : MethodName) (ci : Nat) (cc : ByteArray) (nL : Nat) (ret : Option FieldType) (n : Nat) : Prop :=
  Cond.methodLink own idx y ∈ wsG ∧ Cond.instanceMethod y ∈ wsG ∧ Cond.selects y.cls y y ∈ wsG ∧ Cond.initialized y.cls ∈ wsG ∧ Cond.code y cc nL ret ∈ wsG ∧ nL ≤ 45 ∧ (∃ T N, vwCl[ci]? = some (y.cls, T, N)) ∧ (y.cls ≠ "java/lang/invoke/MethodHandle" ∧ y.cls ≠ "java/lang/invoke/VarHandle" ∧ (parseMethodDescriptor y.desc).map (fun d => d.parameters.length) = some n)
theorem wsG_good {w : Cond} (h : w ∈ wsG) : goodWord w = true := (List.mem_filter.mp h).2
theorem good_ws {y : MethodName} {cc : ByteArray} {nL : Nat} {ret : Option FieldType} (hc : Cond.code y cc nL ret ∈ wsG) : GoodIn wsG (Cond.code y cc nL ret :: wsG) := by
  refine goodIn_sub (fun w hw => ?_) (List.all_eq_true.mpr fun w hw => ?_)
  · rcases List.mem_cons.mp hw with rfl | h
    · exact hc
    · exact h
  · rcases List.mem_cons.mp hw with rfl | h
    · exact wsG_good hc
    · exact wsG_good h
section CALL
variable {G : Gx} {E : En} {cc : ByteArray} {nL : Nat} {own : String} {ret : Option FieldType} {d : Nat} {post : Option Value → Hp → Prop} {pc : Nat} {ls : List (Nat × Value)} {st : List Value} {h : Hp}
variable {y : MethodName} {cy : ByteArray} {nY n idx d' : Nat} {retY : Option FieldType} {as : List Value} {rest : List Value} {postY : Option Value → Hp → Prop}
theorem cx_pre (C : Cx G E cc nL own ret d) {H : Heap} {locs : List Loc} (hP : va_P (DE E) vwCl (wld E h) H) (hS : va_S (Ax E) G.2.2.2.2.1.heap H locs) (bs : List Value) : PreS G.2.2.2.2.1 H (va_Pc bs (fun U => va_P (DE E) vwCl (wld E h) U.heap ∧ Kx E U)) bs := by
  refine ⟨fun a U g mk q => ⟨q.1, q.2.1, q.2.2.blind⟩, fun U hU hW => ⟨rfl, by rw [hU]; exact hP, ?_⟩⟩
  exact Kx.move hW (fun a h1 h2 => by rw [hU]; exact hS.2.1 a h1 h2) C.2.2.2.2.2.1
/-- behind a call -/
theorem wp_behind {H : Heap} {locs : List Loc} {la : Array Slot} {st0 : List Value} {a : Array Value} (hS : va_S (Ax E) G.2.2.2.2.1.heap H locs) (hl : lv_has la nL ls)
    (hr : va_Run G.1 G.2.1 G.2.2.1 G.2.2.2.1 G.2.2.2.2.1 G.2.2.2.2.2.1 G.2.2.2.2.2.2.1 G.2.2.2.2.2.2.2.1 G.2.2.2.2.2.2.2.2.1 G.2.2.2.2.2.2.2.2.2.1 H locs G.2.2.2.2.2.2.2.2.2.2.1 G.2.2.2.2.2.2.2.2.2.2.2 0 0 (F0 G.2.2.2.2.2.1 pc la st0) rest (Qx E postY a) (Ax E))
    (kk : ∀ v h', postY v h' → Wp G E nL post (pc + 3) ls (v.toList ++ rest) h') : W G.1 G.2.1 G.2.2.1 G.2.2.2.1 G.2.2.2.2.1 G.2.2.2.2.2.1 G.2.2.2.2.2.2.1 G.2.2.2.2.2.2.2.1 G.2.2.2.2.2.2.2.2.1 G.2.2.2.2.2.2.2.2.2.1 H locs G.2.2.2.2.2.2.2.2.2.2.1 G.2.2.2.2.2.2.2.2.2.2.2 (MQ G.2.2.2.2.2.2.2.1 (Qx E post) G.2.2.2.2.2.2.1 G.2.2.2.2.1 G.2.2.2.2.2.2.2.2.2.2.1 G.2.2.2.2.2.2.2.2.2.2.2 (Ax E)) (F0 G.2.2.2.2.2.1 pc la st0) := by
  intro T hT X
  obtain ⟨v, st₀, t, T', L, h0, X', hL, e1, e2, ⟨v', h', hv, hp, hP1, hz, hk⟩, stp⟩ := hr T hT X
  cases hv
  rw [h0] at hz hk
  obtain ⟨t2, a1, b1⟩ := kk v h' hp T'.heap (locs ++ L) la (by rw [e1]; exact hP1) ⟨Nat.le_trans hS.1 (by rw [e1]; exact hz), fun q h1 h2 => by rw [e1, hk q (Nat.lt_of_lt_of_le h1 hS.1) h2]; exact hS.2.1 q h1 h2, fun q hq => by
      rcases List.mem_append.mp hq with h | h
      · exact hS.2.2 q h
      · exact hL q h⟩ hl T' rfl X'
  exact ⟨t2, stp t2 a1, b1⟩
theorem room_ok (hd' : d' < d) (hn : nY ≤ 45) {R : Room} {κ σ : Nat} (hR : d ≤ R.frames ∧ 64 * d ≤ R.locals ∧ κ ≤ R.cells ∧ σ ≤ R.slots) : (rmD d').frames + 1 ≤ R.frames ∧ 8 + (nY + 11) + (rmD d').locals ≤ R.locals := by
  refine ⟨Nat.le_trans hd' hR.1, ?_⟩
  have := hR.2.1
  show 8 + (nY + 11) + 64 * d' ≤ R.locals
  omega
theorem wp_callS (hM : Ct d' y cy nY retY E as h postY) (hq : SS own idx y cy nY retY n) (hd' : d' < d) (hn : as.length = n) (hst : st = as.reverse ++ rest) (hw : (rest.map fun v => v.category).sum ≤ 8) (C : Cx G E cc nL own ret d) (hdg : decode cc pc = .ok (.invokestatic idx, 3))
    (kk : ∀ v h', postY v h' → Wp G E nL post (pc + 3) ls (v.toList ++ rest) h') : Wp G E nL post pc ls st h := by
  intro H locs la hP hS hl
  obtain ⟨q1, q2, q3, q4, q5, q6⟩ := hq
  have hG := good_ws q4
  refine wp_behind hS hl (va_runS (As := as) (n := n) (bytes := cy) (maxL := nY) (ret := retY) (own := own) (Ts := wsG) ⟨C.1, C.2.1, C.2.2.1, C.2.2.2.1, C.2.2.2.2.1⟩ (hM G.2.1) ⟨callB_of n C.2.2.2.2.1 hG rfl rfl rfl (C.2.2.2.2.1 _ q3) (C.2.2.2.2.1 _ q1) q6 (room_ok hd' q5 C.2.2.2.2.2.2.2.2), C.2.2.2.2.1 _ q2⟩ (cx_pre C hP hS as) rfl hn hl.1 hst (lv_room hw) hdg ?_) kk
  exact ⟨C.2.2.2.2.2.2.2.2.2.2.1, C.2.2.2.2.2.2.2.2.2.2.2⟩
theorem wp_callSN {host : String} (hM : Ct d' y cy nY retY E as h postY) (hq : SN own idx y host cy nY retY n) (hd' : d' < d) (hn : as.length = n) (hst : st = as.reverse ++ rest) (hw : (rest.map fun v => v.category).sum ≤ 8) (C : Cx G E cc nL own ret d) (hdg : decode cc pc = .ok (.invokestatic idx, 3))
    (kk : ∀ v h', postY v h' → Wp G E nL post (pc + 3) ls (v.toList ++ rest) h') : Wp G E nL post pc ls st h := by
  intro H locs la hP hS hl
  obtain ⟨q1, q2, q3, q4, q5, q6⟩ := hq
  have hG := good_ws q4
  refine wp_behind hS hl (va_runSN (As := as) (n := n) (bytes := cy) (maxL := nY) (ret := retY) (own := own) (host := host) (Ts := wsG) ⟨C.1, C.2.1, C.2.2.1, C.2.2.2.1, C.2.2.2.2.1⟩ (hM G.2.1) ⟨va_cnB n C.2.2.2.2.1 hG rfl rfl rfl (C.2.2.2.2.2.1.2.2.1 _ _ _ _ q1) (C.2.2.2.2.1 _ q3) q6 (room_ok hd' q5 C.2.2.2.2.2.2.2.2), C.2.2.2.2.1 _ q2, trivial⟩ (cx_pre C hP hS as) rfl hn hl.1 hst (lv_room hw) hdg ?_) kk
  exact ⟨C.2.2.2.2.2.2.2.2.2.2.1, C.2.2.2.2.2.2.2.2.2.2.2⟩
theorem wp_callV {id ci b : Nat} {fs : List (Option Nat)} (hM : Ct d' y cy nY retY E (rv E id :: as) h postY) (hq : SV own idx y ci cy nY retY n) (hs : shL[id]? = some (0, ci, b, fs)) (hd' : d' < d) (hn : as.length = n) (hst : st = as.reverse ++ rv E id :: rest) (hw : (rest.map fun v => v.category).sum ≤ 8) (C : Cx G E cc nL own ret d) (hdg : decode cc pc = .ok (.invokevirtual idx, 3))
    (kk : ∀ v h', postY v h' → Wp G E nL post (pc + 3) ls (v.toList ++ rest) h') : Wp G E nL post pc ls st h := by
  intro H locs la hP hS hl
  obtain ⟨q1, q2, q3, q4, q5, q6, ⟨T, N, q7⟩, q8⟩ := hq
  have hG := good_ws q5
  have hp := cx_pre C hP hS (rv E id :: as)
  have hre := va_recv (D := DE E) (cl := vwCl) (tys := tyE E) (ws := wld E h) (s := G.2.2.2.2.1) (H := H) (a := E.1 id) (ci := ci) (q0 := id) C.2.2.2.2.2.1.1 hP q7 (at_w hs (cel_0 hs))
  refine wp_behind hS hl (va_runV (C := y.cls) (b := E.1 id) (As := as) (n := n) (bytes := cy) (maxL := nY) (ret := retY) (own := own) (Ts := wsG) ⟨C.1, C.2.1, C.2.2.1, C.2.2.2.1, C.2.2.2.2.1⟩ (hM G.2.1) ⟨callB_of n C.2.2.2.2.1 hG rfl rfl rfl (C.2.2.2.2.1 _ q4) (C.2.2.2.2.1 _ q1) q8 (room_ok hd' q6 C.2.2.2.2.2.2.2.2), C.2.2.2.2.1 _ q2, C.2.2.2.2.1 _ q3⟩ ⟨hp.1, hre, hp.2⟩ rfl hn hl.1 hst (lv_room hw) hdg ?_) kk
  exact ⟨C.2.2.2.2.2.2.2.2.2.2.1, C.2.2.2.2.2.2.2.2.2.2.2⟩
/-- a method that only answers -/
def Ret (v : Value) (h : Hp) : Option Value → Hp → Prop := fun r h' => r = some v ∧ h' = h
theorem wp_callSp {v : Value} (hM : Ct d' y cy nY retY E as h (Ret v h)) (hq : SS own idx y cy nY retY n) (hd' : d' < d) (hn : as.length = n) (hst : st = as.reverse ++ rest) (hw : (rest.map fun v => v.category).sum ≤ 8) (C : Cx G E cc nL own ret d) (hdg : decode cc pc = .ok (.invokestatic idx, 3))
    (kk : Wp G E nL post (pc + 3) ls (v :: rest) h) : Wp G E nL post pc ls st h :=
  wp_callS hM hq hd' hn hst hw C hdg (fun _ _ q => by obtain ⟨rfl, rfl⟩ := q; exact kk)
theorem wp_callSNp {v : Value} {host : String} (hM : Ct d' y cy nY retY E as h (Ret v h)) (hq : SN own idx y host cy nY retY n) (hd' : d' < d) (hn : as.length = n) (hst : st = as.reverse ++ rest) (hw : (rest.map fun v => v.category).sum ≤ 8) (C : Cx G E cc nL own ret d) (hdg : decode cc pc = .ok (.invokestatic idx, 3))
    (kk : Wp G E nL post (pc + 3) ls (v :: rest) h) : Wp G E nL post pc ls st h :=
  wp_callSN hM hq hd' hn hst hw C hdg (fun _ _ q => by obtain ⟨rfl, rfl⟩ := q; exact kk)
theorem wp_callVp {v : Value} {id ci b : Nat} {fs : List (Option Nat)} (hM : Ct d' y cy nY retY E (rv E id :: as) h (Ret v h)) (hq : SV own idx y ci cy nY retY n) (hs : shL[id]? = some (0, ci, b, fs)) (hd' : d' < d) (hn : as.length = n) (hst : st = as.reverse ++ rv E id :: rest) (hw : (rest.map fun v => v.category).sum ≤ 8) (C : Cx G E cc nL own ret d) (hdg : decode cc pc = .ok (.invokevirtual idx, 3))
    (kk : Wp G E nL post (pc + 3) ls (v :: rest) h) : Wp G E nL post pc ls st h :=
  wp_callV hM hq hs hd' hn hst hw C hdg (fun _ _ q => by obtain ⟨rfl, rfl⟩ := q; exact kk)
theorem ct_mono {postZ : Option Value → Hp → Prop} (hM : Ct d' y cy nY retY E as h postY) (hi : ∀ v h', postY v h' → postZ v h') : Ct d' y cy nY retY E as h postZ := by
  intro l p e ha hc hk s m args below hf h1 h2 h3
  obtain ⟨k, o, a1, a2, a3, ⟨⟨v, h', b1, b2, b3⟩, b4⟩⟩ := hM l p e ha hc hk s m args below hf h1 h2 h3
  exact ⟨k, o, a1, a2, a3, ⟨⟨v, h', b1, hi v h' b2, b3⟩, b4⟩⟩
end CALL

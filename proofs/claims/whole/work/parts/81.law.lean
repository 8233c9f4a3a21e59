/-! THE CLAIM OUT OF ONE WALK OF THE LAW'S BODY. Your part is whole_start (and what it stands on); all else here is the same for every law, but numbers. -/
def R_law : String := "EvenTenLaw"
def lw_P (b : Addr) (xs : List Int32) (args : Array Value) (s : State) : Prop := args = #[.ref b] ∧ s.IntsAt b xs ∧ xs.length ≤ 320 ∧ (Jvm.Cond.and given_1 narrow_1).before args s = true
def lw_Q (_ : Array Value) (s : State) (o : Outcome) (t : State) : Prop := o = .returned (some (.int 1)) ∧ Framed s o t [] 600000 7302250
def lw_Z (below : List Frame) (a : Array Value) (s : State) : State → Prop := fun t => ∃ o, t.status = .running ∧ Ended t below o ∧ lw_Q a s o t
/-- the law's own end, with 1 on the stack, nothing written that was there before, its room as the claim has it -/
theorem lw_ret {p : Program} {l : Launch} {e : Env} {s : State} {m : MethodId} {below : List Frame} {meth : Method} {c : Code} {b : Nat} (hx : p.tables.exec = Jvm.exec) (hb : c.code = code) (hr : meth.sig.returnType = ret) (hlocks : meth.locks = false) {pc : Nat} {H : Heap} {ls : Array Slot} (hdg : decode code pc = .ok (.ireturn, 1)) : W p l e room_1 s m #[Value.ref b] below meth c H [] 600000 7302250 (lw_Z below #[Value.ref b] s) (F0 m pc ls [.int 1]) := by
  intro T hT X
  obtain ⟨fs, hret, hrun, hended, hW, hframe⟩ := X.leave (v := some (.int 1)) (hlocks := hlocks) (fun h => by rw [hr] at h; cases h)
  have hmeth' : T.vm.method? m = some meth := X.method'
  refine ⟨T.setFrames fs, ?_, .returned (some (.int 1)), hrun, hended, rfl, ⟨_, rfl⟩, hW, hframe⟩
  jvm_step X.here [X.here.top, hx, hb, hdg, hmeth', hr, ret, narrow_b1]
  (try refine ⟨rfl, ?_⟩); (try refine ⟨rfl, ?_⟩)
  first | (intro acts; rw [hret _ acts rfl rfl rfl]) | rw [hret _ _ rfl rfl rfl]
  exact Steps.refl _
/-- what holds at the law's entry: the machine, the code, the tables' words (any of lw_tbl by 'hts w (by decide +kernel)'), the script of L ints xs at the cell b, what the Statement gives of the start (any of its parts by flat_of_before) -/
def lw_At (p : Program) (s : State) (m : MethodId) (meth : Method) (c : Code) (b L : Nat) (xs : Nat → Int32) : Prop :=
  p.tables.exec = Jvm.exec ∧ c.code = code ∧ meth.sig.returnType = ret ∧ c.maxLocals = 4 ∧ s.vm.findClass R_law = some m.cls ∧ (∀ w ∈ lw_tbl, w.before #[Value.ref b] s = true) ∧ va_X b L xs s s.heap ∧ b < s.heap.size ∧ meth.locks = false ∧ (Jvm.Cond.and given_1 narrow_1).before #[Value.ref b] s = true
theorem siL_9 : SIc RL 9 yX11_init none cX11_init 2 0 := ⟨(mT (i := 25) (by decide +kernel) rfl), (mT (i := 26) (by decide +kernel) rfl), (mT (i := 1) (by decide +kernel) rfl), (mT (i := 27) (by decide +kernel) rfl), by decide, rfl, ⟨by decide +kernel, by decide +kernel, by decide +kernel⟩⟩
theorem siL_12 : SIc RL 12 yX12_init none cX12_init 1 0 := ⟨(mT (i := 883) (by decide +kernel) rfl), (mT (i := 884) (by decide +kernel) rfl), (mT (i := 13) (by decide +kernel) rfl), (mT (i := 885) (by decide +kernel) rfl), by decide, rfl, ⟨by decide +kernel, by decide +kernel, by decide +kernel⟩⟩
set_option maxRecDepth 100000 in
/-- YOUR PART: from the entry, for every script of at most 320 ints, the law comes to its end with true -/
theorem whole_start {p : Program} {e : Env} {s : State} {m : MethodId} {below : List Frame} {meth : Method} {c : Code} (l : Launch) {b L : Nat} {xs : Nat → Int32} (hL : L ≤ 320) (C0 : lw_At p s m meth c b L xs) : W p l e room_1 s m #[Value.ref b] below meth c s.heap [] 0 0 (lw_Z below #[Value.ref b] s) (entryFrame m ([Value.ref b] : List Value).toArray 4) := by
  obtain ⟨hx, hb, hr, hml, hown, hts, hX, hbl, hlk, hgv⟩ := C0
  obtain ⟨E, hE0, K⟩ := en_of hts hgv
  have htw : ∀ w ∈ wsG, w.before #[Value.ref b] s = true := fun w hw => hts w (List.mem_filter.mp hw).1
  have hE : Aff E := fun i => by rw [hE0 i, hE0 0]; rfl
  have h0 : E.1 0 = s.heap.size := by rw [hE0 0]; rfl
  have hAx : ∀ q, Ax E q → s.heap.size ≤ q := fun q hq => by
    obtain ⟨id, -, z⟩ := hq
    rw [z, hE0 id]
    exact Nat.le_add_right _ _
  have hl := lv_entry [Value.ref b] (n := 4) (Nat.le_of_ble_eq_true rfl)
  rw [lg_entry_eq]
  generalize ((lg_sl [Value.ref b] ++ List.replicate (4 - (lg_sl [Value.ref b]).length) Slot.unset).toArray) = la at hl
  refine W_make (E := E) (id0 := 0) (ci := 11) (N := 128) (mc := 127) (ms := 8449) (T := TX11) (ty0 := tyX11) (M := 11) hx hb hml hown htw K hE h0 h0.symm (fun q _ => rfl) (fun q hq => by cases hq) hl.1 (c_X11_init E) siL_9 rfl inWX11 tyWX11 (mT (i := 23) (by decide +kernel) rfl) (mT (i := 24) (by decide +kernel) rfl) (by decide) (by decide) (by decide) (by decide) dL_law_0 dL_law_3 dL_law_4 ?_
  intro H1 locs1 z1 P1 o1 b1
  refine lv_astore_n hx hb dL_law_7 rfl hl (by decide) rfl (fun la1 hl1 => ?_)
  refine W_make (E := E) (id0 := 128) (ci := 12) (N := 19) (mc := 18) (ms := 112806) (T := TX12) (ty0 := tyX12) (M := 24) hx hb hml hown htw K hE h0 z1 (fun q hq => o1 q (by rw [h0]; exact hq)) b1 hl1.1 (c_X12_init E) siL_12 rfl inWX12 tyWX12 (mT (i := 881) (by decide +kernel) rfl) (mT (i := 882) (by decide +kernel) rfl) (by decide) (by decide) (by decide) (by decide) dL_law_8 dL_law_11 dL_law_12 ?_
  intro H2 locs2 z2 P2 o2 b2
  refine lv_astore_n hx hb dL_law_15 rfl hl1 (by decide) rfl (fun la2 hl2 => ?_)
  have hP : va_P (DE E) vwCl (wld E hI) H2 := by
    have e : wld E hI = wsN E hI 0 128 ++ wsN E hI 128 19 := by
      rw [← wsN_add (lo := 0) (a := 128) (b := 19)]
      unfold wld wsN
      congr 1
      funext j
      rw [Nat.zero_add]
    rw [e]
    refine (P1.kept (fun k x hk => o2 x.1 ?_)).app P2
    obtain ⟨hk1, hk2⟩ := wsN_at hk
    rw [hk2]
    show E.1 (0 + k) < E.1 128
    rw [hE (0 + k), hE 128]
    omega
  have hS : va_S (Ax E) s.heap H2 [] := by
    refine ⟨?_, fun q hq _ => ?_, fun q hq => by cases hq⟩
    · rw [z2, hE0 (128 + 19)]; exact Nat.le_add_right _ _
    · rw [o2 q (by rw [hE 128, h0]; omega)]
      exact o1 q (by rw [h0]; exact hq)
  refine va_forget b2 ?_
  refine W.widen (k := 600000) (n := 7302250) (by decide) (by decide) ?_
  have hbA : ¬ Ax E b := fun z => absurd hbl (Nat.not_lt.mpr (hAx b z))
  have C1 : Cx (p, l, e, room_1, s, m, #[Value.ref b], below, meth, c, 600000, 7302250) E cL_law 4 RL (some .boolean) 1000 := ⟨hx, hb, hml, hown, htw, K.1, hr, hlk, (show 1000 ≤ room_1.frames by decide), (show 64 * 1000 ≤ room_1.locals by decide), Nat.le_refl _, Nat.le_refl _⟩
  have K1 : Lw (p, l, e, room_1, s, m, #[Value.ref b], below, meth, c, 600000, 7302250) E b L xs := ⟨C1, hX, hbl, hbA, hL⟩
  have w18 := lw_loop K1 (L + 1) 0 hI (by omega) (by decide) Inv.I0
  have w16 : Wp (p, l, e, room_1, s, m, #[Value.ref b], below, meth, c, 600000, 7302250) E 4 postL 16 [(0, .ref b), (1, rv E 0), (2, rv E 128)] [] hI := by
    refine wp_iconst (v := 0) C1 dL_law_16 rfl ?_
    exact wp_istore_n (ls' := lsL E b 0) [1, 2, 3, 0] C1 dL_law_17 rfl (by decide) rfl w18
  have w := w16 H2 [] la2 hP hS (lv_sub hl2 [2, 1, 0] rfl)
  intro T hT X
  obtain ⟨t, a1, o, b3, b4, ⟨v, h9, hv, hpost, -⟩, L9, ⟨f1, f2, f3⟩, hL9⟩ := w T hT X
  have hv1 : v = some (iv 1) := hpost
  subst hv1
  exact ⟨t, a1, o, b3, b4, hv, f1, f2, same_forget f3 (fun q hq => hAx _ (hL9 q hq))⟩
set_option maxHeartbeats 4000000 in
theorem lw_walk (l : Launch) (b : Addr) (xs : List Int32) : MetFree l x (headSpec (Jvm.Cond.code x code maxLocals ret :: tables_1) room_1) (lw_P b xs) (fun _ _ _ _ _ => True) lw_Q := by
  refine MetFree.of_bodyS (code := code) (maxLocals := maxLocals) (ret := ret) (by decide) ?_ ?_
  · intro args s m h hn
    obtain ⟨meth, c, h1, h2, h3, h4, h5, h6, -, -⟩ := Cond.code_spec hn (atoms_spec (ws := Jvm.Cond.code x code maxLocals ret :: tables_1) h _ List.mem_cons_self)
    exact ⟨meth, c, h1, h2, h3, h4, h5, h6⟩
  · intro p e s m args below meth c s₁ B hml0 hP _
    obtain ⟨rfl, hx, hbd, hgv⟩ := hP
    obtain ⟨scr, harrAt, hlist, hof, hsmall⟩ := hx
    obtain ⟨hcb, hkn, -, -⟩ := State.arrayAt?_spec harrAt
    have hown : s.vm.findClass R_law = some m.cls := findClass_of_methodNamed B.named
    have hts0 : ∀ c ∈ (Jvm.Cond.code x code maxLocals ret :: tables_1), c.before #[Value.ref b] s = true := atoms_spec (ws := Jvm.Cond.code x code maxLocals ret :: tables_1) B.pre
    have hts : ∀ w ∈ lw_tbl, w.before #[Value.ref b] s = true := k2_hts_sels lw_privs (fun w hw => hts0 w (List.mem_cons_of_mem _ hw)) lw_privs_ok
    have hml : c.maxLocals = 4 := B.maxLocals_eq (hts0 _ List.mem_cons_self)
    have X₀ : Stand p l e room_1 s m #[Value.ref b] below meth c s₁ [] 0 0 := Stand.of_body B
    have hh0 : s₁.heap = s.heap := by rw [B.state]; rfl
    have hsz : scr.slots.size = xs.length := by rw [← Array.length_toList, hlist, List.length_map]
    have hval : ∀ j : Nat, j < xs.length → scr.slots[j]? = some (.int (xs.getD j 0)) := fun j hj => by
      rw [← Array.getElem?_toList, hlist]
      simp [hj]
    have hbl : b < s.heap.size := (Array.getElem?_eq_some_iff.mp hcb).1
    have hX : va_X b xs.length (fun j => xs.getD j 0) s s.heap := ⟨scr, hcb, hof, hkn, hsz, hval⟩
    have K : W p l e room_1 s m #[Value.ref b] below meth c s₁.heap [] 0 0 (lw_Z below #[Value.ref b] s) (entryFrame m ([Value.ref b] : List Value).toArray 4) := by
      rw [hh0]
      exact whole_start l hbd ⟨B.exec, B.bytes, B.returns, hml, hown, hts, hX, hbl, B.notSynchronized, hgv⟩
    obtain ⟨t, a1, o, b1, b2, b3⟩ := K s₁ rfl X₀
    exact ⟨t, o, a1, b1, b2, b3⟩
theorem lw_pre_spec {args : Array Value} {s : State} (h : (Jvm.Cond.and given_1 narrow_1).before args s = true) (hr : rest_1_c.before args s = true) : ∃ (b : Addr) (xs : List Int32), lw_P b xs args s := by
  have hs := flat_of_before _ h
  have hq := flat_of_before _ hr
  have hc : (Cond.count 1).before args s = true := hs _ (by decide +kernel)
  have harr : (Cond.arrayOf (.arg 0) .int).before args s = true := hs _ (by decide +kernel)
  have hle : (Cond.le (.length (.arg 0)) (.int 320)).before args s = true := hs _ (by decide +kernel)
  have hlen : (Cond.isInt (.length (.arg 0))).before args s = true := hq _ (by decide +kernel)
  have hall : (Cond.all (.arg 0) (.isInt (.elem (.arg 0) (.index 0)))).before args s = true := hq _ (by decide +kernel)
  obtain ⟨b, xs, hb, hx⟩ := State.ints_of_pre rfl harr hlen hall
  have hsm : xs.length < 2 ^ 31 := hx.choose_spec.2.2.2
  have hev : (Term.length (.arg 0)).eval args s none [] s = some (.int xs.length.toInt32) := hx.length_eval hb
  have hv := Cond.le_ints hev (show (Term.int 320).eval args s none [] s = some (.int 320) from rfl)
  have hd : xs.length.toInt32 ≤ 320 := by
    simpa [Cond.before, Cond.holds, hv] using hle
  have hN : xs.length ≤ 320 := (Int32.ofNat_le_ofNat hsm (by decide)).mp (show Int32.ofNat xs.length ≤ Int32.ofNat 320 from hd)
  exact ⟨b, xs, Cond.one_arg hc (show args[0]? = some (.ref b) from hb), hx, hN, h⟩
theorem lw_comes (l : Launch) : Comes l x (Jvm.Cond.code x code maxLocals ret :: tables_1) room_1 (fun tb e args s => Calls_1 tb e args s ∧ rest_1 tb e args s ∧ Pre_1 tb e args s)
    (fun _ _ args s o t => lw_Q args s o t) := by
  intro p e ha hc hk s m args below hf hfit hheap happ hpre
  obtain ⟨b, xs, hP⟩ := lw_pre_spec hpre.2.2 hpre.2.1
  obtain ⟨k, o, h1, h2, h3, hQ⟩ := lw_walk l b xs p e ha hc hk s m args below hf ((Spec.applies_iff_loose hf).mp happ).1 hP trivial
  exact ⟨k, o, h1, h2, h3, hQ⟩
theorem lw_frame {s t : State} {o : Outcome} {args : Array Value} (h : Framed s o t [] 600000 7302250) :
    Framed s o t (fieldLocs frame_1_writes args s ++ arrayLocs frame_1_arrays args s ++ staticLocs frame_1_statics s) 600000 7302250 := h
theorem lw_limb (L : Cond) (hL : ∀ (args : Array Value) (s t : State), L.after args s (.returned (some (.int 1))) t = true) :
    ArmFor flags0 classFile x code maxLocals ret World_1 tables_1 room_1 Calls_1 rest_1 Pre_1
      (fun tb e a s o t => postC L tb e a s o t ∧ Framed s o t (fieldLocs frame_1_writes a s ++ arrayLocs frame_1_arrays a s ++ staticLocs frame_1_statics s) 600000 7302250) := by
  intro l _ _ _ p e ha hc hk s m args below hf hfit hheap happ hpre
  obtain ⟨k, o, h1, h2, h3, rfl, hF⟩ := lw_comes l p e ha hc hk s m args below hf hfit hheap happ hpre
  exact ⟨k, _, h1, h2, h3, hL args s _, lw_frame hF⟩
theorem i_vc : Claimed_1_1 ∧ Claimed_1_2 := ⟨lw_limb limb_1_1 (fun args s t => by simp [limb_1_1, Cond.after, Cond.holds, Cond.value]), lw_limb limb_1_2 (fun args s t => Cond.after_iff.mpr (by
  first | (rw [show limb_1_2 = Cond.eq .result (.int 1) from rfl, Cond.eq_ints (x := 1) (y := 1) rfl rfl]; simp; done) | (simp [limb_1_2, Cond.value, Term.eval]; done)))⟩

/-! ===== an array of arrays, made at once ===== -/
def rowsV (h0 i : Nat) : Nat → Value := fun j => if j < i then .ref (h0 + 1 + j) else .null
theorem rowsV_upd (h0 i : Nat) : updV (rowsV h0 i) i (.ref (h0 + 1 + i)) = rowsV h0 (i + 1) := by
  funext j
  unfold updV rowsV
  by_cases e : j = i
  · subst e; simp
  · by_cases q : j < i
    · rw [if_neg e, if_pos q, if_pos (by omega)]
    · rw [if_neg e, if_neg q, if_neg (by omega)]
theorem rowsV_0 (h0 : Nat) : rowsV h0 0 = fun _ => Value.null := by
  funext j
  unfold rowsV
  rw [if_neg (Nat.not_lt_zero j)]
/-- the state when i rows are laid -/
def mnS (T : State) (cA cB : ClassId) (N M : Nat) (x : Value) : Nat → State
  | 0 => T.pushCell (arrV cA N (rowsV T.heap.size 0))
  | i + 1 => ((mnS T cA cB N M x i).pushCell (arrV cB M (fun _ => x))).setCell T.heap.size (arrV cA N (rowsV T.heap.size (i + 1)))
def mnOk (T U : State) (cA cB : ClassId) (N M i : Nat) (x : Value) : Prop := U.heap.size = T.heap.size + 1 + i ∧ U.heap[T.heap.size]? = some (arrV cA N (rowsV T.heap.size i)) ∧ (∀ j, j < i → U.heap[T.heap.size + 1 + j]? = some (arrV cB M (fun _ => x))) ∧ (∀ a, a < T.heap.size → U.heap[a]? = T.heap[a]?) ∧ U.vm = T.vm ∧ U.slotsUsed = T.slotsUsed + N + i * M
theorem mnS_ok (T : State) (cA cB : ClassId) (N M : Nat) (x : Value) : ∀ i, mnOk T (mnS T cA cB N M x i) cA cB N M i x
  | 0 => ⟨by simp [mnS], by simp [mnS], fun j hj => absurd hj (Nat.not_lt_zero j), fun a ha => State.heap_pushCell_of_lt _ _ ha, rfl, by simp [mnS, arrV_size]⟩
  | i + 1 => by
    obtain ⟨h1, h2, h3, h4, h5, h6⟩ := mnS_ok T cA cB N M x i
    have hlt : T.heap.size < (mnS T cA cB N M x i).heap.size := by omega
    have hb : ((mnS T cA cB N M x i).pushCell (arrV cB M (fun _ => x))).heap[T.heap.size]? = some (arrV cA N (rowsV T.heap.size i)) := by
      rw [State.heap_pushCell_of_lt _ _ hlt]; exact h2
    refine ⟨?_, State.heap_setCell_self hb, fun j hj => ?_, fun a ha => ?_, by simp [mnS, h5], ?_⟩
    · simp [mnS, State.setCell, h1]; omega
    · show (((mnS T cA cB N M x i).pushCell _).setCell T.heap.size _).heap[T.heap.size + 1 + j]? = _
      rw [State.heap_setCell_other (show T.heap.size ≠ T.heap.size + 1 + j by omega)]
      rcases (show j < i ∨ j = i by omega) with q | q
      · rw [State.heap_pushCell_of_lt _ _ (show T.heap.size + 1 + j < (mnS T cA cB N M x i).heap.size by omega)]; exact h3 j q
      · rw [q, ← h1]; exact State.heap_pushCell_size _ _
    · show (((mnS T cA cB N M x i).pushCell _).setCell T.heap.size _).heap[a]? = _
      rw [State.heap_setCell_other (show T.heap.size ≠ a by omega), State.heap_pushCell_of_lt _ _ (show a < (mnS T cA cB N M x i).heap.size by omega)]; exact h4 a ha
    · simp [mnS, h6, arrV_size, Nat.succ_mul]; omega
theorem mnS_top (T : State) (f : JFrame) (cA cB : ClassId) (N M : Nat) (x : Value) : ∀ i, mnS (T.setTop f) cA cB N M x i = (mnS T cA cB N M x i).setTop f
  | 0 => rfl
  | i + 1 => by simp only [mnS, mnS_top T f cA cB N M x i, State.heap_setTop, State.pushCell_setTop, State.setCell_setTop]
section MNS
variable {p : Program} {l : Launch} {e : Env} {R : Room} {s : State} {m : MethodId} {args : Array Value} {below : List Frame} {meth : Method} {c : Code} {T : State} {locs : List Loc} {cells slots : Nat}
theorem mnS_stand (X : Stand p l e R s m args below meth c T locs cells slots) (cA cB : ClassId) (N M : Nat) (x : Value) : ∀ i, Stand p l e R s m args below meth c (mnS T cA cB N M x i) (locs ++ (List.range i).map fun j => (⟨T.heap.size, j⟩ : Loc)) (cells + 1 + i) (slots + N + i * M)
  | 0 => by
    have h := X.pushed (arrV cA N (rowsV T.heap.size 0))
    rw [arrV_size] at h
    simpa [mnS] using h
  | i + 1 => by
    obtain ⟨h1, h2, -, -, -, -⟩ := mnS_ok T cA cB N M x i
    have hb : ((mnS T cA cB N M x i).pushCell (arrV cB M (fun _ => x))).heap[T.heap.size]? = some (arrV cA N (rowsV T.heap.size i)) := by
      rw [State.heap_pushCell_of_lt _ _ (show T.heap.size < (mnS T cA cB N M x i).heap.size by omega)]; exact h2
    have h := ((mnS_stand X cA cB N M x i).pushed (arrV cB M (fun _ => x))).stored hb i (.ref (T.heap.size + 1 + i))
    rw [arrV_store, rowsV_upd, arrV_size] at h
    have e1 : (locs ++ (List.range (i + 1)).map fun j => (⟨T.heap.size, j⟩ : Loc)) = (locs ++ (List.range i).map fun j => (⟨T.heap.size, j⟩ : Loc)) ++ [⟨T.heap.size, i⟩] := by
      rw [List.range_succ, List.map_append, List.append_assoc]; rfl
    have e2 : slots + N + (i + 1) * M = slots + N + i * M + M := by rw [Nat.succ_mul]; omega
    rw [e1, e2]
    exact h
end MNS
section MNW
variable {E : CtlPost} {e : Env} {d : Bool} {acts : List Action} {s : State}
theorem mn_row {cB cC : ClassId} {kB : Class} {ty : FieldType} {k : Int32} (hkB : s.vm.classes[cB]? = some kB) (hkind : kB.kind = .array cC ty) (hk : ¬ k < 0)
    (hl : ¬ k.toNatClampNeg > e.platform.arrayLengthLimit) (hh : ¬ k.toNatClampNeg * componentBytes ty > e.platform.maxHeapBytes) (hf : fits ty (defaultValue ty) = true)
    (h1 : s.heap.size < e.platform.maxCells) (h2 : s.slotsUsed + k.toNatClampNeg ≤ e.platform.maxSlots)
    {Q : Addr → Pre} (hq : ∀ acts', Q s.heap.size d acts' (s.pushCell (arrV cB k.toNatClampNeg (fun _ => defaultValue ty)))) : wp (multianewarray.make cB [k]) Q E e d acts s := by
  rw [multianewarray.make]
  simp only [wp_bind', Jvm.W.ite, hk, if_false, wp_pure', Jvm.W.theClass, hkB, hkind, Option.some.injEq, exists_eq_left']
  refine Jvm.W.newArray_of hkB hkind hl hh h1 h2 hf (fun a' => ?_)
  have := hq a'
  rw [← arrV_new] at this
  exact this
theorem ref_fits {t : FieldType} (h : t.isReference = true) (v : Value) (hv : v = .null ∨ ∃ a, v = .ref a) : fits t v = true := by
  rcases hv with rfl | ⟨a, rfl⟩ <;> cases t <;> simp [FieldType.isReference] at h <;> rfl
theorem mn_all {cA cB cC : ClassId} {kA kB : Class} {tA ty : FieldType} {n k : Int32} (hkA : s.vm.classes[cA]? = some kA) (hkindA : kA.kind = .array cB tA) (href : tA.isReference = true) (hkB : s.vm.classes[cB]? = some kB) (hkindB : kB.kind = .array cC ty) (hn : ¬ n < 0) (hk : ¬ k < 0)
    (hl1 : ¬ n.toNatClampNeg > e.platform.arrayLengthLimit) (hh1 : ¬ n.toNatClampNeg * componentBytes tA > e.platform.maxHeapBytes) (hl2 : ¬ k.toNatClampNeg > e.platform.arrayLengthLimit) (hh2 : ¬ k.toNatClampNeg * componentBytes ty > e.platform.maxHeapBytes) (hf : fits ty (defaultValue ty) = true)
    (hc : s.heap.size + 1 + n.toNatClampNeg ≤ e.platform.maxCells) (hs : s.slotsUsed + n.toNatClampNeg + n.toNatClampNeg * k.toNatClampNeg ≤ e.platform.maxSlots)
    {Q : Addr → Pre} (hq : ∀ d' acts', Q s.heap.size d' acts' (mnS s cA cB n.toNatClampNeg k.toNatClampNeg (defaultValue ty) n.toNatClampNeg)) : wp (multianewarray.make cA [n, k]) Q E e d acts s := by
  have hno : ([k].find? (· < 0)) = none := by simp [hk]
  rw [multianewarray.make]
  simp only [wp_bind', Jvm.W.ite, hn, if_false, wp_pure', Jvm.W.theClass, hkA, hkindA, Option.some.injEq, exists_eq_left']
  refine Jvm.W.newArray_of hkA hkindA hl1 hh1 (by omega) (by have := Nat.zero_le (n.toNatClampNeg * k.toNatClampNeg); omega) (ref_fits href _ (Or.inl rfl)) (fun acts' => ?_)
  simp only [hno]
  rw [ite_self, wp_bind', Std.Legacy.Range.forIn_eq_forIn_range']
  have hsz : ([:n.toNatClampNeg] : Std.Legacy.Range).size = n.toNatClampNeg := by simp [Std.Legacy.Range.size]
  rw [hsz]
  generalize hN : n.toNatClampNeg = N at *
  generalize hM : k.toNatClampNeg = M at *
  refine wp_forIn_inv (fun rest u => ∃ i, i ≤ N ∧ rest = List.range' i (N - i) ∧ u = mnS s cA cB N M (defaultValue ty) i) _ _ ⟨0, Nat.zero_le _, rfl, ?_⟩ ?_ ?_
  · show _ = s.pushCell (arrV cA N (rowsV s.heap.size 0))
    rw [rowsV_0, ← arrV_new]
  · rintro y rest u d' acts'' Q' ⟨i, hi, hl, rfl⟩ hnext
    have hlt : i < N := by
      rcases Nat.lt_or_ge i N with z | z
      · exact z
      · rw [show N - i = 0 by omega] at hl; cases hl
    rw [show N - i = (N - (i + 1)) + 1 by omega, List.range'_succ] at hl
    obtain ⟨rfl, hrest⟩ := List.cons.inj hl
    obtain ⟨h1, h2, h3, h4, h5, h6⟩ := mnS_ok s cA cB N M (defaultValue ty) y
    have hmul : y * M + M ≤ N * M := by
      have := Nat.mul_le_mul_right M (show y + 1 ≤ N from hlt)
      rw [Nat.succ_mul] at this; exact this
    simp only [wp_bind']
    refine mn_row (by rw [h5]; exact hkB) hkindB hk (by rw [hM]; exact hl2) (by rw [hM]; exact hh2) hf (by omega) (by rw [hM]; omega) (fun a9 => ?_)
    rw [hM]
    simp only [wp_bind', Jvm.W.writeLoc, wp_pure']
    refine ⟨arrV cA N (rowsV s.heap.size y), by rw [State.heap_pushCell_of_lt _ _ (show s.heap.size < (mnS s cA cB N M (defaultValue ty) y).heap.size by omega)]; exact h2, (fun z => by cases z), by rw [arrV_size]; exact hlt, ?_, hnext _ _ _ ⟨y + 1, hlt, hrest, ?_⟩⟩
    · show State.fitsSlot _ cA .none y _ = true
      simp [State.fitsSlot, State.slotType?, h5, hkA, hkindA, ref_fits href _ (Or.inr ⟨_, rfl⟩)]
    · rw [arrV_store, h1, rowsV_upd]; rfl
  · rintro u d' acts'' ⟨i, hi, hl, rfl⟩
    have hiN : i = N := by
      rcases Nat.lt_or_ge i N with z | z
      · rw [show N - i = (N - (i + 1)) + 1 by omega, List.range'_succ] at hl; cases hl
      · omega
    subst hiN
    simp only [wp_pure']
    exact hq _ _
end MNW
section MNK
variable {p : Program} {l : Launch} {e : Env} {R : Room} {s : State} {m : MethodId} {args : Array Value} {below : List Frame} {meth : Method} {c : Code} {H : Heap} {locs : List Loc} {cells slots : Nat} {Q : State → Prop}
/-- the rule -/
theorem W_mnew {cc : ByteArray} (hexec : p.tables.exec = Jvm.exec) (hb : c.code = cc) {own : String} {index : Nat} {ty : FieldType} (hown : s.vm.findClass own = some m.cls) (hclink : (Cond.classLink own index ("[" ++ (FieldType.array ty).toString)).before args s = true) (hover : (Cond.arrayOver (.array ty)).before args s = true) (harr : (Cond.arrayClass ty).before args s = true)
    {g : JFrame} (hg : g.method = m) (hdg : decode cc g.pc = .ok (.multianewarray index 2, 4)) {n k : Int32} {N M : Nat} {rest : List Value} (hstack : g.stack = .int k :: .int n :: rest) (hn : ¬ n < 0) (hk : ¬ k < 0) (hN : n.toNatClampNeg = N) (hM : k.toNatClampNeg = M) (hb1 : N * 4 ≤ 536870912) (hb2 : M * componentBytes ty ≤ 536870912) (hb3 : M ≤ 536870912) (hf : fits ty (defaultValue ty) = true)
    (hcells : cells + (1 + N) ≤ R.cells) (hslots : slots + (N + N * M) ≤ R.slots)
    (kk : ∀ (H1 : Heap) (cA cB : ClassId), s.vm.findClass ("[" ++ (FieldType.array ty).toString) = some cA → s.vm.findClass (FieldType.array ty).toString = some cB → ArrOfT s cA (.array ty) → ArrOfT s cB ty → H1.size = H.size + 1 + N → H1[H.size]? = some (arrV cA N (rowsV H.size N)) → (∀ j, j < N → H1[H.size + 1 + j]? = some (arrV cB M (fun _ => defaultValue ty))) → (∀ q, q < H.size → H1[q]? = H[q]?) →
      W p l e R s m args below meth c H1 (locs ++ (List.range N).map fun j => (⟨H.size, j⟩ : Loc)) (cells + 1 + N) (slots + N + N * M) Q { g with pc := g.pc + 4, stack := .ref H.size :: rest }) : W p l e R s m args below meth c H locs cells slots Q g := by
  intro T hT X
  subst hT; subst hb; subst hg; subst hN; subst hM
  have hpl : e.platform.magicAccessors = ({} : Platform).magicAccessors := by rw [X.admits.platform]
  obtain ⟨cB, cA, kA, hfB, -, hkA, hkindA, hfA⟩ := arrayOverA_spec hover
  obtain ⟨cB', kB, cC, hfB', hkB, hkindB⟩ := Cond.arrayClass_spec harr
  have eB : cB' = cB := Option.some.inj (hfB'.symm.trans hfB)
  subst eB
  obtain ⟨c0, hf0, hcl⟩ := Cond.classLink_spec hown hclink e.platform hpl
  cases hfA.symm.trans hf0
  obtain ⟨hg1, hwarm, hready⟩ := State.classEntry (e := e) X.warmed hcl
  generalize T.vm.noted g.method.cls index (.cls cA) = vm1 at hg1 hwarm hready
  have hal : s.vm.Alike vm1 := hwarm.alike
  obtain ⟨kA1, hkA1, heA⟩ := hal.2.2 _ _ hkA
  obtain ⟨kB1, hkB1, heB⟩ := hal.2.2 _ _ hkB
  have hkindA1 : kA1.kind = .array cB' (.array ty) := by rw [heA]; exact hkindA
  have hkindB1 : kB1.kind = .array cC ty := by rw [heB]; exact hkindB
  obtain ⟨hr1, hr2⟩ := X.roomAbove hcells hslots
  have XF := mnS_stand (X.noted hwarm) cA cB' n.toNatClampNeg k.toNatClampNeg (defaultValue ty) n.toNatClampNeg
  obtain ⟨u1, u2, u3, u4, -, -⟩ := mnS_ok (T.setVm vm1) cA cB' n.toNatClampNeg k.toNatClampNeg (defaultValue ty) n.toNatClampNeg
  obtain ⟨t, a1, b1⟩ := kk _ cA cB' hfA hfB (fun _ _ => ⟨fun k h => (by cases h), kA, hkA, cB', hkindA⟩) (fun _ _ => ⟨fun k h => (by cases h), kB, hkB, cC, hkindB⟩) u1 u2 u3 u4 _ rfl XF
  refine ⟨t, ?_, b1⟩
  have hl1 : ¬ n.toNatClampNeg > e.platform.arrayLengthLimit := by rw [Launch.admits_arrayLengthLimit X.admits]; omega
  have hh1 : ¬ n.toNatClampNeg * componentBytes (.array ty) > e.platform.maxHeapBytes := by
    rw [Launch.admits_maxHeapBytes X.admits]; show ¬ n.toNatClampNeg * 4 > 536870912; omega
  have hl2 : ¬ k.toNatClampNeg > e.platform.arrayLengthLimit := by rw [Launch.admits_arrayLengthLimit X.admits]; omega
  have hh2 : ¬ k.toNatClampNeg * componentBytes ty > e.platform.maxHeapBytes := by rw [Launch.admits_maxHeapBytes X.admits]; omega
  jvm_step X.here [hexec, hdg]
  simp only [multianewarray.sem, wp_bind', Jvm.W.resolveClassAt_links (State.method?_setTop g X.here.top) hg1]
  rw [Jvm.W.popN, if_neg (by decide)]
  refine ⟨g, State.topJava?_setTop' (s := T.setVm vm1) g X.here.top, [.int n, .int k], rest, rfl, hstack, ?_⟩
  simp only [List.mapM_cons, List.mapM_nil, wp_bind', wp_pure']
  refine mn_all (kA := kA1) (kB := kB1) (cB := cB') (cC := cC) (tA := .array ty) (ty := ty) hkA1 hkindA1 rfl hkB1 hkindB1 hn hk hl1 hh1 hl2 hh2 hf (by show T.heap.size + 1 + _ ≤ _; omega) (by show T.slotsUsed + _ + _ ≤ _; omega) (fun d' acts' => ?_)
  have eS : ((T.setTop g).setVm vm1).setTop { g with stack := rest } = (T.setVm vm1).setTop { g with stack := rest } := by
    show ((T.setVm vm1).setTop g).setTop _ = _
    rw [State.setTop_setTop]
  rw [eS, mnS_top]
  simp only [wp_bind', Jvm.W.mark, Jvm.W.pushRef, State.topJava?_setTop' _ XF.here.top, Option.some.injEq, exists_eq_left', State.setTop_setTop, State.heap_setTop]
  intro acts
  simp [jvm, XF.here.top]
  exact a1
end MNK

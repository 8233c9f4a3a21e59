/-! ===== the world: 147 cells of a fixed shape, numbers in them ===== -/
/-- kind (0 object, 1 int[], 2 long[], 3 boolean[], 4 int[][], 5 long[][]), class or length, first row, fields (a cell, or a number) -/
def shL : List (Nat × Nat × Nat × List (Option Nat)) := [(0, 11, 0, [some 1, some 6, some 8, some 21, some 28, some 29, some 52, some 97, some 99, some 123, some 125]), (0, 4, 0, [some 2, some 3, some 4, some 5, none, none]), (2, 20, 0, []), (2, 20, 0, []), (2, 20, 0, []), (2, 20, 0, []), (0, 8, 0, [some 7, none]), (1, 200, 0, []), (0, 6, 0, [some 9, some 10, none, some 6, none, none, none]), (1, 10, 0, []), (5, 10, 11, []), (2, 4, 0, []), (2, 4, 0, []), (2, 4, 0, []), (2, 4, 0, []), (2, 4, 0, []), (2, 4, 0, []), (2, 4, 0, []), (2, 4, 0, []), (2, 4, 0, []), (2, 4, 0, []), (0, 1, 0, [some 22, none, some 23, some 26]), (1, 12, 0, []), (4, 2, 24, []), (1, 12, 0, []), (1, 12, 0, []), (1, 2, 0, []), (1, 6561, 0, []), (0, 3, 0, [some 1, some 27, none, none]), (0, 7, 0, [some 1, some 30]), (4, 21, 31, []), (1, 10, 0, []), (1, 10, 0, []), (1, 10, 0, []), (1, 10, 0, []), (1, 10, 0, []), (1, 10, 0, []), (1, 10, 0, []), (1, 10, 0, []), (1, 10, 0, []), (1, 10, 0, []), (1, 10, 0, []), (1, 10, 0, []), (1, 10, 0, []), (1, 10, 0, []), (1, 10, 0, []), (1, 10, 0, []), (1, 10, 0, []), (1, 10, 0, []), (1, 10, 0, []), (1, 10, 0, []), (1, 10, 0, []), (0, 5, 0, [some 1, some 53, some 75]), (4, 21, 54, []), (1, 10, 0, []), (1, 10, 0, []), (1, 10, 0, []), (1, 10, 0, []), (1, 10, 0, []), (1, 10, 0, []), (1, 10, 0, []), (1, 10, 0, []), (1, 10, 0, []), (1, 10, 0, []), (1, 10, 0, []), (1, 10, 0, []), (1, 10, 0, []), (1, 10, 0, []), (1, 10, 0, []), (1, 10, 0, []), (1, 10, 0, []), (1, 10, 0, []), (1, 10, 0, []), (1, 10, 0, []), (1, 10, 0, []), (5, 21, 76, []), (2, 10, 0, []), (2, 10, 0, []), (2, 10, 0, []), (2, 10, 0, []), (2, 10, 0, []), (2, 10, 0, []), (2, 10, 0, []), (2, 10, 0, []), (2, 10, 0, []), (2, 10, 0, []), (2, 10, 0, []), (2, 10, 0, []), (2, 10, 0, []), (2, 10, 0, []), (2, 10, 0, []), (2, 10, 0, []), (2, 10, 0, []), (2, 10, 0, []), (2, 10, 0, []), (2, 10, 0, []), (2, 10, 0, []), (0, 10, 0, [some 98, none, none, none, none, none]), (2, 5, 0, []), (0, 2, 0, [some 1, some 100, some 122, none]), (4, 21, 101, []), (1, 10, 0, []), (1, 10, 0, []), (1, 10, 0, []), (1, 10, 0, []), (1, 10, 0, []), (1, 10, 0, []), (1, 10, 0, []), (1, 10, 0, []), (1, 10, 0, []), (1, 10, 0, []), (1, 10, 0, []), (1, 10, 0, []), (1, 10, 0, []), (1, 10, 0, []), (1, 10, 0, []), (1, 10, 0, []), (1, 10, 0, []), (1, 10, 0, []), (1, 10, 0, []), (1, 10, 0, []), (1, 10, 0, []), (1, 10, 0, []), (0, 0, 0, [some 1, some 27, some 124]), (1, 12, 0, []), (0, 9, 0, [some 1, some 126, some 127, some 27]), (3, 256, 0, []), (1, 256, 0, []), (0, 12, 0, [some 129, some 130, some 131, some 132, some 133, some 134, none, some 135, some 136, none, none, none, none, none, some 137, some 138, some 139, some 140, some 141, some 142, some 143, some 144, some 145, some 146]), (2, 60, 0, []), (1, 180, 0, []), (1, 9, 0, []), (1, 36, 0, []), (3, 2, 0, []), (1, 200, 0, []), (1, 50, 0, []), (2, 10, 0, []), (3, 88200, 0, []), (1, 4410, 0, []), (2, 4410, 0, []), (1, 10, 0, []), (3, 210, 0, []), (1, 10, 0, []), (1, 4096, 0, []), (3, 4096, 0, []), (1, 6561, 0, []), (3, 256, 0, [])]
/-- addresses, classes, slots, array classes by kind, Strings, their bytes, TAKEN_AS -/
abbrev En : Type := (Nat → Nat) × (Nat → ClassId) × (Nat → Nat → Nat) × (Nat → ClassId) × (Nat → Nat) × (Nat → Nat) × Nat
def rv (E : En) (id : Nat) : Value := .ref (E.1 id)
def fvE (E : En) (h : Hp) (id k : Nat) (o : Option Nat) : Value := match o with
  | some t => rv E t
  | none => iv (h id k)
def objE (E : En) (h : Hp) (id : Nat) (fs : List (Option Nat)) : List Value := (List.range fs.length).map (fun k => fvE E h id k (fs.getD k none))
def cel (E : En) (h : Hp) (id : Nat) : va_E := match shL.getD id (9, 0, 0, []) with
  | (0, ci, _, fs) => .inr (ci, objE E h id fs)
  | (1, n, _, _) => .inl (E.2.2.2.1 1, n, .inl (fun j => Int32.ofInt (h id j)))
  | (2, n, _, _) => .inl (E.2.2.2.1 2, n, .inr (.inl (fun j => Int64.ofInt (h id j))))
  | (3, n, _, _) => .inl (E.2.2.2.1 3, n, .inl (fun j => Int32.ofInt (h id j)))
  | (k, n, b, _) => .inl (E.2.2.2.1 k, n, .inr (.inr (.inr (.inr (fun j => some (E.1 (b + j)))))))
def wld (E : En) (h : Hp) : va_W := (List.range 147).map (fun id => (E.1 id, cel E h id))
theorem wld_get (E : En) (h : Hp) {id : Nat} (hi : id < 147) : (wld E h)[id]? = some (E.1 id, cel E h id) := by
  unfold wld
  rw [List.getElem?_map, List.getElem?_range hi]
  rfl
theorem wld_set (E : En) (h h' : Hp) {id : Nat} (hi : id < 147) (ho : ∀ i, i ≠ id → h' i = h i) : (wld E h).set id (E.1 id, cel E h' id) = wld E h' := by
  apply List.ext_getElem?
  intro k
  rw [List.getElem?_set]
  by_cases hk : id = k
  · subst hk
    rw [if_pos rfl, wld_get E h' hi, if_pos (by unfold wld; simp; exact hi)]
  · rw [if_neg hk]
    unfold wld
    rw [List.getElem?_map, List.getElem?_map]
    cases hr : (List.range 147)[k]? with
    | none => rfl
    | some j =>
      have hj : j = k := by
        have h1 := (List.getElem?_eq_some_iff.mp hr)
        obtain ⟨h2, h3⟩ := h1
        simpa using h3.symm
      subst hj
      show some (E.1 j, cel E h j) = some (E.1 j, cel E h' j)
      have e : cel E h j = cel E h' j := by
        unfold cel objE fvE
        rw [ho j (fun e => hk e.symm)]
      rw [e]
def upd2 (h : Hp) (id j : Nat) (v : Int) : Hp := fun a b => if a = id ∧ b = j then v else h a b
theorem upd2_ne {h : Hp} {id j : Nat} {v : Int} : ∀ i, i ≠ id → upd2 h id j v i = h i := fun i hi => by
  funext b
  simp [upd2, hi]
def Ax (E : En) : Nat → Prop := fun q => ∃ id, id < 147 ∧ q = E.1 id
def tyE (E : En) : List (ClassId × FieldType) := [(E.2.2.2.1 1, .int), (E.2.2.2.1 2, .long), (E.2.2.2.1 3, .boolean), (E.2.2.2.1 4, .array .int), (E.2.2.2.1 5, .array .long)]
def DE (E : En) : va_G := (E.2.1, E.2.2.1)
def txL : List (Nat × String) := [(96, "parts"), (102, "heap"), (104, "away"), (106, "sweep"), (89, "rgby")]
def bytL : List (List Int32) := [[112, 97, 114, 116, 115], [104, 101, 97, 112], [97, 119, 97, 121], [115, 119, 101, 101, 112], [114, 103, 98, 121]]
def lenL : List Nat := [5, 4, 4, 5, 4]
def takenF (j : Nat) : Value := .int ([7, 9, 25, 39, 71, 71, 71, 71].getD j 0)
/-- what nobody writes: Strings, statics -/
def Sx (E : En) (U : State) (H : Heap) : Prop := vk_S 5 lenL bytL E.2.2.2.2.1 E.2.2.2.2.2.1 (Ax E) U H ∧ (∀ i, i < 5 → vk_R RX6 (txL.getD i (0, "")).1 (txL.getD i (0, "")).2 (E.2.2.2.2.1 i) U) ∧ va_Z "EvenTen" "TAKEN_AS" "[I" (.ref E.2.2.2.2.2.2) (Ax E) U H ∧ va_T .int E.2.2.2.2.2.2 8 takenF (Ax E) U H ∧ va_Z "java/lang/String" "COMPACT_STRINGS" "Z" (.int 1) (Ax E) U H ∧ (∃ o : Option Nat, va_Z "jdk/internal/util/Preconditions" "SIOOBE_FORMATTER" "Ljava/util/function/BiFunction;" (va_rf o) (Ax E) U H)
def Kx (E : En) (U : State) : Prop := va_K (DE E) vwCl (tyE E) U ∧ (∀ i j, i < 147 → j < 147 → E.1 i = E.1 j → i = j) ∧ (∀ a i x h, Cond.methodLinkNest a i x h ∈ lw_tbl → va_Nw (.methodLinkNest a i x h) U) ∧ Sx E U U.heap
theorem Kx.blind {E : En} {U : State} {g : JFrame} {mk : MethodId} {a : Array Value} (h : Kx E U) : Kx E (U.calling g mk a) := by
  obtain ⟨h1, h2, h3, h4, h5, h6, h7, h8, o9, h9⟩ := h
  have hv : U.vm.Alike (U.calling g mk a).vm := Vm.Alike.refl U.vm
  exact ⟨va_K.moved hv h1, h2, fun a i x h hm => va_Nw.same rfl (u := U) rfl (h3 a i x h hm), vk_S.moved hv h4, fun i hi => vk_R.same (u := U) rfl (h5 i hi), va_Z.moved hv h6, va_T.moved hv h7, va_Z.moved hv h8, o9, va_Z.moved hv h9⟩
theorem Kx.move {E : En} {s U : State} (hW : s.WarmedH U.vm) (hq : ∀ a : Nat, a < s.heap.size → ¬ Ax E a → U.heap[a]? = s.heap[a]?) (h : Kx E s) : Kx E U := by
  obtain ⟨h1, h2, h3, h4, h5, h6, h7, h8, o9, h9⟩ := h
  have hv : s.vm.Alike U.vm := hW.alike
  exact ⟨va_K.moved hv h1, h2, fun a i x h hm => va_Nw.warmM hW (h3 a i x h hm), (vk_S.moved hv h4).kept hq, fun i hi => vk_R.warm hW (h5 i hi), (va_Z.moved hv h6).kept hq, (va_T.moved hv h7).kept hq, (va_Z.moved hv h8).kept hq, o9, (va_Z.moved hv h9).kept hq⟩
theorem wld_D {E : En} (h2 : ∀ i j, i < 147 → j < 147 → E.1 i = E.1 j → i = j) (h : Hp) : va_D (Ax E) (wld E h) := by
  have key : ∀ (i : Nat) (p : Nat × va_E), (wld E h)[i]? = some p → i < 147 ∧ p.1 = E.1 i := by
    intro i p hi
    by_cases hl : i < 147
    · rw [wld_get E h hl] at hi
      cases hi
      exact ⟨hl, rfl⟩
    · have : (wld E h)[i]? = none := List.getElem?_eq_none (by unfold wld; simp; omega)
      rw [this] at hi
      cases hi
  refine ⟨fun i j p q hi hj e => ?_, fun k q hk => ?_⟩
  · obtain ⟨a1, a2⟩ := key i p hi
    obtain ⟨b1, b2⟩ := key j q hj
    exact h2 i j a1 b1 (by rw [← a2, ← b2]; exact e)
  · obtain ⟨a1, a2⟩ := key k q hk
    exact ⟨k, a1, a2⟩
/-- the words that a state keeps -/
def wsG : List Cond := lw_tbl.filter goodWord
theorem wsG_of {w : Cond} (h : w ∈ lw_tbl) (hg : goodWord w = true) : w ∈ wsG := List.mem_filter.mpr ⟨h, hg⟩
def rmD (d : Nat) : Room := { frames := d, cells := 0, slots := 0, locals := 64 * d }
abbrev Gx : Type := Program × Launch × Env × Room × State × MethodId × Array Value × List Frame × Method × Code × Nat × Nat
def Qx (E : En) (post : Option Value → Hp → Prop) : Array Value → State → Outcome → State → Prop := fun _ st o t => ∃ v h', o = .returned v ∧ post v h' ∧ va_P (DE E) vwCl (wld E h') t.heap ∧ va_F (Ax E) st t
def Wp (G : Gx) (E : En) (nL : Nat) (post : Option Value → Hp → Prop) (pc : Nat) (ls : List (Nat × Value)) (st : List Value) (h : Hp) : Prop :=
  ∀ (H : Heap) (locs : List Loc) (la : Array Slot), va_P (DE E) vwCl (wld E h) H → va_S (Ax E) G.2.2.2.2.1.heap H locs → lv_has la nL ls →
    W G.1 G.2.1 G.2.2.1 G.2.2.2.1 G.2.2.2.2.1 G.2.2.2.2.2.1 G.2.2.2.2.2.2.1 G.2.2.2.2.2.2.2.1 G.2.2.2.2.2.2.2.2.1 G.2.2.2.2.2.2.2.2.2.1 H locs G.2.2.2.2.2.2.2.2.2.2.1 G.2.2.2.2.2.2.2.2.2.2.2 (MQ G.2.2.2.2.2.2.2.1 (Qx E post) G.2.2.2.2.2.2.1 G.2.2.2.2.1 G.2.2.2.2.2.2.2.2.2.2.1 G.2.2.2.2.2.2.2.2.2.2.2 (Ax E)) (F0 G.2.2.2.2.2.1 pc la st)
def Cx (G : Gx) (E : En) (cc : ByteArray) (nL : Nat) (own : String) (ret : Option FieldType) (d : Nat) : Prop :=
  G.1.tables.exec = Jvm.exec ∧ G.2.2.2.2.2.2.2.2.2.1.code = cc ∧ G.2.2.2.2.2.2.2.2.2.1.maxLocals = nL ∧ G.2.2.2.2.1.vm.findClass own = some G.2.2.2.2.2.1.cls ∧ (∀ w ∈ wsG, w.before G.2.2.2.2.2.2.1 G.2.2.2.2.1 = true) ∧ Kx E G.2.2.2.2.1 ∧ G.2.2.2.2.2.2.2.2.1.sig.returnType = ret ∧ G.2.2.2.2.2.2.2.2.1.locks = false ∧ d ≤ G.2.2.2.1.frames ∧ 64 * d ≤ G.2.2.2.1.locals ∧ G.2.2.2.2.2.2.2.2.2.2.1 ≤ G.2.2.2.1.cells ∧ G.2.2.2.2.2.2.2.2.2.2.2 ≤ G.2.2.2.1.slots
/-- the contract of a method that makes nothing -/
def Ct (d : Nat) (y : MethodName) (cc : ByteArray) (nL : Nat) (ret : Option FieldType) (E : En) (as : List Value) (h : Hp) (post : Option Value → Hp → Prop) : Prop :=
  ∀ l : Launch, Met l y (Cond.code y cc nL ret :: wsG) (rmD d) (va_Pc as (fun U => va_P (DE E) vwCl (wld E h) U.heap ∧ Kx E U)) (Qx E post) 0 0 (Ax E)
theorem ct_intro {d : Nat} {y : MethodName} {cc : ByteArray} {nL : Nat} {ret : Option FieldType} {E : En} {as : List Value} {h : Hp} {post : Option Value → Hp → Prop} (hy : plainName y.cls = true) (hlen : (lg_sl as).length ≤ nL)
    (body : ∀ G : Gx, Cx G E cc nL y.cls ret d → Wp G E nL post 0 (lv_args 0 as) [] h) : Ct d y cc nL ret E as h post := by
  intro l
  refine Met.ofW (cc := cc) (maxL := nL) (ret := ret) hy rfl ?_
  intro p e s m args below meth c s₁ B hml hv
  obtain ⟨rfl, hP, hK⟩ := hv
  have hts := atoms_spec (ws := Cond.code y cc nL ret :: wsG) B.pre
  have hown : s.vm.findClass y.cls = some m.cls := findClass_of_methodNamed B.named
  have hl := lv_entry as (n := nL) hlen
  rw [lg_entry_eq]
  exact body (p, l, e, rmD d, s, m, as.toArray, below, meth, c, 0, 0) ⟨B.exec, B.bytes, hml, hown, fun w hw => hts w (List.mem_cons_of_mem _ hw), hK, B.returns, B.notSynchronized, Nat.le_refl _, Nat.le_refl _, Nat.le_refl _, Nat.le_refl _⟩ s.heap [] _ hP va_S.rf hl

/-! ===== making the two, and the end ===== -/
theorem same_forget {s t : State} {L : List Loc} {k n : Nat} (h : s.sameButNew t L k n) (hL : ∀ q ∈ L, s.heap.size ≤ q.base) : s.sameButNew t [] k n := by
  obtain ⟨h1, h2, h3, h4, h5, h6⟩ := h
  refine ⟨h1, h2, h3, h4, h5, fun a c hc => ?_⟩
  obtain ⟨c', g1, g2, g3, g4⟩ := h6 a c hc
  refine ⟨c', g1, g2, g3, fun i _ => g4 i (fun z => ?_)⟩
  have h7 : s.heap.size ≤ a := hL _ z
  have h8 : a < s.heap.size := (Array.getElem?_eq_some_iff.mp hc).1
  exact absurd h8 (Nat.not_lt.mpr h7)
section MAKE
variable {p : Program} {l : Launch} {e : Env} {s : State} {m : MethodId} {args : Array Value} {below : List Frame} {meth : Method} {c : Code} {E : En} {Q : State → Prop}
theorem W_make {H : Heap} {locs : List Loc} {la : Array Slot} {κ σ pc id0 ci M N mc ms d nY i1 i2 : Nat} {y : MethodName} {cy : ByteArray} {T : u_T} {ty0 : Nat → FieldType} {f0 : List Value}
    (hx : p.tables.exec = Jvm.exec) (hb : c.code = cL_law) (hml : c.maxLocals = 4) (hown : s.vm.findClass RL = some m.cls) (hts : ∀ w ∈ wsG, w.before args s = true) (K : Ky E s) (hE : Aff E) (h0 : E.1 0 = s.heap.size) (hsz : H.size = E.1 id0) (hold : ∀ q : Nat, q < s.heap.size → H[q]? = s.heap[q]?) (hlocs : ∀ q ∈ locs, s.heap.size ≤ q.base) (hla : la.size = 4)
    (hM : Cn d mc ms y cy nY E [] hI id0 ci N f0) (hq : SIc RL i2 y none cy nY 0) (hc : vwCl[ci]? = some (y.cls, T, M)) (hin : ∀ w ∈ u_ws y.cls T M, w ∈ wsG) (hty : ∀ k, k < M → parseFieldDescriptor (T k).2.2.1 = some (ty0 k)) (hw1 : Cond.classLink RL i1 y.cls ∈ wsG) (hw2 : Cond.instantiable y.cls M ∈ wsG) (hf : ∀ j, j < M → defaultValue (ty0 j) = vp_V f0 j)
    (hdd : d ≤ 100) (hk1 : κ + 1 + mc ≤ 600000) (hs1 : σ + M + ms ≤ 7302250) (d0 : decode cL_law pc = .ok (.new i1, 3)) (d1 : decode cL_law (pc + 3) = .ok (.dup, 1)) (d2 : decode cL_law (pc + 4) = .ok (.invokespecial i2, 3))
    (kk : ∀ (H' : Heap) (locs' : List Loc), H'.size = E.1 (id0 + N) → va_P (DE E) vwCl (wsN E hI id0 N) H' → (∀ q : Nat, q < E.1 id0 → H'[q]? = H[q]?) → (∀ q ∈ locs', s.heap.size ≤ q.base) → W p l e room_1 s m args below meth c H' locs' (κ + 1 + mc) (σ + M + ms) Q (F0 m (pc + 7) la [rv E id0])) :
    W p l e room_1 s m args below meth c H locs κ σ Q (F0 m pc la []) := by
  obtain ⟨q1, q2, q3, q4, q5, q6, q7⟩ := hq
  have hG := good_ws q4
  have hKn := K.1.1.1 ci _ hc
  refine W.newcK hx hb hown (hts _ hw1) (hts _ hw2) (hts _ q3) rfl d0 (Nat.le_trans (Nat.le_add_right _ mc) hk1) (Nat.le_trans (Nat.le_add_right _ ms) hs1) hKn.2.1 rfl fun H1 kC hkC e1 z1 o1 => ?_
  have hP1 : va_P (DE E) vwCl [(E.1 id0, .inr (ci, f0))] H1 := by
    intro k x hx
    have hz : k < 1 := (List.getElem?_eq_some_iff.mp hx).1
    rw [show k = 0 by omega] at hx
    cases hx
    rw [← hsz]
    exact ⟨_, hc, (u_born ty0 hts hin hKn hkC e1 hty).to hf⟩
  have a1' : H1.size = E.1 (id0 + 1) := by rw [z1, hsz, hE id0, hE (id0 + 1)]; omega
  have hle : s.heap.size ≤ H.size := by rw [hsz, hE id0, h0]; omega
  show W p l e room_1 s m args below meth c H1 locs (κ + 1) (σ + M) Q (F0 m (pc + 3) la [.ref H.size])
  refine lv_dup hx hb d1 rfl ?_
  rw [hsz]
  show W p l e room_1 s m args below meth c H1 locs (κ + 1) (σ + M) Q (F0 m (pc + 4) la [.ref (E.1 id0), .ref (E.1 id0)])
  have hold1 : ∀ q : Nat, q < s.heap.size → H1[q]? = s.heap[q]? := fun q hq => by rw [o1 q (Nat.lt_of_lt_of_le hq hle)]; exact hold q hq
  have hR : (rmC d mc ms).frames + 1 ≤ room_1.frames ∧ 8 + (nY + 11) + (rmC d mc ms).locals ≤ room_1.locals := by
    refine ⟨?_, ?_⟩
    · show d + 1 ≤ 2048
      omega
    · show 8 + (nY + 11) + 64 * d ≤ 84000
      omega
  have hp : PreS s H1 (va_Pc (rv E id0 :: []) (fun U => U.heap.size = E.1 (id0 + 1) ∧ va_P (DE E) vwCl [(E.1 id0, .inr (ci, f0))] U.heap ∧ Ky E U)) (rv E id0 :: []) := by
    refine ⟨fun a U g mk q => ⟨q.1, q.2.1, q.2.2.1, q.2.2.2.blind⟩, fun U hU hW => ⟨rfl, by rw [hU]; exact a1', by rw [hU]; exact hP1, ?_⟩⟩
    refine Ky.move hW (fun a g1 g2 => ?_) K
    rw [hU]
    exact hold1 a g1
  have run : va_Run p l e room_1 s m args below meth c H1 locs (κ + 1) (σ + M) mc ms (F0 m (pc + 4) la [.ref (E.1 id0), .ref (E.1 id0)]) [.ref (E.1 id0)] (Qn E hI id0 N (Value.ref (E.1 id0) :: []).toArray) (Az E id0) :=
    va_runI (b := E.1 id0) (As := []) (n := 0) (bytes := cy) (maxL := nY) (own := RL) (Ts := wsG) ⟨hx, hb, hml, hown, hts⟩ (hM hE l) (cwI 0 hts hG rfl rfl rfl (hts _ q3) (hts _ q1) (hts _ q2) q6 q7 hR) hp rfl rfl hla rfl (Nat.le_of_ble_eq_true rfl) d2 ⟨hk1, hs1⟩
  intro T0 hT X
  obtain ⟨v, st₀, t, T', L, b0, X', hL, e9, e2, ⟨hv, hsz2, hP2, hz, hk⟩, stp⟩ := run T0 hT X
  cases hv
  rw [b0] at hz hk
  obtain ⟨t2, g1, g2⟩ := kk T'.heap (locs ++ L) (by rw [e9, hsz2]) (by rw [e9]; exact hP2) (fun q hq => by
      rw [e9]
      have hlt : q < H1.size := by rw [a1', hE (id0 + 1)]; rw [hE id0] at hq; omega
      rw [hk q hlt (fun z => by
        rcases z with z | z
        · omega
        · rw [hE (id0 + 1)] at z; rw [hE id0] at hq; omega)]
      exact o1 q (by rw [hsz]; exact hq)) (fun q hq => by
      rcases List.mem_append.mp hq with g | g
      · exact hlocs q g
      · rcases hL q g with z | z
        · rw [z, hE id0, h0]; omega
        · rw [hE (id0 + 1), h0] at z; omega) T' rfl X'
  exact ⟨t2, stp t2 g1, g2⟩
end MAKE

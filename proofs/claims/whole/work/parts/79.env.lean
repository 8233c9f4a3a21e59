/-! ===== what is there at the start ===== -/
theorem en_cl {s : State} {args : Array Value} (hts : ∀ w ∈ wsG, w.before args s = true) (c : Nat) : ∃ q : ClassId × (Nat → Nat), ∀ x : vw_C, vwCl[c]? = some x → u_Kn s x.1 x.2.1 x.2.2 q.1 q.2 := by
  match c with
  | 0 =>
    obtain ⟨cC, iS, hk⟩ := u_known (n := 3) hts inWX0 (hts _ (mT (i := 244) (by decide +kernel) rfl))
    exact ⟨(cC, iS), fun x hx => by cases hx; exact hk⟩
  | 1 =>
    obtain ⟨cC, iS, hk⟩ := u_known (n := 4) hts inWX1 (hts _ (mT (i := 125) (by decide +kernel) rfl))
    exact ⟨(cC, iS), fun x hx => by cases hx; exact hk⟩
  | 2 =>
    obtain ⟨cC, iS, hk⟩ := u_known (n := 4) hts inWX2 (hts _ (mT (i := 224) (by decide +kernel) rfl))
    exact ⟨(cC, iS), fun x hx => by cases hx; exact hk⟩
  | 3 =>
    obtain ⟨cC, iS, hk⟩ := u_known (n := 4) hts inWX3 (hts _ (mT (i := 148) (by decide +kernel) rfl))
    exact ⟨(cC, iS), fun x hx => by cases hx; exact hk⟩
  | 4 =>
    obtain ⟨cC, iS, hk⟩ := u_known (n := 6) hts inWX4 (hts _ (mT (i := 32) (by decide +kernel) rfl))
    exact ⟨(cC, iS), fun x hx => by cases hx; exact hk⟩
  | 5 =>
    obtain ⟨cC, iS, hk⟩ := u_known (n := 3) hts inWX5 (hts _ (mT (i := 181) (by decide +kernel) rfl))
    exact ⟨(cC, iS), fun x hx => by cases hx; exact hk⟩
  | 6 =>
    obtain ⟨cC, iS, hk⟩ := u_known (n := 7) hts inWX6 (hts _ (mT (i := 92) (by decide +kernel) rfl))
    exact ⟨(cC, iS), fun x hx => by cases hx; exact hk⟩
  | 7 =>
    obtain ⟨cC, iS, hk⟩ := u_known (n := 2) hts inWX7 (hts _ (mT (i := 167) (by decide +kernel) rfl))
    exact ⟨(cC, iS), fun x hx => by cases hx; exact hk⟩
  | 8 =>
    obtain ⟨cC, iS, hk⟩ := u_known (n := 2) hts inWX8 (hts _ (mT (i := 76) (by decide +kernel) rfl))
    exact ⟨(cC, iS), fun x hx => by cases hx; exact hk⟩
  | 9 =>
    obtain ⟨cC, iS, hk⟩ := u_known (n := 4) hts inWX9 (hts _ (mT (i := 260) (by decide +kernel) rfl))
    exact ⟨(cC, iS), fun x hx => by cases hx; exact hk⟩
  | 10 =>
    obtain ⟨cC, iS, hk⟩ := u_known (n := 6) hts inWX10 (hts _ (mT (i := 199) (by decide +kernel) rfl))
    exact ⟨(cC, iS), fun x hx => by cases hx; exact hk⟩
  | 11 =>
    obtain ⟨cC, iS, hk⟩ := u_known (n := 11) hts inWX11 (hts _ (mT (i := 24) (by decide +kernel) rfl))
    exact ⟨(cC, iS), fun x hx => by cases hx; exact hk⟩
  | 12 =>
    obtain ⟨cC, iS, hk⟩ := u_known (n := 24) hts inWX12 (hts _ (mT (i := 882) (by decide +kernel) rfl))
    exact ⟨(cC, iS), fun x hx => by cases hx; exact hk⟩
  | n + 13 => exact ⟨(0, fun _ => 0), fun x hx => by cases hx⟩
theorem en_ar {s : State} {args : Array Value} {ty : FieldType} (hno : ∀ C, ty ≠ .object C) (h : (Cond.arrayClass ty).before args s = true) : ∃ cA : ClassId, ArrOfT s cA ty ∧ va_RA s cA ty := by
  obtain ⟨cA, kA, comp, h1, h2, h3⟩ := Cond.arrayClass_spec h
  refine ⟨cA, fun n z => ⟨fun k h => (by cases h), kA, h2, comp, h3⟩, ?_⟩
  cases ty with
  | object C => exact absurd rfl (hno C)
  | _ => exact h1
theorem en_ov {s : State} {args : Array Value} {ty : FieldType} (h : (Cond.arrayOver (.array ty)).before args s = true) : ∃ cA : ClassId, ArrOfT s cA (.array ty) ∧ va_RA s cA (.array ty) := by
  obtain ⟨cB, cA, kA, hfB, -, hkA, hkindA, hfA⟩ := arrayOverA_spec h
  exact ⟨cA, fun n z => ⟨fun k h => (by cases h), kA, hkA, cB, hkindA⟩, hfA⟩
def tmS (i : Nat) : Term := Term.string RX6 (txL.getD i (0, "")).1
def gvL : List Cond := flatC (Jvm.Cond.and given_1 narrow_1)
set_option maxRecDepth 100000 in
theorem gv_ex : ∀ i : Fin 5, Cond.exactly (tmS i.val) "java/lang/String" ∈ gvL := by decide +kernel
set_option maxRecDepth 100000 in
theorem gv_co : ∀ i : Fin 5, Cond.eq (.field (tmS i.val) "java/lang/String" "coder" "B") (.int 0) ∈ gvL := by decide +kernel
set_option maxRecDepth 100000 in
theorem gv_ar : ∀ i : Fin 5, Cond.arrayOf (.field (tmS i.val) "java/lang/String" "value" "[B") .byte ∈ gvL := by decide +kernel
set_option maxRecDepth 100000 in
theorem gv_le : ∀ i : Fin 5, Cond.eq (.length (.field (tmS i.val) "java/lang/String" "value" "[B")) (.int (Int32.ofNat (lenL.getD i.val 0))) ∈ gvL := by decide +kernel
set_option maxRecDepth 100000 in
theorem gv_el : ∀ i : Fin 5, ∀ j : Fin 5, j.val < lenL.getD i.val 0 → Cond.eq (.elem (.field (tmS i.val) "java/lang/String" "value" "[B") (.int (Int32.ofNat j.val))) (.int ((bytL.getD i.val []).getD j.val 0)) ∈ gvL := by decide +kernel
set_option maxRecDepth 100000 in
theorem gv_ne : ∀ i : Fin 5, ∀ j : Fin 5, i.val ≠ j.val → Cond.not (Cond.eq (tmS i.val) (tmS j.val)) ∈ gvL ∨ Cond.not (Cond.eq (tmS j.val) (tmS i.val)) ∈ gvL := by decide +kernel
theorem len5 : ∀ i : Fin 5, lenL.getD i.val 0 ≤ 5 := by decide
set_option maxRecDepth 100000 in
theorem gv_sr : ∀ i : Fin 5, Cond.stringRef RX6 (txL.getD i.val (0, "")).1 (txL.getD i.val (0, "")).2 ∈ lw_tbl := by
  have e : ∀ i : Fin 5, Cond.stringRef RX6 (txL.getD i.val (0, "")).1 (txL.getD i.val (0, "")).2 ∈ tables_1 := by decide +kernel
  exact fun i => List.mem_append_right _ (e i)
set_option maxRecDepth 100000 in
theorem gv_tk : ∀ j : Fin 8, Cond.eq (.elem (.static "EvenTen" "TAKEN_AS" "[I") (.int (Int32.ofNat j.val))) (.int ([7, 9, 25, 39, 71, 71, 71, 71].getD j.val 0)) ∈ gvL := by decide +kernel
theorem en_rf {s : State} {args : Array Value} {t : Term} (h : (Cond.isRef t).before args s = true) : ∃ o : Option Nat, t.eval args s none [] s = some (va_rf o) := by
  cases hv : t.eval args s none [] s with
  | none => simp [Cond.before, Cond.holds, Cond.value, hv] at h
  | some w =>
    cases w with
    | ref a => exact ⟨some a, rfl⟩
    | null => exact ⟨none, rfl⟩
    | _ => simp [Cond.before, Cond.holds, Cond.value, hv, Value.isRef] at h
set_option maxRecDepth 100000 in
theorem en_of {s : State} {args : Array Value} (hts : ∀ w ∈ lw_tbl, w.before args s = true) (hgv : (Jvm.Cond.and given_1 narrow_1).before args s = true) : ∃ E : En, (∀ i, E.1 i = s.heap.size + i) ∧ Ky E s := by
  have hg : ∀ w ∈ gvL, w.before args s = true := flat_of_before _ hgv
  have htw : ∀ w ∈ wsG, w.before args s = true := fun w hw => hts w (List.mem_filter.mp hw).1
  have hA : ∀ a : Nat, a < s.heap.size → ¬ (∃ id, id < 147 ∧ a = s.heap.size + id) := fun a ha z => by
    obtain ⟨id, -, z⟩ := z
    omega
  obtain ⟨cf, hcf⟩ := Classical.axiomOfChoice (en_cl htw)
  obtain ⟨c1, k1, r1⟩ := en_ar (ty := .int) (fun C h => by cases h) (htw _ (mT (i := 90) (by decide +kernel) rfl))
  obtain ⟨c2, k2, r2⟩ := en_ar (ty := .long) (fun C h => by cases h) (htw _ (mT (i := 74) (by decide +kernel) rfl))
  obtain ⟨c3, k3, r3⟩ := en_ar (ty := .boolean) (fun C h => by cases h) (htw _ (mT (i := 278) (by decide +kernel) rfl))
  have o4 : (Cond.arrayOver (.array .int)).before args s = true := hts _ (List.mem_append_right _ (List.mem_of_getElem? (i := 131) (by decide +kernel)))
  have o5 : (Cond.arrayOver (.array .long)).before args s = true := hts _ (List.mem_append_right _ (List.mem_of_getElem? (i := 98) (by decide +kernel)))
  obtain ⟨c4, k4, r4⟩ := en_ov o4
  obtain ⟨c5, k5, r5⟩ := en_ov o5
  obtain ⟨adK, adV, hS, hSe⟩ := vk_Sof (args := args) (s := s) (N := 5) (tm := tmS) (len := lenL) (byt := bytL) (A := fun q => ∃ id, id < 147 ∧ q = s.heap.size + id) (fun i hi => by have := len5 ⟨i, hi⟩; exact Nat.lt_of_le_of_lt this (by decide)) (fun i hi => hg _ (gv_ex ⟨i, hi⟩)) (fun i hi => hg _ (gv_co ⟨i, hi⟩)) (fun i hi => hg _ (gv_ar ⟨i, hi⟩)) (fun i hi => hg _ (gv_le ⟨i, hi⟩)) (fun i hi j hj => hg _ (gv_el ⟨i, hi⟩ ⟨j, Nat.lt_of_lt_of_le hj (len5 ⟨i, hi⟩)⟩ hj)) (fun i j hi hj hij => (gv_ne ⟨i, hi⟩ ⟨j, hj⟩ hij).imp (hg _) (hg _)) hA
  obtain ⟨t, ht, hT⟩ := va_Tof (args := args) (s := s) (tm := .static "EvenTen" "TAKEN_AS" "[I") (ty := .int) (N := 8) (f := takenF) (A := fun q => ∃ id, id < 147 ∧ q = s.heap.size + id) (by decide) (hg _ (by decide +kernel)) (va_eqt (hg _ (by decide +kernel))) (fun j hj => va_eqt (hg _ (gv_tk ⟨j, hj⟩))) hA
  obtain ⟨o, ho⟩ := en_rf (hg (Cond.isRef (.static "jdk/internal/util/Preconditions" "SIOOBE_FORMATTER" "Ljava/util/function/BiFunction;")) (by decide +kernel))
  refine ⟨(fun i => s.heap.size + i, fun c => (cf c).1, fun c => (cf c).2, fun k => if k = 1 then c1 else if k = 2 then c2 else if k = 3 then c3 else if k = 4 then c4 else c5, adK, adV, t), fun i => rfl, ⟨⟨fun c q hq => hcf c q hq, fun k q hk => ?_⟩, fun i j _ _ e => ?_, fun a i x h hm => va_tabs rfl rfl (hts _ hm), hS, fun i hi => vk_R.of (hts _ (gv_sr ⟨i, hi⟩)) (hSe i hi), ?_, hT, ?_, o, ?_⟩, over_moved (Vm.Alike.refl _) o4, over_moved (Vm.Alike.refl _) o5⟩
  · match k with
    | 0 => cases hk; exact ⟨k1, r1⟩
    | 1 => cases hk; exact ⟨k2, r2⟩
    | 2 => cases hk; exact ⟨k3, r3⟩
    | 3 => cases hk; exact ⟨k4, r4⟩
    | 4 => cases hk; exact ⟨k5, r5⟩
    | n + 5 => cases hk
  · have e' : s.heap.size + i = s.heap.size + j := e
    omega
  · exact va_Zof (hts _ (List.mem_append_right _ (List.mem_of_getElem? (i := 579) (by decide +kernel)))) (htw _ (mT (i := 1) (by decide +kernel) rfl)) ht hA
  · exact va_Zof (hts _ (List.mem_append_right _ (List.mem_of_getElem? (i := 376) (by decide +kernel)))) (htw _ (mT (i := 15) (by decide +kernel) rfl)) (va_eqi (hg _ (by decide +kernel))) hA
  · exact va_Zof (hts _ (List.mem_append_right _ (List.mem_of_getElem? (i := 392) (by decide +kernel)))) (htw _ (mT (i := 17) (by decide +kernel) rfl)) ho hA

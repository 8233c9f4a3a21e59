/-! ===== Strings: rules, length, charAt, indexOf ===== -/
theorem wTab_ok : ∀ w : Fin 5, ∀ j : Fin 5, (bytL.getD w.val []).getD j.val 0 = Int32.ofInt (wCh w.val j.val) := by decide +kernel
theorem wCh_r0 : ∀ w : Fin 5, ∀ j : Fin 5, 0 ≤ wCh w.val j.val ∧ wCh w.val j.val < 128 := by decide +kernel
theorem lenL_r0 : ∀ w : Fin 5, 4 ≤ lenL.getD w.val 0 ∧ lenL.getD w.val 0 ≤ 5 := by decide +kernel
theorem lenL_r {w : Nat} (hw : w < 5) : 4 ≤ lenL.getD w 0 ∧ lenL.getD w 0 ≤ 5 := lenL_r0 ⟨w, hw⟩
theorem wCh_r {w j : Nat} (hw : w < 5) (hj : j < 5) : 0 ≤ wCh w j ∧ wCh w j < 128 := wCh_r0 ⟨w, hw⟩ ⟨j, hj⟩
def i2bF (a : Int) : Int := if a < 128 then a else a - 256
theorem and255 {a : Int} (h : 0 ≤ a ∧ a < 128) : bAnd a 255 = a := by
  have e : ∀ n : Fin 128, bAnd (n.val : Int) 255 = (n.val : Int) := by decide +kernel
  have := e ⟨a.toNat, by omega⟩
  simpa [Int.toNat_of_nonneg h.1] using this
theorem c16 {a : Int} (h : 0 ≤ a ∧ a < 256) : ((Int32.ofInt a).toUInt32 % 65536).toInt32 = Int32.ofInt a := by
  have e : ∀ n : Fin 256, ((Int32.ofInt (n.val : Int)).toUInt32 % 65536).toInt32 = Int32.ofInt (n.val : Int) := by decide +kernel
  have := e ⟨a.toNat, by omega⟩
  simpa [Int.toNat_of_nonneg h.1] using this
theorem c16n {a : Int} (h : 0 ≤ a ∧ a < 256) : narrow .char (.int (Int32.ofInt a)) = .int (Int32.ofInt a) := by
  have e : ∀ n : Fin 256, (Int32.ofInt (n.val : Int)).toUInt32.toUInt16.toUInt32.toInt32 = Int32.ofInt (n.val : Int) := by decide +kernel
  have := e ⟨a.toNat, by omega⟩
  simp only [Int.toNat_of_nonneg h.1] at this
  show Value.int ((Int32.ofInt a).toUInt32.toUInt16.toUInt32.toInt32) = _
  rw [this]
theorem b8 {a : Int} (h : 0 ≤ a ∧ a < 256) : (Int32.ofInt a).toInt8.toInt32 = Int32.ofInt (i2bF a) := by
  have e : ∀ n : Fin 256, (Int32.ofInt (n.val : Int)).toInt8.toInt32 = Int32.ofInt (i2bF (n.val : Int)) := by decide +kernel
  have := e ⟨a.toNat, by omega⟩
  simpa [Int.toNat_of_nonneg h.1] using this
def SK (own : String) (idx : Nat) (y : MethodName) (cc : ByteArray) (nL : Nat) (ret : Option FieldType) (n : Nat) : Prop :=
  Cond.methodLink own idx y ∈ wsG ∧ Cond.instanceMethod y ∈ wsG ∧ Cond.selects y.cls y y ∈ wsG ∧ Cond.initialized y.cls ∈ wsG ∧ Cond.code y cc nL ret ∈ wsG ∧ nL ≤ 45 ∧ y.cls = "java/lang/String" ∧ (y.cls ≠ "java/lang/invoke/MethodHandle" ∧ y.cls ≠ "java/lang/invoke/VarHandle" ∧ (parseMethodDescriptor y.desc).map (fun d => d.parameters.length) = some n)
section STR
variable {G : Gx} {E : En} {cc : ByteArray} {nL : Nat} {own : String} {ret : Option FieldType} {d : Nat} {post : Option Value → Hp → Prop} {pc : Nat} {ls : List (Nat × Value)} {st : List Value} {h : Hp}
variable {y : MethodName} {cy : ByteArray} {nY n idx d' : Nat} {retY : Option FieldType} {as : List Value} {rest : List Value} {postY : Option Value → Hp → Prop}
theorem wp_nret {a : Int} {ty : FieldType} (hn : narrow ty (.int (Int32.ofInt a)) = .int (Int32.ofInt a)) (C : Cx G E cc nL own (some ty) d) (hd : decode cc pc = .ok (.ireturn, 1)) (k : post (some (iv a)) h) : Wp G E nL post pc ls [iv a] h := by
  intro H locs la hP hS hl
  have hlk := C.2.2.2.2.2.2.2.1
  exact W.zret (v := Int32.ofInt a) C.1 C.2.1 C.2.2.2.2.2.2.1 hn (fun t ht hW => ⟨some (iv a), h, rfl, k, by rw [ht]; exact hP, hS.F ht⟩) hS.2.2 hd hlk
theorem wp_i2c {a : Int} (ha : 0 ≤ a ∧ a < 256) (C : Cx G E cc nL own ret d) (hd : decode cc pc = .ok (.i2c, 1)) (k : Wp G E nL post (pc + 1) ls (iv a :: st) h) : Wp G E nL post pc ls (iv a :: st) h := by
  intro H locs la hP hS hl
  exact lv_i2c C.1 C.2.1 hd (c16 ha) (k H locs la hP hS hl)
theorem wp_i2b {a : Int} (ha : 0 ≤ a ∧ a < 256) (C : Cx G E cc nL own ret d) (hd : decode cc pc = .ok (.i2b, 1)) (k : Wp G E nL post (pc + 1) ls (iv (i2bF a) :: st) h) : Wp G E nL post pc ls (iv a :: st) h := by
  intro H locs la hP hS hl
  exact lv_i2b C.1 C.2.1 hd (b8 ha) (k H locs la hP hS hl)
theorem wp_ldcS {i : Nat} (hi : i < 5) (C : Cx G E cc nL RX6 ret d) (hd : decode cc pc = .ok (.ldc (txL.getD i (0, "")).1, 2)) (k : Wp G E nL post (pc + 2) ls (.ref (E.2.2.2.2.1 i) :: st) h) : Wp G E nL post pc ls st h := by
  intro H locs la hP hS hl
  exact va_ldcS C.1 C.2.1 C.2.2.2.1 (C.2.2.2.2.2.1.2.2.2.2.1 i hi) hd (k H locs la hP hS hl)
theorem wp_getCo {w : Nat} (hw : w < 5) (hl9 : Cond.fieldLink own idx "java/lang/String" "coder" "B" ∈ wsG) (C : Cx G E cc nL own ret d) (hd : decode cc pc = .ok (.getfield idx, 3)) (k : Wp G E nL post (pc + 3) ls (iv 0 :: st) h) : Wp G E nL post pc ls (.ref (E.2.2.2.2.1 w) :: st) h := by
  intro H locs la hP hS hl
  exact vk_getf C.1 C.2.1 (C.2.2.2.2.2.1.2.2.2.1.1 w hw).2.1 hS C.2.2.2.1 (C.2.2.2.2.1 _ hl9) (fun _ z => z) hd (k H locs la hP hS hl)
theorem wp_getVa {w : Nat} (hw : w < 5) (hl9 : Cond.fieldLink own idx "java/lang/String" "value" "[B" ∈ wsG) (C : Cx G E cc nL own ret d) (hd : decode cc pc = .ok (.getfield idx, 3)) (k : Wp G E nL post (pc + 3) ls (.ref (E.2.2.2.2.2.1 w) :: st) h) : Wp G E nL post pc ls (.ref (E.2.2.2.2.1 w) :: st) h := by
  intro H locs la hP hS hl
  exact vk_getf C.1 C.2.1 (C.2.2.2.2.2.1.2.2.2.1.1 w hw).2.2.1 hS C.2.2.2.1 (C.2.2.2.2.1 _ hl9) (fun _ z => z) hd (k H locs la hP hS hl)
theorem wp_alenB {w : Nat} (hw : w < 5) (C : Cx G E cc nL own ret d) (hd : decode cc pc = .ok (.arraylength, 1)) (k : Wp G E nL post (pc + 1) ls (iv (lenL.getD w 0 : Int) :: st) h) : Wp G E nL post pc ls (.ref (E.2.2.2.2.2.1 w) :: st) h := by
  intro H locs la hP hS hl
  exact va_tlen C.1 C.2.1 (C.2.2.2.2.2.1.2.2.2.1.1 w hw).2.2.2 hS rfl hd (k H locs la hP hS hl)
theorem wp_balB {w : Nat} {a : Int} (hw : w < 5) (hin : 0 ≤ a ∧ a < (lenL.getD w 0 : Int)) (C : Cx G E cc nL own ret d) (hd : decode cc pc = .ok (.baload, 1)) (k : Wp G E nL post (pc + 1) ls (iv (wCh w a.toNat) :: st) h) : Wp G E nL post pc ls (iv a :: .ref (E.2.2.2.2.2.1 w) :: st) h := by
  intro H locs la hP hS hl
  have hL := lenL_r hw
  exact va_tb C.1 C.2.1 (C.2.2.2.2.2.1.2.2.2.1.1 w hw).2.2.2 hS (i_in hin (by omega)) (by rw [i_cl (by omega)]; show Value.int ((bytL.getD w []).getD a.toNat 0) = iv (wCh w a.toNat); rw [wTab_ok ⟨w, hw⟩ ⟨a.toNat, by omega⟩]; rfl) hd (k H locs la hP hS hl)
theorem wp_getsC (hl9 : Cond.fieldLink own idx "java/lang/String" "COMPACT_STRINGS" "Z" ∈ wsG) (C : Cx G E cc nL own ret d) (hd : decode cc pc = .ok (.getstatic idx, 3)) (k : Wp G E nL post (pc + 3) ls (iv 1 :: st) h) : Wp G E nL post pc ls st h := by
  intro H locs la hP hS hl
  exact va_gets C.1 C.2.1 C.2.2.2.2.2.1.2.2.2.2.2.2.2.1 hS C.2.2.2.1 (C.2.2.2.2.1 _ hl9) (fun _ z => z) hd (k H locs la hP hS hl)
theorem wp_getsF (hl9 : Cond.fieldLink own idx "jdk/internal/util/Preconditions" "SIOOBE_FORMATTER" "Ljava/util/function/BiFunction;" ∈ wsG) (C : Cx G E cc nL own ret d) (hd : decode cc pc = .ok (.getstatic idx, 3)) (k : ∀ o9 : Option Nat, Wp G E nL post (pc + 3) ls (va_rf o9 :: st) h) : Wp G E nL post pc ls st h := by
  intro H locs la hP hS hl
  obtain ⟨o9, hz⟩ := C.2.2.2.2.2.1.2.2.2.2.2.2.2.2
  exact va_gets C.1 C.2.1 hz hS C.2.2.2.1 (C.2.2.2.2.1 _ hl9) (fun _ z => z) hd (k o9 H locs la hP hS hl)
theorem rf_cat (o9 : Option Nat) : (va_rf o9).category = 1 := by cases o9 <;> rfl
theorem wp_callK {w : Nat} (hM : Ct d' y cy nY retY E (.ref (E.2.2.2.2.1 w) :: as) h postY) (hq : SK own idx y cy nY retY n) (hw5 : w < 5) (hd' : d' < d) (hn : as.length = n) (hst : st = as.reverse ++ .ref (E.2.2.2.2.1 w) :: rest) (hw : (rest.map fun v => v.category).sum ≤ 8) (C : Cx G E cc nL own ret d) (hdg : decode cc pc = .ok (.invokevirtual idx, 3))
    (kk : ∀ v h', postY v h' → Wp G E nL post (pc + 3) ls (v.toList ++ rest) h') : Wp G E nL post pc ls st h := by
  intro H locs la hP hS hl
  obtain ⟨q1, q2, q3, q4, q5, q6, q7, q8⟩ := hq
  have hG := good_ws q5
  have hp := cx_pre C hP hS (.ref (E.2.2.2.2.1 w) :: as)
  have hre := vk_recv C.2.2.2.2.2.1.2.2.2.1 hw5 hS
  rw [← q7] at hre
  refine wp_behind hS hl (va_runV (C := y.cls) (b := E.2.2.2.2.1 w) (As := as) (n := n) (bytes := cy) (maxL := nY) (ret := retY) (own := own) (Ts := wsG) ⟨C.1, C.2.1, C.2.2.1, C.2.2.2.1, C.2.2.2.2.1⟩ (hM G.2.1) ⟨callB_of n C.2.2.2.2.1 hG rfl rfl rfl (C.2.2.2.2.1 _ q4) (C.2.2.2.2.1 _ q1) q8 (room_ok hd' q6 C.2.2.2.2.2.2.2.2), C.2.2.2.2.1 _ q2, C.2.2.2.2.1 _ q3⟩ ⟨hp.1, hre, hp.2⟩ rfl hn hl.1 hst (lv_room hw) hdg ?_) kk
  exact ⟨C.2.2.2.2.2.2.2.2.2.2.1, C.2.2.2.2.2.2.2.2.2.2.2⟩
theorem wp_callKp {v : Value} {w : Nat} (hM : Ct d' y cy nY retY E (.ref (E.2.2.2.2.1 w) :: as) h (Ret v h)) (hq : SK own idx y cy nY retY n) (hw5 : w < 5) (hd' : d' < d) (hn : as.length = n) (hst : st = as.reverse ++ .ref (E.2.2.2.2.1 w) :: rest) (hw : (rest.map fun v => v.category).sum ≤ 8) (C : Cx G E cc nL own ret d) (hdg : decode cc pc = .ok (.invokevirtual idx, 3))
    (kk : Wp G E nL post (pc + 3) ls (v :: rest) h) : Wp G E nL post pc ls st h :=
  wp_callK hM hq hw5 hd' hn hst hw C hdg (fun _ _ q => by obtain ⟨rfl, rfl⟩ := q; exact kk)
end STR
theorem skX6_108 : SK RX6 108 yJ0_length_8abf5 cJ0_length_8abf5 1 (some .int) 0 := ⟨(mT (i := 367) (by decide +kernel) rfl), (mT (i := 368) (by decide +kernel) rfl), (mT (i := 369) (by decide +kernel) rfl), (mT (i := 15) (by decide +kernel) rfl), (mT (i := 370) (by decide +kernel) rfl), by decide, rfl, ⟨by decide +kernel, by decide +kernel, by decide +kernel⟩⟩
theorem skX6_110 : SK RX6 110 yJ0_charAt_5068e cJ0_charAt_5068e 2 (some .char) 1 := ⟨(mT (i := 377) (by decide +kernel) rfl), (mT (i := 378) (by decide +kernel) rfl), (mT (i := 379) (by decide +kernel) rfl), (mT (i := 15) (by decide +kernel) rfl), (mT (i := 380) (by decide +kernel) rfl), by decide, rfl, ⟨by decide +kernel, by decide +kernel, by decide +kernel⟩⟩
theorem skX6_91 : SK RX6 91 yJ0_indexOf_0f7a4 cJ0_indexOf_0f7a4 2 (some .int) 1 := ⟨(mT (i := 439) (by decide +kernel) rfl), (mT (i := 440) (by decide +kernel) rfl), (mT (i := 441) (by decide +kernel) rfl), (mT (i := 15) (by decide +kernel) rfl), (mT (i := 442) (by decide +kernel) rfl), by decide, rfl, ⟨by decide +kernel, by decide +kernel, by decide +kernel⟩⟩
theorem skJ0_335 : SK RJ0 335 yJ0_coder_7d493 cJ0_coder_7d493 1 (some .byte) 0 := ⟨(mT (i := 371) (by decide +kernel) rfl), (mT (i := 372) (by decide +kernel) rfl), (mT (i := 373) (by decide +kernel) rfl), (mT (i := 15) (by decide +kernel) rfl), (mT (i := 374) (by decide +kernel) rfl), by decide, rfl, ⟨by decide +kernel, by decide +kernel, by decide +kernel⟩⟩
theorem skJ0_492 : SK RJ0 492 yJ0_isLatin1_aae02 cJ0_isLatin1_aae02 1 (some .boolean) 0 := ⟨(mT (i := 381) (by decide +kernel) rfl), (mT (i := 382) (by decide +kernel) rfl), (mT (i := 383) (by decide +kernel) rfl), (mT (i := 15) (by decide +kernel) rfl), (mT (i := 384) (by decide +kernel) rfl), by decide, rfl, ⟨by decide +kernel, by decide +kernel, by decide +kernel⟩⟩
theorem skJ0_633 : SK RJ0 633 yJ0_indexOf_7cf53 cJ0_indexOf_7cf53 3 (some .int) 2 := ⟨(mT (i := 443) (by decide +kernel) rfl), (mT (i := 444) (by decide +kernel) rfl), (mT (i := 445) (by decide +kernel) rfl), (mT (i := 15) (by decide +kernel) rfl), (mT (i := 446) (by decide +kernel) rfl), by decide, rfl, ⟨by decide +kernel, by decide +kernel, by decide +kernel⟩⟩
theorem skJ0_505 : SK RJ0 505 yJ0_length_8abf5 cJ0_length_8abf5 1 (some .int) 0 := ⟨(mT (i := 447) (by decide +kernel) rfl), (mT (i := 368) (by decide +kernel) rfl), (mT (i := 369) (by decide +kernel) rfl), (mT (i := 15) (by decide +kernel) rfl), (mT (i := 370) (by decide +kernel) rfl), by decide, rfl, ⟨by decide +kernel, by decide +kernel, by decide +kernel⟩⟩
set_option maxRecDepth 100000 in
set_option maxHeartbeats 4000000 in
theorem c_coder (E : En) (h : Hp) (w : Nat) (hw5 : w < 5) : Ct 0 yJ0_coder_7d493 cJ0_coder_7d493 1 (some .byte) E [.ref (E.2.2.2.2.1 w)] h (Ret (iv 0) h) := by
  refine ct_intro (by decide) (Nat.le_of_ble_eq_true rfl) (fun G C => ?_)
  show Wp G E 1 (Ret (iv 0) h) 0 [(0, .ref (E.2.2.2.2.1 w))] [] h
  refine wp_getsC (mT (i := 375) (by decide +kernel) rfl) C dJ0_coder_7d493_0 ?_
  refine wp_if_eq (tgt := 13) (by omega) C dJ0_coder_7d493_3 (by decide) (fun c_3 => ?_) (fun c_3 => ?_)
  · skip
    exact absurd c_3 (by decide)
  · skip
    refine wp_aload_n 0 C dJ0_coder_7d493_6 rfl rfl ?_
    refine wp_getCo hw5 (mT (i := 1275) (by decide +kernel) rfl) C dJ0_coder_7d493_7 ?_
    refine wp_goto (tgt := 14) C dJ0_coder_7d493_10 (by decide) ?_
    refine wp_nret (rfl) C dJ0_coder_7d493_14 ?_
    exact ret_iv rfl

set_option maxRecDepth 100000 in
set_option maxHeartbeats 4000000 in
theorem c_isLatin1 (E : En) (h : Hp) (w : Nat) (hw5 : w < 5) : Ct 0 yJ0_isLatin1_aae02 cJ0_isLatin1_aae02 1 (some .boolean) E [.ref (E.2.2.2.2.1 w)] h (Ret (iv 1) h) := by
  refine ct_intro (by decide) (Nat.le_of_ble_eq_true rfl) (fun G C => ?_)
  show Wp G E 1 (Ret (iv 1) h) 0 [(0, .ref (E.2.2.2.2.1 w))] [] h
  refine wp_getsC (mT (i := 375) (by decide +kernel) rfl) C dJ0_isLatin1_aae02_0 ?_
  refine wp_if_eq (tgt := 17) (by omega) C dJ0_isLatin1_aae02_3 (by decide) (fun c_3 => ?_) (fun c_3 => ?_)
  · skip
    exact absurd c_3 (by decide)
  · skip
    refine wp_aload_n 0 C dJ0_isLatin1_aae02_6 rfl rfl ?_
    refine wp_getCo hw5 (mT (i := 1275) (by decide +kernel) rfl) C dJ0_isLatin1_aae02_7 ?_
    refine wp_if_ne (tgt := 17) (by omega) C dJ0_isLatin1_aae02_10 (by decide) (fun c_10 => ?_) (fun c_10 => ?_)
    · skip
      exact absurd rfl c_10
    · skip
      refine wp_iconst (v := 1) C dJ0_isLatin1_aae02_13 rfl ?_
      refine wp_goto (tgt := 18) C dJ0_isLatin1_aae02_14 (by decide) ?_
      refine wp_zret (by first | exact bi_01 | omega) C dJ0_isLatin1_aae02_18 ?_
      exact ret_iv rfl

set_option maxRecDepth 100000 in
set_option maxHeartbeats 4000000 in
theorem c_slen (E : En) (h : Hp) (w : Nat) (hw5 : w < 5) : Ct 1 yJ0_length_8abf5 cJ0_length_8abf5 1 (some .int) E [.ref (E.2.2.2.2.1 w)] h (Ret (iv (lenL.getD w 0 : Int)) h) := by
  have hL := lenL_r hw5
  refine ct_intro (by decide) (Nat.le_of_ble_eq_true rfl) (fun G C => ?_)
  show Wp G E 1 (Ret (iv (lenL.getD w 0 : Int)) h) 0 [(0, .ref (E.2.2.2.2.1 w))] [] h
  refine wp_aload_n 0 C dJ0_length_8abf5_0 rfl rfl ?_
  refine wp_getVa hw5 (mT (i := 1274) (by decide +kernel) rfl) C dJ0_length_8abf5_1 ?_
  refine wp_alenB hw5 C dJ0_length_8abf5_4 ?_
  refine wp_aload_n 0 C dJ0_length_8abf5_5 rfl rfl ?_
  refine wp_callKp (rest := [iv (lenL.getD w 0 : Int)]) (c_coder E h w hw5) skJ0_335 hw5 (by decide) rfl rfl (Nat.le_of_ble_eq_true rfl) C dJ0_length_8abf5_6 ?_
  refine wp_ishr (by omega) (by omega) C dJ0_length_8abf5_9 ?_
  refine wp_iret C dJ0_length_8abf5_10 ?_
  exact ret_iv (by show _ / 1 = _; rw [Int.ediv_one])

set_option maxRecDepth 100000 in
set_option maxHeartbeats 4000000 in
theorem c_checkIdx (E : En) (h : Hp) (a b : Int) (o9 : Option Nat) (h9 : 0 ≤ a ∧ a < b ∧ b ≤ 2147483647) : Ct 0 yJ3_checkIndex_8e157 cJ3_checkIndex_8e157 3 (some .int) E [iv a, iv b, va_rf o9] h (Ret (iv a) h) := by
  refine ct_intro (by decide) (by cases o9 <;> exact Nat.le_of_ble_eq_true rfl) (fun G C => ?_)
  show Wp G E 3 (Ret (iv a) h) 0 [(0, iv a), (1, iv b), (2, va_rf o9)] [] h
  refine wp_iload_n 0 C dJ3_checkIndex_8e157_0 rfl rfl ?_
  refine wp_if_lt (tgt := 9) (by omega) C dJ3_checkIndex_8e157_1 (by decide) (fun c_1 => ?_) (fun c_1 => ?_)
  · skip
    omega
  · skip
    refine wp_iload_n 0 C dJ3_checkIndex_8e157_4 rfl rfl ?_
    refine wp_iload_n 1 C dJ3_checkIndex_8e157_5 rfl rfl ?_
    refine wp_icmp_lt (tgt := 16) (by omega) (by omega) C dJ3_checkIndex_8e157_6 (by decide) (fun c_6 => ?_) (fun c_6 => ?_)
    · skip
      refine wp_iload_n 0 C dJ3_checkIndex_8e157_16 rfl rfl ?_
      refine wp_iret C dJ3_checkIndex_8e157_17 ?_
      exact ret_iv rfl
    · skip
      omega

set_option maxRecDepth 100000 in
set_option maxHeartbeats 4000000 in
theorem c_checkIx (E : En) (h : Hp) (a b : Int) (h9 : 0 ≤ a ∧ a < b ∧ b ≤ 2147483647) : Ct 1 yJ0_checkIndex_df160 cJ0_checkIndex_df160 2 none E [iv a, iv b] h (Upd none h) := by
  refine ct_intro (by decide) (Nat.le_of_ble_eq_true rfl) (fun G C => ?_)
  show Wp G E 2 (Upd none h) 0 [(0, iv a), (1, iv b)] [] h
  refine wp_iload_n 0 C dJ0_checkIndex_df160_0 rfl rfl ?_
  refine wp_iload_n 1 C dJ0_checkIndex_df160_1 rfl rfl ?_
  refine wp_getsF (mT (i := 391) (by decide +kernel) rfl) C dJ0_checkIndex_df160_2 (fun o9 => ?_)
  refine wp_callSp (rest := []) (c_checkIdx E h a b o9 (by omega)) ssJ0_1059 (by decide) rfl rfl (Nat.le_of_ble_eq_true rfl) C dJ0_checkIndex_df160_5 ?_
  refine wp_pop rfl C dJ0_checkIndex_df160_8 ?_
  refine wp_vret C dJ0_checkIndex_df160_9 ?_
  exact upd_v

set_option maxRecDepth 100000 in
set_option maxHeartbeats 4000000 in
theorem c_lcharAt (E : En) (h : Hp) (w : Nat) (hw5 : w < 5) (a : Int) (ha : 0 ≤ a ∧ a < (lenL.getD w 0 : Int)) : Ct 2 yJ1_charAt_3b067 cJ1_charAt_3b067 2 (some .char) E [.ref (E.2.2.2.2.2.1 w), iv a] h (Ret (iv (wCh w a.toNat)) h) := by
  have hL := lenL_r hw5
  have hr := wCh_r (j := a.toNat) hw5 (by omega)
  refine ct_intro (by decide) (Nat.le_of_ble_eq_true rfl) (fun G C => ?_)
  show Wp G E 2 (Ret (iv (wCh w a.toNat)) h) 0 [(0, .ref (E.2.2.2.2.2.1 w)), (1, iv a)] [] h
  refine wp_iload_n 1 C dJ1_charAt_3b067_0 rfl rfl ?_
  refine wp_aload_n 0 C dJ1_charAt_3b067_1 rfl rfl ?_
  refine wp_alenB hw5 C dJ1_charAt_3b067_2 ?_
  refine wp_callSu (rest := []) (c_checkIx E h a (lenL.getD w 0 : Int) (by omega)) ssJ1_9 (by decide) rfl rfl (Nat.le_of_ble_eq_true rfl) C dJ1_charAt_3b067_3 ?_
  show Wp G E 2 (Ret (iv (wCh w a.toNat)) h) 6 [(0, .ref (E.2.2.2.2.2.1 w)), (1, iv a)] [] h
  refine wp_aload_n 0 C dJ1_charAt_3b067_6 rfl rfl ?_
  refine wp_iload_n 1 C dJ1_charAt_3b067_7 rfl rfl ?_
  refine wp_balB hw5 (by omega) C dJ1_charAt_3b067_8 ?_
  refine wp_sipush (v := 255) C dJ1_charAt_3b067_9 rfl ?_
  refine wp_iand C dJ1_charAt_3b067_12 ?_
  refine wp_top (and255 hr) ?_
  refine wp_i2c (by omega) C dJ1_charAt_3b067_13 ?_
  refine wp_nret (c16n (by omega)) C dJ1_charAt_3b067_14 ?_
  exact ret_iv rfl

set_option maxRecDepth 100000 in
set_option maxHeartbeats 4000000 in
theorem c_charAt (E : En) (h : Hp) (w : Nat) (hw5 : w < 5) (a : Int) (ha : 0 ≤ a ∧ a < (lenL.getD w 0 : Int)) : Ct 3 yJ0_charAt_5068e cJ0_charAt_5068e 2 (some .char) E [.ref (E.2.2.2.2.1 w), iv a] h (Ret (iv (wCh w a.toNat)) h) := by
  have hL := lenL_r hw5
  have hr := wCh_r (j := a.toNat) hw5 (by omega)
  refine ct_intro (by decide) (Nat.le_of_ble_eq_true rfl) (fun G C => ?_)
  show Wp G E 2 (Ret (iv (wCh w a.toNat)) h) 0 [(0, .ref (E.2.2.2.2.1 w)), (1, iv a)] [] h
  refine wp_aload_n 0 C dJ0_charAt_5068e_0 rfl rfl ?_
  refine wp_callKp (rest := []) (c_isLatin1 E h w hw5) skJ0_492 hw5 (by decide) rfl rfl (Nat.le_of_ble_eq_true rfl) C dJ0_charAt_5068e_1 ?_
  refine wp_if_eq (tgt := 16) (by omega) C dJ0_charAt_5068e_4 (by decide) (fun c_4 => ?_) (fun c_4 => ?_)
  · skip
    exact absurd c_4 (by decide)
  · skip
    refine wp_aload_n 0 C dJ0_charAt_5068e_7 rfl rfl ?_
    refine wp_getVa hw5 (mT (i := 1274) (by decide +kernel) rfl) C dJ0_charAt_5068e_8 ?_
    refine wp_iload_n 1 C dJ0_charAt_5068e_11 rfl rfl ?_
    refine wp_callSp (rest := []) (c_lcharAt E h w hw5 a (by omega)) ssJ0_495 (by decide) rfl rfl (Nat.le_of_ble_eq_true rfl) C dJ0_charAt_5068e_12 ?_
    refine wp_nret (c16n (by omega)) C dJ0_charAt_5068e_15 ?_
    exact ret_iv rfl

set_option maxRecDepth 100000 in
set_option maxHeartbeats 4000000 in
theorem c_canEnc (E : En) (h : Hp) (c : Int) (hc : 0 ≤ c ∧ c < 256) : Ct 0 yJ1_canEncode_9a6ad cJ1_canEncode_9a6ad 1 (some .boolean) E [iv c] h (Ret (iv 1) h) := by
  refine ct_intro (by decide) (Nat.le_of_ble_eq_true rfl) (fun G C => ?_)
  show Wp G E 1 (Ret (iv 1) h) 0 [(0, iv c)] [] h
  refine wp_iload_n 0 C dJ1_canEncode_9a6ad_0 rfl rfl ?_
  refine wp_if_lt (tgt := 15) (by omega) C dJ1_canEncode_9a6ad_1 (by decide) (fun c_1 => ?_) (fun c_1 => ?_)
  · skip
    omega
  · skip
    refine wp_iload_n 0 C dJ1_canEncode_9a6ad_4 rfl rfl ?_
    refine wp_sipush (v := 255) C dJ1_canEncode_9a6ad_5 rfl ?_
    refine wp_icmp_gt (tgt := 15) (by omega) (by omega) C dJ1_canEncode_9a6ad_8 (by decide) (fun c_8 => ?_) (fun c_8 => ?_)
    · skip
      omega
    · skip
      refine wp_iconst (v := 1) C dJ1_canEncode_9a6ad_11 rfl ?_
      refine wp_goto (tgt := 16) C dJ1_canEncode_9a6ad_12 (by decide) ?_
      refine wp_zret (by first | exact bi_01 | omega) C dJ1_canEncode_9a6ad_16 ?_
      exact ret_iv rfl

set_option maxRecDepth 100000 in
set_option maxHeartbeats 4000000 in
theorem c_ixChar (E : En) (h : Hp) (w : Nat) (hw5 : w < 5) (c : Int) (hc : 0 ≤ c ∧ c < 256) : Ct 0 yJ1_indexOfChar_4cfef cJ1_indexOfChar_4cfef 6 (some .int) E [.ref (E.2.2.2.2.2.1 w), iv c, iv 0, iv (lenL.getD w 0 : Int)] h (Ret (iv (firstI (fun j => decide (wCh w j = c)) (lenL.getD w 0))) h) := by
  have hL := lenL_r hw5
  refine ct_intro (by decide) (Nat.le_of_ble_eq_true rfl) (fun G C => ?_)
  show Wp G E 6 (Ret (iv (firstI (fun j => decide (wCh w j = c)) (lenL.getD w 0))) h) 0 [(0, .ref (E.2.2.2.2.2.1 w)), (1, iv c), (2, iv 0), (3, iv (lenL.getD w 0 : Int))] [] h
  refine wp_iload_n 1 C dJ1_indexOfChar_4cfef_0 rfl rfl ?_
  refine wp_i2b (by omega) C dJ1_indexOfChar_4cfef_1 ?_
  refine wp_nm (fun w4 e_w4 => ?_)
  refine wp_istore (ls' := [(0, .ref (E.2.2.2.2.2.1 w)), (1, iv c), (2, iv 0), (3, iv (lenL.getD w 0 : Int)), (4, iv w4)]) [1, 2, 3, 4, 0] C dJ1_indexOfChar_4cfef_2 (by decide) rfl ?_
  have hw4 : -128 ≤ w4 ∧ w4 < 128 := by rw [e_w4]; unfold i2bF; split <;> omega
  refine wp_iload_n 2 C dJ1_indexOfChar_4cfef_4 rfl rfl ?_
  refine wp_istore (ls' := [(0, .ref (E.2.2.2.2.2.1 w)), (1, iv c), (2, iv 0), (3, iv (lenL.getD w 0 : Int)), (4, iv w4), (5, iv 0)]) [1, 2, 3, 4, 5, 0] C dJ1_indexOfChar_4cfef_5 (by decide) rfl ?_
  have q70 : ∀ n9 : Nat, ∀ (x5 : Int), (0 ≤ x5 ∧ x5 ≤ (lenL.getD w 0 : Int)) → (∀ j, j < x5.toNat → decide (wCh w j = c) = false) → ((lenL.getD w 0 : Int) - x5).toNat < n9 → Wp G E 6 (Ret (iv (firstI (fun j => decide (wCh w j = c)) (lenL.getD w 0))) h) 7 [(0, .ref (E.2.2.2.2.2.1 w)), (1, iv c), (2, iv 0), (3, iv (lenL.getD w 0 : Int)), (4, iv w4), (5, iv x5)] [] h := by
    intro n9
    induction n9 with
    | zero => intro x5 h5 hno hm9; exact absurd hm9 (Nat.not_lt_zero _)
    | succ n9 ih9 =>
      intro x5 h5 hno hm9
      have ih9_7 := ih9
      refine wp_iload 5 C dJ1_indexOfChar_4cfef_7 rfl ?_
      refine wp_iload_n 3 C dJ1_indexOfChar_4cfef_9 rfl rfl ?_
      refine wp_icmp_ge (tgt := 31) (by omega) (by omega) C dJ1_indexOfChar_4cfef_10 (by decide) (fun c_10 => ?_) (fun c_10 => ?_)
      · skip
        refine wp_iconst (v := (-1)) C dJ1_indexOfChar_4cfef_31 rfl ?_
        refine wp_iret C dJ1_indexOfChar_4cfef_32 ?_
        exact ret_iv (by rw [firstI_none (fun j hj => hno j (by omega))])
      · skip
        have hr := wCh_r (j := x5.toNat) hw5 (by omega)
        refine wp_aload_n 0 C dJ1_indexOfChar_4cfef_13 rfl rfl ?_
        refine wp_iload 5 C dJ1_indexOfChar_4cfef_14 rfl ?_
        refine wp_balB hw5 (by omega) C dJ1_indexOfChar_4cfef_16 ?_
        refine wp_iload 4 C dJ1_indexOfChar_4cfef_17 rfl ?_
        refine wp_icmp_ne (tgt := 25) (by omega) (by omega) C dJ1_indexOfChar_4cfef_19 (by decide) (fun c_19 => ?_) (fun c_19 => ?_)
        · skip
          obtain ⟨v1, e_v1⟩ : ∃ z : Int, z = x5 + (1) := ⟨_, rfl⟩
          refine wp_iinc (j := 5) (y := v1) (ls' := [(0, .ref (E.2.2.2.2.2.1 w)), (1, iv c), (2, iv 0), (3, iv (lenL.getD w 0 : Int)), (4, iv w4), (5, iv v1)]) [1, 2, 3, 4, 5, 0] C dJ1_indexOfChar_4cfef_25 rfl e_v1 (by decide) rfl ?_
          refine wp_goto (tgt := 7) C dJ1_indexOfChar_4cfef_28 (by decide) ?_
          exact ih9_7 v1 (by omega) (fun j hj => by rw [e_v1, show (x5 + 1).toNat = x5.toNat + 1 by omega] at hj; rcases (show j < x5.toNat ∨ j = x5.toNat by omega) with q | rfl; exact hno j q; exact decide_eq_false (fun z => c_19 (by rw [e_w4]; unfold i2bF; rw [if_pos (by omega)]; exact z))) (by omega)
        · skip
          refine wp_iload 5 C dJ1_indexOfChar_4cfef_22 rfl ?_
          refine wp_iret C dJ1_indexOfChar_4cfef_24 ?_
          exact ret_iv (by rw [firstI_some (i := x5.toNat) (by omega) (decide_eq_true (by rw [c_19, e_w4]; unfold i2bF; rw [e_w4] at c_19; unfold i2bF at c_19; split at c_19 <;> split <;> omega)) hno]; omega)
  have q7 : ∀ (x5 : Int), (0 ≤ x5 ∧ x5 ≤ (lenL.getD w 0 : Int)) → (∀ j, j < x5.toNat → decide (wCh w j = c) = false) → Wp G E 6 (Ret (iv (firstI (fun j => decide (wCh w j = c)) (lenL.getD w 0))) h) 7 [(0, .ref (E.2.2.2.2.2.1 w)), (1, iv c), (2, iv 0), (3, iv (lenL.getD w 0 : Int)), (4, iv w4), (5, iv x5)] [] h := fun x5 h5 hno => q70 _ x5 h5 hno (Nat.lt_succ_self _)
  exact q7 0 (by omega) (fun j hj => absurd hj (by omega))

set_option maxRecDepth 100000 in
set_option maxHeartbeats 4000000 in
theorem c_lix (E : En) (h : Hp) (w : Nat) (hw5 : w < 5) (c : Int) (hc : 0 ≤ c ∧ c < 256) : Ct 2 yJ1_indexOf_4cfef cJ1_indexOf_4cfef 4 (some .int) E [.ref (E.2.2.2.2.2.1 w), iv c, iv 0, iv (lenL.getD w 0 : Int)] h (Ret (iv (firstI (fun j => decide (wCh w j = c)) (lenL.getD w 0))) h) := by
  have hL := lenL_r hw5
  refine ct_intro (by decide) (Nat.le_of_ble_eq_true rfl) (fun G C => ?_)
  show Wp G E 4 (Ret (iv (firstI (fun j => decide (wCh w j = c)) (lenL.getD w 0))) h) 0 [(0, .ref (E.2.2.2.2.2.1 w)), (1, iv c), (2, iv 0), (3, iv (lenL.getD w 0 : Int))] [] h
  refine wp_iload_n 1 C dJ1_indexOf_4cfef_0 rfl rfl ?_
  refine wp_callSp (rest := []) (c_canEnc E h c (by omega)) ssJ1_88 (by decide) rfl rfl (Nat.le_of_ble_eq_true rfl) C dJ1_indexOf_4cfef_1 ?_
  refine wp_if_ne (tgt := 9) (by omega) C dJ1_indexOf_4cfef_4 (by decide) (fun c_4 => ?_) (fun c_4 => ?_)
  · skip
    refine wp_iload_n 2 C dJ1_indexOf_4cfef_9 rfl rfl ?_
    refine wp_iconst (v := 0) C dJ1_indexOf_4cfef_10 rfl ?_
    refine wp_max (by omega) (by omega) (mT (i := 454) (by decide +kernel) rfl) (mT (i := 455) (by decide +kernel) rfl) (mT (i := 19) (by decide +kernel) rfl) (mT (i := 456) (by decide +kernel) rfl) (Nat.le_of_ble_eq_true rfl) (by decide) C dJ1_indexOf_4cfef_11 ?_
    refine wp_top (show _ = 0 by decide) ?_
    refine wp_istore_n (ls' := [(0, .ref (E.2.2.2.2.2.1 w)), (1, iv c), (2, iv 0), (3, iv (lenL.getD w 0 : Int))]) [1, 2, 0, 3] C dJ1_indexOf_4cfef_14 rfl (by decide) rfl ?_
    refine wp_iload_n 3 C dJ1_indexOf_4cfef_15 rfl rfl ?_
    refine wp_aload_n 0 C dJ1_indexOf_4cfef_16 rfl rfl ?_
    refine wp_alenB hw5 C dJ1_indexOf_4cfef_17 ?_
    refine wp_min (by omega) (by omega) (mT (i := 457) (by decide +kernel) rfl) (mT (i := 458) (by decide +kernel) rfl) (mT (i := 19) (by decide +kernel) rfl) (mT (i := 459) (by decide +kernel) rfl) (Nat.le_of_ble_eq_true rfl) (by decide) C dJ1_indexOf_4cfef_18 ?_
    refine wp_top (show _ = (lenL.getD w 0 : Int) from Int.min_self _) ?_
    refine wp_istore_n (ls' := [(0, .ref (E.2.2.2.2.2.1 w)), (1, iv c), (2, iv 0), (3, iv (lenL.getD w 0 : Int))]) [1, 2, 3, 0] C dJ1_indexOf_4cfef_21 rfl (by decide) rfl ?_
    refine wp_iload_n 2 C dJ1_indexOf_4cfef_22 rfl rfl ?_
    refine wp_iload_n 3 C dJ1_indexOf_4cfef_23 rfl rfl ?_
    refine wp_icmp_lt (tgt := 29) (by omega) (by omega) C dJ1_indexOf_4cfef_24 (by decide) (fun c_24 => ?_) (fun c_24 => ?_)
    · skip
      refine wp_aload_n 0 C dJ1_indexOf_4cfef_29 rfl rfl ?_
      refine wp_iload_n 1 C dJ1_indexOf_4cfef_30 rfl rfl ?_
      refine wp_iload_n 2 C dJ1_indexOf_4cfef_31 rfl rfl ?_
      refine wp_iload_n 3 C dJ1_indexOf_4cfef_32 rfl rfl ?_
      refine wp_callSp (rest := []) (c_ixChar E h w hw5 c (by omega)) ssJ1_95 (by decide) rfl rfl (Nat.le_of_ble_eq_true rfl) C dJ1_indexOf_4cfef_33 ?_
      refine wp_iret C dJ1_indexOf_4cfef_36 ?_
      exact ret_iv rfl
    · skip
      omega
  · skip
    exact absurd c_4 (by decide)

set_option maxRecDepth 100000 in
set_option maxHeartbeats 4000000 in
theorem c_six2 (E : En) (h : Hp) (w : Nat) (hw5 : w < 5) (c : Int) (hc : 0 ≤ c ∧ c < 256) : Ct 3 yJ0_indexOf_7cf53 cJ0_indexOf_7cf53 3 (some .int) E [.ref (E.2.2.2.2.1 w), iv c, iv 0] h (Ret (iv (firstI (fun j => decide (wCh w j = c)) (lenL.getD w 0))) h) := by
  have hL := lenL_r hw5
  refine ct_intro (by decide) (Nat.le_of_ble_eq_true rfl) (fun G C => ?_)
  show Wp G E 3 (Ret (iv (firstI (fun j => decide (wCh w j = c)) (lenL.getD w 0))) h) 0 [(0, .ref (E.2.2.2.2.1 w)), (1, iv c), (2, iv 0)] [] h
  refine wp_aload_n 0 C dJ0_indexOf_7cf53_0 rfl rfl ?_
  refine wp_callKp (rest := []) (c_isLatin1 E h w hw5) skJ0_492 hw5 (by decide) rfl rfl (Nat.le_of_ble_eq_true rfl) C dJ0_indexOf_7cf53_1 ?_
  refine wp_if_eq (tgt := 23) (by omega) C dJ0_indexOf_7cf53_4 (by decide) (fun c_4 => ?_) (fun c_4 => ?_)
  · skip
    exact absurd c_4 (by decide)
  · skip
    refine wp_aload_n 0 C dJ0_indexOf_7cf53_7 rfl rfl ?_
    refine wp_getVa hw5 (mT (i := 1274) (by decide +kernel) rfl) C dJ0_indexOf_7cf53_8 ?_
    refine wp_iload_n 1 C dJ0_indexOf_7cf53_11 rfl rfl ?_
    refine wp_iload_n 2 C dJ0_indexOf_7cf53_12 rfl rfl ?_
    refine wp_aload_n 0 C dJ0_indexOf_7cf53_13 rfl rfl ?_
    refine wp_callKp (rest := [iv 0, iv c, .ref (E.2.2.2.2.2.1 w)]) (c_slen E h w hw5) skJ0_505 hw5 (by decide) rfl rfl (Nat.le_of_ble_eq_true rfl) C dJ0_indexOf_7cf53_14 ?_
    refine wp_callSp (rest := []) (c_lix E h w hw5 c (by omega)) ssJ0_637 (by decide) rfl rfl (Nat.le_of_ble_eq_true rfl) C dJ0_indexOf_7cf53_17 ?_
    refine wp_goto (tgt := 36) C dJ0_indexOf_7cf53_20 (by decide) ?_
    refine wp_iret C dJ0_indexOf_7cf53_36 ?_
    exact ret_iv rfl

set_option maxRecDepth 100000 in
set_option maxHeartbeats 4000000 in
theorem c_six (E : En) (h : Hp) (w : Nat) (hw5 : w < 5) (c : Int) (hc : 0 ≤ c ∧ c < 256) : Ct 4 yJ0_indexOf_0f7a4 cJ0_indexOf_0f7a4 2 (some .int) E [.ref (E.2.2.2.2.1 w), iv c] h (Ret (iv (firstI (fun j => decide (wCh w j = c)) (lenL.getD w 0))) h) := by
  refine ct_intro (by decide) (Nat.le_of_ble_eq_true rfl) (fun G C => ?_)
  show Wp G E 2 (Ret (iv (firstI (fun j => decide (wCh w j = c)) (lenL.getD w 0))) h) 0 [(0, .ref (E.2.2.2.2.1 w)), (1, iv c)] [] h
  refine wp_aload_n 0 C dJ0_indexOf_0f7a4_0 rfl rfl ?_
  refine wp_iload_n 1 C dJ0_indexOf_0f7a4_1 rfl rfl ?_
  refine wp_iconst (v := 0) C dJ0_indexOf_0f7a4_2 rfl ?_
  refine wp_callKp (rest := []) (c_six2 E h w hw5 c (by omega)) skJ0_633 hw5 (by decide) rfl rfl (Nat.le_of_ble_eq_true rfl) C dJ0_indexOf_0f7a4_3 ?_
  refine wp_iret C dJ0_indexOf_0f7a4_6 ?_
  exact ret_iv rfl

theorem col_ix {c : Int} : firstI (fun j => decide (wCh 4 j = c)) (lenL.getD 4 0) = if c = 114 then 0 else if c = 103 then 1 else if c = 98 then 2 else if c = 121 then 3 else -1 := by
  have h0 : wCh 4 0 = 114 := by decide
  have h1 : wCh 4 1 = 103 := by decide
  have h2 : wCh 4 2 = 98 := by decide
  have h3 : wCh 4 3 = 121 := by decide
  show firstI _ 4 = _
  by_cases q0 : c = 114
  · rw [if_pos q0, firstI_some (i := 0) (by decide) (decide_eq_true (by omega)) (fun j hj => absurd hj (Nat.not_lt_zero j))]; rfl
  rw [if_neg q0]
  by_cases q1 : c = 103
  · rw [if_pos q1, firstI_some (i := 1) (by decide) (decide_eq_true (by omega)) (fun j hj => by rw [show j = 0 by omega]; exact decide_eq_false (by omega))]; rfl
  rw [if_neg q1]
  by_cases q2 : c = 98
  · rw [if_pos q2, firstI_some (i := 2) (by decide) (decide_eq_true (by omega)) (fun j hj => by rcases (show j = 0 ∨ j = 1 by omega) with z | z <;> rw [z] <;> exact decide_eq_false (by omega))]; rfl
  rw [if_neg q2]
  by_cases q3 : c = 121
  · rw [if_pos q3, firstI_some (i := 3) (by decide) (decide_eq_true (by omega)) (fun j hj => by rcases (show j = 0 ∨ j = 1 ∨ j = 2 by omega) with z | z | z <;> rw [z] <;> exact decide_eq_false (by omega))]; rfl
  rw [if_neg q3, firstI_none (fun j hj => by rcases (show j = 0 ∨ j = 1 ∨ j = 2 ∨ j = 3 by omega) with z | z | z | z <;> rw [z] <;> exact decide_eq_false (by omega))]

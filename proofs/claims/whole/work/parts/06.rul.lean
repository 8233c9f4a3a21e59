/-! ===== the rules: an instruction a rule ===== -/
section RUL
variable {G : Gx} {E : En} {cc : ByteArray} {nL : Nat} {own : String} {ret : Option FieldType} {d : Nat} {post : Option Value → Hp → Prop} {pc : Nat} {ls : List (Nat × Value)} {st : List Value} {h : Hp}
theorem wp_nm {a : Int} (k : ∀ x : Int, x = a → Wp G E nL post pc ls (iv x :: st) h) : Wp G E nL post pc ls (iv a :: st) h := k a rfl
theorem wp_nml {a : Int} (k : ∀ x : Int, x = a → Wp G E nL post pc ls (jv x :: st) h) : Wp G E nL post pc ls (jv a :: st) h := k a rfl
/-- the top of the stack by another name -/
theorem wp_top {a b : Int} (e : a = b) (k : Wp G E nL post pc ls (iv b :: st) h) : Wp G E nL post pc ls (iv a :: st) h := by rw [e]; exact k
theorem wp_topl {a b : Int} (e : a = b) (k : Wp G E nL post pc ls (jv b :: st) h) : Wp G E nL post pc ls (jv a :: st) h := by rw [e]; exact k
theorem wp_loc {ls' : List (Nat × Value)} (ks : List Nat) (hl : lv_pick ls ks = ls') (k : Wp G E nL post pc ls' st h) : Wp G E nL post pc ls st h := by
  intro H locs la hP hS hL
  exact k H locs la hP hS (lv_sub hL ks hl)
theorem wp_iconst {n : Int} {v : Int} (C : Cx G E cc nL own ret d) (hd : decode cc pc = .ok (.iconst n, 1)) (hv : Int32.ofInt n = Int32.ofInt v) (k : Wp G E nL post (pc + 1) ls (iv v :: st) h) : Wp G E nL post pc ls st h := by
  intro H locs la hP hS hl
  exact lv_iconst C.1 C.2.1 hd hv (k H locs la hP hS hl)
theorem wp_bipush {n : Int} {v : Int} (C : Cx G E cc nL own ret d) (hd : decode cc pc = .ok (.bipush n, 2)) (hv : (Int8.ofInt n).toInt32 = Int32.ofInt v) (k : Wp G E nL post (pc + 2) ls (iv v :: st) h) : Wp G E nL post pc ls st h := by
  intro H locs la hP hS hl
  exact lv_bipush C.1 C.2.1 hd hv (k H locs la hP hS hl)
theorem wp_sipush {n : Int} {v : Int} (C : Cx G E cc nL own ret d) (hd : decode cc pc = .ok (.sipush n, 3)) (hv : (Int16.ofInt n).toInt32 = Int32.ofInt v) (k : Wp G E nL post (pc + 3) ls (iv v :: st) h) : Wp G E nL post pc ls st h := by
  intro H locs la hP hS hl
  exact lv_sipush C.1 C.2.1 hd hv (k H locs la hP hS hl)
theorem wp_lconst {n : Fin 2} {v : Int} (C : Cx G E cc nL own ret d) (hd : decode cc pc = .ok (.lconst n, 1)) (hv : Int64.ofNat (n : Nat) = Int64.ofInt v) (k : Wp G E nL post (pc + 1) ls (jv v :: st) h) : Wp G E nL post pc ls st h := by
  intro H locs la hP hS hl
  exact lv_lconst C.1 C.2.1 hd hv (k H locs la hP hS hl)
theorem wp_ldc {index : Nat} {v : Int} (C : Cx G E cc nL own ret d) (hc : Cond.constant own index (Int32.ofInt v) ∈ wsG) (hd : decode cc pc = .ok (.ldc index, 2)) (k : Wp G E nL post (pc + 2) ls (iv v :: st) h) : Wp G E nL post pc ls st h := by
  intro H locs la hP hS hl
  exact lv_ldc C.1 C.2.1 C.2.2.2.1 (C.2.2.2.2.1 _ hc) hd (k H locs la hP hS hl)
theorem wp_ldcw {index : Nat} {v : Int} (C : Cx G E cc nL own ret d) (hc : Cond.constant own index (Int32.ofInt v) ∈ wsG) (hd : decode cc pc = .ok (.ldc_w index, 3)) (k : Wp G E nL post (pc + 3) ls (iv v :: st) h) : Wp G E nL post pc ls st h := by
  intro H locs la hP hS hl
  exact lv_ldcw C.1 C.2.1 C.2.2.2.1 (C.2.2.2.2.1 _ hc) hd (k H locs la hP hS hl)
theorem wp_ldc2 {index : Nat} {v : Int} (C : Cx G E cc nL own ret d) (hc : Cond.constantLong own index (Int64.ofInt v) ∈ wsG) (hd : decode cc pc = .ok (.ldc2_w index, 3)) (k : Wp G E nL post (pc + 3) ls (jv v :: st) h) : Wp G E nL post pc ls st h := by
  intro H locs la hP hS hl
  exact lv_ldc2 C.1 C.2.1 C.2.2.2.1 (C.2.2.2.2.1 _ hc) hd (k H locs la hP hS hl)
theorem wp_iload_n {kk : Fin 4} {i : Nat} {x : Int} (j : Nat) (C : Cx G E cc nL own ret d) (hd : decode cc pc = .ok (.iload_n kk, 1)) (hi : (kk : Nat) = i) (hk : ls[j]? = some (i, iv x)) (k : Wp G E nL post (pc + 1) ls (iv x :: st) h) : Wp G E nL post pc ls st h := by
  intro H locs la hP hS hl
  exact lv_iload_n C.1 C.2.1 hd hi (lv_at hl j hk) (k H locs la hP hS hl)
theorem wp_iload {i : Nat} {x : Int} (j : Nat) (C : Cx G E cc nL own ret d) (hd : decode cc pc = .ok (.iload i, 2)) (hk : ls[j]? = some (i, iv x)) (k : Wp G E nL post (pc + 2) ls (iv x :: st) h) : Wp G E nL post pc ls st h := by
  intro H locs la hP hS hl
  exact lv_iload C.1 C.2.1 hd (lv_at hl j hk) (k H locs la hP hS hl)
theorem wp_lload_n {kk : Fin 4} {i : Nat} {x : Int} (j : Nat) (C : Cx G E cc nL own ret d) (hd : decode cc pc = .ok (.lload_n kk, 1)) (hi : (kk : Nat) = i) (hk : ls[j]? = some (i, jv x)) (k : Wp G E nL post (pc + 1) ls (jv x :: st) h) : Wp G E nL post pc ls st h := by
  intro H locs la hP hS hl
  exact lv_lload_n C.1 C.2.1 hd hi (lv_at hl j hk) (k H locs la hP hS hl)
theorem wp_lload {i : Nat} {x : Int} (j : Nat) (C : Cx G E cc nL own ret d) (hd : decode cc pc = .ok (.lload i, 2)) (hk : ls[j]? = some (i, jv x)) (k : Wp G E nL post (pc + 2) ls (jv x :: st) h) : Wp G E nL post pc ls st h := by
  intro H locs la hP hS hl
  exact lv_lload C.1 C.2.1 hd (lv_at hl j hk) (k H locs la hP hS hl)
theorem wp_aload_n {kk : Fin 4} {i : Nat} {x : Nat} (j : Nat) (C : Cx G E cc nL own ret d) (hd : decode cc pc = .ok (.aload_n kk, 1)) (hi : (kk : Nat) = i) (hk : ls[j]? = some (i, .ref x)) (k : Wp G E nL post (pc + 1) ls (.ref x :: st) h) : Wp G E nL post pc ls st h := by
  intro H locs la hP hS hl
  exact lv_aload_n C.1 C.2.1 hd hi (lv_at hl j hk) (k H locs la hP hS hl)
theorem wp_aload {i : Nat} {x : Nat} (j : Nat) (C : Cx G E cc nL own ret d) (hd : decode cc pc = .ok (.aload i, 2)) (hk : ls[j]? = some (i, .ref x)) (k : Wp G E nL post (pc + 2) ls (.ref x :: st) h) : Wp G E nL post pc ls st h := by
  intro H locs la hP hS hl
  exact lv_aload C.1 C.2.1 hd (lv_at hl j hk) (k H locs la hP hS hl)
theorem wp_istore_n {kk : Fin 4} {i : Nat} {x : Int} {ls' : List (Nat × Value)} (ks : List Nat) (C : Cx G E cc nL own ret d) (hd : decode cc pc = .ok (.istore_n kk, 1)) (hi : (kk : Nat) = i) (hn : i < nL) (hl' : lv_pick ((i, iv x) :: ls.filter (fun q => !(q.1 == i) && !(q.1 + 1 == i && q.2.category == 2))) ks = ls') (k : Wp G E nL post (pc + 1) ls' st h) : Wp G E nL post pc ls (iv x :: st) h := by
  intro H locs la hP hS hl
  exact lv_istore_n C.1 C.2.1 hd hi hl hn rfl (fun la' hl2 => k H locs la' hP hS (lv_sub hl2 ks hl'))
theorem wp_istore {i : Nat} {x : Int} {ls' : List (Nat × Value)} (ks : List Nat) (C : Cx G E cc nL own ret d) (hd : decode cc pc = .ok (.istore i, 2)) (hn : i < nL) (hl' : lv_pick ((i, iv x) :: ls.filter (fun q => !(q.1 == i) && !(q.1 + 1 == i && q.2.category == 2))) ks = ls') (k : Wp G E nL post (pc + 2) ls' st h) : Wp G E nL post pc ls (iv x :: st) h := by
  intro H locs la hP hS hl
  exact lv_istore C.1 C.2.1 hd hl hn rfl (fun la' hl2 => k H locs la' hP hS (lv_sub hl2 ks hl'))
theorem wp_lstore_n {kk : Fin 4} {i : Nat} {x : Int} {ls' : List (Nat × Value)} (ks : List Nat) (C : Cx G E cc nL own ret d) (hd : decode cc pc = .ok (.lstore_n kk, 1)) (hi : (kk : Nat) = i) (hn : i + 1 < nL) (hl' : lv_pick ((i, jv x) :: ls.filter (fun q => !(q.1 == i) && (!(q.1 == i + 1) && !(q.1 + 1 == i && q.2.category == 2)))) ks = ls') (k : Wp G E nL post (pc + 1) ls' st h) : Wp G E nL post pc ls (jv x :: st) h := by
  intro H locs la hP hS hl
  exact lv_lstore_n C.1 C.2.1 hd hi hl hn rfl (fun la' hl2 => k H locs la' hP hS (lv_sub hl2 ks hl'))
theorem wp_lstore {i : Nat} {x : Int} {ls' : List (Nat × Value)} (ks : List Nat) (C : Cx G E cc nL own ret d) (hd : decode cc pc = .ok (.lstore i, 2)) (hn : i + 1 < nL) (hl' : lv_pick ((i, jv x) :: ls.filter (fun q => !(q.1 == i) && (!(q.1 == i + 1) && !(q.1 + 1 == i && q.2.category == 2)))) ks = ls') (k : Wp G E nL post (pc + 2) ls' st h) : Wp G E nL post pc ls (jv x :: st) h := by
  intro H locs la hP hS hl
  exact lv_lstore C.1 C.2.1 hd hl hn rfl (fun la' hl2 => k H locs la' hP hS (lv_sub hl2 ks hl'))
theorem wp_astore_n {kk : Fin 4} {i : Nat} {x : Nat} {ls' : List (Nat × Value)} (ks : List Nat) (C : Cx G E cc nL own ret d) (hd : decode cc pc = .ok (.astore_n kk, 1)) (hi : (kk : Nat) = i) (hn : i < nL) (hl' : lv_pick ((i, .ref x) :: ls.filter (fun q => !(q.1 == i) && !(q.1 + 1 == i && q.2.category == 2))) ks = ls') (k : Wp G E nL post (pc + 1) ls' st h) : Wp G E nL post pc ls (.ref x :: st) h := by
  intro H locs la hP hS hl
  exact lv_astore_n C.1 C.2.1 hd hi hl hn rfl (fun la' hl2 => k H locs la' hP hS (lv_sub hl2 ks hl'))
theorem wp_astore {i : Nat} {x : Nat} {ls' : List (Nat × Value)} (ks : List Nat) (C : Cx G E cc nL own ret d) (hd : decode cc pc = .ok (.astore i, 2)) (hn : i < nL) (hl' : lv_pick ((i, .ref x) :: ls.filter (fun q => !(q.1 == i) && !(q.1 + 1 == i && q.2.category == 2))) ks = ls') (k : Wp G E nL post (pc + 2) ls' st h) : Wp G E nL post pc ls (.ref x :: st) h := by
  intro H locs la hP hS hl
  exact lv_astore C.1 C.2.1 hd hl hn rfl (fun la' hl2 => k H locs la' hP hS (lv_sub hl2 ks hl'))
theorem wp_iinc {i j : Nat} {n x y : Int} {ls' : List (Nat × Value)} (ks : List Nat) (C : Cx G E cc nL own ret d) (hd : decode cc pc = .ok (.iinc i n, 3)) (hk : ls[j]? = some (i, iv x)) (hy : y = x + n) (hn : i < nL) (hl' : lv_pick ((i, iv y) :: ls.filter (fun q => !(q.1 == i) && !(q.1 + 1 == i && q.2.category == 2))) ks = ls') (k : Wp G E nL post (pc + 3) ls' st h) : Wp G E nL post pc ls st h := by
  intro H locs la hP hS hl
  refine lv_iinc (k := j) (x := Int32.ofInt x) (v := Int32.ofInt y) C.1 C.2.1 hd hl hk (by rw [hy, Int32.ofInt_add]) hn rfl (fun la' hl2 => k H locs la' hP hS (lv_sub hl2 ks hl'))
theorem wp_iadd {a b : Int}  (C : Cx G E cc nL own ret d) (hd : decode cc pc = .ok (.iadd, 1)) (k : Wp G E nL post (pc + 1) ls (iv (a + b) :: st) h) : Wp G E nL post pc ls (iv b :: iv a :: st) h := by
  intro H locs la hP hS hl
  have q := k H locs la hP hS hl
  rw [show iv (a + b) = .int _ from congrArg Value.int (Int32.ofInt_add a b)] at q
  exact lv_iadd C.1 C.2.1 hd q
theorem wp_isub {a b : Int}  (C : Cx G E cc nL own ret d) (hd : decode cc pc = .ok (.isub, 1)) (k : Wp G E nL post (pc + 1) ls (iv (a - b) :: st) h) : Wp G E nL post pc ls (iv b :: iv a :: st) h := by
  intro H locs la hP hS hl
  have q := k H locs la hP hS hl
  rw [show iv (a - b) = .int _ from congrArg Value.int (Int32.ofInt_sub a b)] at q
  exact lv_isub C.1 C.2.1 hd q
theorem wp_imul {a b : Int}  (C : Cx G E cc nL own ret d) (hd : decode cc pc = .ok (.imul, 1)) (k : Wp G E nL post (pc + 1) ls (iv (a * b) :: st) h) : Wp G E nL post pc ls (iv b :: iv a :: st) h := by
  intro H locs la hP hS hl
  have q := k H locs la hP hS hl
  rw [show iv (a * b) = .int _ from congrArg Value.int (Int32.ofInt_mul a b)] at q
  exact lv_imul C.1 C.2.1 hd q
theorem wp_ladd {a b : Int}  (C : Cx G E cc nL own ret d) (hd : decode cc pc = .ok (.ladd, 1)) (k : Wp G E nL post (pc + 1) ls (jv (a + b) :: st) h) : Wp G E nL post pc ls (jv b :: jv a :: st) h := by
  intro H locs la hP hS hl
  have q := k H locs la hP hS hl
  rw [show jv (a + b) = .long _ from congrArg Value.long (Int64.ofInt_add a b)] at q
  exact lv_ladd C.1 C.2.1 hd q
theorem wp_lsub {a b : Int}  (C : Cx G E cc nL own ret d) (hd : decode cc pc = .ok (.lsub, 1)) (k : Wp G E nL post (pc + 1) ls (jv (a - b) :: st) h) : Wp G E nL post pc ls (jv b :: jv a :: st) h := by
  intro H locs la hP hS hl
  have q := k H locs la hP hS hl
  rw [show jv (a - b) = .long _ from congrArg Value.long (Int64.ofInt_sub a b)] at q
  exact lv_lsub C.1 C.2.1 hd q
theorem wp_lmul {a b : Int}  (C : Cx G E cc nL own ret d) (hd : decode cc pc = .ok (.lmul, 1)) (k : Wp G E nL post (pc + 1) ls (jv (a * b) :: st) h) : Wp G E nL post pc ls (jv b :: jv a :: st) h := by
  intro H locs la hP hS hl
  have q := k H locs la hP hS hl
  rw [show jv (a * b) = .long _ from congrArg Value.long (Int64.ofInt_mul a b)] at q
  exact lv_lmul C.1 C.2.1 hd q
theorem wp_iand {a b : Int}  (C : Cx G E cc nL own ret d) (hd : decode cc pc = .ok (.iand, 1)) (k : Wp G E nL post (pc + 1) ls (iv (bAnd a b) :: st) h) : Wp G E nL post pc ls (iv b :: iv a :: st) h := by
  intro H locs la hP hS hl
  have q := k H locs la hP hS hl
  rw [show iv (bAnd a b) = .int _ from congrArg Value.int (Int32.ofInt_toInt _)] at q
  exact lv_iand C.1 C.2.1 hd q
theorem wp_ior {a b : Int}  (C : Cx G E cc nL own ret d) (hd : decode cc pc = .ok (.ior, 1)) (k : Wp G E nL post (pc + 1) ls (iv (bOr a b) :: st) h) : Wp G E nL post pc ls (iv b :: iv a :: st) h := by
  intro H locs la hP hS hl
  have q := k H locs la hP hS hl
  rw [show iv (bOr a b) = .int _ from congrArg Value.int (Int32.ofInt_toInt _)] at q
  exact lv_ior C.1 C.2.1 hd q
theorem wp_ixor {a b : Int}  (C : Cx G E cc nL own ret d) (hd : decode cc pc = .ok (.ixor, 1)) (k : Wp G E nL post (pc + 1) ls (iv (bXor a b) :: st) h) : Wp G E nL post pc ls (iv b :: iv a :: st) h := by
  intro H locs la hP hS hl
  have q := k H locs la hP hS hl
  rw [show iv (bXor a b) = .int _ from congrArg Value.int (Int32.ofInt_toInt _)] at q
  exact lv_ixor C.1 C.2.1 hd q
theorem wp_land {a b : Int}  (C : Cx G E cc nL own ret d) (hd : decode cc pc = .ok (.land, 1)) (k : Wp G E nL post (pc + 1) ls (jv (lAnd a b) :: st) h) : Wp G E nL post pc ls (jv b :: jv a :: st) h := by
  intro H locs la hP hS hl
  have q := k H locs la hP hS hl
  rw [show jv (lAnd a b) = .long _ from congrArg Value.long (Int64.ofInt_toInt _)] at q
  exact lv_land C.1 C.2.1 hd q
theorem wp_lor {a b : Int}  (C : Cx G E cc nL own ret d) (hd : decode cc pc = .ok (.lor, 1)) (k : Wp G E nL post (pc + 1) ls (jv (lOr a b) :: st) h) : Wp G E nL post pc ls (jv b :: jv a :: st) h := by
  intro H locs la hP hS hl
  have q := k H locs la hP hS hl
  rw [show jv (lOr a b) = .long _ from congrArg Value.long (Int64.ofInt_toInt _)] at q
  exact lv_lor C.1 C.2.1 hd q
theorem wp_lxor {a b : Int}  (C : Cx G E cc nL own ret d) (hd : decode cc pc = .ok (.lxor, 1)) (k : Wp G E nL post (pc + 1) ls (jv (lXor a b) :: st) h) : Wp G E nL post pc ls (jv b :: jv a :: st) h := by
  intro H locs la hP hS hl
  have q := k H locs la hP hS hl
  rw [show jv (lXor a b) = .long _ from congrArg Value.long (Int64.ofInt_toInt _)] at q
  exact lv_lxor C.1 C.2.1 hd q
theorem wp_idiv {a b : Int} (ha : -2147483648 ≤ a ∧ a ≤ 2147483647) (hb : -2147483648 ≤ b ∧ b ≤ 2147483647 ∧ b ≠ 0) (C : Cx G E cc nL own ret d) (hd : decode cc pc = .ok (.idiv, 1)) (k : Wp G E nL post (pc + 1) ls (iv (a.tdiv b) :: st) h) : Wp G E nL post pc ls (iv b :: iv a :: st) h := by
  intro H locs la hP hS hl
  have q := k H locs la hP hS hl
  rw [show iv (a.tdiv b) = .int _ from congrArg Value.int (i_tdiv ha ⟨hb.1, hb.2.1⟩).symm] at q
  exact lv_idiv C.1 C.2.1 hd (fun z => hb.2.2 ((i_eq (b := 0) ⟨hb.1, hb.2.1⟩ (by omega)).mp z)) q
theorem wp_irem {a b : Int} (ha : -2147483648 ≤ a ∧ a ≤ 2147483647) (hb : -2147483648 ≤ b ∧ b ≤ 2147483647 ∧ b ≠ 0) (C : Cx G E cc nL own ret d) (hd : decode cc pc = .ok (.irem, 1)) (k : Wp G E nL post (pc + 1) ls (iv (a.tmod b) :: st) h) : Wp G E nL post pc ls (iv b :: iv a :: st) h := by
  intro H locs la hP hS hl
  have q := k H locs la hP hS hl
  rw [show iv (a.tmod b) = .int _ from congrArg Value.int (i_tmod ha ⟨hb.1, hb.2.1⟩).symm] at q
  exact lv_irem C.1 C.2.1 hd (fun z => hb.2.2 ((i_eq (b := 0) ⟨hb.1, hb.2.1⟩ (by omega)).mp z)) q
theorem wp_ldiv {a b : Int} (ha : -9223372036854775808 ≤ a ∧ a ≤ 9223372036854775807) (hb : -9223372036854775808 ≤ b ∧ b ≤ 9223372036854775807 ∧ b ≠ 0) (C : Cx G E cc nL own ret d) (hd : decode cc pc = .ok (.ldiv, 1)) (k : Wp G E nL post (pc + 1) ls (jv (a.tdiv b) :: st) h) : Wp G E nL post pc ls (jv b :: jv a :: st) h := by
  intro H locs la hP hS hl
  have q := k H locs la hP hS hl
  rw [show jv (a.tdiv b) = .long _ from congrArg Value.long (l_tdiv ha ⟨hb.1, hb.2.1⟩).symm] at q
  refine lv_ldiv C.1 C.2.1 hd (fun z => hb.2.2 ?_) q
  have z2 := congrArg Int64.toInt z
  rw [l_to ⟨hb.1, hb.2.1⟩] at z2
  exact z2
theorem wp_lrem {a b : Int} (ha : -9223372036854775808 ≤ a ∧ a ≤ 9223372036854775807) (hb : -9223372036854775808 ≤ b ∧ b ≤ 9223372036854775807 ∧ b ≠ 0) (C : Cx G E cc nL own ret d) (hd : decode cc pc = .ok (.lrem, 1)) (k : Wp G E nL post (pc + 1) ls (jv (a.tmod b) :: st) h) : Wp G E nL post pc ls (jv b :: jv a :: st) h := by
  intro H locs la hP hS hl
  have q := k H locs la hP hS hl
  rw [show jv (a.tmod b) = .long _ from congrArg Value.long (l_tmod ha ⟨hb.1, hb.2.1⟩).symm] at q
  refine lv_lrem C.1 C.2.1 hd (fun z => hb.2.2 ?_) q
  have z2 := congrArg Int64.toInt z
  rw [l_to ⟨hb.1, hb.2.1⟩] at z2
  exact z2
theorem wp_ishl {a b : Int} (hb : 0 ≤ b ∧ b < 32) (C : Cx G E cc nL own ret d) (hd : decode cc pc = .ok (.ishl, 1)) (k : Wp G E nL post (pc + 1) ls (iv (a * 2 ^ b.toNat) :: st) h) : Wp G E nL post pc ls (iv b :: iv a :: st) h := by
  intro H locs la hP hS hl
  have q := k H locs la hP hS hl
  rw [show iv (a * 2 ^ b.toNat) = .int _ from congrArg Value.int (i_shl (a := a) hb).symm] at q
  exact lv_ishl C.1 C.2.1 hd q
theorem wp_ishr {a b : Int} (ha : -2147483648 ≤ a ∧ a ≤ 2147483647) (hb : 0 ≤ b ∧ b < 32) (C : Cx G E cc nL own ret d) (hd : decode cc pc = .ok (.ishr, 1)) (k : Wp G E nL post (pc + 1) ls (iv (a / 2 ^ b.toNat) :: st) h) : Wp G E nL post pc ls (iv b :: iv a :: st) h := by
  intro H locs la hP hS hl
  have q := k H locs la hP hS hl
  rw [show iv (a / 2 ^ b.toNat) = .int _ from congrArg Value.int (i_shr ha hb).symm] at q
  exact lv_ishr C.1 C.2.1 hd q
theorem wp_iushr {a b : Int} (hb : 0 ≤ b ∧ b < 32) (C : Cx G E cc nL own ret d) (hd : decode cc pc = .ok (.iushr, 1)) (k : Wp G E nL post (pc + 1) ls (iv (a % 4294967296 / 2 ^ b.toNat) :: st) h) : Wp G E nL post pc ls (iv b :: iv a :: st) h := by
  intro H locs la hP hS hl
  have q := k H locs la hP hS hl
  exact lv_iushr C.1 C.2.1 hd (i_ushr hb) q
theorem wp_lshl {a b : Int} (hb : 0 ≤ b ∧ b < 64) (C : Cx G E cc nL own ret d) (hd : decode cc pc = .ok (.lshl, 1)) (k : Wp G E nL post (pc + 1) ls (jv (a * 2 ^ b.toNat) :: st) h) : Wp G E nL post pc ls (iv b :: jv a :: st) h := by
  intro H locs la hP hS hl
  exact lv_lshl C.1 C.2.1 hd (l_shl hb) (k H locs la hP hS hl)
theorem wp_lshr {a b : Int} (ha : -9223372036854775808 ≤ a ∧ a ≤ 9223372036854775807) (hb : 0 ≤ b ∧ b < 64) (C : Cx G E cc nL own ret d) (hd : decode cc pc = .ok (.lshr, 1)) (k : Wp G E nL post (pc + 1) ls (jv (a / 2 ^ b.toNat) :: st) h) : Wp G E nL post pc ls (iv b :: jv a :: st) h := by
  intro H locs la hP hS hl
  exact lv_lshr C.1 C.2.1 hd (l_shr ha hb) (k H locs la hP hS hl)
theorem wp_i2l {a : Int} (ha : -2147483648 ≤ a ∧ a ≤ 2147483647) (C : Cx G E cc nL own ret d) (hd : decode cc pc = .ok (.i2l, 1)) (k : Wp G E nL post (pc + 1) ls (jv a :: st) h) : Wp G E nL post pc ls (iv a :: st) h := by
  intro H locs la hP hS hl
  exact lv_i2l C.1 C.2.1 hd (l_i2l ha) (k H locs la hP hS hl)
theorem wp_l2i {a : Int} (C : Cx G E cc nL own ret d) (hd : decode cc pc = .ok (.l2i, 1)) (k : Wp G E nL post (pc + 1) ls (iv a :: st) h) : Wp G E nL post pc ls (jv a :: st) h := by
  intro H locs la hP hS hl
  exact lv_l2i C.1 C.2.1 hd l_l2i (k H locs la hP hS hl)
theorem wp_ineg {a : Int} (C : Cx G E cc nL own ret d) (hd : decode cc pc = .ok (.ineg, 1)) (k : Wp G E nL post (pc + 1) ls (iv (-a) :: st) h) : Wp G E nL post pc ls (iv a :: st) h := by
  intro H locs la hP hS hl
  have q := k H locs la hP hS hl
  rw [show iv (-a) = .int _ from congrArg Value.int (Int32.ofInt_neg a)] at q
  exact lv_ineg C.1 C.2.1 hd q
theorem wp_lcmp {a b : Int} (ha : -9223372036854775808 ≤ a ∧ a ≤ 9223372036854775807) (hb : -9223372036854775808 ≤ b ∧ b ≤ 9223372036854775807) (C : Cx G E cc nL own ret d) (hd : decode cc pc = .ok (.lcmp, 1)) (k : Wp G E nL post (pc + 1) ls (iv (if b < a then 1 else if a = b then 0 else -1) :: st) h) : Wp G E nL post pc ls (jv b :: jv a :: st) h := by
  intro H locs la hP hS hl
  have q := k H locs la hP hS hl
  have e : iv (if b < a then 1 else if a = b then 0 else -1) = .int (lg_cmp (Int64.ofInt a) (Int64.ofInt b)) := by
    rw [l_cmp ha hb]
    unfold iv
    split
    · rfl
    · split <;> rfl
  rw [e] at q
  exact W.lcmp C.1 C.2.1 hd q
theorem wp_dup {v : Value} (hc : v.category = 1) (C : Cx G E cc nL own ret d) (hd : decode cc pc = .ok (.dup, 1)) (k : Wp G E nL post (pc + 1) ls (v :: v :: st) h) : Wp G E nL post pc ls (v :: st) h := by
  intro H locs la hP hS hl
  exact lv_dup C.1 C.2.1 hd hc (k H locs la hP hS hl)
theorem wp_pop {v : Value} (hc : v.category = 1) (C : Cx G E cc nL own ret d) (hd : decode cc pc = .ok (.pop, 1)) (k : Wp G E nL post (pc + 1) ls st h) : Wp G E nL post pc ls (v :: st) h := by
  intro H locs la hP hS hl
  exact lv_pop C.1 C.2.1 hd hc (k H locs la hP hS hl)
theorem wp_dup2 {v w : Value} (hc : v.category = 1) (hw : w.category = 1) (C : Cx G E cc nL own ret d) (hd : decode cc pc = .ok (.dup2, 1)) (k : Wp G E nL post (pc + 1) ls (v :: w :: v :: w :: st) h) : Wp G E nL post pc ls (v :: w :: st) h := by
  intro H locs la hP hS hl
  exact lv_dup2_11 C.1 C.2.1 hd hc hw (k H locs la hP hS hl)
theorem wp_goto {off : Int} {tgt : Nat} (C : Cx G E cc nL own ret d) (hd : decode cc pc = .ok (.goto off, 3)) (ht : (pc : Int) + off = (tgt : Int)) (k : Wp G E nL post tgt ls st h) : Wp G E nL post pc ls st h := by
  intro H locs la hP hS hl
  exact lv_goto C.1 C.2.1 hd ht (k H locs la hP hS hl)
theorem wp_icmp_eq {a b off : Int} {tgt : Nat} (ha : -2147483648 ≤ a ∧ a ≤ 2147483647) (hb : -2147483648 ≤ b ∧ b ≤ 2147483647) (C : Cx G E cc nL own ret d) (hd : decode cc pc = .ok (.if_icmp .eq off, 3)) (ht : (pc : Int) + off = (tgt : Int)) (kt : a = b → Wp G E nL post tgt ls st h) (kf : ¬ (a = b) → Wp G E nL post (pc + 3) ls st h) : Wp G E nL post pc ls (iv b :: iv a :: st) h := by
  intro H locs la hP hS hl
  exact lv_icmp_eq C.1 C.2.1 hd ht (fun z => kt ((i_eq ha hb).mp z) H locs la hP hS hl) (fun z => kf (fun w => z ((i_eq ha hb).mpr w)) H locs la hP hS hl)
theorem wp_if_eq {a off : Int} {tgt : Nat} (ha : -2147483648 ≤ a ∧ a ≤ 2147483647) (C : Cx G E cc nL own ret d) (hd : decode cc pc = .ok (.ifCond .eq off, 3)) (ht : (pc : Int) + off = (tgt : Int)) (kt : a = 0 → Wp G E nL post tgt ls st h) (kf : ¬ (a = 0) → Wp G E nL post (pc + 3) ls st h) : Wp G E nL post pc ls (iv a :: st) h := by
  intro H locs la hP hS hl
  have hb : -2147483648 ≤ (0 : Int) ∧ (0 : Int) ≤ 2147483647 := by decide
  exact lv_if_eq C.1 C.2.1 hd ht (fun z => kt ((i_eq ha hb).mp z) H locs la hP hS hl) (fun z => kf (fun w => z ((i_eq ha hb).mpr w)) H locs la hP hS hl)
theorem wp_icmp_ne {a b off : Int} {tgt : Nat} (ha : -2147483648 ≤ a ∧ a ≤ 2147483647) (hb : -2147483648 ≤ b ∧ b ≤ 2147483647) (C : Cx G E cc nL own ret d) (hd : decode cc pc = .ok (.if_icmp .ne off, 3)) (ht : (pc : Int) + off = (tgt : Int)) (kt : a ≠ b → Wp G E nL post tgt ls st h) (kf : a = b → Wp G E nL post (pc + 3) ls st h) : Wp G E nL post pc ls (iv b :: iv a :: st) h := by
  intro H locs la hP hS hl
  exact lv_icmp_ne C.1 C.2.1 hd ht (fun z => kt ((not_congr (i_eq ha hb)).mp z) H locs la hP hS hl) (fun z => kf ((i_eq ha hb).mp z) H locs la hP hS hl)
theorem wp_if_ne {a off : Int} {tgt : Nat} (ha : -2147483648 ≤ a ∧ a ≤ 2147483647) (C : Cx G E cc nL own ret d) (hd : decode cc pc = .ok (.ifCond .ne off, 3)) (ht : (pc : Int) + off = (tgt : Int)) (kt : a ≠ 0 → Wp G E nL post tgt ls st h) (kf : a = 0 → Wp G E nL post (pc + 3) ls st h) : Wp G E nL post pc ls (iv a :: st) h := by
  intro H locs la hP hS hl
  have hb : -2147483648 ≤ (0 : Int) ∧ (0 : Int) ≤ 2147483647 := by decide
  exact lv_if_ne C.1 C.2.1 hd ht (fun z => kt ((not_congr (i_eq ha hb)).mp z) H locs la hP hS hl) (fun z => kf ((i_eq ha hb).mp z) H locs la hP hS hl)
theorem wp_icmp_lt {a b off : Int} {tgt : Nat} (ha : -2147483648 ≤ a ∧ a ≤ 2147483647) (hb : -2147483648 ≤ b ∧ b ≤ 2147483647) (C : Cx G E cc nL own ret d) (hd : decode cc pc = .ok (.if_icmp .lt off, 3)) (ht : (pc : Int) + off = (tgt : Int)) (kt : a < b → Wp G E nL post tgt ls st h) (kf : ¬ (a < b) → Wp G E nL post (pc + 3) ls st h) : Wp G E nL post pc ls (iv b :: iv a :: st) h := by
  intro H locs la hP hS hl
  exact lv_icmp_lt C.1 C.2.1 hd ht (fun z => kt ((i_lt ha hb).mp z) H locs la hP hS hl) (fun z => kf (fun w => z ((i_lt ha hb).mpr w)) H locs la hP hS hl)
theorem wp_if_lt {a off : Int} {tgt : Nat} (ha : -2147483648 ≤ a ∧ a ≤ 2147483647) (C : Cx G E cc nL own ret d) (hd : decode cc pc = .ok (.ifCond .lt off, 3)) (ht : (pc : Int) + off = (tgt : Int)) (kt : a < 0 → Wp G E nL post tgt ls st h) (kf : ¬ (a < 0) → Wp G E nL post (pc + 3) ls st h) : Wp G E nL post pc ls (iv a :: st) h := by
  intro H locs la hP hS hl
  have hb : -2147483648 ≤ (0 : Int) ∧ (0 : Int) ≤ 2147483647 := by decide
  exact lv_if_lt C.1 C.2.1 hd ht (fun z => kt ((i_lt ha hb).mp z) H locs la hP hS hl) (fun z => kf (fun w => z ((i_lt ha hb).mpr w)) H locs la hP hS hl)
theorem wp_icmp_ge {a b off : Int} {tgt : Nat} (ha : -2147483648 ≤ a ∧ a ≤ 2147483647) (hb : -2147483648 ≤ b ∧ b ≤ 2147483647) (C : Cx G E cc nL own ret d) (hd : decode cc pc = .ok (.if_icmp .ge off, 3)) (ht : (pc : Int) + off = (tgt : Int)) (kt : b ≤ a → Wp G E nL post tgt ls st h) (kf : ¬ (b ≤ a) → Wp G E nL post (pc + 3) ls st h) : Wp G E nL post pc ls (iv b :: iv a :: st) h := by
  intro H locs la hP hS hl
  exact lv_icmp_ge C.1 C.2.1 hd ht (fun z => kt ((i_le hb ha).mp z) H locs la hP hS hl) (fun z => kf (fun w => z ((i_le hb ha).mpr w)) H locs la hP hS hl)
theorem wp_if_ge {a off : Int} {tgt : Nat} (ha : -2147483648 ≤ a ∧ a ≤ 2147483647) (C : Cx G E cc nL own ret d) (hd : decode cc pc = .ok (.ifCond .ge off, 3)) (ht : (pc : Int) + off = (tgt : Int)) (kt : 0 ≤ a → Wp G E nL post tgt ls st h) (kf : ¬ (0 ≤ a) → Wp G E nL post (pc + 3) ls st h) : Wp G E nL post pc ls (iv a :: st) h := by
  intro H locs la hP hS hl
  have hb : -2147483648 ≤ (0 : Int) ∧ (0 : Int) ≤ 2147483647 := by decide
  exact lv_if_ge C.1 C.2.1 hd ht (fun z => kt ((i_le hb ha).mp z) H locs la hP hS hl) (fun z => kf (fun w => z ((i_le hb ha).mpr w)) H locs la hP hS hl)
theorem wp_icmp_gt {a b off : Int} {tgt : Nat} (ha : -2147483648 ≤ a ∧ a ≤ 2147483647) (hb : -2147483648 ≤ b ∧ b ≤ 2147483647) (C : Cx G E cc nL own ret d) (hd : decode cc pc = .ok (.if_icmp .gt off, 3)) (ht : (pc : Int) + off = (tgt : Int)) (kt : b < a → Wp G E nL post tgt ls st h) (kf : ¬ (b < a) → Wp G E nL post (pc + 3) ls st h) : Wp G E nL post pc ls (iv b :: iv a :: st) h := by
  intro H locs la hP hS hl
  exact lv_icmp_gt C.1 C.2.1 hd ht (fun z => kt ((i_lt hb ha).mp z) H locs la hP hS hl) (fun z => kf (fun w => z ((i_lt hb ha).mpr w)) H locs la hP hS hl)
theorem wp_if_gt {a off : Int} {tgt : Nat} (ha : -2147483648 ≤ a ∧ a ≤ 2147483647) (C : Cx G E cc nL own ret d) (hd : decode cc pc = .ok (.ifCond .gt off, 3)) (ht : (pc : Int) + off = (tgt : Int)) (kt : 0 < a → Wp G E nL post tgt ls st h) (kf : ¬ (0 < a) → Wp G E nL post (pc + 3) ls st h) : Wp G E nL post pc ls (iv a :: st) h := by
  intro H locs la hP hS hl
  have hb : -2147483648 ≤ (0 : Int) ∧ (0 : Int) ≤ 2147483647 := by decide
  exact lv_if_gt C.1 C.2.1 hd ht (fun z => kt ((i_lt hb ha).mp z) H locs la hP hS hl) (fun z => kf (fun w => z ((i_lt hb ha).mpr w)) H locs la hP hS hl)
theorem wp_icmp_le {a b off : Int} {tgt : Nat} (ha : -2147483648 ≤ a ∧ a ≤ 2147483647) (hb : -2147483648 ≤ b ∧ b ≤ 2147483647) (C : Cx G E cc nL own ret d) (hd : decode cc pc = .ok (.if_icmp .le off, 3)) (ht : (pc : Int) + off = (tgt : Int)) (kt : a ≤ b → Wp G E nL post tgt ls st h) (kf : ¬ (a ≤ b) → Wp G E nL post (pc + 3) ls st h) : Wp G E nL post pc ls (iv b :: iv a :: st) h := by
  intro H locs la hP hS hl
  exact lv_icmp_le C.1 C.2.1 hd ht (fun z => kt ((i_le ha hb).mp z) H locs la hP hS hl) (fun z => kf (fun w => z ((i_le ha hb).mpr w)) H locs la hP hS hl)
theorem wp_if_le {a off : Int} {tgt : Nat} (ha : -2147483648 ≤ a ∧ a ≤ 2147483647) (C : Cx G E cc nL own ret d) (hd : decode cc pc = .ok (.ifCond .le off, 3)) (ht : (pc : Int) + off = (tgt : Int)) (kt : a ≤ 0 → Wp G E nL post tgt ls st h) (kf : ¬ (a ≤ 0) → Wp G E nL post (pc + 3) ls st h) : Wp G E nL post pc ls (iv a :: st) h := by
  intro H locs la hP hS hl
  have hb : -2147483648 ≤ (0 : Int) ∧ (0 : Int) ≤ 2147483647 := by decide
  exact lv_if_le C.1 C.2.1 hd ht (fun z => kt ((i_le ha hb).mp z) H locs la hP hS hl) (fun z => kf (fun w => z ((i_le ha hb).mpr w)) H locs la hP hS hl)
theorem wp_lcmp_eq {a b off : Int} {tgt : Nat} (ha : -9223372036854775808 ≤ a ∧ a ≤ 9223372036854775807) (hb : -9223372036854775808 ≤ b ∧ b ≤ 9223372036854775807) (C : Cx G E cc nL own ret d) (hd : decode cc pc = .ok (.lcmp, 1)) (hd2 : decode cc (pc + 1) = .ok (.ifCond .eq off, 3)) (ht : ((pc + 1 : Nat) : Int) + off = (tgt : Int)) (kt : a = b → Wp G E nL post tgt ls st h) (kf : ¬ (a = b) → Wp G E nL post (pc + 4) ls st h) : Wp G E nL post pc ls (jv b :: jv a :: st) h := by
  refine wp_lcmp ha hb C hd (wp_if_eq (by split <;> (try split) <;> decide) C hd2 ht (fun z => kt ?_) (fun z => kf ?_))
  · revert z
    split <;> (try split) <;> intro z <;> omega
  · revert z
    split <;> (try split) <;> intro z <;> omega
theorem wp_lcmp_ne {a b off : Int} {tgt : Nat} (ha : -9223372036854775808 ≤ a ∧ a ≤ 9223372036854775807) (hb : -9223372036854775808 ≤ b ∧ b ≤ 9223372036854775807) (C : Cx G E cc nL own ret d) (hd : decode cc pc = .ok (.lcmp, 1)) (hd2 : decode cc (pc + 1) = .ok (.ifCond .ne off, 3)) (ht : ((pc + 1 : Nat) : Int) + off = (tgt : Int)) (kt : a ≠ b → Wp G E nL post tgt ls st h) (kf : ¬ (a ≠ b) → Wp G E nL post (pc + 4) ls st h) : Wp G E nL post pc ls (jv b :: jv a :: st) h := by
  refine wp_lcmp ha hb C hd (wp_if_ne (by split <;> (try split) <;> decide) C hd2 ht (fun z => kt ?_) (fun z => kf ?_))
  · revert z
    split <;> (try split) <;> intro z <;> omega
  · revert z
    split <;> (try split) <;> intro z <;> omega
theorem wp_lcmp_lt {a b off : Int} {tgt : Nat} (ha : -9223372036854775808 ≤ a ∧ a ≤ 9223372036854775807) (hb : -9223372036854775808 ≤ b ∧ b ≤ 9223372036854775807) (C : Cx G E cc nL own ret d) (hd : decode cc pc = .ok (.lcmp, 1)) (hd2 : decode cc (pc + 1) = .ok (.ifCond .lt off, 3)) (ht : ((pc + 1 : Nat) : Int) + off = (tgt : Int)) (kt : a < b → Wp G E nL post tgt ls st h) (kf : ¬ (a < b) → Wp G E nL post (pc + 4) ls st h) : Wp G E nL post pc ls (jv b :: jv a :: st) h := by
  refine wp_lcmp ha hb C hd (wp_if_lt (by split <;> (try split) <;> decide) C hd2 ht (fun z => kt ?_) (fun z => kf ?_))
  · revert z
    split <;> (try split) <;> intro z <;> omega
  · revert z
    split <;> (try split) <;> intro z <;> omega
theorem wp_lcmp_ge {a b off : Int} {tgt : Nat} (ha : -9223372036854775808 ≤ a ∧ a ≤ 9223372036854775807) (hb : -9223372036854775808 ≤ b ∧ b ≤ 9223372036854775807) (C : Cx G E cc nL own ret d) (hd : decode cc pc = .ok (.lcmp, 1)) (hd2 : decode cc (pc + 1) = .ok (.ifCond .ge off, 3)) (ht : ((pc + 1 : Nat) : Int) + off = (tgt : Int)) (kt : b ≤ a → Wp G E nL post tgt ls st h) (kf : ¬ (b ≤ a) → Wp G E nL post (pc + 4) ls st h) : Wp G E nL post pc ls (jv b :: jv a :: st) h := by
  refine wp_lcmp ha hb C hd (wp_if_ge (by split <;> (try split) <;> decide) C hd2 ht (fun z => kt ?_) (fun z => kf ?_))
  · revert z
    split <;> (try split) <;> intro z <;> omega
  · revert z
    split <;> (try split) <;> intro z <;> omega
theorem wp_lcmp_gt {a b off : Int} {tgt : Nat} (ha : -9223372036854775808 ≤ a ∧ a ≤ 9223372036854775807) (hb : -9223372036854775808 ≤ b ∧ b ≤ 9223372036854775807) (C : Cx G E cc nL own ret d) (hd : decode cc pc = .ok (.lcmp, 1)) (hd2 : decode cc (pc + 1) = .ok (.ifCond .gt off, 3)) (ht : ((pc + 1 : Nat) : Int) + off = (tgt : Int)) (kt : b < a → Wp G E nL post tgt ls st h) (kf : ¬ (b < a) → Wp G E nL post (pc + 4) ls st h) : Wp G E nL post pc ls (jv b :: jv a :: st) h := by
  refine wp_lcmp ha hb C hd (wp_if_gt (by split <;> (try split) <;> decide) C hd2 ht (fun z => kt ?_) (fun z => kf ?_))
  · revert z
    split <;> (try split) <;> intro z <;> omega
  · revert z
    split <;> (try split) <;> intro z <;> omega
theorem wp_lcmp_le {a b off : Int} {tgt : Nat} (ha : -9223372036854775808 ≤ a ∧ a ≤ 9223372036854775807) (hb : -9223372036854775808 ≤ b ∧ b ≤ 9223372036854775807) (C : Cx G E cc nL own ret d) (hd : decode cc pc = .ok (.lcmp, 1)) (hd2 : decode cc (pc + 1) = .ok (.ifCond .le off, 3)) (ht : ((pc + 1 : Nat) : Int) + off = (tgt : Int)) (kt : a ≤ b → Wp G E nL post tgt ls st h) (kf : ¬ (a ≤ b) → Wp G E nL post (pc + 4) ls st h) : Wp G E nL post pc ls (jv b :: jv a :: st) h := by
  refine wp_lcmp ha hb C hd (wp_if_le (by split <;> (try split) <;> decide) C hd2 ht (fun z => kt ?_) (fun z => kf ?_))
  · revert z
    split <;> (try split) <;> intro z <;> omega
  · revert z
    split <;> (try split) <;> intro z <;> omega
theorem wp_tswIn {a dflt lo hi off : Int} {offs : Array Int} {len tgt : Nat} (ha : -2147483648 ≤ a ∧ a ≤ 2147483647) (C : Cx G E cc nL own ret d) (hd : decode cc pc = .ok (.tableswitch dflt lo hi offs, len)) (h1 : lo ≤ a) (h2 : a ≤ hi) (ho : offs[(a - lo).toNat]? = some off) (ht : (pc : Int) + off = (tgt : Int)) (k : Wp G E nL post tgt ls st h) : Wp G E nL post pc ls (iv a :: st) h := by
  intro H locs la hP hS hl
  exact lv_tableIn C.1 C.2.1 hd (by rw [i_to ha]; omega) (by rw [i_to ha]; omega) (by rw [i_to ha]; exact ho) ht (k H locs la hP hS hl)
theorem wp_tswOut {a dflt lo hi : Int} {offs : Array Int} {len tgt : Nat} (ha : -2147483648 ≤ a ∧ a ≤ 2147483647) (C : Cx G E cc nL own ret d) (hd : decode cc pc = .ok (.tableswitch dflt lo hi offs, len)) (h1 : a < lo ∨ hi < a) (ht : (pc : Int) + dflt = (tgt : Int)) (k : Wp G E nL post tgt ls st h) : Wp G E nL post pc ls (iv a :: st) h := by
  intro H locs la hP hS hl
  exact lv_tableOut C.1 C.2.1 hd (by rw [i_to ha]; omega) ht (k H locs la hP hS hl)
theorem wp_iret {a : Int} (C : Cx G E cc nL own (some .int) d) (hd : decode cc pc = .ok (.ireturn, 1)) (k : post (some (iv a)) h) : Wp G E nL post pc ls [iv a] h := by
  intro H locs la hP hS hl
  have hlk := C.2.2.2.2.2.2.2.1
  exact W.iret (v := Int32.ofInt a) C.1 C.2.1 C.2.2.2.2.2.2.1 (fun t ht hW => ⟨some (iv a), h, rfl, k, by rw [ht]; exact hP, hS.F ht⟩) hS.2.2 hd hlk
theorem wp_zret {a : Int} (hz : a = 0 ∨ a = 1) (C : Cx G E cc nL own (some .boolean) d) (hd : decode cc pc = .ok (.ireturn, 1)) (k : post (some (iv a)) h) : Wp G E nL post pc ls [iv a] h := by
  intro H locs la hP hS hl
  have hlk := C.2.2.2.2.2.2.2.1
  exact W.zret (v := Int32.ofInt a) C.1 C.2.1 C.2.2.2.2.2.2.1 (by rcases hz with rfl | rfl <;> rfl) (fun t ht hW => ⟨some (iv a), h, rfl, k, by rw [ht]; exact hP, hS.F ht⟩) hS.2.2 hd hlk
theorem wp_lret {a : Int} (C : Cx G E cc nL own (some .long) d) (hd : decode cc pc = .ok (.lreturn, 1)) (k : post (some (jv a)) h) : Wp G E nL post pc ls [jv a] h := by
  intro H locs la hP hS hl
  have hlk := C.2.2.2.2.2.2.2.1
  exact W.lret (v := Int64.ofInt a) C.1 C.2.1 C.2.2.2.2.2.2.1 (fun t ht hW => ⟨some (jv a), h, rfl, k, by rw [ht]; exact hP, hS.F ht⟩) hS.2.2 hd hlk
theorem wp_vret (C : Cx G E cc nL own none d) (hd : decode cc pc = .ok (.return_, 1)) (k : post none h) : Wp G E nL post pc ls [] h := by
  intro H locs la hP hS hl
  have hlk := C.2.2.2.2.2.2.2.1
  exact W.vret C.1 C.2.1 C.2.2.2.2.2.2.1 (fun t ht hW => ⟨none, h, rfl, k, by rw [ht]; exact hP, hS.F ht⟩) hS.2.2 hd hlk
end RUL

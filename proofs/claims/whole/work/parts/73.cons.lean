/-! ===== the constructors ===== -/
/-- what is there at the start -/
def hI : Hp := fun a b => if a = 1 ∧ b = 5 then 10 else if a = 26 ∧ b < 2 then -1 else if a = 28 ∧ b = 3 then 1 else if a = 97 ∧ b = 1 then 2 else if a = 97 ∧ b = 2 then 1 else if a = 97 ∧ b = 5 then -1 else if a = 101 ∧ b = 0 then 1 else if a = 131 ∧ b = 1 then 10 else 0
def hZ (x : Nat) : Hp := fun a b => if a = x then 0 else hI a b
theorem hI_0 {a b : Nat} (h : a ≠ 1 ∧ a ≠ 26 ∧ a ≠ 28 ∧ a ≠ 97 ∧ a ≠ 101 ∧ a ≠ 131) : hI a b = 0 := by
  unfold hI
  rw [if_neg (by omega), if_neg (by omega), if_neg (by omega), if_neg (by omega), if_neg (by omega), if_neg (by omega), if_neg (by omega), if_neg (by omega)]
theorem ha_1 {M : Nat} {f : Nat → Int} (hz : ∀ j, f j = 0) (cA : ClassId) : vp_cell cA (M, .inl (fun j => Int32.ofInt (f j))) = arrV cA M (fun _ => defaultValue .int) := by
  rw [vp_cell_i]; apply arrV_congr; intro j _; rw [hz j]; rfl
theorem ha_2 {M : Nat} {f : Nat → Int} (hz : ∀ j, f j = 0) (cA : ClassId) : vp_cell cA (M, .inr (.inl (fun j => Int64.ofInt (f j)))) = arrV cA M (fun _ => defaultValue .long) := by
  rw [vp_cell_l]; apply arrV_congr; intro j _; rw [hz j]; rfl
theorem ha_3 {M : Nat} {f : Nat → Int} (hz : ∀ j, f j = 0) (cA : ClassId) : vp_cell cA (M, .inl (fun j => Int32.ofInt (f j))) = arrV cA M (fun _ => defaultValue .boolean) := by
  rw [vp_cell_i]; apply arrV_congr; intro j _; rw [hz j]; rfl
theorem nneg {M : Nat} (hM : M < 2147483648) : ¬ Int32.ofInt (M : Int) < 0 := fun w => by
  have := (i_lt (a := (M : Int)) (b := 0) (by omega) (by omega)).mp w
  omega
theorem clM {M : Nat} (hM : M < 2147483648) : (Int32.ofInt (M : Int)).toNatClampNeg = M := by rw [i_cl (by omega)]; exact Int.toNat_natCast M
section CON3
variable {G : Gx} {E : En} {cc : ByteArray} {nL : Nat} {own : String} {d : Nat} {h0 : Hp} {id0 ci N κ σ : Nat} {pc : Nat} {ls : List (Nat × Value)} {st : List Value} {fs : List Value} {n : Nat} {ex : va_W} {h : Hp}
theorem wc_newI {M : Nat} (hs : shL[id0 + 1 + n]? = some (1, M, 0, [])) (hz : ∀ j, h (id0 + 1 + n) j = 0) (hM : M ≤ 100000) (hk1 : κ + 1 ≤ G.2.2.2.2.2.2.2.2.2.2.1) (hs1 : σ + M ≤ G.2.2.2.2.2.2.2.2.2.2.2) (C : Cz G E cc nL own d id0) (hd : decode cc pc = .ok (.newarray .int, 2)) (k : Wc G E nL h0 id0 ci N (κ + 1) (σ + M) (pc + 2) ls (rv E (id0 + 1 + n) :: st) fs (n + 1) [] h) : Wc G E nL h0 id0 ci N κ σ pc ls (iv (M : Int) :: st) fs n [] h :=
  wc_newa (atype := .int) (ty := .int) (kd := 1) (t0 := 0) (M := M) rfl (fun C z => by cases z) rfl (cel_1 hs) (ha_1 hz) (mT (i := 90) (by decide +kernel) rfl) (nneg (by omega)) (clM (by omega)) (by show M * 4 ≤ _; omega) hk1 hs1 C hd k
theorem wc_newJ {M : Nat} (hs : shL[id0 + 1 + n]? = some (2, M, 0, [])) (hz : ∀ j, h (id0 + 1 + n) j = 0) (hM : M ≤ 100000) (hk1 : κ + 1 ≤ G.2.2.2.2.2.2.2.2.2.2.1) (hs1 : σ + M ≤ G.2.2.2.2.2.2.2.2.2.2.2) (C : Cz G E cc nL own d id0) (hd : decode cc pc = .ok (.newarray .long, 2)) (k : Wc G E nL h0 id0 ci N (κ + 1) (σ + M) (pc + 2) ls (rv E (id0 + 1 + n) :: st) fs (n + 1) [] h) : Wc G E nL h0 id0 ci N κ σ pc ls (iv (M : Int) :: st) fs n [] h :=
  wc_newa (atype := .long) (ty := .long) (kd := 2) (t0 := 1) (M := M) rfl (fun C z => by cases z) rfl (cel_2 hs) (ha_2 hz) (mT (i := 74) (by decide +kernel) rfl) (nneg (by omega)) (clM (by omega)) (by show M * 8 ≤ _; omega) hk1 hs1 C hd k
theorem wc_newZ {M : Nat} (hs : shL[id0 + 1 + n]? = some (3, M, 0, [])) (hz : ∀ j, h (id0 + 1 + n) j = 0) (hM : M ≤ 100000) (hk1 : κ + 1 ≤ G.2.2.2.2.2.2.2.2.2.2.1) (hs1 : σ + M ≤ G.2.2.2.2.2.2.2.2.2.2.2) (C : Cz G E cc nL own d id0) (hd : decode cc pc = .ok (.newarray .boolean, 2)) (k : Wc G E nL h0 id0 ci N (κ + 1) (σ + M) (pc + 2) ls (rv E (id0 + 1 + n) :: st) fs (n + 1) [] h) : Wc G E nL h0 id0 ci N κ σ pc ls (iv (M : Int) :: st) fs n [] h :=
  wc_newa (atype := .boolean) (ty := .boolean) (kd := 3) (t0 := 2) (M := M) rfl (fun C z => by cases z) rfl (cel_3 hs) (ha_3 hz) (mT (i := 278) (by decide +kernel) rfl) (nneg (by omega)) (clM (by omega)) (by show M * 1 ≤ _; omega) hk1 hs1 C hd k
theorem wc_mnI {index X M : Nat} (hs : shL[id0 + 1 + n]? = some (4, X, id0 + 1 + n + 1, [])) (hr : ∀ j, j < X → shL[id0 + 1 + n + 1 + j]? = some (1, M, 0, [])) (hz : ∀ j k, j < X → h (id0 + 1 + n + 1 + j) k = 0) (hM : M ≤ 100000 ∧ X ≤ 100000) (hw : Cond.classLink own index "[[I" ∈ wsG) (hk1 : κ + (1 + X) ≤ G.2.2.2.2.2.2.2.2.2.2.1) (hs1 : σ + (X + X * M) ≤ G.2.2.2.2.2.2.2.2.2.2.2) (C : Cz G E cc nL own d id0) (hd : decode cc pc = .ok (.multianewarray index 2, 4)) (k : Wc G E nL h0 id0 ci N (κ + 1 + X) (σ + X + X * M) (pc + 4) ls (rv E (id0 + 1 + n) :: st) fs (n + (1 + X)) [] h) : Wc G E nL h0 id0 ci N κ σ pc ls (iv (M : Int) :: iv (X : Int) :: st) fs n [] h :=
  wc_mnew (kd := 4) (kr := 1) (to := 3) (tr := 0) (A := X) (M := M) (ty := .int) (a0 := (M, .inl (fun _ => Int32.ofInt 0))) (fun C z => by cases z) rfl rfl (cel_4 hs) (fun j hj => by rw [cel_1 (hr j hj)]; congr 4; funext k; rw [hz j k hj]) (ha_1 (f := fun _ => 0) (fun _ => rfl)) hw C.2.2.2.2.2.1.2.1 (mT (i := 90) (by decide +kernel) rfl) (nneg (by omega)) (nneg (by omega)) (clM (by omega)) (clM (by omega)) ⟨by omega, by show M * 4 ≤ _; omega, by omega⟩ rfl hk1 hs1 C hd k
theorem wc_mnJ {index X M : Nat} (hs : shL[id0 + 1 + n]? = some (5, X, id0 + 1 + n + 1, [])) (hr : ∀ j, j < X → shL[id0 + 1 + n + 1 + j]? = some (2, M, 0, [])) (hz : ∀ j k, j < X → h (id0 + 1 + n + 1 + j) k = 0) (hM : M ≤ 100000 ∧ X ≤ 100000) (hw : Cond.classLink own index "[[J" ∈ wsG) (hk1 : κ + (1 + X) ≤ G.2.2.2.2.2.2.2.2.2.2.1) (hs1 : σ + (X + X * M) ≤ G.2.2.2.2.2.2.2.2.2.2.2) (C : Cz G E cc nL own d id0) (hd : decode cc pc = .ok (.multianewarray index 2, 4)) (k : Wc G E nL h0 id0 ci N (κ + 1 + X) (σ + X + X * M) (pc + 4) ls (rv E (id0 + 1 + n) :: st) fs (n + (1 + X)) [] h) : Wc G E nL h0 id0 ci N κ σ pc ls (iv (M : Int) :: iv (X : Int) :: st) fs n [] h :=
  wc_mnew (kd := 5) (kr := 2) (to := 4) (tr := 1) (A := X) (M := M) (ty := .long) (a0 := (M, .inr (.inl (fun _ => Int64.ofInt 0)))) (fun C z => by cases z) rfl rfl (cel_5 hs) (fun j hj => by rw [cel_2 (hr j hj)]; congr 5; funext k; rw [hz j k hj]) (ha_2 (f := fun _ => 0) (fun _ => rfl)) hw C.2.2.2.2.2.1.2.2 (mT (i := 74) (by decide +kernel) rfl) (nneg (by omega)) (nneg (by omega)) (clM (by omega)) (clM (by omega)) ⟨by omega, by show M * 8 ≤ _; omega, by omega⟩ rfl hk1 hs1 C hd k
end CON3
theorem fcX4_9 {x : Nat} : FC RX4 9 4 0 true (.ref x) := ⟨RX4, TX4, 6, tyX4, .array .long, rfl, by decide, inWX4, (mT (i := 37) (by decide +kernel) rfl), tyWX4, nmWX4, rfl, rfl, by decide +kernel, rfl, rfl⟩
theorem fcX4_15 {x : Nat} : FC RX4 15 4 1 true (.ref x) := ⟨RX4, TX4, 6, tyX4, .array .long, rfl, by decide, inWX4, (mT (i := 39) (by decide +kernel) rfl), tyWX4, nmWX4, rfl, rfl, by decide +kernel, rfl, rfl⟩
theorem fcX4_18 {x : Nat} : FC RX4 18 4 2 true (.ref x) := ⟨RX4, TX4, 6, tyX4, .array .long, rfl, by decide, inWX4, (mT (i := 41) (by decide +kernel) rfl), tyWX4, nmWX4, rfl, rfl, by decide +kernel, rfl, rfl⟩
theorem fcX4_21 {x : Nat} : FC RX4 21 4 3 true (.ref x) := ⟨RX4, TX4, 6, tyX4, .array .long, rfl, by decide, inWX4, (mT (i := 44) (by decide +kernel) rfl), tyWX4, nmWX4, rfl, rfl, by decide +kernel, rfl, rfl⟩
theorem fcX4_24 {z : Int} : FC RX4 24 4 4 false (iv z) := ⟨RX4, TX4, 6, tyX4, .int, rfl, by decide, inWX4, (mT (i := 46) (by decide +kernel) rfl), tyWX4, nmWX4, rfl, rfl, by decide +kernel, rfl, rfl⟩
theorem fcX4_28 {z : Int} : FC RX4 28 4 5 false (iv z) := ⟨RX4, TX4, 6, tyX4, .int, rfl, by decide, inWX4, (mT (i := 54) (by decide +kernel) rfl), tyWX4, nmWX4, rfl, rfl, by decide +kernel, rfl, rfl⟩
theorem fcX8_9 {x : Nat} : FC RX8 9 8 0 true (.ref x) := ⟨RX8, TX8, 2, tyX8, .array .int, rfl, by decide, inWX8, (mT (i := 81) (by decide +kernel) rfl), tyWX8, nmWX8, rfl, rfl, by decide +kernel, rfl, rfl⟩
theorem fcX8_15 {z : Int} : FC RX8 15 8 1 false (iv z) := ⟨RX8, TX8, 2, tyX8, .int, rfl, by decide, inWX8, (mT (i := 82) (by decide +kernel) rfl), tyWX8, nmWX8, rfl, rfl, by decide +kernel, rfl, rfl⟩
theorem fcX6_9 {x : Nat} : FC RX6 9 6 0 true (.ref x) := ⟨RX6, TX6, 7, tyX6, .array .int, rfl, by decide, inWX6, (mT (i := 99) (by decide +kernel) rfl), tyWX6, nmWX6, rfl, rfl, by decide +kernel, rfl, rfl⟩
theorem fcX6_17 {x : Nat} : FC RX6 17 6 1 true (.ref x) := ⟨RX6, TX6, 7, tyX6, .array (.array .long), rfl, by decide, inWX6, (mT (i := 101) (by decide +kernel) rfl), tyWX6, nmWX6, rfl, rfl, by decide +kernel, rfl, rfl⟩
theorem fcX6_20 {z : Int} : FC RX6 20 6 2 false (iv z) := ⟨RX6, TX6, 7, tyX6, .int, rfl, by decide, inWX6, (mT (i := 103) (by decide +kernel) rfl), tyWX6, nmWX6, rfl, rfl, by decide +kernel, rfl, rfl⟩
theorem fcX6_24 {z : Int} : FC RX6 24 6 4 false (iv z) := ⟨RX6, TX6, 7, tyX6, .int, rfl, by decide, inWX6, (mT (i := 106) (by decide +kernel) rfl), tyWX6, nmWX6, rfl, rfl, by decide +kernel, rfl, rfl⟩
theorem fcX6_27 {z : Int} : FC RX6 27 6 5 false (iv z) := ⟨RX6, TX6, 7, tyX6, .int, rfl, by decide, inWX6, (mT (i := 107) (by decide +kernel) rfl), tyWX6, nmWX6, rfl, rfl, by decide +kernel, rfl, rfl⟩
theorem fcX6_30 {z : Int} : FC RX6 30 6 6 false (iv z) := ⟨RX6, TX6, 7, tyX6, .int, rfl, by decide, inWX6, (mT (i := 108) (by decide +kernel) rfl), tyWX6, nmWX6, rfl, rfl, by decide +kernel, rfl, rfl⟩
theorem fcX6_33 {x : Nat} : FC RX6 33 6 3 true (.ref x) := ⟨RX6, TX6, 7, tyX6, .object "EvenTen$Text", rfl, by decide, inWX6, (mT (i := 105) (by decide +kernel) rfl), tyWX6, nmWX6, rfl, rfl, by decide +kernel, rfl, rfl⟩
theorem fcX1_9 {x : Nat} : FC RX1 9 1 0 true (.ref x) := ⟨RX1, TX1, 4, tyX1, .array .int, rfl, by decide, inWX1, (mT (i := 132) (by decide +kernel) rfl), tyWX1, nmWX1, rfl, rfl, by decide +kernel, rfl, rfl⟩
theorem fcX1_15 {z : Int} : FC RX1 15 1 1 false (iv z) := ⟨RX1, TX1, 4, tyX1, .int, rfl, by decide, inWX1, (mT (i := 134) (by decide +kernel) rfl), tyWX1, nmWX1, rfl, rfl, by decide +kernel, rfl, rfl⟩
theorem fcX1_21 {x : Nat} : FC RX1 21 1 2 true (.ref x) := ⟨RX1, TX1, 4, tyX1, .array (.array .int), rfl, by decide, inWX1, (mT (i := 136) (by decide +kernel) rfl), tyWX1, nmWX1, rfl, rfl, by decide +kernel, rfl, rfl⟩
theorem fcX1_24 {x : Nat} : FC RX1 24 1 3 true (.ref x) := ⟨RX1, TX1, 4, tyX1, .array .int, rfl, by decide, inWX1, (mT (i := 137) (by decide +kernel) rfl), tyWX1, nmWX1, rfl, rfl, by decide +kernel, rfl, rfl⟩
theorem fcX3_9 {z : Int} : FC RX3 9 3 2 false (iv z) := ⟨RX3, TX3, 4, tyX3, .int, rfl, by decide, inWX3, (mT (i := 155) (by decide +kernel) rfl), tyWX3, nmWX3, rfl, rfl, by decide +kernel, rfl, rfl⟩
theorem fcX3_15 {z : Int} : FC RX3 15 3 3 false (iv z) := ⟨RX3, TX3, 4, tyX3, .int, rfl, by decide, inWX3, (mT (i := 156) (by decide +kernel) rfl), tyWX3, nmWX3, rfl, rfl, by decide +kernel, rfl, rfl⟩
theorem fcX3_18 {x : Nat} : FC RX3 18 3 0 true (.ref x) := ⟨RX3, TX3, 4, tyX3, .object "EvenTen$Heaps", rfl, by decide, inWX3, (mT (i := 153) (by decide +kernel) rfl), tyWX3, nmWX3, rfl, rfl, by decide +kernel, rfl, rfl⟩
theorem fcX3_22 {x : Nat} : FC RX3 22 3 1 true (.ref x) := ⟨RX3, TX3, 4, tyX3, .array .int, rfl, by decide, inWX3, (mT (i := 154) (by decide +kernel) rfl), tyWX3, nmWX3, rfl, rfl, by decide +kernel, rfl, rfl⟩
theorem fcX7_11 {x : Nat} : FC RX7 11 7 1 true (.ref x) := ⟨RX7, TX7, 2, tyX7, .array (.array .int), rfl, by decide, inWX7, (mT (i := 174) (by decide +kernel) rfl), tyWX7, nmWX7, rfl, rfl, by decide +kernel, rfl, rfl⟩
theorem fcX7_16 {x : Nat} : FC RX7 16 7 0 true (.ref x) := ⟨RX7, TX7, 2, tyX7, .object "EvenTen$Heaps", rfl, by decide, inWX7, (mT (i := 173) (by decide +kernel) rfl), tyWX7, nmWX7, rfl, rfl, by decide +kernel, rfl, rfl⟩
theorem fcX5_11 {x : Nat} : FC RX5 11 5 1 true (.ref x) := ⟨RX5, TX5, 3, tyX5, .array (.array .int), rfl, by decide, inWX5, (mT (i := 189) (by decide +kernel) rfl), tyWX5, nmWX5, rfl, rfl, by decide +kernel, rfl, rfl⟩
theorem fcX5_18 {x : Nat} : FC RX5 18 5 2 true (.ref x) := ⟨RX5, TX5, 3, tyX5, .array (.array .long), rfl, by decide, inWX5, (mT (i := 190) (by decide +kernel) rfl), tyWX5, nmWX5, rfl, rfl, by decide +kernel, rfl, rfl⟩
theorem fcX5_21 {x : Nat} : FC RX5 21 5 0 true (.ref x) := ⟨RX5, TX5, 3, tyX5, .object "EvenTen$Heaps", rfl, by decide, inWX5, (mT (i := 188) (by decide +kernel) rfl), tyWX5, nmWX5, rfl, rfl, by decide +kernel, rfl, rfl⟩
theorem fcX10_9 {x : Nat} : FC RX10 9 10 0 true (.ref x) := ⟨RX10, TX10, 6, tyX10, .array .long, rfl, by decide, inWX10, (mT (i := 204) (by decide +kernel) rfl), tyWX10, nmWX10, rfl, rfl, by decide +kernel, rfl, rfl⟩
theorem fcX10_15 {z : Int} : FC RX10 15 10 1 false (iv z) := ⟨RX10, TX10, 6, tyX10, .int, rfl, by decide, inWX10, (mT (i := 205) (by decide +kernel) rfl), tyWX10, nmWX10, rfl, rfl, by decide +kernel, rfl, rfl⟩
theorem fcX10_19 {z : Int} : FC RX10 19 10 2 false (iv z) := ⟨RX10, TX10, 6, tyX10, .int, rfl, by decide, inWX10, (mT (i := 206) (by decide +kernel) rfl), tyWX10, nmWX10, rfl, rfl, by decide +kernel, rfl, rfl⟩
theorem fcX10_22 {z : Int} : FC RX10 22 10 3 false (iv z) := ⟨RX10, TX10, 6, tyX10, .int, rfl, by decide, inWX10, (mT (i := 207) (by decide +kernel) rfl), tyWX10, nmWX10, rfl, rfl, by decide +kernel, rfl, rfl⟩
theorem fcX10_25 {z : Int} : FC RX10 25 10 4 false (iv z) := ⟨RX10, TX10, 6, tyX10, .int, rfl, by decide, inWX10, (mT (i := 208) (by decide +kernel) rfl), tyWX10, nmWX10, rfl, rfl, by decide +kernel, rfl, rfl⟩
theorem fcX10_28 {z : Int} : FC RX10 28 10 5 false (iv z) := ⟨RX10, TX10, 6, tyX10, .int, rfl, by decide, inWX10, (mT (i := 209) (by decide +kernel) rfl), tyWX10, nmWX10, rfl, rfl, by decide +kernel, rfl, rfl⟩
theorem fcX2_11 {x : Nat} : FC RX2 11 2 1 true (.ref x) := ⟨RX2, TX2, 4, tyX2, .array (.array .int), rfl, by decide, inWX2, (mT (i := 231) (by decide +kernel) rfl), tyWX2, nmWX2, rfl, rfl, by decide +kernel, rfl, rfl⟩
theorem fcX2_16 {x : Nat} : FC RX2 16 2 2 true (.ref x) := ⟨RX2, TX2, 4, tyX2, .array .int, rfl, by decide, inWX2, (mT (i := 232) (by decide +kernel) rfl), tyWX2, nmWX2, rfl, rfl, by decide +kernel, rfl, rfl⟩
theorem fcX2_20 {z : Int} : FC RX2 20 2 3 false (iv z) := ⟨RX2, TX2, 4, tyX2, .int, rfl, by decide, inWX2, (mT (i := 233) (by decide +kernel) rfl), tyWX2, nmWX2, rfl, rfl, by decide +kernel, rfl, rfl⟩
theorem fcX2_24 {x : Nat} : FC RX2 24 2 0 true (.ref x) := ⟨RX2, TX2, 4, tyX2, .object "EvenTen$Heaps", rfl, by decide, inWX2, (mT (i := 230) (by decide +kernel) rfl), tyWX2, nmWX2, rfl, rfl, by decide +kernel, rfl, rfl⟩
theorem fcX0_9 {x : Nat} : FC RX0 9 0 2 true (.ref x) := ⟨RX0, TX0, 3, tyX0, .array .int, rfl, by decide, inWX0, (mT (i := 251) (by decide +kernel) rfl), tyWX0, nmWX0, rfl, rfl, by decide +kernel, rfl, rfl⟩
theorem fcX0_15 {x : Nat} : FC RX0 15 0 0 true (.ref x) := ⟨RX0, TX0, 3, tyX0, .object "EvenTen$Heaps", rfl, by decide, inWX0, (mT (i := 249) (by decide +kernel) rfl), tyWX0, nmWX0, rfl, rfl, by decide +kernel, rfl, rfl⟩
theorem fcX0_19 {x : Nat} : FC RX0 19 0 1 true (.ref x) := ⟨RX0, TX0, 3, tyX0, .array .int, rfl, by decide, inWX0, (mT (i := 250) (by decide +kernel) rfl), tyWX0, nmWX0, rfl, rfl, by decide +kernel, rfl, rfl⟩
theorem fcX9_9 {x : Nat} : FC RX9 9 9 1 true (.ref x) := ⟨RX9, TX9, 4, tyX9, .array .boolean, rfl, by decide, inWX9, (mT (i := 266) (by decide +kernel) rfl), tyWX9, nmWX9, rfl, rfl, by decide +kernel, rfl, rfl⟩
theorem fcX9_15 {x : Nat} : FC RX9 15 9 2 true (.ref x) := ⟨RX9, TX9, 4, tyX9, .array .int, rfl, by decide, inWX9, (mT (i := 267) (by decide +kernel) rfl), tyWX9, nmWX9, rfl, rfl, by decide +kernel, rfl, rfl⟩
theorem fcX9_19 {x : Nat} : FC RX9 19 9 0 true (.ref x) := ⟨RX9, TX9, 4, tyX9, .object "EvenTen$Heaps", rfl, by decide, inWX9, (mT (i := 265) (by decide +kernel) rfl), tyWX9, nmWX9, rfl, rfl, by decide +kernel, rfl, rfl⟩
theorem fcX9_23 {x : Nat} : FC RX9 23 9 3 true (.ref x) := ⟨RX9, TX9, 4, tyX9, .array .int, rfl, by decide, inWX9, (mT (i := 268) (by decide +kernel) rfl), tyWX9, nmWX9, rfl, rfl, by decide +kernel, rfl, rfl⟩
theorem siX11_9 : SIc RX11 9 yX4_init (some "EvenTen") cX4_init 1 0 := ⟨List.mem_append_right _ (List.mem_of_getElem? (i := 33) (by decide +kernel)), (mT (i := 34) (by decide +kernel) rfl), (mT (i := 2) (by decide +kernel) rfl), (mT (i := 35) (by decide +kernel) rfl), by decide, rfl, ⟨by decide +kernel, by decide +kernel, by decide +kernel⟩⟩
theorem fcX11_10 {x : Nat} : FC RX11 10 11 0 true (.ref x) := ⟨RX11, TX11, 11, tyX11, .object "EvenTen$Heaps", rfl, by decide, inWX11, (mT (i := 279) (by decide +kernel) rfl), tyWX11, nmWX11, rfl, rfl, by decide +kernel, rfl, rfl⟩
theorem siX11_18 : SIc RX11 18 yX8_init (some "EvenTen") cX8_init 1 0 := ⟨List.mem_append_right _ (List.mem_of_getElem? (i := 77) (by decide +kernel)), (mT (i := 78) (by decide +kernel) rfl), (mT (i := 3) (by decide +kernel) rfl), (mT (i := 79) (by decide +kernel) rfl), by decide, rfl, ⟨by decide +kernel, by decide +kernel, by decide +kernel⟩⟩
theorem fcX11_19 {x : Nat} : FC RX11 19 11 1 true (.ref x) := ⟨RX11, TX11, 11, tyX11, .object "EvenTen$Text", rfl, by decide, inWX11, (mT (i := 280) (by decide +kernel) rfl), tyWX11, nmWX11, rfl, rfl, by decide +kernel, rfl, rfl⟩
theorem siX11_25 : SIc RX11 25 yX6_init none cX6_init 2 1 := ⟨(mT (i := 93) (by decide +kernel) rfl), (mT (i := 94) (by decide +kernel) rfl), (mT (i := 4) (by decide +kernel) rfl), (mT (i := 95) (by decide +kernel) rfl), by decide, rfl, ⟨by decide +kernel, by decide +kernel, by decide +kernel⟩⟩
theorem fcX11_28 {x : Nat} : FC RX11 28 11 2 true (.ref x) := ⟨RX11, TX11, 11, tyX11, .object "EvenTen$Reader", rfl, by decide, inWX11, (mT (i := 281) (by decide +kernel) rfl), tyWX11, nmWX11, rfl, rfl, by decide +kernel, rfl, rfl⟩
theorem siX11_34 : SIc RX11 34 yX1_init (some "EvenTen") cX1_init 1 0 := ⟨List.mem_append_right _ (List.mem_of_getElem? (i := 126) (by decide +kernel)), (mT (i := 127) (by decide +kernel) rfl), (mT (i := 5) (by decide +kernel) rfl), (mT (i := 128) (by decide +kernel) rfl), by decide, rfl, ⟨by decide +kernel, by decide +kernel, by decide +kernel⟩⟩
theorem fcX11_35 {x : Nat} : FC RX11 35 11 3 true (.ref x) := ⟨RX11, TX11, 11, tyX11, .object "EvenTen$Book", rfl, by decide, inWX11, (mT (i := 282) (by decide +kernel) rfl), tyWX11, nmWX11, rfl, rfl, by decide +kernel, rfl, rfl⟩
theorem siX11_41 : SIc RX11 41 yX3_init none cX3_init 3 2 := ⟨(mT (i := 149) (by decide +kernel) rfl), (mT (i := 150) (by decide +kernel) rfl), (mT (i := 6) (by decide +kernel) rfl), (mT (i := 151) (by decide +kernel) rfl), by decide, rfl, ⟨by decide +kernel, by decide +kernel, by decide +kernel⟩⟩
theorem fcX11_44 {x : Nat} : FC RX11 44 11 4 true (.ref x) := ⟨RX11, TX11, 11, tyX11, .object "EvenTen$Finder", rfl, by decide, inWX11, (mT (i := 283) (by decide +kernel) rfl), tyWX11, nmWX11, rfl, rfl, by decide +kernel, rfl, rfl⟩
theorem siX11_50 : SIc RX11 50 yX7_init none cX7_init 2 1 := ⟨(mT (i := 168) (by decide +kernel) rfl), (mT (i := 169) (by decide +kernel) rfl), (mT (i := 7) (by decide +kernel) rfl), (mT (i := 170) (by decide +kernel) rfl), by decide, rfl, ⟨by decide +kernel, by decide +kernel, by decide +kernel⟩⟩
theorem fcX11_53 {x : Nat} : FC RX11 53 11 5 true (.ref x) := ⟨RX11, TX11, 11, tyX11, .object "EvenTen$Tally", rfl, by decide, inWX11, (mT (i := 284) (by decide +kernel) rfl), tyWX11, nmWX11, rfl, rfl, by decide +kernel, rfl, rfl⟩
theorem siX11_59 : SIc RX11 59 yX5_init none cX5_init 2 1 := ⟨(mT (i := 182) (by decide +kernel) rfl), (mT (i := 183) (by decide +kernel) rfl), (mT (i := 8) (by decide +kernel) rfl), (mT (i := 184) (by decide +kernel) rfl), by decide, rfl, ⟨by decide +kernel, by decide +kernel, by decide +kernel⟩⟩
theorem fcX11_60 {x : Nat} : FC RX11 60 11 6 true (.ref x) := ⟨RX11, TX11, 11, tyX11, .object "EvenTen$Lightest", rfl, by decide, inWX11, (mT (i := 285) (by decide +kernel) rfl), tyWX11, nmWX11, rfl, rfl, by decide +kernel, rfl, rfl⟩
theorem siX11_66 : SIc RX11 66 yX10_init (some "EvenTen") cX10_init 1 0 := ⟨List.mem_append_right _ (List.mem_of_getElem? (i := 200) (by decide +kernel)), (mT (i := 201) (by decide +kernel) rfl), (mT (i := 9) (by decide +kernel) rfl), (mT (i := 202) (by decide +kernel) rfl), by decide, rfl, ⟨by decide +kernel, by decide +kernel, by decide +kernel⟩⟩
theorem fcX11_67 {x : Nat} : FC RX11 67 11 7 true (.ref x) := ⟨RX11, TX11, 11, tyX11, .object "EvenTen$Whatever", rfl, by decide, inWX11, (mT (i := 286) (by decide +kernel) rfl), tyWX11, nmWX11, rfl, rfl, by decide +kernel, rfl, rfl⟩
theorem siX11_73 : SIc RX11 73 yX2_init none cX2_init 2 1 := ⟨(mT (i := 225) (by decide +kernel) rfl), (mT (i := 226) (by decide +kernel) rfl), (mT (i := 10) (by decide +kernel) rfl), (mT (i := 227) (by decide +kernel) rfl), by decide, rfl, ⟨by decide +kernel, by decide +kernel, by decide +kernel⟩⟩
theorem fcX11_74 {x : Nat} : FC RX11 74 11 8 true (.ref x) := ⟨RX11, TX11, 11, tyX11, .object "EvenTen$Coming", rfl, by decide, inWX11, (mT (i := 287) (by decide +kernel) rfl), tyWX11, nmWX11, rfl, rfl, by decide +kernel, rfl, rfl⟩
theorem siX11_80 : SIc RX11 80 yX0_init none cX0_init 3 2 := ⟨(mT (i := 245) (by decide +kernel) rfl), (mT (i := 246) (by decide +kernel) rfl), (mT (i := 11) (by decide +kernel) rfl), (mT (i := 247) (by decide +kernel) rfl), by decide, rfl, ⟨by decide +kernel, by decide +kernel, by decide +kernel⟩⟩
theorem fcX11_81 {x : Nat} : FC RX11 81 11 9 true (.ref x) := ⟨RX11, TX11, 11, tyX11, .object "EvenTen$Apart", rfl, by decide, inWX11, (mT (i := 288) (by decide +kernel) rfl), tyWX11, nmWX11, rfl, rfl, by decide +kernel, rfl, rfl⟩
theorem siX11_87 : SIc RX11 87 yX9_init none cX9_init 3 2 := ⟨(mT (i := 261) (by decide +kernel) rfl), (mT (i := 262) (by decide +kernel) rfl), (mT (i := 12) (by decide +kernel) rfl), (mT (i := 263) (by decide +kernel) rfl), by decide, rfl, ⟨by decide +kernel, by decide +kernel, by decide +kernel⟩⟩
theorem fcX11_88 {x : Nat} : FC RX11 88 11 10 true (.ref x) := ⟨RX11, TX11, 11, tyX11, .object "EvenTen$Turns", rfl, by decide, inWX11, (mT (i := 289) (by decide +kernel) rfl), tyWX11, nmWX11, rfl, rfl, by decide +kernel, rfl, rfl⟩
theorem fcX12_7 {x : Nat} : FC RX12 7 12 0 true (.ref x) := ⟨RX12, TX12, 24, tyX12, .array .long, rfl, by decide, inWX12, (mT (i := 888) (by decide +kernel) rfl), tyWX12, nmWX12, rfl, rfl, by decide +kernel, rfl, rfl⟩
theorem fcX12_13 {x : Nat} : FC RX12 13 12 1 true (.ref x) := ⟨RX12, TX12, 24, tyX12, .array .int, rfl, by decide, inWX12, (mT (i := 889) (by decide +kernel) rfl), tyWX12, nmWX12, rfl, rfl, by decide +kernel, rfl, rfl⟩
theorem fcX12_17 {x : Nat} : FC RX12 17 12 2 true (.ref x) := ⟨RX12, TX12, 24, tyX12, .array .int, rfl, by decide, inWX12, (mT (i := 890) (by decide +kernel) rfl), tyWX12, nmWX12, rfl, rfl, by decide +kernel, rfl, rfl⟩
theorem fcX12_20 {x : Nat} : FC RX12 20 12 3 true (.ref x) := ⟨RX12, TX12, 24, tyX12, .array .int, rfl, by decide, inWX12, (mT (i := 891) (by decide +kernel) rfl), tyWX12, nmWX12, rfl, rfl, by decide +kernel, rfl, rfl⟩
theorem fcX12_23 {x : Nat} : FC RX12 23 12 4 true (.ref x) := ⟨RX12, TX12, 24, tyX12, .array .boolean, rfl, by decide, inWX12, (mT (i := 892) (by decide +kernel) rfl), tyWX12, nmWX12, rfl, rfl, by decide +kernel, rfl, rfl⟩
theorem fcX12_27 {x : Nat} : FC RX12 27 12 5 true (.ref x) := ⟨RX12, TX12, 24, tyX12, .array .int, rfl, by decide, inWX12, (mT (i := 893) (by decide +kernel) rfl), tyWX12, nmWX12, rfl, rfl, by decide +kernel, rfl, rfl⟩
theorem fcX12_30 {x : Nat} : FC RX12 30 12 7 true (.ref x) := ⟨RX12, TX12, 24, tyX12, .array .int, rfl, by decide, inWX12, (mT (i := 895) (by decide +kernel) rfl), tyWX12, nmWX12, rfl, rfl, by decide +kernel, rfl, rfl⟩
theorem fcX12_33 {x : Nat} : FC RX12 33 12 8 true (.ref x) := ⟨RX12, TX12, 24, tyX12, .array .long, rfl, by decide, inWX12, (mT (i := 896) (by decide +kernel) rfl), tyWX12, nmWX12, rfl, rfl, by decide +kernel, rfl, rfl⟩
theorem fcX12_37 {x : Nat} : FC RX12 37 12 14 true (.ref x) := ⟨RX12, TX12, 24, tyX12, .array .boolean, rfl, by decide, inWX12, (mT (i := 902) (by decide +kernel) rfl), tyWX12, nmWX12, rfl, rfl, by decide +kernel, rfl, rfl⟩
theorem fcX12_40 {x : Nat} : FC RX12 40 12 15 true (.ref x) := ⟨RX12, TX12, 24, tyX12, .array .int, rfl, by decide, inWX12, (mT (i := 903) (by decide +kernel) rfl), tyWX12, nmWX12, rfl, rfl, by decide +kernel, rfl, rfl⟩
theorem fcX12_43 {x : Nat} : FC RX12 43 12 16 true (.ref x) := ⟨RX12, TX12, 24, tyX12, .array .long, rfl, by decide, inWX12, (mT (i := 904) (by decide +kernel) rfl), tyWX12, nmWX12, rfl, rfl, by decide +kernel, rfl, rfl⟩
theorem fcX12_46 {x : Nat} : FC RX12 46 12 17 true (.ref x) := ⟨RX12, TX12, 24, tyX12, .array .int, rfl, by decide, inWX12, (mT (i := 905) (by decide +kernel) rfl), tyWX12, nmWX12, rfl, rfl, by decide +kernel, rfl, rfl⟩
theorem fcX12_49 {x : Nat} : FC RX12 49 12 18 true (.ref x) := ⟨RX12, TX12, 24, tyX12, .array .boolean, rfl, by decide, inWX12, (mT (i := 906) (by decide +kernel) rfl), tyWX12, nmWX12, rfl, rfl, by decide +kernel, rfl, rfl⟩
theorem fcX12_52 {x : Nat} : FC RX12 52 12 19 true (.ref x) := ⟨RX12, TX12, 24, tyX12, .array .int, rfl, by decide, inWX12, (mT (i := 907) (by decide +kernel) rfl), tyWX12, nmWX12, rfl, rfl, by decide +kernel, rfl, rfl⟩
theorem fcX12_55 {x : Nat} : FC RX12 55 12 20 true (.ref x) := ⟨RX12, TX12, 24, tyX12, .array .int, rfl, by decide, inWX12, (mT (i := 908) (by decide +kernel) rfl), tyWX12, nmWX12, rfl, rfl, by decide +kernel, rfl, rfl⟩
theorem fcX12_58 {x : Nat} : FC RX12 58 12 21 true (.ref x) := ⟨RX12, TX12, 24, tyX12, .array .boolean, rfl, by decide, inWX12, (mT (i := 909) (by decide +kernel) rfl), tyWX12, nmWX12, rfl, rfl, by decide +kernel, rfl, rfl⟩
theorem fcX12_61 {x : Nat} : FC RX12 61 12 22 true (.ref x) := ⟨RX12, TX12, 24, tyX12, .array .int, rfl, by decide, inWX12, (mT (i := 910) (by decide +kernel) rfl), tyWX12, nmWX12, rfl, rfl, by decide +kernel, rfl, rfl⟩
theorem fcX12_64 {x : Nat} : FC RX12 64 12 23 true (.ref x) := ⟨RX12, TX12, 24, tyX12, .array .boolean, rfl, by decide, inWX12, (mT (i := 911) (by decide +kernel) rfl), tyWX12, nmWX12, rfl, rfl, by decide +kernel, rfl, rfl⟩
set_option maxRecDepth 100000 in
set_option maxHeartbeats 4000000 in
theorem c_X4_init (E : En) : Cn 1 4 80 yX4_init cX4_init 1 E [] hI 1 4 5 [.null, .null, .null, .null, iv 0, iv 0] := by
  refine cn_intro (by decide) rfl (Nat.le_of_ble_eq_true rfl) hI (fun G hmc hms C => ?_)
  show Wc G E 1 hI 1 4 5 0 0 0 [(0, rv E 1)] [] [.null, .null, .null, .null, iv 0, iv 0] 0 [] hI
  refine wc_aload_n 0 C dX4_init_0 rfl rfl ?_
  refine wc_obj (mT (i := 36) (by decide +kernel) rfl) (mT (i := 29) (by decide +kernel) rfl) (mT (i := 30) (by decide +kernel) rfl) (by decide) C dX4_init_1 ?_
  refine wc_aload_n 0 C dX4_init_4 rfl rfl ?_
  refine wc_bipush (v := 20) C dX4_init_5 rfl ?_
  refine wc_newJ (M := 20) sh_2 (fun _ => rfl) (by decide) (by rw [hmc]; decide) (by rw [hms]; decide) C dX4_init_7 ?_
  show Wc G E 1 hI 1 4 5 1 20 9 [(0, rv E 1)] [rv E 2, rv E 1] [.null, .null, .null, .null, iv 0, iv 0] 1 [] hI
  refine wc_put (fs' := [rv E 2, .null, .null, .null, iv 0, iv 0]) fcX4_9 (Nat.le_of_ble_eq_true rfl) rfl C dX4_init_9 ?_
  refine wc_aload_n 0 C dX4_init_12 rfl rfl ?_
  refine wc_bipush (v := 20) C dX4_init_13 rfl ?_
  refine wc_newJ (M := 20) sh_3 (fun _ => rfl) (by decide) (by rw [hmc]; decide) (by rw [hms]; decide) C dX4_init_15 ?_
  show Wc G E 1 hI 1 4 5 2 40 17 [(0, rv E 1)] [rv E 3, rv E 1] [rv E 2, .null, .null, .null, iv 0, iv 0] 2 [] hI
  refine wc_put (fs' := [rv E 2, rv E 3, .null, .null, iv 0, iv 0]) fcX4_15 (Nat.le_of_ble_eq_true rfl) rfl C dX4_init_17 ?_
  refine wc_aload_n 0 C dX4_init_20 rfl rfl ?_
  refine wc_bipush (v := 20) C dX4_init_21 rfl ?_
  refine wc_newJ (M := 20) sh_4 (fun _ => rfl) (by decide) (by rw [hmc]; decide) (by rw [hms]; decide) C dX4_init_23 ?_
  show Wc G E 1 hI 1 4 5 3 60 25 [(0, rv E 1)] [rv E 4, rv E 1] [rv E 2, rv E 3, .null, .null, iv 0, iv 0] 3 [] hI
  refine wc_put (fs' := [rv E 2, rv E 3, rv E 4, .null, iv 0, iv 0]) fcX4_18 (Nat.le_of_ble_eq_true rfl) rfl C dX4_init_25 ?_
  refine wc_aload_n 0 C dX4_init_28 rfl rfl ?_
  refine wc_bipush (v := 20) C dX4_init_29 rfl ?_
  refine wc_newJ (M := 20) sh_5 (fun _ => rfl) (by decide) (by rw [hmc]; decide) (by rw [hms]; decide) C dX4_init_31 ?_
  show Wc G E 1 hI 1 4 5 4 80 33 [(0, rv E 1)] [rv E 5, rv E 1] [rv E 2, rv E 3, rv E 4, .null, iv 0, iv 0] 4 [] hI
  refine wc_put (fs' := [rv E 2, rv E 3, rv E 4, rv E 5, iv 0, iv 0]) fcX4_21 (Nat.le_of_ble_eq_true rfl) rfl C dX4_init_33 ?_
  refine wc_aload_n 0 C dX4_init_36 rfl rfl ?_
  refine wc_iconst (v := 0) C dX4_init_37 rfl ?_
  refine wc_put (fs' := [rv E 2, rv E 3, rv E 4, rv E 5, iv 0, iv 0]) fcX4_24 (Nat.le_of_ble_eq_true rfl) rfl C dX4_init_38 ?_
  refine wc_aload_n 0 C dX4_init_41 rfl rfl ?_
  refine wc_bipush (v := 10) C dX4_init_42 rfl ?_
  refine wc_put (fs' := [rv E 2, rv E 3, rv E 4, rv E 5, iv 0, iv 10]) fcX4_28 (Nat.le_of_ble_eq_true rfl) rfl C dX4_init_44 ?_
  exact wc_ret rfl rfl (fun _ _ => rfl) (by rw [hmc]; decide) (by rw [hms]; decide) C dX4_init_47
set_option maxRecDepth 100000 in
set_option maxHeartbeats 4000000 in
theorem c_X8_init (E : En) : Cn 1 1 200 yX8_init cX8_init 1 E [] hI 6 8 2 [.null, iv 0] := by
  refine cn_intro (by decide) rfl (Nat.le_of_ble_eq_true rfl) hI (fun G hmc hms C => ?_)
  show Wc G E 1 hI 6 8 2 0 0 0 [(0, rv E 6)] [] [.null, iv 0] 0 [] hI
  refine wc_aload_n 0 C dX8_init_0 rfl rfl ?_
  refine wc_obj (mT (i := 80) (by decide +kernel) rfl) (mT (i := 29) (by decide +kernel) rfl) (mT (i := 30) (by decide +kernel) rfl) (by decide) C dX8_init_1 ?_
  refine wc_aload_n 0 C dX8_init_4 rfl rfl ?_
  refine wc_sipush (v := 200) C dX8_init_5 rfl ?_
  refine wc_newI (M := 200) sh_7 (fun _ => rfl) (by decide) (by rw [hmc]; decide) (by rw [hms]; decide) C dX8_init_8 ?_
  show Wc G E 1 hI 6 8 2 1 200 10 [(0, rv E 6)] [rv E 7, rv E 6] [.null, iv 0] 1 [] hI
  refine wc_put (fs' := [rv E 7, iv 0]) fcX8_9 (Nat.le_of_ble_eq_true rfl) rfl C dX8_init_10 ?_
  refine wc_aload_n 0 C dX8_init_13 rfl rfl ?_
  refine wc_iconst (v := 0) C dX8_init_14 rfl ?_
  refine wc_put (fs' := [rv E 7, iv 0]) fcX8_15 (Nat.le_of_ble_eq_true rfl) rfl C dX8_init_15 ?_
  exact wc_ret rfl rfl (fun _ _ => rfl) (by rw [hmc]; decide) (by rw [hms]; decide) C dX8_init_18
set_option maxRecDepth 100000 in
set_option maxHeartbeats 4000000 in
theorem c_X6_init (E : En) : Cn 1 12 60 yX6_init cX6_init 2 E [rv E 6] hI 8 6 13 [.null, .null, iv 0, .null, iv 0, iv 0, iv 0] := by
  refine cn_intro (by decide) rfl (Nat.le_of_ble_eq_true rfl) hI (fun G hmc hms C => ?_)
  show Wc G E 2 hI 8 6 13 0 0 0 [(0, rv E 8), (1, rv E 6)] [] [.null, .null, iv 0, .null, iv 0, iv 0, iv 0] 0 [] hI
  refine wc_aload_n 0 C dX6_init_0 rfl rfl ?_
  refine wc_obj (mT (i := 96) (by decide +kernel) rfl) (mT (i := 29) (by decide +kernel) rfl) (mT (i := 30) (by decide +kernel) rfl) (by decide) C dX6_init_1 ?_
  refine wc_aload_n 0 C dX6_init_4 rfl rfl ?_
  refine wc_bipush (v := 10) C dX6_init_5 rfl ?_
  refine wc_newI (M := 10) sh_9 (fun _ => rfl) (by decide) (by rw [hmc]; decide) (by rw [hms]; decide) C dX6_init_7 ?_
  show Wc G E 2 hI 8 6 13 1 10 9 [(0, rv E 8), (1, rv E 6)] [rv E 9, rv E 8] [.null, .null, iv 0, .null, iv 0, iv 0, iv 0] 1 [] hI
  refine wc_put (fs' := [rv E 9, .null, iv 0, .null, iv 0, iv 0, iv 0]) fcX6_9 (Nat.le_of_ble_eq_true rfl) rfl C dX6_init_9 ?_
  refine wc_aload_n 0 C dX6_init_12 rfl rfl ?_
  refine wc_bipush (v := 10) C dX6_init_13 rfl ?_
  refine wc_iconst (v := 4) C dX6_init_15 rfl ?_
  refine wc_mnJ (X := 10) (M := 4) sh_10 (fun j hj => shr_11 hj) (fun j k hj => hI_0 (by omega)) (by decide) (mT (i := 97) (by decide +kernel) rfl) (by rw [hmc]; decide) (by rw [hms]; decide) C dX6_init_16 ?_
  show Wc G E 2 hI 8 6 13 12 60 20 [(0, rv E 8), (1, rv E 6)] [rv E 10, rv E 8] [rv E 9, .null, iv 0, .null, iv 0, iv 0, iv 0] 12 [] hI
  refine wc_put (fs' := [rv E 9, rv E 10, iv 0, .null, iv 0, iv 0, iv 0]) fcX6_17 (Nat.le_of_ble_eq_true rfl) rfl C dX6_init_20 ?_
  refine wc_aload_n 0 C dX6_init_23 rfl rfl ?_
  refine wc_iconst (v := 0) C dX6_init_24 rfl ?_
  refine wc_put (fs' := [rv E 9, rv E 10, iv 0, .null, iv 0, iv 0, iv 0]) fcX6_20 (Nat.le_of_ble_eq_true rfl) rfl C dX6_init_25 ?_
  refine wc_aload_n 0 C dX6_init_28 rfl rfl ?_
  refine wc_iconst (v := 0) C dX6_init_29 rfl ?_
  refine wc_put (fs' := [rv E 9, rv E 10, iv 0, .null, iv 0, iv 0, iv 0]) fcX6_24 (Nat.le_of_ble_eq_true rfl) rfl C dX6_init_30 ?_
  refine wc_aload_n 0 C dX6_init_33 rfl rfl ?_
  refine wc_iconst (v := 0) C dX6_init_34 rfl ?_
  refine wc_put (fs' := [rv E 9, rv E 10, iv 0, .null, iv 0, iv 0, iv 0]) fcX6_27 (Nat.le_of_ble_eq_true rfl) rfl C dX6_init_35 ?_
  refine wc_aload_n 0 C dX6_init_38 rfl rfl ?_
  refine wc_iconst (v := 0) C dX6_init_39 rfl ?_
  refine wc_put (fs' := [rv E 9, rv E 10, iv 0, .null, iv 0, iv 0, iv 0]) fcX6_30 (Nat.le_of_ble_eq_true rfl) rfl C dX6_init_40 ?_
  refine wc_aload_n 0 C dX6_init_43 rfl rfl ?_
  refine wc_aload_n 1 C dX6_init_44 rfl rfl ?_
  refine wc_put (fs' := [rv E 9, rv E 10, iv 0, rv E 6, iv 0, iv 0, iv 0]) fcX6_33 (Nat.le_of_ble_eq_true rfl) rfl C dX6_init_45 ?_
  exact wc_ret rfl rfl (fun _ _ => rfl) (by rw [hmc]; decide) (by rw [hms]; decide) C dX6_init_48
theorem hX_X1 : ((upd2 (upd2 (hZ 26) 26 0 (-1)) 26 1 (-1)) : Hp) = hI := by
  funext a b
  unfold upd2 hZ
  by_cases q : a = 26
  · subst q
    by_cases hb : b < 9
    · have e : ∀ b : Fin 9, (fun b => (if b = 1 then ((-1) : Int) else (if b = 0 then ((-1) : Int) else (0 : Int)))) b.val = hI 26 b.val := by decide +kernel
      have := e ⟨b, hb⟩
      simpa using this
    · have e1 : hI 26 b = 0 := by unfold hI; rw [if_neg (by omega), if_neg (by omega), if_neg (by omega), if_neg (by omega), if_neg (by omega), if_neg (by omega), if_neg (by omega), if_neg (by omega)]
      rw [e1]
      repeat rw [if_neg (by omega)]
      rw [if_pos rfl]
  · simp [q]
set_option maxRecDepth 100000 in
set_option maxHeartbeats 4000000 in
theorem c_X1_init (E : En) : Cn 1 5 40 yX1_init cX1_init 1 E [] hI 21 1 6 [.null, iv 0, .null, .null] := by
  refine cn_intro (by decide) rfl (Nat.le_of_ble_eq_true rfl) (hZ 26) (fun G hmc hms C => ?_)
  show Wc G E 1 hI 21 1 6 0 0 0 [(0, rv E 21)] [] [.null, iv 0, .null, .null] 0 [] (hZ 26)
  refine wc_aload_n 0 C dX1_init_0 rfl rfl ?_
  refine wc_obj (mT (i := 129) (by decide +kernel) rfl) (mT (i := 29) (by decide +kernel) rfl) (mT (i := 30) (by decide +kernel) rfl) (by decide) C dX1_init_1 ?_
  refine wc_aload_n 0 C dX1_init_4 rfl rfl ?_
  refine wc_bipush (v := 12) C dX1_init_5 rfl ?_
  refine wc_newI (M := 12) sh_22 (fun _ => rfl) (by decide) (by rw [hmc]; decide) (by rw [hms]; decide) C dX1_init_7 ?_
  show Wc G E 1 hI 21 1 6 1 12 9 [(0, rv E 21)] [rv E 22, rv E 21] [.null, iv 0, .null, .null] 1 [] (hZ 26)
  refine wc_put (fs' := [rv E 22, iv 0, .null, .null]) fcX1_9 (Nat.le_of_ble_eq_true rfl) rfl C dX1_init_9 ?_
  refine wc_aload_n 0 C dX1_init_12 rfl rfl ?_
  refine wc_iconst (v := 0) C dX1_init_13 rfl ?_
  refine wc_put (fs' := [rv E 22, iv 0, .null, .null]) fcX1_15 (Nat.le_of_ble_eq_true rfl) rfl C dX1_init_14 ?_
  refine wc_aload_n 0 C dX1_init_17 rfl rfl ?_
  refine wc_iconst (v := 2) C dX1_init_18 rfl ?_
  refine wc_bipush (v := 12) C dX1_init_19 rfl ?_
  refine wc_mnI (X := 2) (M := 12) sh_23 (fun j hj => shr_24 hj) (fun j k hj => by show (if 24 + j = 26 then 0 else hI (24 + j) k) = 0; split; rfl; exact hI_0 (by omega)) (by decide) (mT (i := 130) (by decide +kernel) rfl) (by rw [hmc]; decide) (by rw [hms]; decide) C dX1_init_21 ?_
  show Wc G E 1 hI 21 1 6 4 38 25 [(0, rv E 21)] [rv E 23, rv E 21] [rv E 22, iv 0, .null, .null] 4 [] (hZ 26)
  refine wc_put (fs' := [rv E 22, iv 0, rv E 23, .null]) fcX1_21 (Nat.le_of_ble_eq_true rfl) rfl C dX1_init_25 ?_
  refine wc_aload_n 0 C dX1_init_28 rfl rfl ?_
  refine wc_iconst (v := 2) C dX1_init_29 rfl ?_
  refine wc_newI (M := 2) sh_26 (fun _ => rfl) (by decide) (by rw [hmc]; decide) (by rw [hms]; decide) C dX1_init_30 ?_
  show Wc G E 1 hI 21 1 6 5 40 32 [(0, rv E 21)] [rv E 26, rv E 21] [rv E 22, iv 0, rv E 23, .null] 5 [] (hZ 26)
  refine wc_dup rfl C dX1_init_32 ?_
  refine wc_iconst (v := 0) C dX1_init_33 rfl ?_
  refine wc_iconst (v := (-1)) C dX1_init_34 rfl ?_
  refine wc_iast (j := 4) (M := 2) (a := 0) (v := (-1)) (by decide) sh_26 (by decide) C dX1_init_35 ?_
  show Wc G E 1 hI 21 1 6 5 40 36 [(0, rv E 21)] [rv E 26, rv E 21] [rv E 22, iv 0, rv E 23, .null] 5 [] (upd2 (hZ 26) 26 0 (-1))
  refine wc_dup rfl C dX1_init_36 ?_
  refine wc_iconst (v := 1) C dX1_init_37 rfl ?_
  refine wc_iconst (v := (-1)) C dX1_init_38 rfl ?_
  refine wc_iast (j := 4) (M := 2) (a := 1) (v := (-1)) (by decide) sh_26 (by decide) C dX1_init_39 ?_
  show Wc G E 1 hI 21 1 6 5 40 40 [(0, rv E 21)] [rv E 26, rv E 21] [rv E 22, iv 0, rv E 23, .null] 5 [] (upd2 (upd2 (hZ 26) 26 0 (-1)) 26 1 (-1))
  refine wc_put (fs' := [rv E 22, iv 0, rv E 23, rv E 26]) fcX1_24 (Nat.le_of_ble_eq_true rfl) rfl C dX1_init_40 ?_
  exact wc_ret rfl rfl (fun j hj => by unfold cel objE fvE; rw [show ((upd2 (upd2 (hZ 26) 26 0 (-1)) 26 1 (-1)) : Hp) = hI from hX_X1]) (by rw [hmc]; decide) (by rw [hms]; decide) C dX1_init_43
set_option maxRecDepth 100000 in
set_option maxHeartbeats 4000000 in
theorem c_X3_init (E : En) : Cn 1 0 0 yX3_init cX3_init 3 E [rv E 1, rv E 27] hI 28 3 1 [.null, .null, iv 0, iv 0] := by
  refine cn_intro (by decide) rfl (Nat.le_of_ble_eq_true rfl) hI (fun G hmc hms C => ?_)
  show Wc G E 3 hI 28 3 1 0 0 0 [(0, rv E 28), (1, rv E 1), (2, rv E 27)] [] [.null, .null, iv 0, iv 0] 0 [] hI
  refine wc_aload_n 0 C dX3_init_0 rfl rfl ?_
  refine wc_obj (mT (i := 152) (by decide +kernel) rfl) (mT (i := 29) (by decide +kernel) rfl) (mT (i := 30) (by decide +kernel) rfl) (by decide) C dX3_init_1 ?_
  refine wc_aload_n 0 C dX3_init_4 rfl rfl ?_
  refine wc_iconst (v := 0) C dX3_init_5 rfl ?_
  refine wc_put (fs' := [.null, .null, iv 0, iv 0]) fcX3_9 (Nat.le_of_ble_eq_true rfl) rfl C dX3_init_6 ?_
  refine wc_aload_n 0 C dX3_init_9 rfl rfl ?_
  refine wc_iconst (v := 1) C dX3_init_10 rfl ?_
  refine wc_put (fs' := [.null, .null, iv 0, iv 1]) fcX3_15 (Nat.le_of_ble_eq_true rfl) rfl C dX3_init_11 ?_
  refine wc_aload_n 0 C dX3_init_14 rfl rfl ?_
  refine wc_aload_n 1 C dX3_init_15 rfl rfl ?_
  refine wc_put (fs' := [rv E 1, .null, iv 0, iv 1]) fcX3_18 (Nat.le_of_ble_eq_true rfl) rfl C dX3_init_16 ?_
  refine wc_aload_n 0 C dX3_init_19 rfl rfl ?_
  refine wc_aload_n 2 C dX3_init_20 rfl rfl ?_
  refine wc_put (fs' := [rv E 1, rv E 27, iv 0, iv 1]) fcX3_22 (Nat.le_of_ble_eq_true rfl) rfl C dX3_init_21 ?_
  exact wc_ret rfl rfl (fun _ _ => rfl) (by rw [hmc]; decide) (by rw [hms]; decide) C dX3_init_24
set_option maxRecDepth 100000 in
set_option maxHeartbeats 4000000 in
theorem c_X7_init (E : En) : Cn 1 22 231 yX7_init cX7_init 2 E [rv E 1] hI 29 7 23 [.null, .null] := by
  refine cn_intro (by decide) rfl (Nat.le_of_ble_eq_true rfl) hI (fun G hmc hms C => ?_)
  show Wc G E 2 hI 29 7 23 0 0 0 [(0, rv E 29), (1, rv E 1)] [] [.null, .null] 0 [] hI
  refine wc_aload_n 0 C dX7_init_0 rfl rfl ?_
  refine wc_obj (mT (i := 171) (by decide +kernel) rfl) (mT (i := 29) (by decide +kernel) rfl) (mT (i := 30) (by decide +kernel) rfl) (by decide) C dX7_init_1 ?_
  refine wc_aload_n 0 C dX7_init_4 rfl rfl ?_
  refine wc_bipush (v := 21) C dX7_init_5 rfl ?_
  refine wc_bipush (v := 10) C dX7_init_7 rfl ?_
  refine wc_mnI (X := 21) (M := 10) sh_30 (fun j hj => shr_31 hj) (fun j k hj => hI_0 (by omega)) (by decide) (mT (i := 172) (by decide +kernel) rfl) (by rw [hmc]; decide) (by rw [hms]; decide) C dX7_init_9 ?_
  show Wc G E 2 hI 29 7 23 22 231 13 [(0, rv E 29), (1, rv E 1)] [rv E 30, rv E 29] [.null, .null] 22 [] hI
  refine wc_put (fs' := [.null, rv E 30]) fcX7_11 (Nat.le_of_ble_eq_true rfl) rfl C dX7_init_13 ?_
  refine wc_aload_n 0 C dX7_init_16 rfl rfl ?_
  refine wc_aload_n 1 C dX7_init_17 rfl rfl ?_
  refine wc_put (fs' := [rv E 1, rv E 30]) fcX7_16 (Nat.le_of_ble_eq_true rfl) rfl C dX7_init_18 ?_
  exact wc_ret rfl rfl (fun _ _ => rfl) (by rw [hmc]; decide) (by rw [hms]; decide) C dX7_init_21
set_option maxRecDepth 100000 in
set_option maxHeartbeats 4000000 in
theorem c_X5_init (E : En) : Cn 1 44 462 yX5_init cX5_init 2 E [rv E 1] hI 52 5 45 [.null, .null, .null] := by
  refine cn_intro (by decide) rfl (Nat.le_of_ble_eq_true rfl) hI (fun G hmc hms C => ?_)
  show Wc G E 2 hI 52 5 45 0 0 0 [(0, rv E 52), (1, rv E 1)] [] [.null, .null, .null] 0 [] hI
  refine wc_aload_n 0 C dX5_init_0 rfl rfl ?_
  refine wc_obj (mT (i := 185) (by decide +kernel) rfl) (mT (i := 29) (by decide +kernel) rfl) (mT (i := 30) (by decide +kernel) rfl) (by decide) C dX5_init_1 ?_
  refine wc_aload_n 0 C dX5_init_4 rfl rfl ?_
  refine wc_bipush (v := 21) C dX5_init_5 rfl ?_
  refine wc_bipush (v := 10) C dX5_init_7 rfl ?_
  refine wc_mnI (X := 21) (M := 10) sh_53 (fun j hj => shr_54 hj) (fun j k hj => hI_0 (by omega)) (by decide) (mT (i := 186) (by decide +kernel) rfl) (by rw [hmc]; decide) (by rw [hms]; decide) C dX5_init_9 ?_
  show Wc G E 2 hI 52 5 45 22 231 13 [(0, rv E 52), (1, rv E 1)] [rv E 53, rv E 52] [.null, .null, .null] 22 [] hI
  refine wc_put (fs' := [.null, rv E 53, .null]) fcX5_11 (Nat.le_of_ble_eq_true rfl) rfl C dX5_init_13 ?_
  refine wc_aload_n 0 C dX5_init_16 rfl rfl ?_
  refine wc_bipush (v := 21) C dX5_init_17 rfl ?_
  refine wc_bipush (v := 10) C dX5_init_19 rfl ?_
  refine wc_mnJ (X := 21) (M := 10) sh_75 (fun j hj => shr_76 hj) (fun j k hj => hI_0 (by omega)) (by decide) (mT (i := 187) (by decide +kernel) rfl) (by rw [hmc]; decide) (by rw [hms]; decide) C dX5_init_21 ?_
  show Wc G E 2 hI 52 5 45 44 462 25 [(0, rv E 52), (1, rv E 1)] [rv E 75, rv E 52] [.null, rv E 53, .null] 44 [] hI
  refine wc_put (fs' := [.null, rv E 53, rv E 75]) fcX5_18 (Nat.le_of_ble_eq_true rfl) rfl C dX5_init_25 ?_
  refine wc_aload_n 0 C dX5_init_28 rfl rfl ?_
  refine wc_aload_n 1 C dX5_init_29 rfl rfl ?_
  refine wc_put (fs' := [rv E 1, rv E 53, rv E 75]) fcX5_21 (Nat.le_of_ble_eq_true rfl) rfl C dX5_init_30 ?_
  exact wc_ret rfl rfl (fun _ _ => rfl) (by rw [hmc]; decide) (by rw [hms]; decide) C dX5_init_33
set_option maxRecDepth 100000 in
set_option maxHeartbeats 4000000 in
theorem c_X10_init (E : En) : Cn 1 1 5 yX10_init cX10_init 1 E [] hI 97 10 2 [.null, iv 0, iv 0, iv 0, iv 0, iv 0] := by
  refine cn_intro (by decide) rfl (Nat.le_of_ble_eq_true rfl) hI (fun G hmc hms C => ?_)
  show Wc G E 1 hI 97 10 2 0 0 0 [(0, rv E 97)] [] [.null, iv 0, iv 0, iv 0, iv 0, iv 0] 0 [] hI
  refine wc_aload_n 0 C dX10_init_0 rfl rfl ?_
  refine wc_obj (mT (i := 203) (by decide +kernel) rfl) (mT (i := 29) (by decide +kernel) rfl) (mT (i := 30) (by decide +kernel) rfl) (by decide) C dX10_init_1 ?_
  refine wc_aload_n 0 C dX10_init_4 rfl rfl ?_
  refine wc_iconst (v := 5) C dX10_init_5 rfl ?_
  refine wc_newJ (M := 5) sh_98 (fun _ => rfl) (by decide) (by rw [hmc]; decide) (by rw [hms]; decide) C dX10_init_6 ?_
  show Wc G E 1 hI 97 10 2 1 5 8 [(0, rv E 97)] [rv E 98, rv E 97] [.null, iv 0, iv 0, iv 0, iv 0, iv 0] 1 [] hI
  refine wc_put (fs' := [rv E 98, iv 0, iv 0, iv 0, iv 0, iv 0]) fcX10_9 (Nat.le_of_ble_eq_true rfl) rfl C dX10_init_8 ?_
  refine wc_aload_n 0 C dX10_init_11 rfl rfl ?_
  refine wc_iconst (v := 2) C dX10_init_12 rfl ?_
  refine wc_put (fs' := [rv E 98, iv 2, iv 0, iv 0, iv 0, iv 0]) fcX10_15 (Nat.le_of_ble_eq_true rfl) rfl C dX10_init_13 ?_
  refine wc_aload_n 0 C dX10_init_16 rfl rfl ?_
  refine wc_iconst (v := 1) C dX10_init_17 rfl ?_
  refine wc_put (fs' := [rv E 98, iv 2, iv 1, iv 0, iv 0, iv 0]) fcX10_19 (Nat.le_of_ble_eq_true rfl) rfl C dX10_init_18 ?_
  refine wc_aload_n 0 C dX10_init_21 rfl rfl ?_
  refine wc_iconst (v := 0) C dX10_init_22 rfl ?_
  refine wc_put (fs' := [rv E 98, iv 2, iv 1, iv 0, iv 0, iv 0]) fcX10_22 (Nat.le_of_ble_eq_true rfl) rfl C dX10_init_23 ?_
  refine wc_aload_n 0 C dX10_init_26 rfl rfl ?_
  refine wc_iconst (v := 0) C dX10_init_27 rfl ?_
  refine wc_put (fs' := [rv E 98, iv 2, iv 1, iv 0, iv 0, iv 0]) fcX10_25 (Nat.le_of_ble_eq_true rfl) rfl C dX10_init_28 ?_
  refine wc_aload_n 0 C dX10_init_31 rfl rfl ?_
  refine wc_iconst (v := (-1)) C dX10_init_32 rfl ?_
  refine wc_put (fs' := [rv E 98, iv 2, iv 1, iv 0, iv 0, iv (-1)]) fcX10_28 (Nat.le_of_ble_eq_true rfl) rfl C dX10_init_33 ?_
  exact wc_ret rfl rfl (fun _ _ => rfl) (by rw [hmc]; decide) (by rw [hms]; decide) C dX10_init_36
theorem hX_X2 : ((upd2 (hZ 101) 101 0 1) : Hp) = hI := by
  funext a b
  unfold upd2 hZ
  by_cases q : a = 101
  · subst q
    by_cases hb : b < 9
    · have e : ∀ b : Fin 9, (fun b => (if b = 0 then (1 : Int) else (0 : Int))) b.val = hI 101 b.val := by decide +kernel
      have := e ⟨b, hb⟩
      simpa using this
    · have e1 : hI 101 b = 0 := by unfold hI; rw [if_neg (by omega), if_neg (by omega), if_neg (by omega), if_neg (by omega), if_neg (by omega), if_neg (by omega), if_neg (by omega), if_neg (by omega)]
      rw [e1]
      repeat rw [if_neg (by omega)]
      rw [if_pos rfl]
  · simp [q]
set_option maxRecDepth 100000 in
set_option maxHeartbeats 4000000 in
theorem c_X2_init (E : En) : Cn 1 23 241 yX2_init cX2_init 2 E [rv E 1] hI 99 2 24 [.null, .null, .null, iv 0] := by
  refine cn_intro (by decide) rfl (Nat.le_of_ble_eq_true rfl) (hZ 101) (fun G hmc hms C => ?_)
  show Wc G E 2 hI 99 2 24 0 0 0 [(0, rv E 99), (1, rv E 1)] [] [.null, .null, .null, iv 0] 0 [] (hZ 101)
  refine wc_aload_n 0 C dX2_init_0 rfl rfl ?_
  refine wc_obj (mT (i := 228) (by decide +kernel) rfl) (mT (i := 29) (by decide +kernel) rfl) (mT (i := 30) (by decide +kernel) rfl) (by decide) C dX2_init_1 ?_
  refine wc_aload_n 0 C dX2_init_4 rfl rfl ?_
  refine wc_bipush (v := 21) C dX2_init_5 rfl ?_
  refine wc_bipush (v := 10) C dX2_init_7 rfl ?_
  refine wc_mnI (X := 21) (M := 10) sh_100 (fun j hj => shr_101 hj) (fun j k hj => by show (if 101 + j = 101 then 0 else hI (101 + j) k) = 0; split; rfl; exact hI_0 (by omega)) (by decide) (mT (i := 229) (by decide +kernel) rfl) (by rw [hmc]; decide) (by rw [hms]; decide) C dX2_init_9 ?_
  show Wc G E 2 hI 99 2 24 22 231 13 [(0, rv E 99), (1, rv E 1)] [rv E 100, rv E 99] [.null, .null, .null, iv 0] 22 [] (hZ 101)
  refine wc_put (fs' := [.null, rv E 100, .null, iv 0]) fcX2_11 (Nat.le_of_ble_eq_true rfl) rfl C dX2_init_13 ?_
  refine wc_aload_n 0 C dX2_init_16 rfl rfl ?_
  refine wc_bipush (v := 10) C dX2_init_17 rfl ?_
  refine wc_newI (M := 10) sh_122 (fun _ => rfl) (by decide) (by rw [hmc]; decide) (by rw [hms]; decide) C dX2_init_19 ?_
  show Wc G E 2 hI 99 2 24 23 241 21 [(0, rv E 99), (1, rv E 1)] [rv E 122, rv E 99] [.null, rv E 100, .null, iv 0] 23 [] (hZ 101)
  refine wc_put (fs' := [.null, rv E 100, rv E 122, iv 0]) fcX2_16 (Nat.le_of_ble_eq_true rfl) rfl C dX2_init_21 ?_
  refine wc_aload_n 0 C dX2_init_24 rfl rfl ?_
  refine wc_iconst (v := 0) C dX2_init_25 rfl ?_
  refine wc_put (fs' := [.null, rv E 100, rv E 122, iv 0]) fcX2_20 (Nat.le_of_ble_eq_true rfl) rfl C dX2_init_26 ?_
  refine wc_aload_n 0 C dX2_init_29 rfl rfl ?_
  refine wc_aload_n 1 C dX2_init_30 rfl rfl ?_
  refine wc_put (fs' := [rv E 1, rv E 100, rv E 122, iv 0]) fcX2_24 (Nat.le_of_ble_eq_true rfl) rfl C dX2_init_31 ?_
  refine wc_aload_n 0 C dX2_init_34 rfl rfl ?_
  refine wc_get (v := rv E 100) flX2_11 rfl C dX2_init_35 ?_
  refine wc_iconst (v := 0) C dX2_init_38 rfl ?_
  refine wc_aald (j := 0) (A := 21) (b := 101) (a := 0) (by decide) sh_100 (by decide) C dX2_init_39 ?_
  show Wc G E 2 hI 99 2 24 23 241 40 [(0, rv E 99), (1, rv E 1)] [rv E 101] [rv E 1, rv E 100, rv E 122, iv 0] 23 [] (hZ 101)
  refine wc_iconst (v := 0) C dX2_init_40 rfl ?_
  refine wc_iconst (v := 1) C dX2_init_41 rfl ?_
  refine wc_iast (j := 1) (M := 10) (a := 0) (v := 1) (by decide) sh_101 (by decide) C dX2_init_42 ?_
  show Wc G E 2 hI 99 2 24 23 241 43 [(0, rv E 99), (1, rv E 1)] [] [rv E 1, rv E 100, rv E 122, iv 0] 23 [] (upd2 (hZ 101) 101 0 1)
  exact wc_ret rfl rfl (fun j hj => by unfold cel objE fvE; rw [show ((upd2 (hZ 101) 101 0 1) : Hp) = hI from hX_X2]) (by rw [hmc]; decide) (by rw [hms]; decide) C dX2_init_43
set_option maxRecDepth 100000 in
set_option maxHeartbeats 4000000 in
theorem c_X0_init (E : En) : Cn 1 1 12 yX0_init cX0_init 3 E [rv E 1, rv E 27] hI 123 0 2 [.null, .null, .null] := by
  refine cn_intro (by decide) rfl (Nat.le_of_ble_eq_true rfl) hI (fun G hmc hms C => ?_)
  show Wc G E 3 hI 123 0 2 0 0 0 [(0, rv E 123), (1, rv E 1), (2, rv E 27)] [] [.null, .null, .null] 0 [] hI
  refine wc_aload_n 0 C dX0_init_0 rfl rfl ?_
  refine wc_obj (mT (i := 248) (by decide +kernel) rfl) (mT (i := 29) (by decide +kernel) rfl) (mT (i := 30) (by decide +kernel) rfl) (by decide) C dX0_init_1 ?_
  refine wc_aload_n 0 C dX0_init_4 rfl rfl ?_
  refine wc_bipush (v := 12) C dX0_init_5 rfl ?_
  refine wc_newI (M := 12) sh_124 (fun _ => rfl) (by decide) (by rw [hmc]; decide) (by rw [hms]; decide) C dX0_init_7 ?_
  show Wc G E 3 hI 123 0 2 1 12 9 [(0, rv E 123), (1, rv E 1), (2, rv E 27)] [rv E 124, rv E 123] [.null, .null, .null] 1 [] hI
  refine wc_put (fs' := [.null, .null, rv E 124]) fcX0_9 (Nat.le_of_ble_eq_true rfl) rfl C dX0_init_9 ?_
  refine wc_aload_n 0 C dX0_init_12 rfl rfl ?_
  refine wc_aload_n 1 C dX0_init_13 rfl rfl ?_
  refine wc_put (fs' := [rv E 1, .null, rv E 124]) fcX0_15 (Nat.le_of_ble_eq_true rfl) rfl C dX0_init_14 ?_
  refine wc_aload_n 0 C dX0_init_17 rfl rfl ?_
  refine wc_aload_n 2 C dX0_init_18 rfl rfl ?_
  refine wc_put (fs' := [rv E 1, rv E 27, rv E 124]) fcX0_19 (Nat.le_of_ble_eq_true rfl) rfl C dX0_init_19 ?_
  exact wc_ret rfl rfl (fun _ _ => rfl) (by rw [hmc]; decide) (by rw [hms]; decide) C dX0_init_22
set_option maxRecDepth 100000 in
set_option maxHeartbeats 4000000 in
theorem c_X9_init (E : En) : Cn 1 2 512 yX9_init cX9_init 3 E [rv E 1, rv E 27] hI 125 9 3 [.null, .null, .null, .null] := by
  refine cn_intro (by decide) rfl (Nat.le_of_ble_eq_true rfl) hI (fun G hmc hms C => ?_)
  show Wc G E 3 hI 125 9 3 0 0 0 [(0, rv E 125), (1, rv E 1), (2, rv E 27)] [] [.null, .null, .null, .null] 0 [] hI
  refine wc_aload_n 0 C dX9_init_0 rfl rfl ?_
  refine wc_obj (mT (i := 264) (by decide +kernel) rfl) (mT (i := 29) (by decide +kernel) rfl) (mT (i := 30) (by decide +kernel) rfl) (by decide) C dX9_init_1 ?_
  refine wc_aload_n 0 C dX9_init_4 rfl rfl ?_
  refine wc_sipush (v := 256) C dX9_init_5 rfl ?_
  refine wc_newZ (M := 256) sh_126 (fun _ => rfl) (by decide) (by rw [hmc]; decide) (by rw [hms]; decide) C dX9_init_8 ?_
  show Wc G E 3 hI 125 9 3 1 256 10 [(0, rv E 125), (1, rv E 1), (2, rv E 27)] [rv E 126, rv E 125] [.null, .null, .null, .null] 1 [] hI
  refine wc_put (fs' := [.null, rv E 126, .null, .null]) fcX9_9 (Nat.le_of_ble_eq_true rfl) rfl C dX9_init_10 ?_
  refine wc_aload_n 0 C dX9_init_13 rfl rfl ?_
  refine wc_sipush (v := 256) C dX9_init_14 rfl ?_
  refine wc_newI (M := 256) sh_127 (fun _ => rfl) (by decide) (by rw [hmc]; decide) (by rw [hms]; decide) C dX9_init_17 ?_
  show Wc G E 3 hI 125 9 3 2 512 19 [(0, rv E 125), (1, rv E 1), (2, rv E 27)] [rv E 127, rv E 125] [.null, rv E 126, .null, .null] 2 [] hI
  refine wc_put (fs' := [.null, rv E 126, rv E 127, .null]) fcX9_15 (Nat.le_of_ble_eq_true rfl) rfl C dX9_init_19 ?_
  refine wc_aload_n 0 C dX9_init_22 rfl rfl ?_
  refine wc_aload_n 1 C dX9_init_23 rfl rfl ?_
  refine wc_put (fs' := [rv E 1, rv E 126, rv E 127, .null]) fcX9_19 (Nat.le_of_ble_eq_true rfl) rfl C dX9_init_24 ?_
  refine wc_aload_n 0 C dX9_init_27 rfl rfl ?_
  refine wc_aload_n 2 C dX9_init_28 rfl rfl ?_
  refine wc_put (fs' := [rv E 1, rv E 126, rv E 127, rv E 27]) fcX9_23 (Nat.le_of_ble_eq_true rfl) rfl C dX9_init_29 ?_
  exact wc_ret rfl rfl (fun _ _ => rfl) (by rw [hmc]; decide) (by rw [hms]; decide) C dX9_init_32
set_option maxRecDepth 100000 in
set_option maxHeartbeats 4000000 in
theorem c_X11_init (E : En) : Cn 2 127 8449 yX11_init cX11_init 2 E [] hI 0 11 128 [.null, .null, .null, .null, .null, .null, .null, .null, .null, .null, .null] := by
  refine cn_intro (by decide) rfl (Nat.le_of_ble_eq_true rfl) hI (fun G hmc hms C => ?_)
  show Wc G E 2 hI 0 11 128 0 0 0 [(0, rv E 0)] [] [.null, .null, .null, .null, .null, .null, .null, .null, .null, .null, .null] 0 [] hI
  refine wc_aload_n 0 C dX11_init_0 rfl rfl ?_
  refine wc_obj (mT (i := 28) (by decide +kernel) rfl) (mT (i := 29) (by decide +kernel) rfl) (mT (i := 30) (by decide +kernel) rfl) (by decide) C dX11_init_1 ?_
  refine wc_aload_n 0 C dX11_init_4 rfl rfl ?_
  refine wc_new (cj := 4) (f0 := [.null, .null, .null, .null, iv 0, iv 0]) (ty0 := tyX4) rfl inWX4 tyWX4 (mT (i := 31) (by decide +kernel) rfl) (mT (i := 32) (by decide +kernel) rfl) (mT (i := 2) (by decide +kernel) rfl) (by decide) (by rw [hmc]; decide) (by rw [hms]; decide) C dX11_init_5 ?_
  show Wc G E 2 hI 0 11 128 1 6 8 [(0, rv E 0)] [rv E 1, rv E 0] [.null, .null, .null, .null, .null, .null, .null, .null, .null, .null, .null] 0 [(E.1 1, .inr (4, [.null, .null, .null, .null, iv 0, iv 0]))] hI
  refine wc_dup rfl C dX11_init_8 ?_
  refine wc_call (as := []) (rest := [rv E 1, rv E 0]) (c_X4_init E) (by decide) siX11_9 (by decide) rfl rfl (Nat.le_of_ble_eq_true rfl) (by rw [hmc]; decide) (by rw [hms]; decide) C dX11_init_9 ?_
  show Wc G E 2 hI 0 11 128 5 86 12 [(0, rv E 0)] [rv E 1, rv E 0] [.null, .null, .null, .null, .null, .null, .null, .null, .null, .null, .null] 5 [] hI
  refine wc_put (fs' := [rv E 1, .null, .null, .null, .null, .null, .null, .null, .null, .null, .null]) fcX11_10 (Nat.le_of_ble_eq_true rfl) rfl C dX11_init_12 ?_
  refine wc_aload_n 0 C dX11_init_15 rfl rfl ?_
  refine wc_new (cj := 8) (f0 := [.null, iv 0]) (ty0 := tyX8) rfl inWX8 tyWX8 (mT (i := 75) (by decide +kernel) rfl) (mT (i := 76) (by decide +kernel) rfl) (mT (i := 3) (by decide +kernel) rfl) (by decide) (by rw [hmc]; decide) (by rw [hms]; decide) C dX11_init_16 ?_
  show Wc G E 2 hI 0 11 128 6 88 19 [(0, rv E 0)] [rv E 6, rv E 0] [rv E 1, .null, .null, .null, .null, .null, .null, .null, .null, .null, .null] 5 [(E.1 6, .inr (8, [.null, iv 0]))] hI
  refine wc_dup rfl C dX11_init_19 ?_
  refine wc_call (as := []) (rest := [rv E 6, rv E 0]) (c_X8_init E) (by decide) siX11_18 (by decide) rfl rfl (Nat.le_of_ble_eq_true rfl) (by rw [hmc]; decide) (by rw [hms]; decide) C dX11_init_20 ?_
  show Wc G E 2 hI 0 11 128 7 288 23 [(0, rv E 0)] [rv E 6, rv E 0] [rv E 1, .null, .null, .null, .null, .null, .null, .null, .null, .null, .null] 7 [] hI
  refine wc_put (fs' := [rv E 1, rv E 6, .null, .null, .null, .null, .null, .null, .null, .null, .null]) fcX11_19 (Nat.le_of_ble_eq_true rfl) rfl C dX11_init_23 ?_
  refine wc_aload_n 0 C dX11_init_26 rfl rfl ?_
  refine wc_new (cj := 6) (f0 := [.null, .null, iv 0, .null, iv 0, iv 0, iv 0]) (ty0 := tyX6) rfl inWX6 tyWX6 (mT (i := 91) (by decide +kernel) rfl) (mT (i := 92) (by decide +kernel) rfl) (mT (i := 4) (by decide +kernel) rfl) (by decide) (by rw [hmc]; decide) (by rw [hms]; decide) C dX11_init_27 ?_
  show Wc G E 2 hI 0 11 128 8 295 30 [(0, rv E 0)] [rv E 8, rv E 0] [rv E 1, rv E 6, .null, .null, .null, .null, .null, .null, .null, .null, .null] 7 [(E.1 8, .inr (6, [.null, .null, iv 0, .null, iv 0, iv 0, iv 0]))] hI
  refine wc_dup rfl C dX11_init_30 ?_
  refine wc_aload_n 0 C dX11_init_31 rfl rfl ?_
  refine wc_get (v := rv E 6) flX11_19 rfl C dX11_init_32 ?_
  refine wc_call (as := [rv E 6]) (rest := [rv E 8, rv E 0]) (c_X6_init E) (by decide) siX11_25 (by decide) rfl rfl (Nat.le_of_ble_eq_true rfl) (by rw [hmc]; decide) (by rw [hms]; decide) C dX11_init_35 ?_
  show Wc G E 2 hI 0 11 128 20 355 38 [(0, rv E 0)] [rv E 8, rv E 0] [rv E 1, rv E 6, .null, .null, .null, .null, .null, .null, .null, .null, .null] 20 [] hI
  refine wc_put (fs' := [rv E 1, rv E 6, rv E 8, .null, .null, .null, .null, .null, .null, .null, .null]) fcX11_28 (Nat.le_of_ble_eq_true rfl) rfl C dX11_init_38 ?_
  refine wc_aload_n 0 C dX11_init_41 rfl rfl ?_
  refine wc_new (cj := 1) (f0 := [.null, iv 0, .null, .null]) (ty0 := tyX1) rfl inWX1 tyWX1 (mT (i := 124) (by decide +kernel) rfl) (mT (i := 125) (by decide +kernel) rfl) (mT (i := 5) (by decide +kernel) rfl) (by decide) (by rw [hmc]; decide) (by rw [hms]; decide) C dX11_init_42 ?_
  show Wc G E 2 hI 0 11 128 21 359 45 [(0, rv E 0)] [rv E 21, rv E 0] [rv E 1, rv E 6, rv E 8, .null, .null, .null, .null, .null, .null, .null, .null] 20 [(E.1 21, .inr (1, [.null, iv 0, .null, .null]))] hI
  refine wc_dup rfl C dX11_init_45 ?_
  refine wc_call (as := []) (rest := [rv E 21, rv E 0]) (c_X1_init E) (by decide) siX11_34 (by decide) rfl rfl (Nat.le_of_ble_eq_true rfl) (by rw [hmc]; decide) (by rw [hms]; decide) C dX11_init_46 ?_
  show Wc G E 2 hI 0 11 128 26 399 49 [(0, rv E 0)] [rv E 21, rv E 0] [rv E 1, rv E 6, rv E 8, .null, .null, .null, .null, .null, .null, .null, .null] 26 [] hI
  refine wc_put (fs' := [rv E 1, rv E 6, rv E 8, rv E 21, .null, .null, .null, .null, .null, .null, .null]) fcX11_35 (Nat.le_of_ble_eq_true rfl) rfl C dX11_init_49 ?_
  refine wc_sipush (v := 6561) C dX11_init_52 rfl ?_
  refine wc_newI (M := 6561) sh_27 (fun _ => rfl) (by decide) (by rw [hmc]; decide) (by rw [hms]; decide) C dX11_init_55 ?_
  show Wc G E 2 hI 0 11 128 27 6960 57 [(0, rv E 0)] [rv E 27] [rv E 1, rv E 6, rv E 8, rv E 21, .null, .null, .null, .null, .null, .null, .null] 27 [] hI
  refine wc_astore_n (ls' := [(0, rv E 0), (1, rv E 27)]) [1, 0] C dX11_init_57 rfl (by decide) rfl ?_
  refine wc_aload_n 0 C dX11_init_58 rfl rfl ?_
  refine wc_new (cj := 3) (f0 := [.null, .null, iv 0, iv 0]) (ty0 := tyX3) rfl inWX3 tyWX3 (mT (i := 147) (by decide +kernel) rfl) (mT (i := 148) (by decide +kernel) rfl) (mT (i := 6) (by decide +kernel) rfl) (by decide) (by rw [hmc]; decide) (by rw [hms]; decide) C dX11_init_59 ?_
  show Wc G E 2 hI 0 11 128 28 6964 62 [(0, rv E 0), (1, rv E 27)] [rv E 28, rv E 0] [rv E 1, rv E 6, rv E 8, rv E 21, .null, .null, .null, .null, .null, .null, .null] 27 [(E.1 28, .inr (3, [.null, .null, iv 0, iv 0]))] hI
  refine wc_dup rfl C dX11_init_62 ?_
  refine wc_aload_n 0 C dX11_init_63 rfl rfl ?_
  refine wc_get (v := rv E 1) flX11_10 rfl C dX11_init_64 ?_
  refine wc_aload_n 1 C dX11_init_67 rfl rfl ?_
  refine wc_call (as := [rv E 1, rv E 27]) (rest := [rv E 28, rv E 0]) (c_X3_init E) (by decide) siX11_41 (by decide) rfl rfl (Nat.le_of_ble_eq_true rfl) (by rw [hmc]; decide) (by rw [hms]; decide) C dX11_init_68 ?_
  show Wc G E 2 hI 0 11 128 28 6964 71 [(0, rv E 0), (1, rv E 27)] [rv E 28, rv E 0] [rv E 1, rv E 6, rv E 8, rv E 21, .null, .null, .null, .null, .null, .null, .null] 28 [] hI
  refine wc_put (fs' := [rv E 1, rv E 6, rv E 8, rv E 21, rv E 28, .null, .null, .null, .null, .null, .null]) fcX11_44 (Nat.le_of_ble_eq_true rfl) rfl C dX11_init_71 ?_
  refine wc_aload_n 0 C dX11_init_74 rfl rfl ?_
  refine wc_new (cj := 7) (f0 := [.null, .null]) (ty0 := tyX7) rfl inWX7 tyWX7 (mT (i := 166) (by decide +kernel) rfl) (mT (i := 167) (by decide +kernel) rfl) (mT (i := 7) (by decide +kernel) rfl) (by decide) (by rw [hmc]; decide) (by rw [hms]; decide) C dX11_init_75 ?_
  show Wc G E 2 hI 0 11 128 29 6966 78 [(0, rv E 0), (1, rv E 27)] [rv E 29, rv E 0] [rv E 1, rv E 6, rv E 8, rv E 21, rv E 28, .null, .null, .null, .null, .null, .null] 28 [(E.1 29, .inr (7, [.null, .null]))] hI
  refine wc_dup rfl C dX11_init_78 ?_
  refine wc_aload_n 0 C dX11_init_79 rfl rfl ?_
  refine wc_get (v := rv E 1) flX11_10 rfl C dX11_init_80 ?_
  refine wc_call (as := [rv E 1]) (rest := [rv E 29, rv E 0]) (c_X7_init E) (by decide) siX11_50 (by decide) rfl rfl (Nat.le_of_ble_eq_true rfl) (by rw [hmc]; decide) (by rw [hms]; decide) C dX11_init_83 ?_
  show Wc G E 2 hI 0 11 128 51 7197 86 [(0, rv E 0), (1, rv E 27)] [rv E 29, rv E 0] [rv E 1, rv E 6, rv E 8, rv E 21, rv E 28, .null, .null, .null, .null, .null, .null] 51 [] hI
  refine wc_put (fs' := [rv E 1, rv E 6, rv E 8, rv E 21, rv E 28, rv E 29, .null, .null, .null, .null, .null]) fcX11_53 (Nat.le_of_ble_eq_true rfl) rfl C dX11_init_86 ?_
  refine wc_aload_n 0 C dX11_init_89 rfl rfl ?_
  refine wc_new (cj := 5) (f0 := [.null, .null, .null]) (ty0 := tyX5) rfl inWX5 tyWX5 (mT (i := 180) (by decide +kernel) rfl) (mT (i := 181) (by decide +kernel) rfl) (mT (i := 8) (by decide +kernel) rfl) (by decide) (by rw [hmc]; decide) (by rw [hms]; decide) C dX11_init_90 ?_
  show Wc G E 2 hI 0 11 128 52 7200 93 [(0, rv E 0), (1, rv E 27)] [rv E 52, rv E 0] [rv E 1, rv E 6, rv E 8, rv E 21, rv E 28, rv E 29, .null, .null, .null, .null, .null] 51 [(E.1 52, .inr (5, [.null, .null, .null]))] hI
  refine wc_dup rfl C dX11_init_93 ?_
  refine wc_aload_n 0 C dX11_init_94 rfl rfl ?_
  refine wc_get (v := rv E 1) flX11_10 rfl C dX11_init_95 ?_
  refine wc_call (as := [rv E 1]) (rest := [rv E 52, rv E 0]) (c_X5_init E) (by decide) siX11_59 (by decide) rfl rfl (Nat.le_of_ble_eq_true rfl) (by rw [hmc]; decide) (by rw [hms]; decide) C dX11_init_98 ?_
  show Wc G E 2 hI 0 11 128 96 7662 101 [(0, rv E 0), (1, rv E 27)] [rv E 52, rv E 0] [rv E 1, rv E 6, rv E 8, rv E 21, rv E 28, rv E 29, .null, .null, .null, .null, .null] 96 [] hI
  refine wc_put (fs' := [rv E 1, rv E 6, rv E 8, rv E 21, rv E 28, rv E 29, rv E 52, .null, .null, .null, .null]) fcX11_60 (Nat.le_of_ble_eq_true rfl) rfl C dX11_init_101 ?_
  refine wc_aload_n 0 C dX11_init_104 rfl rfl ?_
  refine wc_new (cj := 10) (f0 := [.null, iv 0, iv 0, iv 0, iv 0, iv 0]) (ty0 := tyX10) rfl inWX10 tyWX10 (mT (i := 198) (by decide +kernel) rfl) (mT (i := 199) (by decide +kernel) rfl) (mT (i := 9) (by decide +kernel) rfl) (by decide) (by rw [hmc]; decide) (by rw [hms]; decide) C dX11_init_105 ?_
  show Wc G E 2 hI 0 11 128 97 7668 108 [(0, rv E 0), (1, rv E 27)] [rv E 97, rv E 0] [rv E 1, rv E 6, rv E 8, rv E 21, rv E 28, rv E 29, rv E 52, .null, .null, .null, .null] 96 [(E.1 97, .inr (10, [.null, iv 0, iv 0, iv 0, iv 0, iv 0]))] hI
  refine wc_dup rfl C dX11_init_108 ?_
  refine wc_call (as := []) (rest := [rv E 97, rv E 0]) (c_X10_init E) (by decide) siX11_66 (by decide) rfl rfl (Nat.le_of_ble_eq_true rfl) (by rw [hmc]; decide) (by rw [hms]; decide) C dX11_init_109 ?_
  show Wc G E 2 hI 0 11 128 98 7673 112 [(0, rv E 0), (1, rv E 27)] [rv E 97, rv E 0] [rv E 1, rv E 6, rv E 8, rv E 21, rv E 28, rv E 29, rv E 52, .null, .null, .null, .null] 98 [] hI
  refine wc_put (fs' := [rv E 1, rv E 6, rv E 8, rv E 21, rv E 28, rv E 29, rv E 52, rv E 97, .null, .null, .null]) fcX11_67 (Nat.le_of_ble_eq_true rfl) rfl C dX11_init_112 ?_
  refine wc_aload_n 0 C dX11_init_115 rfl rfl ?_
  refine wc_new (cj := 2) (f0 := [.null, .null, .null, iv 0]) (ty0 := tyX2) rfl inWX2 tyWX2 (mT (i := 223) (by decide +kernel) rfl) (mT (i := 224) (by decide +kernel) rfl) (mT (i := 10) (by decide +kernel) rfl) (by decide) (by rw [hmc]; decide) (by rw [hms]; decide) C dX11_init_116 ?_
  show Wc G E 2 hI 0 11 128 99 7677 119 [(0, rv E 0), (1, rv E 27)] [rv E 99, rv E 0] [rv E 1, rv E 6, rv E 8, rv E 21, rv E 28, rv E 29, rv E 52, rv E 97, .null, .null, .null] 98 [(E.1 99, .inr (2, [.null, .null, .null, iv 0]))] hI
  refine wc_dup rfl C dX11_init_119 ?_
  refine wc_aload_n 0 C dX11_init_120 rfl rfl ?_
  refine wc_get (v := rv E 1) flX11_10 rfl C dX11_init_121 ?_
  refine wc_call (as := [rv E 1]) (rest := [rv E 99, rv E 0]) (c_X2_init E) (by decide) siX11_73 (by decide) rfl rfl (Nat.le_of_ble_eq_true rfl) (by rw [hmc]; decide) (by rw [hms]; decide) C dX11_init_124 ?_
  show Wc G E 2 hI 0 11 128 122 7918 127 [(0, rv E 0), (1, rv E 27)] [rv E 99, rv E 0] [rv E 1, rv E 6, rv E 8, rv E 21, rv E 28, rv E 29, rv E 52, rv E 97, .null, .null, .null] 122 [] hI
  refine wc_put (fs' := [rv E 1, rv E 6, rv E 8, rv E 21, rv E 28, rv E 29, rv E 52, rv E 97, rv E 99, .null, .null]) fcX11_74 (Nat.le_of_ble_eq_true rfl) rfl C dX11_init_127 ?_
  refine wc_aload_n 0 C dX11_init_130 rfl rfl ?_
  refine wc_new (cj := 0) (f0 := [.null, .null, .null]) (ty0 := tyX0) rfl inWX0 tyWX0 (mT (i := 243) (by decide +kernel) rfl) (mT (i := 244) (by decide +kernel) rfl) (mT (i := 11) (by decide +kernel) rfl) (by decide) (by rw [hmc]; decide) (by rw [hms]; decide) C dX11_init_131 ?_
  show Wc G E 2 hI 0 11 128 123 7921 134 [(0, rv E 0), (1, rv E 27)] [rv E 123, rv E 0] [rv E 1, rv E 6, rv E 8, rv E 21, rv E 28, rv E 29, rv E 52, rv E 97, rv E 99, .null, .null] 122 [(E.1 123, .inr (0, [.null, .null, .null]))] hI
  refine wc_dup rfl C dX11_init_134 ?_
  refine wc_aload_n 0 C dX11_init_135 rfl rfl ?_
  refine wc_get (v := rv E 1) flX11_10 rfl C dX11_init_136 ?_
  refine wc_aload_n 1 C dX11_init_139 rfl rfl ?_
  refine wc_call (as := [rv E 1, rv E 27]) (rest := [rv E 123, rv E 0]) (c_X0_init E) (by decide) siX11_80 (by decide) rfl rfl (Nat.le_of_ble_eq_true rfl) (by rw [hmc]; decide) (by rw [hms]; decide) C dX11_init_140 ?_
  show Wc G E 2 hI 0 11 128 124 7933 143 [(0, rv E 0), (1, rv E 27)] [rv E 123, rv E 0] [rv E 1, rv E 6, rv E 8, rv E 21, rv E 28, rv E 29, rv E 52, rv E 97, rv E 99, .null, .null] 124 [] hI
  refine wc_put (fs' := [rv E 1, rv E 6, rv E 8, rv E 21, rv E 28, rv E 29, rv E 52, rv E 97, rv E 99, rv E 123, .null]) fcX11_81 (Nat.le_of_ble_eq_true rfl) rfl C dX11_init_143 ?_
  refine wc_aload_n 0 C dX11_init_146 rfl rfl ?_
  refine wc_new (cj := 9) (f0 := [.null, .null, .null, .null]) (ty0 := tyX9) rfl inWX9 tyWX9 (mT (i := 259) (by decide +kernel) rfl) (mT (i := 260) (by decide +kernel) rfl) (mT (i := 12) (by decide +kernel) rfl) (by decide) (by rw [hmc]; decide) (by rw [hms]; decide) C dX11_init_147 ?_
  show Wc G E 2 hI 0 11 128 125 7937 150 [(0, rv E 0), (1, rv E 27)] [rv E 125, rv E 0] [rv E 1, rv E 6, rv E 8, rv E 21, rv E 28, rv E 29, rv E 52, rv E 97, rv E 99, rv E 123, .null] 124 [(E.1 125, .inr (9, [.null, .null, .null, .null]))] hI
  refine wc_dup rfl C dX11_init_150 ?_
  refine wc_aload_n 0 C dX11_init_151 rfl rfl ?_
  refine wc_get (v := rv E 1) flX11_10 rfl C dX11_init_152 ?_
  refine wc_aload_n 1 C dX11_init_155 rfl rfl ?_
  refine wc_call (as := [rv E 1, rv E 27]) (rest := [rv E 125, rv E 0]) (c_X9_init E) (by decide) siX11_87 (by decide) rfl rfl (Nat.le_of_ble_eq_true rfl) (by rw [hmc]; decide) (by rw [hms]; decide) C dX11_init_156 ?_
  show Wc G E 2 hI 0 11 128 127 8449 159 [(0, rv E 0), (1, rv E 27)] [rv E 125, rv E 0] [rv E 1, rv E 6, rv E 8, rv E 21, rv E 28, rv E 29, rv E 52, rv E 97, rv E 99, rv E 123, .null] 127 [] hI
  refine wc_put (fs' := [rv E 1, rv E 6, rv E 8, rv E 21, rv E 28, rv E 29, rv E 52, rv E 97, rv E 99, rv E 123, rv E 125]) fcX11_88 (Nat.le_of_ble_eq_true rfl) rfl C dX11_init_159 ?_
  exact wc_ret rfl rfl (fun _ _ => rfl) (by rw [hmc]; decide) (by rw [hms]; decide) C dX11_init_162
theorem hX_X12 : ((upd2 (upd2 (upd2 (upd2 (upd2 (upd2 (upd2 (upd2 (upd2 (hZ 131) 131 0 0) 131 1 10) 131 2 0) 131 3 0) 131 4 0) 131 5 0) 131 6 0) 131 7 0) 131 8 0) : Hp) = hI := by
  funext a b
  unfold upd2 hZ
  by_cases q : a = 131
  · subst q
    by_cases hb : b < 9
    · have e : ∀ b : Fin 9, (fun b => (if b = 8 then (0 : Int) else (if b = 7 then (0 : Int) else (if b = 6 then (0 : Int) else (if b = 5 then (0 : Int) else (if b = 4 then (0 : Int) else (if b = 3 then (0 : Int) else (if b = 2 then (0 : Int) else (if b = 1 then (10 : Int) else (if b = 0 then (0 : Int) else (0 : Int))))))))))) b.val = hI 131 b.val := by decide +kernel
      have := e ⟨b, hb⟩
      simpa using this
    · have e1 : hI 131 b = 0 := by unfold hI; rw [if_neg (by omega), if_neg (by omega), if_neg (by omega), if_neg (by omega), if_neg (by omega), if_neg (by omega), if_neg (by omega), if_neg (by omega)]
      rw [e1]
      repeat rw [if_neg (by omega)]
      rw [if_pos rfl]
  · simp [q]
set_option maxRecDepth 100000 in
set_option maxHeartbeats 4000000 in
theorem c_X12_init (E : En) : Cn 1 18 112806 yX12_init cX12_init 1 E [] hI 128 12 19 [.null, .null, .null, .null, .null, .null, iv 0, .null, .null, iv 0, iv 0, iv 0, iv 0, iv 0, .null, .null, .null, .null, .null, .null, .null, .null, .null, .null] := by
  refine cn_intro (by decide) rfl (Nat.le_of_ble_eq_true rfl) (hZ 131) (fun G hmc hms C => ?_)
  show Wc G E 1 hI 128 12 19 0 0 0 [(0, rv E 128)] [] [.null, .null, .null, .null, .null, .null, iv 0, .null, .null, iv 0, iv 0, iv 0, iv 0, iv 0, .null, .null, .null, .null, .null, .null, .null, .null, .null, .null] 0 [] (hZ 131)
  refine wc_aload_n 0 C dX12_init_0 rfl rfl ?_
  refine wc_obj (mT (i := 886) (by decide +kernel) rfl) (mT (i := 29) (by decide +kernel) rfl) (mT (i := 30) (by decide +kernel) rfl) (by decide) C dX12_init_1 ?_
  refine wc_aload_n 0 C dX12_init_4 rfl rfl ?_
  refine wc_bipush (v := 60) C dX12_init_5 rfl ?_
  refine wc_newJ (M := 60) sh_129 (fun _ => rfl) (by decide) (by rw [hmc]; decide) (by rw [hms]; decide) C dX12_init_7 ?_
  show Wc G E 1 hI 128 12 19 1 60 9 [(0, rv E 128)] [rv E 129, rv E 128] [.null, .null, .null, .null, .null, .null, iv 0, .null, .null, iv 0, iv 0, iv 0, iv 0, iv 0, .null, .null, .null, .null, .null, .null, .null, .null, .null, .null] 1 [] (hZ 131)
  refine wc_put (fs' := [rv E 129, .null, .null, .null, .null, .null, iv 0, .null, .null, iv 0, iv 0, iv 0, iv 0, iv 0, .null, .null, .null, .null, .null, .null, .null, .null, .null, .null]) fcX12_7 (Nat.le_of_ble_eq_true rfl) rfl C dX12_init_9 ?_
  refine wc_aload_n 0 C dX12_init_12 rfl rfl ?_
  refine wc_sipush (v := 180) C dX12_init_13 rfl ?_
  refine wc_newI (M := 180) sh_130 (fun _ => rfl) (by decide) (by rw [hmc]; decide) (by rw [hms]; decide) C dX12_init_16 ?_
  show Wc G E 1 hI 128 12 19 2 240 18 [(0, rv E 128)] [rv E 130, rv E 128] [rv E 129, .null, .null, .null, .null, .null, iv 0, .null, .null, iv 0, iv 0, iv 0, iv 0, iv 0, .null, .null, .null, .null, .null, .null, .null, .null, .null, .null] 2 [] (hZ 131)
  refine wc_put (fs' := [rv E 129, rv E 130, .null, .null, .null, .null, iv 0, .null, .null, iv 0, iv 0, iv 0, iv 0, iv 0, .null, .null, .null, .null, .null, .null, .null, .null, .null, .null]) fcX12_13 (Nat.le_of_ble_eq_true rfl) rfl C dX12_init_18 ?_
  refine wc_aload_n 0 C dX12_init_21 rfl rfl ?_
  refine wc_bipush (v := 9) C dX12_init_22 rfl ?_
  refine wc_newI (M := 9) sh_131 (fun _ => rfl) (by decide) (by rw [hmc]; decide) (by rw [hms]; decide) C dX12_init_24 ?_
  show Wc G E 1 hI 128 12 19 3 249 26 [(0, rv E 128)] [rv E 131, rv E 128] [rv E 129, rv E 130, .null, .null, .null, .null, iv 0, .null, .null, iv 0, iv 0, iv 0, iv 0, iv 0, .null, .null, .null, .null, .null, .null, .null, .null, .null, .null] 3 [] (hZ 131)
  refine wc_dup rfl C dX12_init_26 ?_
  refine wc_iconst (v := 0) C dX12_init_27 rfl ?_
  refine wc_iconst (v := 0) C dX12_init_28 rfl ?_
  refine wc_iast (j := 2) (M := 9) (a := 0) (v := 0) (by decide) sh_131 (by decide) C dX12_init_29 ?_
  show Wc G E 1 hI 128 12 19 3 249 30 [(0, rv E 128)] [rv E 131, rv E 128] [rv E 129, rv E 130, .null, .null, .null, .null, iv 0, .null, .null, iv 0, iv 0, iv 0, iv 0, iv 0, .null, .null, .null, .null, .null, .null, .null, .null, .null, .null] 3 [] (upd2 (hZ 131) 131 0 0)
  refine wc_dup rfl C dX12_init_30 ?_
  refine wc_iconst (v := 1) C dX12_init_31 rfl ?_
  refine wc_bipush (v := 10) C dX12_init_32 rfl ?_
  refine wc_iast (j := 2) (M := 9) (a := 1) (v := 10) (by decide) sh_131 (by decide) C dX12_init_34 ?_
  show Wc G E 1 hI 128 12 19 3 249 35 [(0, rv E 128)] [rv E 131, rv E 128] [rv E 129, rv E 130, .null, .null, .null, .null, iv 0, .null, .null, iv 0, iv 0, iv 0, iv 0, iv 0, .null, .null, .null, .null, .null, .null, .null, .null, .null, .null] 3 [] (upd2 (upd2 (hZ 131) 131 0 0) 131 1 10)
  refine wc_dup rfl C dX12_init_35 ?_
  refine wc_iconst (v := 2) C dX12_init_36 rfl ?_
  refine wc_iconst (v := 0) C dX12_init_37 rfl ?_
  refine wc_iast (j := 2) (M := 9) (a := 2) (v := 0) (by decide) sh_131 (by decide) C dX12_init_38 ?_
  show Wc G E 1 hI 128 12 19 3 249 39 [(0, rv E 128)] [rv E 131, rv E 128] [rv E 129, rv E 130, .null, .null, .null, .null, iv 0, .null, .null, iv 0, iv 0, iv 0, iv 0, iv 0, .null, .null, .null, .null, .null, .null, .null, .null, .null, .null] 3 [] (upd2 (upd2 (upd2 (hZ 131) 131 0 0) 131 1 10) 131 2 0)
  refine wc_dup rfl C dX12_init_39 ?_
  refine wc_iconst (v := 3) C dX12_init_40 rfl ?_
  refine wc_iconst (v := 0) C dX12_init_41 rfl ?_
  refine wc_iast (j := 2) (M := 9) (a := 3) (v := 0) (by decide) sh_131 (by decide) C dX12_init_42 ?_
  show Wc G E 1 hI 128 12 19 3 249 43 [(0, rv E 128)] [rv E 131, rv E 128] [rv E 129, rv E 130, .null, .null, .null, .null, iv 0, .null, .null, iv 0, iv 0, iv 0, iv 0, iv 0, .null, .null, .null, .null, .null, .null, .null, .null, .null, .null] 3 [] (upd2 (upd2 (upd2 (upd2 (hZ 131) 131 0 0) 131 1 10) 131 2 0) 131 3 0)
  refine wc_dup rfl C dX12_init_43 ?_
  refine wc_iconst (v := 4) C dX12_init_44 rfl ?_
  refine wc_iconst (v := 0) C dX12_init_45 rfl ?_
  refine wc_iast (j := 2) (M := 9) (a := 4) (v := 0) (by decide) sh_131 (by decide) C dX12_init_46 ?_
  show Wc G E 1 hI 128 12 19 3 249 47 [(0, rv E 128)] [rv E 131, rv E 128] [rv E 129, rv E 130, .null, .null, .null, .null, iv 0, .null, .null, iv 0, iv 0, iv 0, iv 0, iv 0, .null, .null, .null, .null, .null, .null, .null, .null, .null, .null] 3 [] (upd2 (upd2 (upd2 (upd2 (upd2 (hZ 131) 131 0 0) 131 1 10) 131 2 0) 131 3 0) 131 4 0)
  refine wc_dup rfl C dX12_init_47 ?_
  refine wc_iconst (v := 5) C dX12_init_48 rfl ?_
  refine wc_iconst (v := 0) C dX12_init_49 rfl ?_
  refine wc_iast (j := 2) (M := 9) (a := 5) (v := 0) (by decide) sh_131 (by decide) C dX12_init_50 ?_
  show Wc G E 1 hI 128 12 19 3 249 51 [(0, rv E 128)] [rv E 131, rv E 128] [rv E 129, rv E 130, .null, .null, .null, .null, iv 0, .null, .null, iv 0, iv 0, iv 0, iv 0, iv 0, .null, .null, .null, .null, .null, .null, .null, .null, .null, .null] 3 [] (upd2 (upd2 (upd2 (upd2 (upd2 (upd2 (hZ 131) 131 0 0) 131 1 10) 131 2 0) 131 3 0) 131 4 0) 131 5 0)
  refine wc_dup rfl C dX12_init_51 ?_
  refine wc_bipush (v := 6) C dX12_init_52 rfl ?_
  refine wc_iconst (v := 0) C dX12_init_54 rfl ?_
  refine wc_iast (j := 2) (M := 9) (a := 6) (v := 0) (by decide) sh_131 (by decide) C dX12_init_55 ?_
  show Wc G E 1 hI 128 12 19 3 249 56 [(0, rv E 128)] [rv E 131, rv E 128] [rv E 129, rv E 130, .null, .null, .null, .null, iv 0, .null, .null, iv 0, iv 0, iv 0, iv 0, iv 0, .null, .null, .null, .null, .null, .null, .null, .null, .null, .null] 3 [] (upd2 (upd2 (upd2 (upd2 (upd2 (upd2 (upd2 (hZ 131) 131 0 0) 131 1 10) 131 2 0) 131 3 0) 131 4 0) 131 5 0) 131 6 0)
  refine wc_dup rfl C dX12_init_56 ?_
  refine wc_bipush (v := 7) C dX12_init_57 rfl ?_
  refine wc_iconst (v := 0) C dX12_init_59 rfl ?_
  refine wc_iast (j := 2) (M := 9) (a := 7) (v := 0) (by decide) sh_131 (by decide) C dX12_init_60 ?_
  show Wc G E 1 hI 128 12 19 3 249 61 [(0, rv E 128)] [rv E 131, rv E 128] [rv E 129, rv E 130, .null, .null, .null, .null, iv 0, .null, .null, iv 0, iv 0, iv 0, iv 0, iv 0, .null, .null, .null, .null, .null, .null, .null, .null, .null, .null] 3 [] (upd2 (upd2 (upd2 (upd2 (upd2 (upd2 (upd2 (upd2 (hZ 131) 131 0 0) 131 1 10) 131 2 0) 131 3 0) 131 4 0) 131 5 0) 131 6 0) 131 7 0)
  refine wc_dup rfl C dX12_init_61 ?_
  refine wc_bipush (v := 8) C dX12_init_62 rfl ?_
  refine wc_iconst (v := 0) C dX12_init_64 rfl ?_
  refine wc_iast (j := 2) (M := 9) (a := 8) (v := 0) (by decide) sh_131 (by decide) C dX12_init_65 ?_
  show Wc G E 1 hI 128 12 19 3 249 66 [(0, rv E 128)] [rv E 131, rv E 128] [rv E 129, rv E 130, .null, .null, .null, .null, iv 0, .null, .null, iv 0, iv 0, iv 0, iv 0, iv 0, .null, .null, .null, .null, .null, .null, .null, .null, .null, .null] 3 [] (upd2 (upd2 (upd2 (upd2 (upd2 (upd2 (upd2 (upd2 (upd2 (hZ 131) 131 0 0) 131 1 10) 131 2 0) 131 3 0) 131 4 0) 131 5 0) 131 6 0) 131 7 0) 131 8 0)
  refine wc_put (fs' := [rv E 129, rv E 130, rv E 131, .null, .null, .null, iv 0, .null, .null, iv 0, iv 0, iv 0, iv 0, iv 0, .null, .null, .null, .null, .null, .null, .null, .null, .null, .null]) fcX12_17 (Nat.le_of_ble_eq_true rfl) rfl C dX12_init_66 ?_
  refine wc_aload_n 0 C dX12_init_69 rfl rfl ?_
  refine wc_bipush (v := 36) C dX12_init_70 rfl ?_
  refine wc_newI (M := 36) sh_132 (fun _ => rfl) (by decide) (by rw [hmc]; decide) (by rw [hms]; decide) C dX12_init_72 ?_
  show Wc G E 1 hI 128 12 19 4 285 74 [(0, rv E 128)] [rv E 132, rv E 128] [rv E 129, rv E 130, rv E 131, .null, .null, .null, iv 0, .null, .null, iv 0, iv 0, iv 0, iv 0, iv 0, .null, .null, .null, .null, .null, .null, .null, .null, .null, .null] 4 [] (upd2 (upd2 (upd2 (upd2 (upd2 (upd2 (upd2 (upd2 (upd2 (hZ 131) 131 0 0) 131 1 10) 131 2 0) 131 3 0) 131 4 0) 131 5 0) 131 6 0) 131 7 0) 131 8 0)
  refine wc_put (fs' := [rv E 129, rv E 130, rv E 131, rv E 132, .null, .null, iv 0, .null, .null, iv 0, iv 0, iv 0, iv 0, iv 0, .null, .null, .null, .null, .null, .null, .null, .null, .null, .null]) fcX12_20 (Nat.le_of_ble_eq_true rfl) rfl C dX12_init_74 ?_
  refine wc_aload_n 0 C dX12_init_77 rfl rfl ?_
  refine wc_iconst (v := 2) C dX12_init_78 rfl ?_
  refine wc_newZ (M := 2) sh_133 (fun _ => rfl) (by decide) (by rw [hmc]; decide) (by rw [hms]; decide) C dX12_init_79 ?_
  show Wc G E 1 hI 128 12 19 5 287 81 [(0, rv E 128)] [rv E 133, rv E 128] [rv E 129, rv E 130, rv E 131, rv E 132, .null, .null, iv 0, .null, .null, iv 0, iv 0, iv 0, iv 0, iv 0, .null, .null, .null, .null, .null, .null, .null, .null, .null, .null] 5 [] (upd2 (upd2 (upd2 (upd2 (upd2 (upd2 (upd2 (upd2 (upd2 (hZ 131) 131 0 0) 131 1 10) 131 2 0) 131 3 0) 131 4 0) 131 5 0) 131 6 0) 131 7 0) 131 8 0)
  refine wc_put (fs' := [rv E 129, rv E 130, rv E 131, rv E 132, rv E 133, .null, iv 0, .null, .null, iv 0, iv 0, iv 0, iv 0, iv 0, .null, .null, .null, .null, .null, .null, .null, .null, .null, .null]) fcX12_23 (Nat.le_of_ble_eq_true rfl) rfl C dX12_init_81 ?_
  refine wc_aload_n 0 C dX12_init_84 rfl rfl ?_
  refine wc_sipush (v := 200) C dX12_init_85 rfl ?_
  refine wc_newI (M := 200) sh_134 (fun _ => rfl) (by decide) (by rw [hmc]; decide) (by rw [hms]; decide) C dX12_init_88 ?_
  show Wc G E 1 hI 128 12 19 6 487 90 [(0, rv E 128)] [rv E 134, rv E 128] [rv E 129, rv E 130, rv E 131, rv E 132, rv E 133, .null, iv 0, .null, .null, iv 0, iv 0, iv 0, iv 0, iv 0, .null, .null, .null, .null, .null, .null, .null, .null, .null, .null] 6 [] (upd2 (upd2 (upd2 (upd2 (upd2 (upd2 (upd2 (upd2 (upd2 (hZ 131) 131 0 0) 131 1 10) 131 2 0) 131 3 0) 131 4 0) 131 5 0) 131 6 0) 131 7 0) 131 8 0)
  refine wc_put (fs' := [rv E 129, rv E 130, rv E 131, rv E 132, rv E 133, rv E 134, iv 0, .null, .null, iv 0, iv 0, iv 0, iv 0, iv 0, .null, .null, .null, .null, .null, .null, .null, .null, .null, .null]) fcX12_27 (Nat.le_of_ble_eq_true rfl) rfl C dX12_init_90 ?_
  refine wc_aload_n 0 C dX12_init_93 rfl rfl ?_
  refine wc_bipush (v := 50) C dX12_init_94 rfl ?_
  refine wc_newI (M := 50) sh_135 (fun _ => rfl) (by decide) (by rw [hmc]; decide) (by rw [hms]; decide) C dX12_init_96 ?_
  show Wc G E 1 hI 128 12 19 7 537 98 [(0, rv E 128)] [rv E 135, rv E 128] [rv E 129, rv E 130, rv E 131, rv E 132, rv E 133, rv E 134, iv 0, .null, .null, iv 0, iv 0, iv 0, iv 0, iv 0, .null, .null, .null, .null, .null, .null, .null, .null, .null, .null] 7 [] (upd2 (upd2 (upd2 (upd2 (upd2 (upd2 (upd2 (upd2 (upd2 (hZ 131) 131 0 0) 131 1 10) 131 2 0) 131 3 0) 131 4 0) 131 5 0) 131 6 0) 131 7 0) 131 8 0)
  refine wc_put (fs' := [rv E 129, rv E 130, rv E 131, rv E 132, rv E 133, rv E 134, iv 0, rv E 135, .null, iv 0, iv 0, iv 0, iv 0, iv 0, .null, .null, .null, .null, .null, .null, .null, .null, .null, .null]) fcX12_30 (Nat.le_of_ble_eq_true rfl) rfl C dX12_init_98 ?_
  refine wc_aload_n 0 C dX12_init_101 rfl rfl ?_
  refine wc_bipush (v := 10) C dX12_init_102 rfl ?_
  refine wc_newJ (M := 10) sh_136 (fun _ => rfl) (by decide) (by rw [hmc]; decide) (by rw [hms]; decide) C dX12_init_104 ?_
  show Wc G E 1 hI 128 12 19 8 547 106 [(0, rv E 128)] [rv E 136, rv E 128] [rv E 129, rv E 130, rv E 131, rv E 132, rv E 133, rv E 134, iv 0, rv E 135, .null, iv 0, iv 0, iv 0, iv 0, iv 0, .null, .null, .null, .null, .null, .null, .null, .null, .null, .null] 8 [] (upd2 (upd2 (upd2 (upd2 (upd2 (upd2 (upd2 (upd2 (upd2 (hZ 131) 131 0 0) 131 1 10) 131 2 0) 131 3 0) 131 4 0) 131 5 0) 131 6 0) 131 7 0) 131 8 0)
  refine wc_put (fs' := [rv E 129, rv E 130, rv E 131, rv E 132, rv E 133, rv E 134, iv 0, rv E 135, rv E 136, iv 0, iv 0, iv 0, iv 0, iv 0, .null, .null, .null, .null, .null, .null, .null, .null, .null, .null]) fcX12_33 (Nat.le_of_ble_eq_true rfl) rfl C dX12_init_106 ?_
  refine wc_aload_n 0 C dX12_init_109 rfl rfl ?_
  refine wc_ldc (v := 88200) C (mT (i := 887) (by decide +kernel) rfl) dX12_init_110 ?_
  refine wc_newZ (M := 88200) sh_137 (fun _ => rfl) (by decide) (by rw [hmc]; decide) (by rw [hms]; decide) C dX12_init_112 ?_
  show Wc G E 1 hI 128 12 19 9 88747 114 [(0, rv E 128)] [rv E 137, rv E 128] [rv E 129, rv E 130, rv E 131, rv E 132, rv E 133, rv E 134, iv 0, rv E 135, rv E 136, iv 0, iv 0, iv 0, iv 0, iv 0, .null, .null, .null, .null, .null, .null, .null, .null, .null, .null] 9 [] (upd2 (upd2 (upd2 (upd2 (upd2 (upd2 (upd2 (upd2 (upd2 (hZ 131) 131 0 0) 131 1 10) 131 2 0) 131 3 0) 131 4 0) 131 5 0) 131 6 0) 131 7 0) 131 8 0)
  refine wc_put (fs' := [rv E 129, rv E 130, rv E 131, rv E 132, rv E 133, rv E 134, iv 0, rv E 135, rv E 136, iv 0, iv 0, iv 0, iv 0, iv 0, rv E 137, .null, .null, .null, .null, .null, .null, .null, .null, .null]) fcX12_37 (Nat.le_of_ble_eq_true rfl) rfl C dX12_init_114 ?_
  refine wc_aload_n 0 C dX12_init_117 rfl rfl ?_
  refine wc_sipush (v := 4410) C dX12_init_118 rfl ?_
  refine wc_newI (M := 4410) sh_138 (fun _ => rfl) (by decide) (by rw [hmc]; decide) (by rw [hms]; decide) C dX12_init_121 ?_
  show Wc G E 1 hI 128 12 19 10 93157 123 [(0, rv E 128)] [rv E 138, rv E 128] [rv E 129, rv E 130, rv E 131, rv E 132, rv E 133, rv E 134, iv 0, rv E 135, rv E 136, iv 0, iv 0, iv 0, iv 0, iv 0, rv E 137, .null, .null, .null, .null, .null, .null, .null, .null, .null] 10 [] (upd2 (upd2 (upd2 (upd2 (upd2 (upd2 (upd2 (upd2 (upd2 (hZ 131) 131 0 0) 131 1 10) 131 2 0) 131 3 0) 131 4 0) 131 5 0) 131 6 0) 131 7 0) 131 8 0)
  refine wc_put (fs' := [rv E 129, rv E 130, rv E 131, rv E 132, rv E 133, rv E 134, iv 0, rv E 135, rv E 136, iv 0, iv 0, iv 0, iv 0, iv 0, rv E 137, rv E 138, .null, .null, .null, .null, .null, .null, .null, .null]) fcX12_40 (Nat.le_of_ble_eq_true rfl) rfl C dX12_init_123 ?_
  refine wc_aload_n 0 C dX12_init_126 rfl rfl ?_
  refine wc_sipush (v := 4410) C dX12_init_127 rfl ?_
  refine wc_newJ (M := 4410) sh_139 (fun _ => rfl) (by decide) (by rw [hmc]; decide) (by rw [hms]; decide) C dX12_init_130 ?_
  show Wc G E 1 hI 128 12 19 11 97567 132 [(0, rv E 128)] [rv E 139, rv E 128] [rv E 129, rv E 130, rv E 131, rv E 132, rv E 133, rv E 134, iv 0, rv E 135, rv E 136, iv 0, iv 0, iv 0, iv 0, iv 0, rv E 137, rv E 138, .null, .null, .null, .null, .null, .null, .null, .null] 11 [] (upd2 (upd2 (upd2 (upd2 (upd2 (upd2 (upd2 (upd2 (upd2 (hZ 131) 131 0 0) 131 1 10) 131 2 0) 131 3 0) 131 4 0) 131 5 0) 131 6 0) 131 7 0) 131 8 0)
  refine wc_put (fs' := [rv E 129, rv E 130, rv E 131, rv E 132, rv E 133, rv E 134, iv 0, rv E 135, rv E 136, iv 0, iv 0, iv 0, iv 0, iv 0, rv E 137, rv E 138, rv E 139, .null, .null, .null, .null, .null, .null, .null]) fcX12_43 (Nat.le_of_ble_eq_true rfl) rfl C dX12_init_132 ?_
  refine wc_aload_n 0 C dX12_init_135 rfl rfl ?_
  refine wc_bipush (v := 10) C dX12_init_136 rfl ?_
  refine wc_newI (M := 10) sh_140 (fun _ => rfl) (by decide) (by rw [hmc]; decide) (by rw [hms]; decide) C dX12_init_138 ?_
  show Wc G E 1 hI 128 12 19 12 97577 140 [(0, rv E 128)] [rv E 140, rv E 128] [rv E 129, rv E 130, rv E 131, rv E 132, rv E 133, rv E 134, iv 0, rv E 135, rv E 136, iv 0, iv 0, iv 0, iv 0, iv 0, rv E 137, rv E 138, rv E 139, .null, .null, .null, .null, .null, .null, .null] 12 [] (upd2 (upd2 (upd2 (upd2 (upd2 (upd2 (upd2 (upd2 (upd2 (hZ 131) 131 0 0) 131 1 10) 131 2 0) 131 3 0) 131 4 0) 131 5 0) 131 6 0) 131 7 0) 131 8 0)
  refine wc_put (fs' := [rv E 129, rv E 130, rv E 131, rv E 132, rv E 133, rv E 134, iv 0, rv E 135, rv E 136, iv 0, iv 0, iv 0, iv 0, iv 0, rv E 137, rv E 138, rv E 139, rv E 140, .null, .null, .null, .null, .null, .null]) fcX12_46 (Nat.le_of_ble_eq_true rfl) rfl C dX12_init_140 ?_
  refine wc_aload_n 0 C dX12_init_143 rfl rfl ?_
  refine wc_sipush (v := 210) C dX12_init_144 rfl ?_
  refine wc_newZ (M := 210) sh_141 (fun _ => rfl) (by decide) (by rw [hmc]; decide) (by rw [hms]; decide) C dX12_init_147 ?_
  show Wc G E 1 hI 128 12 19 13 97787 149 [(0, rv E 128)] [rv E 141, rv E 128] [rv E 129, rv E 130, rv E 131, rv E 132, rv E 133, rv E 134, iv 0, rv E 135, rv E 136, iv 0, iv 0, iv 0, iv 0, iv 0, rv E 137, rv E 138, rv E 139, rv E 140, .null, .null, .null, .null, .null, .null] 13 [] (upd2 (upd2 (upd2 (upd2 (upd2 (upd2 (upd2 (upd2 (upd2 (hZ 131) 131 0 0) 131 1 10) 131 2 0) 131 3 0) 131 4 0) 131 5 0) 131 6 0) 131 7 0) 131 8 0)
  refine wc_put (fs' := [rv E 129, rv E 130, rv E 131, rv E 132, rv E 133, rv E 134, iv 0, rv E 135, rv E 136, iv 0, iv 0, iv 0, iv 0, iv 0, rv E 137, rv E 138, rv E 139, rv E 140, rv E 141, .null, .null, .null, .null, .null]) fcX12_49 (Nat.le_of_ble_eq_true rfl) rfl C dX12_init_149 ?_
  refine wc_aload_n 0 C dX12_init_152 rfl rfl ?_
  refine wc_bipush (v := 10) C dX12_init_153 rfl ?_
  refine wc_newI (M := 10) sh_142 (fun _ => rfl) (by decide) (by rw [hmc]; decide) (by rw [hms]; decide) C dX12_init_155 ?_
  show Wc G E 1 hI 128 12 19 14 97797 157 [(0, rv E 128)] [rv E 142, rv E 128] [rv E 129, rv E 130, rv E 131, rv E 132, rv E 133, rv E 134, iv 0, rv E 135, rv E 136, iv 0, iv 0, iv 0, iv 0, iv 0, rv E 137, rv E 138, rv E 139, rv E 140, rv E 141, .null, .null, .null, .null, .null] 14 [] (upd2 (upd2 (upd2 (upd2 (upd2 (upd2 (upd2 (upd2 (upd2 (hZ 131) 131 0 0) 131 1 10) 131 2 0) 131 3 0) 131 4 0) 131 5 0) 131 6 0) 131 7 0) 131 8 0)
  refine wc_put (fs' := [rv E 129, rv E 130, rv E 131, rv E 132, rv E 133, rv E 134, iv 0, rv E 135, rv E 136, iv 0, iv 0, iv 0, iv 0, iv 0, rv E 137, rv E 138, rv E 139, rv E 140, rv E 141, rv E 142, .null, .null, .null, .null]) fcX12_52 (Nat.le_of_ble_eq_true rfl) rfl C dX12_init_157 ?_
  refine wc_aload_n 0 C dX12_init_160 rfl rfl ?_
  refine wc_sipush (v := 4096) C dX12_init_161 rfl ?_
  refine wc_newI (M := 4096) sh_143 (fun _ => rfl) (by decide) (by rw [hmc]; decide) (by rw [hms]; decide) C dX12_init_164 ?_
  show Wc G E 1 hI 128 12 19 15 101893 166 [(0, rv E 128)] [rv E 143, rv E 128] [rv E 129, rv E 130, rv E 131, rv E 132, rv E 133, rv E 134, iv 0, rv E 135, rv E 136, iv 0, iv 0, iv 0, iv 0, iv 0, rv E 137, rv E 138, rv E 139, rv E 140, rv E 141, rv E 142, .null, .null, .null, .null] 15 [] (upd2 (upd2 (upd2 (upd2 (upd2 (upd2 (upd2 (upd2 (upd2 (hZ 131) 131 0 0) 131 1 10) 131 2 0) 131 3 0) 131 4 0) 131 5 0) 131 6 0) 131 7 0) 131 8 0)
  refine wc_put (fs' := [rv E 129, rv E 130, rv E 131, rv E 132, rv E 133, rv E 134, iv 0, rv E 135, rv E 136, iv 0, iv 0, iv 0, iv 0, iv 0, rv E 137, rv E 138, rv E 139, rv E 140, rv E 141, rv E 142, rv E 143, .null, .null, .null]) fcX12_55 (Nat.le_of_ble_eq_true rfl) rfl C dX12_init_166 ?_
  refine wc_aload_n 0 C dX12_init_169 rfl rfl ?_
  refine wc_sipush (v := 4096) C dX12_init_170 rfl ?_
  refine wc_newZ (M := 4096) sh_144 (fun _ => rfl) (by decide) (by rw [hmc]; decide) (by rw [hms]; decide) C dX12_init_173 ?_
  show Wc G E 1 hI 128 12 19 16 105989 175 [(0, rv E 128)] [rv E 144, rv E 128] [rv E 129, rv E 130, rv E 131, rv E 132, rv E 133, rv E 134, iv 0, rv E 135, rv E 136, iv 0, iv 0, iv 0, iv 0, iv 0, rv E 137, rv E 138, rv E 139, rv E 140, rv E 141, rv E 142, rv E 143, .null, .null, .null] 16 [] (upd2 (upd2 (upd2 (upd2 (upd2 (upd2 (upd2 (upd2 (upd2 (hZ 131) 131 0 0) 131 1 10) 131 2 0) 131 3 0) 131 4 0) 131 5 0) 131 6 0) 131 7 0) 131 8 0)
  refine wc_put (fs' := [rv E 129, rv E 130, rv E 131, rv E 132, rv E 133, rv E 134, iv 0, rv E 135, rv E 136, iv 0, iv 0, iv 0, iv 0, iv 0, rv E 137, rv E 138, rv E 139, rv E 140, rv E 141, rv E 142, rv E 143, rv E 144, .null, .null]) fcX12_58 (Nat.le_of_ble_eq_true rfl) rfl C dX12_init_175 ?_
  refine wc_aload_n 0 C dX12_init_178 rfl rfl ?_
  refine wc_sipush (v := 6561) C dX12_init_179 rfl ?_
  refine wc_newI (M := 6561) sh_145 (fun _ => rfl) (by decide) (by rw [hmc]; decide) (by rw [hms]; decide) C dX12_init_182 ?_
  show Wc G E 1 hI 128 12 19 17 112550 184 [(0, rv E 128)] [rv E 145, rv E 128] [rv E 129, rv E 130, rv E 131, rv E 132, rv E 133, rv E 134, iv 0, rv E 135, rv E 136, iv 0, iv 0, iv 0, iv 0, iv 0, rv E 137, rv E 138, rv E 139, rv E 140, rv E 141, rv E 142, rv E 143, rv E 144, .null, .null] 17 [] (upd2 (upd2 (upd2 (upd2 (upd2 (upd2 (upd2 (upd2 (upd2 (hZ 131) 131 0 0) 131 1 10) 131 2 0) 131 3 0) 131 4 0) 131 5 0) 131 6 0) 131 7 0) 131 8 0)
  refine wc_put (fs' := [rv E 129, rv E 130, rv E 131, rv E 132, rv E 133, rv E 134, iv 0, rv E 135, rv E 136, iv 0, iv 0, iv 0, iv 0, iv 0, rv E 137, rv E 138, rv E 139, rv E 140, rv E 141, rv E 142, rv E 143, rv E 144, rv E 145, .null]) fcX12_61 (Nat.le_of_ble_eq_true rfl) rfl C dX12_init_184 ?_
  refine wc_aload_n 0 C dX12_init_187 rfl rfl ?_
  refine wc_sipush (v := 256) C dX12_init_188 rfl ?_
  refine wc_newZ (M := 256) sh_146 (fun _ => rfl) (by decide) (by rw [hmc]; decide) (by rw [hms]; decide) C dX12_init_191 ?_
  show Wc G E 1 hI 128 12 19 18 112806 193 [(0, rv E 128)] [rv E 146, rv E 128] [rv E 129, rv E 130, rv E 131, rv E 132, rv E 133, rv E 134, iv 0, rv E 135, rv E 136, iv 0, iv 0, iv 0, iv 0, iv 0, rv E 137, rv E 138, rv E 139, rv E 140, rv E 141, rv E 142, rv E 143, rv E 144, rv E 145, .null] 18 [] (upd2 (upd2 (upd2 (upd2 (upd2 (upd2 (upd2 (upd2 (upd2 (hZ 131) 131 0 0) 131 1 10) 131 2 0) 131 3 0) 131 4 0) 131 5 0) 131 6 0) 131 7 0) 131 8 0)
  refine wc_put (fs' := [rv E 129, rv E 130, rv E 131, rv E 132, rv E 133, rv E 134, iv 0, rv E 135, rv E 136, iv 0, iv 0, iv 0, iv 0, iv 0, rv E 137, rv E 138, rv E 139, rv E 140, rv E 141, rv E 142, rv E 143, rv E 144, rv E 145, rv E 146]) fcX12_64 (Nat.le_of_ble_eq_true rfl) rfl C dX12_init_193 ?_
  exact wc_ret rfl rfl (fun j hj => by unfold cel objE fvE; rw [show ((upd2 (upd2 (upd2 (upd2 (upd2 (upd2 (upd2 (upd2 (upd2 (hZ 131) 131 0 0) 131 1 10) 131 2 0) 131 3 0) 131 4 0) 131 5 0) 131 6 0) 131 7 0) 131 8 0) : Hp) = hI from hX_X12]) (by rw [hmc]; decide) (by rw [hms]; decide) C dX12_init_196

/-! ===== a case of the law, each ===== -/
set_option maxRecDepth 100000 in
theorem lw_write {G : Gx} {E : En} {b L : Nat} {xs : Nat → Int32} {i : Nat} {h : Hp} (K : Lw G E b L xs) (hi : i + 5 ≤ L) (I : Inv h) (k : ∀ h2 : Hp, Inv h2 → Wp G E 4 postL 932 (lsL E b i) [] h2) : Wp G E 4 postL 152 (lsL E b i) [] h := by
  refine wp_aloadR_n 1 K.1 dL_law_152 rfl rfl ?_
  refine wp_arg (j := 1) (k := 1) rfl (by omega) K dL_law_153 dL_law_154 dL_law_155 dL_law_156 dL_law_157 ?_
  refine wp_i2l (sx_r xs _) K.1 dL_law_158 ?_
  refine wp_bipush (v := 32) K.1 dL_law_159 rfl ?_
  refine wp_lshl (by decide) K.1 dL_law_161 ?_
  refine wp_arg (j := 2) (k := 2) rfl (by omega) K dL_law_162 dL_law_163 dL_law_164 dL_law_165 dL_law_166 ?_
  refine wp_i2l (sx_r xs _) K.1 dL_law_167 ?_
  refine wp_ldc2 (v := 4294967295) K.1 (mT (i := 1273) (by decide +kernel) rfl) dL_law_168 ?_
  refine wp_land K.1 dL_law_171 ?_
  refine wp_lor K.1 dL_law_172 ?_
  refine wp_arg (j := 3) (k := 3) rfl (by omega) K dL_law_173 dL_law_174 dL_law_175 dL_law_176 dL_law_177 ?_
  refine wp_callV (rest := []) (x_write E h (lOr ((sx xs (i + 1)) * 2 ^ (32 : Int).toNat) (lAnd (sx xs (i + 2)) 4294967295)) (sx xs (i + 3)) (lOr_r _ _) (sx_r xs _) I.t) svL_15 sh_0 (by decide) rfl rfl (Nat.le_of_ble_eq_true rfl) K.1 dL_law_178 (fun v1 h1 hq1 => ?_)
  obtain ⟨rfl, rfl⟩ := hq1
  refine wp_aloadR_n 2 K.1 dL_law_181 rfl rfl ?_
  refine wp_arg (j := 1) (k := 1) rfl (by omega) K dL_law_182 dL_law_183 dL_law_184 dL_law_185 dL_law_186 ?_
  refine wp_i2l (sx_r xs _) K.1 dL_law_187 ?_
  refine wp_bipush (v := 32) K.1 dL_law_188 rfl ?_
  refine wp_lshl (by decide) K.1 dL_law_190 ?_
  refine wp_arg (j := 2) (k := 2) rfl (by omega) K dL_law_191 dL_law_192 dL_law_193 dL_law_194 dL_law_195 ?_
  refine wp_i2l (sx_r xs _) K.1 dL_law_196 ?_
  refine wp_ldc2 (v := 4294967295) K.1 (mT (i := 1273) (by decide +kernel) rfl) dL_law_197 ?_
  refine wp_land K.1 dL_law_200 ?_
  refine wp_lor K.1 dL_law_201 ?_
  refine wp_arg (j := 3) (k := 3) rfl (by omega) K dL_law_202 dL_law_203 dL_law_204 dL_law_205 dL_law_206 ?_
  refine wp_callV (rest := [iv _]) (m_write E _ (lOr ((sx xs (i + 1)) * 2 ^ (32 : Int).toNat) (lAnd (sx xs (i + 2)) 4294967295)) (sx xs (i + 3)) (lOr_r _ _) (sx_r xs _) (wr_t I)) svL_19 sh_128 (by decide) rfl rfl (Nat.le_of_ble_eq_true rfl) K.1 dL_law_207 (fun v2 h2 hq2 => ?_)
  obtain ⟨rfl, rfl⟩ := hq2
  exact wp_same (write_e I) K dL_law_210 rfl (k _ (write_i I))
set_option maxRecDepth 100000 in
theorem lw_erase {G : Gx} {E : En} {b L : Nat} {xs : Nat → Int32} {i : Nat} {h : Hp} (K : Lw G E b L xs) (hi : i + 5 ≤ L) (I : Inv h) (k : ∀ h2 : Hp, Inv h2 → Wp G E 4 postL 932 (lsL E b i) [] h2) : Wp G E 4 postL 215 (lsL E b i) [] h := by
  refine wp_aloadR_n 1 K.1 dL_law_215 rfl rfl ?_
  refine wp_callV (rest := []) (x_erase E h) svL_20 sh_0 (by decide) rfl rfl (Nat.le_of_ble_eq_true rfl) K.1 dL_law_216 (fun v1 h1 hq1 => ?_)
  obtain ⟨rfl, rfl⟩ := hq1
  refine wp_aloadR_n 2 K.1 dL_law_219 rfl rfl ?_
  refine wp_callV (rest := [iv _]) (m_erase E _) svL_24 sh_128 (by decide) rfl rfl (Nat.le_of_ble_eq_true rfl) K.1 dL_law_220 (fun v2 h2 hq2 => ?_)
  obtain ⟨rfl, rfl⟩ := hq2
  exact wp_same (er_e I) K dL_law_223 rfl (k _ I.erase)
set_option maxRecDepth 100000 in
theorem lw_fault {G : Gx} {E : En} {b L : Nat} {xs : Nat → Int32} {i : Nat} {h : Hp} (K : Lw G E b L xs) (hi : i + 5 ≤ L) (I : Inv h) (k : ∀ h2 : Hp, Inv h2 → Wp G E 4 postL 932 (lsL E b i) [] h2) : Wp G E 4 postL 228 (lsL E b i) [] h := by
  refine wp_aloadR_n 1 K.1 dL_law_228 rfl rfl ?_
  refine wp_callV (rest := []) (x_fault E h _ _ I.T I.z) svL_25 sh_0 (by decide) rfl rfl (Nat.le_of_ble_eq_true rfl) K.1 dL_law_229 (fun v1 h1 hq1 => ?_)
  obtain ⟨J, j1, rfl, -, f1⟩ := hq1
  have I1 : Inv h1 := I.of fun a c hd => f1 a c (by unfold dep at hd; omega) (by unfold dep at hd; omega) (by unfold dep at hd; omega)
  have T1 : TM h1 (h 7) (h 6 1).toNat := I.TM.of (f1 128 6 (by omega) (by omega) (by omega)) (fun c => f1 134 c (by omega) (by omega) (by omega))
  have M1 := I.M.of (hx := h1) (fun c => ⟨f1 129 c (by omega) (by omega) (by omega), f1 130 c (by omega) (by omega) (by omega), f1 131 c (by omega) (by omega) (by omega)⟩)
  refine wp_aloadR_n 2 K.1 dL_law_232 rfl rfl ?_
  refine wp_callV (rest := [iv _]) (m_fault E h1 _ _ _ _ _ _ M1 _ _ T1) svL_28 sh_128 (by decide) rfl rfl (Nat.le_of_ble_eq_true rfl) K.1 dL_law_233 (fun v2 h2 hq2 => ?_)
  obtain ⟨J2, j2, rfl, -, f2⟩ := hq2
  have I2 : Inv h2 := I1.of fun a c hd => f2 a c (by unfold dep at hd; omega) (by unfold dep at hd; omega) (by unfold dep at hd; omega)
  rw [I.n] at j2
  have e12 : fltV (h 7) (h 6 1).toNat (h 1 4) J = fltV (h 7) (h 6 1).toNat ((h 1 4).toNat : Int) J2 := by rw [I.n, fltP_uniq j1 j2]
  exact wp_same e12 K dL_law_236 rfl (k _ I2)
set_option maxRecDepth 100000 in
theorem lw_market {G : Gx} {E : En} {b L : Nat} {xs : Nat → Int32} {i : Nat} {h : Hp} (K : Lw G E b L xs) (hi : i + 5 ≤ L) (I : Inv h) (k : ∀ h2 : Hp, Inv h2 → Wp G E 4 postL 932 (lsL E b i) [] h2) : Wp G E 4 postL 241 (lsL E b i) [] h := by
  refine wp_aloadR_n 1 K.1 dL_law_241 rfl rfl ?_
  refine wp_callV (rest := []) (x_market E h _ _ I.T (AH h) I.1.2.1 I.cH) svL_29 sh_0 (by decide) rfl rfl (Nat.le_of_ble_eq_true rfl) K.1 dL_law_242 (fun v1 h1 hq1 => ?_)
  have T1 : TM h1 (h 7) (h 6 1).toNat := mkQ_TM I hq1
  have M1 : mH h1 (AH h) := mkQ_mH I hq1
  obtain ⟨z1, hz1⟩ := mkQ_v hq1
  subst hz1
  refine wp_aloadR_n 2 K.1 dL_law_245 rfl rfl ?_
  refine wp_callV (rest := [iv _]) (m_market E h1 _ _ T1 (AH h) I.1.2.1 M1) svL_32 sh_128 (by decide) rfl rfl (Nat.le_of_ble_eq_true rfl) K.1 dL_law_246 (fun v2 h2 hq2 => ?_)
  obtain ⟨e12, I2⟩ := I.mark hq1 hq2
  subst e12
  exact wp_same rfl K dL_law_249 rfl (k _ I2)
set_option maxRecDepth 100000 in
theorem lw_heap {G : Gx} {E : En} {b L : Nat} {xs : Nat → Int32} {i : Nat} {h : Hp} (K : Lw G E b L xs) (hi : i + 5 ≤ L) (I : Inv h) (k : ∀ h2 : Hp, Inv h2 → Wp G E 4 postL 932 (lsL E b i) [] h2) : Wp G E 4 postL 254 (lsL E b i) [] h := by
  refine wp_aloadR_n 1 K.1 dL_law_254 rfl rfl ?_
  refine wp_arg (j := 1) (k := 1) rfl (by omega) K dL_law_255 dL_law_256 dL_law_257 dL_law_258 dL_law_259 ?_
  refine wp_arg (j := 2) (k := 2) rfl (by omega) K dL_law_260 dL_law_261 dL_law_262 dL_law_263 dL_law_264 ?_
  refine wp_callV (rest := []) (x_heap E h (sx xs (i + 1)) (sx xs (i + 2)) (sx_r xs _) (sx_r xs _) I.z I.p I.N I.S) svL_33 sh_0 (by decide) rfl rfl (Nat.le_of_ble_eq_true rfl) K.1 dL_law_265 (fun v1 h1 hq1 => ?_)
  obtain ⟨rfl, rfl⟩ := hq1
  refine wp_aloadR_n 2 K.1 dL_law_268 rfl rfl ?_
  refine wp_arg (j := 1) (k := 1) rfl (by omega) K dL_law_269 dL_law_270 dL_law_271 dL_law_272 dL_law_273 ?_
  refine wp_arg (j := 2) (k := 2) rfl (by omega) K dL_law_274 dL_law_275 dL_law_276 dL_law_277 dL_law_278 ?_
  refine wp_callV (rest := [jv _]) (m_heap E _ _ _ _ _ _ _ I.M (sx xs (i + 1)) (sx xs (i + 2)) (sx_r xs _) (sx_r xs _)) svL_37 sh_128 (by decide) rfl rfl (Nat.le_of_ble_eq_true rfl) K.1 dL_law_279 (fun v2 h2 hq2 => ?_)
  obtain ⟨rfl, rfl⟩ := hq2
  exact wp_samel (by rw [I.n]) K dL_law_282 dL_law_283 rfl (k _ I)
set_option maxRecDepth 100000 in
theorem lw_rest {G : Gx} {E : En} {b L : Nat} {xs : Nat → Int32} {i : Nat} {h : Hp} (K : Lw G E b L xs) (hi : i + 5 ≤ L) (I : Inv h) (k : ∀ h2 : Hp, Inv h2 → Wp G E 4 postL 932 (lsL E b i) [] h2) : Wp G E 4 postL 288 (lsL E b i) [] h := by
  refine wp_aloadR_n 1 K.1 dL_law_288 rfl rfl ?_
  refine wp_arg (j := 1) (k := 1) rfl (by omega) K dL_law_289 dL_law_290 dL_law_291 dL_law_292 dL_law_293 ?_
  refine wp_arg (j := 2) (k := 2) rfl (by omega) K dL_law_294 dL_law_295 dL_law_296 dL_law_297 dL_law_298 ?_
  refine wp_callV (rest := []) (x_rest E h (sx xs (i + 1)) (sx xs (i + 2)) (sx_r xs _) (sx_r xs _) I.z I.p I.N I.S) svL_38 sh_0 (by decide) rfl rfl (Nat.le_of_ble_eq_true rfl) K.1 dL_law_299 (fun v1 h1 hq1 => ?_)
  obtain ⟨rfl, rfl⟩ := hq1
  refine wp_aloadR_n 2 K.1 dL_law_302 rfl rfl ?_
  refine wp_arg (j := 1) (k := 1) rfl (by omega) K dL_law_303 dL_law_304 dL_law_305 dL_law_306 dL_law_307 ?_
  refine wp_arg (j := 2) (k := 2) rfl (by omega) K dL_law_308 dL_law_309 dL_law_310 dL_law_311 dL_law_312 ?_
  refine wp_callV (rest := [iv _]) (m_rest E _ _ _ _ _ _ _ I.M (sx xs (i + 1)) (sx xs (i + 2)) (sx_r xs _) (sx_r xs _)) svL_42 sh_128 (by decide) rfl rfl (Nat.le_of_ble_eq_true rfl) K.1 dL_law_313 (fun v2 h2 hq2 => ?_)
  obtain ⟨rfl, rfl⟩ := hq2
  exact wp_same rfl K dL_law_316 rfl (k _ I)
set_option maxRecDepth 100000 in
theorem lw_as {G : Gx} {E : En} {b L : Nat} {xs : Nat → Int32} {i : Nat} {h : Hp} (K : Lw G E b L xs) (hi : i + 5 ≤ L) (I : Inv h) (k : ∀ h2 : Hp, Inv h2 → Wp G E 4 postL 932 (lsL E b i) [] h2) : Wp G E 4 postL 321 (lsL E b i) [] h := by
  refine wp_aloadR_n 1 K.1 dL_law_321 rfl rfl ?_
  refine wp_arg (j := 1) (k := 1) rfl (by omega) K dL_law_322 dL_law_323 dL_law_324 dL_law_325 dL_law_326 ?_
  refine wp_arg (j := 2) (k := 2) rfl (by omega) K dL_law_327 dL_law_328 dL_law_329 dL_law_330 dL_law_331 ?_
  refine wp_arg (j := 3) (k := 3) rfl (by omega) K dL_law_332 dL_law_333 dL_law_334 dL_law_335 dL_law_336 ?_
  refine wp_arg (j := 4) (k := 4) rfl (by omega) K dL_law_337 dL_law_338 dL_law_339 dL_law_340 dL_law_341 ?_
  refine wp_callV (rest := []) (x_as E h (sx xs (i + 1)) (sx xs (i + 2)) (sx xs (i + 3)) (sx xs (i + 4)) (sx_r xs _) (sx_r xs _) (sx_r xs _) (sx_r xs _) I.z I.p I.N I.S I.C) svL_43 sh_0 (by decide) rfl rfl (Nat.le_of_ble_eq_true rfl) K.1 dL_law_342 (fun v1 h1 hq1 => ?_)
  obtain ⟨rfl, rfl⟩ := hq1
  refine wp_aloadR_n 2 K.1 dL_law_345 rfl rfl ?_
  refine wp_arg (j := 1) (k := 1) rfl (by omega) K dL_law_346 dL_law_347 dL_law_348 dL_law_349 dL_law_350 ?_
  refine wp_arg (j := 2) (k := 2) rfl (by omega) K dL_law_351 dL_law_352 dL_law_353 dL_law_354 dL_law_355 ?_
  refine wp_arg (j := 3) (k := 3) rfl (by omega) K dL_law_356 dL_law_357 dL_law_358 dL_law_359 dL_law_360 ?_
  refine wp_arg (j := 4) (k := 4) rfl (by omega) K dL_law_361 dL_law_362 dL_law_363 dL_law_364 dL_law_365 ?_
  refine wp_callV (rest := [iv _]) (m_as E _ _ _ _ _ _ _ I.M (sx xs (i + 1)) (sx xs (i + 2)) (sx xs (i + 3)) (sx xs (i + 4)) (sx_r xs _) (sx_r xs _) (sx_r xs _) (sx_r xs _)) svL_47 sh_128 (by decide) rfl rfl (Nat.le_of_ble_eq_true rfl) K.1 dL_law_366 (fun v2 h2 hq2 => ?_)
  obtain ⟨rfl, rfl⟩ := hq2
  exact wp_same rfl K dL_law_369 rfl (k _ I)
set_option maxRecDepth 100000 in
theorem lw_find {G : Gx} {E : En} {b L : Nat} {xs : Nat → Int32} {i : Nat} {h : Hp} (K : Lw G E b L xs) (hi : i + 5 ≤ L) (I : Inv h) (k : ∀ h2 : Hp, Inv h2 → Wp G E 4 postL 932 (lsL E b i) [] h2) : Wp G E 4 postL 374 (lsL E b i) [] h := by
  refine wp_aloadR_n 1 K.1 dL_law_374 rfl rfl ?_
  refine wp_arg (j := 1) (k := 1) rfl (by omega) K dL_law_375 dL_law_376 dL_law_377 dL_law_378 dL_law_379 ?_
  refine wp_arg (j := 2) (k := 2) rfl (by omega) K dL_law_380 dL_law_381 dL_law_382 dL_law_383 dL_law_384 ?_
  refine wp_callV (rest := []) (x_find E h (sx xs (i + 1)) (sx xs (i + 2)) (sx_r xs _) (sx_r xs _) I.z I.p I.N I.S I.C) svL_48 sh_0 (by decide) rfl rfl (Nat.le_of_ble_eq_true rfl) K.1 dL_law_385 (fun v1 h1 hq1 => ?_)
  obtain ⟨rfl, f1⟩ := hq1
  have I1 : Inv h1 := I.of fun a c hd => f1 a c (by unfold dep at hd; omega) (by unfold dep at hd; omega)
  have M1 := I.M.of (hx := h1) (fun c => ⟨f1 129 c (by omega) (by omega), f1 130 c (by omega) (by omega), f1 131 c (by omega) (by omega)⟩)
  refine wp_aloadR_n 2 K.1 dL_law_388 rfl rfl ?_
  refine wp_arg (j := 1) (k := 1) rfl (by omega) K dL_law_389 dL_law_390 dL_law_391 dL_law_392 dL_law_393 ?_
  refine wp_arg (j := 2) (k := 2) rfl (by omega) K dL_law_394 dL_law_395 dL_law_396 dL_law_397 dL_law_398 ?_
  refine wp_callV (rest := [iv _]) (m_find E h1 _ _ _ _ _ _ M1 (sx xs (i + 1)) (sx xs (i + 2)) (sx_r xs _) (sx_r xs _)) svL_51 sh_128 (by decide) rfl rfl (Nat.le_of_ble_eq_true rfl) K.1 dL_law_399 (fun v2 h2 hq2 => ?_)
  obtain ⟨rfl, f2⟩ := hq2
  have I2 : Inv h2 := I1.of fun a c hd => f2 a c (by unfold dep at hd; omega)
  exact wp_same rfl K dL_law_402 rfl (k _ I2)
set_option maxRecDepth 100000 in
theorem lw_many {G : Gx} {E : En} {b L : Nat} {xs : Nat → Int32} {i : Nat} {h : Hp} (K : Lw G E b L xs) (hi : i + 5 ≤ L) (I : Inv h) (k : ∀ h2 : Hp, Inv h2 → Wp G E 4 postL 932 (lsL E b i) [] h2) : Wp G E 4 postL 407 (lsL E b i) [] h := by
  refine wp_aloadR_n 1 K.1 dL_law_407 rfl rfl ?_
  refine wp_arg (j := 1) (k := 1) rfl (by omega) K dL_law_408 dL_law_409 dL_law_410 dL_law_411 dL_law_412 ?_
  refine wp_arg (j := 2) (k := 2) rfl (by omega) K dL_law_413 dL_law_414 dL_law_415 dL_law_416 dL_law_417 ?_
  refine wp_callV (rest := []) (x_many E h (sx xs (i + 1)) (sx xs (i + 2)) (sx_r xs _) (sx_r xs _) I.z I.p I.N) svL_52 sh_0 (by decide) rfl rfl (Nat.le_of_ble_eq_true rfl) K.1 dL_law_418 (fun v1 h1 hq1 => ?_)
  obtain ⟨rfl, f1⟩ := hq1
  have I1 : Inv h1 := I.of fun a c hd => f1 a c (by unfold dep at hd; omega)
  have M1 := I.M.of (hx := h1) (fun c => ⟨f1 129 c (by omega), f1 130 c (by omega), f1 131 c (by omega)⟩)
  refine wp_aloadR_n 2 K.1 dL_law_421 rfl rfl ?_
  refine wp_arg (j := 1) (k := 1) rfl (by omega) K dL_law_422 dL_law_423 dL_law_424 dL_law_425 dL_law_426 ?_
  refine wp_arg (j := 2) (k := 2) rfl (by omega) K dL_law_427 dL_law_428 dL_law_429 dL_law_430 dL_law_431 ?_
  refine wp_callV (rest := [iv _]) (m_many E h1 _ _ _ _ _ _ M1 (sx xs (i + 1)) (sx xs (i + 2)) (sx_r xs _) (sx_r xs _)) svL_55 sh_128 (by decide) rfl rfl (Nat.le_of_ble_eq_true rfl) K.1 dL_law_432 (fun v2 h2 hq2 => ?_)
  obtain ⟨rfl, f2⟩ := hq2
  have I2 : Inv h2 := I1.of fun a c hd => f2 a c (by unfold dep at hd; omega)
  exact wp_same rfl K dL_law_435 rfl (k _ I2)
set_option maxRecDepth 100000 in
theorem lw_light {G : Gx} {E : En} {b L : Nat} {xs : Nat → Int32} {i : Nat} {h : Hp} (K : Lw G E b L xs) (hi : i + 5 ≤ L) (I : Inv h) (k : ∀ h2 : Hp, Inv h2 → Wp G E 4 postL 932 (lsL E b i) [] h2) : Wp G E 4 postL 440 (lsL E b i) [] h := by
  refine wp_aloadR_n 1 K.1 dL_law_440 rfl rfl ?_
  refine wp_arg (j := 1) (k := 1) rfl (by omega) K dL_law_441 dL_law_442 dL_law_443 dL_law_444 dL_law_445 ?_
  refine wp_arg (j := 2) (k := 2) rfl (by omega) K dL_law_446 dL_law_447 dL_law_448 dL_law_449 dL_law_450 ?_
  refine wp_callV (rest := []) (x_light E h (sx xs (i + 1)) (sx xs (i + 2)) (sx_r xs _) (sx_r xs _) I.z I.p I.N) svL_56 sh_0 (by decide) rfl rfl (Nat.le_of_ble_eq_true rfl) K.1 dL_law_451 (fun v1 h1 hq1 => ?_)
  obtain ⟨⟨z1, rfl, y1⟩, f1⟩ := hq1
  have I1 : Inv h1 := I.of fun a c hd => f1 a c (by unfold dep at hd; omega) (by unfold dep at hd; omega)
  have M1 := I.M.of (hx := h1) (fun c => ⟨f1 129 c (by omega) (by omega), f1 130 c (by omega) (by omega), f1 131 c (by omega) (by omega)⟩)
  refine wp_aloadR_n 2 K.1 dL_law_454 rfl rfl ?_
  refine wp_arg (j := 1) (k := 1) rfl (by omega) K dL_law_455 dL_law_456 dL_law_457 dL_law_458 dL_law_459 ?_
  refine wp_arg (j := 2) (k := 2) rfl (by omega) K dL_law_460 dL_law_461 dL_law_462 dL_law_463 dL_law_464 ?_
  refine wp_callV (rest := [jv _]) (m_light E h1 _ _ _ _ _ _ M1 (sx xs (i + 1)) (sx xs (i + 2)) (sx_r xs _) (sx_r xs _)) svL_59 sh_128 (by decide) rfl rfl (Nat.le_of_ble_eq_true rfl) K.1 dL_law_465 (fun v2 h2 hq2 => ?_)
  obtain ⟨⟨z2, rfl, y2⟩, f2⟩ := hq2
  have I2 : Inv h2 := I1.of fun a c hd => f2 a c (by unfold dep at hd; omega)
  have e12 : z1 = z2 := by
    split at y1
    · rename_i w; rw [if_pos w] at y2; exact y1.trans y2.symm
    · rename_i w; rw [if_neg w] at y2; exact ligP_uniq y1 y2
  exact wp_samel e12 K dL_law_468 dL_law_469 rfl (k _ I2)
set_option maxRecDepth 100000 in
theorem lw_cheap {G : Gx} {E : En} {b L : Nat} {xs : Nat → Int32} {i : Nat} {h : Hp} (K : Lw G E b L xs) (hi : i + 5 ≤ L) (I : Inv h) (k : ∀ h2 : Hp, Inv h2 → Wp G E 4 postL 932 (lsL E b i) [] h2) : Wp G E 4 postL 474 (lsL E b i) [] h := by
  refine wp_aloadR_n 1 K.1 dL_law_474 rfl rfl ?_
  refine wp_arg (j := 1) (k := 1) rfl (by omega) K dL_law_475 dL_law_476 dL_law_477 dL_law_478 dL_law_479 ?_
  refine wp_arg (j := 2) (k := 2) rfl (by omega) K dL_law_480 dL_law_481 dL_law_482 dL_law_483 dL_law_484 ?_
  refine wp_callV (rest := []) (x_cheap E h (sx xs (i + 1)) (sx xs (i + 2)) (sx_r xs _) (sx_r xs _) I.z I.p I.N I.K) svL_60 sh_0 (by decide) rfl rfl (Nat.le_of_ble_eq_true rfl) K.1 dL_law_485 (fun v1 h1 hq1 => ?_)
  obtain ⟨⟨z1, rfl, y1⟩, f1⟩ := hq1
  have I1 : Inv h1 := I.of fun a c hd => f1 a c (by unfold dep at hd; omega) (by unfold dep at hd; omega)
  have M1 := I.M.of (hx := h1) (fun c => ⟨f1 129 c (by omega) (by omega), f1 130 c (by omega) (by omega), f1 131 c (by omega) (by omega)⟩)
  refine wp_aloadR_n 2 K.1 dL_law_488 rfl rfl ?_
  refine wp_arg (j := 1) (k := 1) rfl (by omega) K dL_law_489 dL_law_490 dL_law_491 dL_law_492 dL_law_493 ?_
  refine wp_arg (j := 2) (k := 2) rfl (by omega) K dL_law_494 dL_law_495 dL_law_496 dL_law_497 dL_law_498 ?_
  refine wp_callV (rest := [iv _]) (m_cheap E h1 _ _ _ _ _ _ M1 (sx xs (i + 1)) (sx xs (i + 2)) (sx_r xs _) (sx_r xs _)) svL_63 sh_128 (by decide) rfl rfl (Nat.le_of_ble_eq_true rfl) K.1 dL_law_499 (fun v2 h2 hq2 => ?_)
  obtain ⟨⟨z2, rfl, y2⟩, f2⟩ := hq2
  have I2 : Inv h2 := I1.of fun a c hd => f2 a c (by unfold dep at hd; omega)
  have e12 : z1 = z2 := by
    split at y1
    · rename_i w; rw [if_pos w] at y2; exact y1.trans y2.symm
    · rename_i w; rw [if_neg w] at y2; exact ligP_uniq y1 y2
  exact wp_same e12 K dL_law_502 rfl (k _ I2)
set_option maxRecDepth 100000 in
theorem lw_mends {G : Gx} {E : En} {b L : Nat} {xs : Nat → Int32} {i : Nat} {h : Hp} (K : Lw G E b L xs) (hi : i + 5 ≤ L) (I : Inv h) (k : ∀ h2 : Hp, Inv h2 → Wp G E 4 postL 932 (lsL E b i) [] h2) : Wp G E 4 postL 507 (lsL E b i) [] h := by
  refine wp_aloadR_n 1 K.1 dL_law_507 rfl rfl ?_
  refine wp_arg (j := 1) (k := 1) rfl (by omega) K dL_law_508 dL_law_509 dL_law_510 dL_law_511 dL_law_512 ?_
  refine wp_callV (rest := []) (x_mends E h (sx xs (i + 1)) (sx_r xs _) I.z I.p I.N) svL_64 sh_0 (by decide) rfl rfl (Nat.le_of_ble_eq_true rfl) K.1 dL_law_513 (fun v1 h1 hq1 => ?_)
  obtain ⟨rfl, rfl⟩ := hq1
  refine wp_aloadR_n 2 K.1 dL_law_516 rfl rfl ?_
  refine wp_arg (j := 1) (k := 1) rfl (by omega) K dL_law_517 dL_law_518 dL_law_519 dL_law_520 dL_law_521 ?_
  refine wp_callV (rest := [iv _]) (m_mends E _ _ _ _ _ _ _ I.M (sx xs (i + 1)) (sx_r xs _)) svL_68 sh_128 (by decide) rfl rfl (Nat.le_of_ble_eq_true rfl) K.1 dL_law_522 (fun v2 h2 hq2 => ?_)
  obtain ⟨rfl, rfl⟩ := hq2
  exact wp_same rfl K dL_law_525 rfl (k _ I)
set_option maxRecDepth 100000 in
theorem lw_swap {G : Gx} {E : En} {b L : Nat} {xs : Nat → Int32} {i : Nat} {h : Hp} (K : Lw G E b L xs) (hi : i + 5 ≤ L) (I : Inv h) (k : ∀ h2 : Hp, Inv h2 → Wp G E 4 postL 932 (lsL E b i) [] h2) : Wp G E 4 postL 530 (lsL E b i) [] h := by
  refine wp_aloadR_n 1 K.1 dL_law_530 rfl rfl ?_
  refine wp_arg (j := 1) (k := 1) rfl (by omega) K dL_law_531 dL_law_532 dL_law_533 dL_law_534 dL_law_535 ?_
  refine wp_arg (j := 2) (k := 2) rfl (by omega) K dL_law_536 dL_law_537 dL_law_538 dL_law_539 dL_law_540 ?_
  refine wp_callV (rest := []) (x_swap E h (sx xs (i + 1)) (sx xs (i + 2)) (sx_r xs _) (sx_r xs _) I.z I.p I.N) svL_69 sh_0 (by decide) rfl rfl (Nat.le_of_ble_eq_true rfl) K.1 dL_law_541 (fun v1 h1 hq1 => ?_)
  obtain ⟨rfl, rfl⟩ := hq1
  refine wp_aloadR_n 2 K.1 dL_law_544 rfl rfl ?_
  refine wp_arg (j := 1) (k := 1) rfl (by omega) K dL_law_545 dL_law_546 dL_law_547 dL_law_548 dL_law_549 ?_
  refine wp_arg (j := 2) (k := 2) rfl (by omega) K dL_law_550 dL_law_551 dL_law_552 dL_law_553 dL_law_554 ?_
  refine wp_callV (rest := [iv _]) (m_swap E _ _ _ _ _ _ _ I.M (sx xs (i + 1)) (sx xs (i + 2)) (sx_r xs _) (sx_r xs _)) svL_72 sh_128 (by decide) rfl rfl (Nat.le_of_ble_eq_true rfl) K.1 dL_law_555 (fun v2 h2 hq2 => ?_)
  obtain ⟨rfl, rfl⟩ := hq2
  exact wp_same rfl K dL_law_558 rfl (k _ I)
set_option maxRecDepth 100000 in
theorem lw_always {G : Gx} {E : En} {b L : Nat} {xs : Nat → Int32} {i : Nat} {h : Hp} (K : Lw G E b L xs) (hi : i + 5 ≤ L) (I : Inv h) (k : ∀ h2 : Hp, Inv h2 → Wp G E 4 postL 932 (lsL E b i) [] h2) : Wp G E 4 postL 563 (lsL E b i) [] h := by
  refine wp_aloadR_n 1 K.1 dL_law_563 rfl rfl ?_
  refine wp_arg (j := 1) (k := 1) rfl (by omega) K dL_law_564 dL_law_565 dL_law_566 dL_law_567 dL_law_568 ?_
  refine wp_arg (j := 2) (k := 2) rfl (by omega) K dL_law_569 dL_law_570 dL_law_571 dL_law_572 dL_law_573 ?_
  refine wp_arg (j := 3) (k := 3) rfl (by omega) K dL_law_574 dL_law_575 dL_law_576 dL_law_577 dL_law_578 ?_
  refine wp_callV (rest := []) (x_always E h (sx xs (i + 1)) (sx xs (i + 2)) (sx xs (i + 3)) (sx_r xs _) (sx_r xs _) (sx_r xs _) ) svL_73 sh_0 (by decide) rfl rfl (Nat.le_of_ble_eq_true rfl) K.1 dL_law_579 (fun v1 h1 hq1 => ?_)
  obtain ⟨rfl, f1⟩ := hq1
  have I1 : Inv h1 := I.of fun a c hd => f1 a c (by unfold dep at hd; omega) (by unfold dep at hd; omega)
  have M1 := I.M.of (hx := h1) (fun c => ⟨f1 129 c (by omega) (by omega), f1 130 c (by omega) (by omega), f1 131 c (by omega) (by omega)⟩)
  refine wp_aloadR_n 2 K.1 dL_law_582 rfl rfl ?_
  refine wp_arg (j := 1) (k := 1) rfl (by omega) K dL_law_583 dL_law_584 dL_law_585 dL_law_586 dL_law_587 ?_
  refine wp_arg (j := 2) (k := 2) rfl (by omega) K dL_law_588 dL_law_589 dL_law_590 dL_law_591 dL_law_592 ?_
  refine wp_arg (j := 3) (k := 3) rfl (by omega) K dL_law_593 dL_law_594 dL_law_595 dL_law_596 dL_law_597 ?_
  refine wp_callV (rest := [iv _]) (m_always E h1 (sx xs (i + 1)) (sx xs (i + 2)) (sx xs (i + 3)) (sx_r xs _) (sx_r xs _) (sx_r xs _)) svL_77 sh_128 (by decide) rfl rfl (Nat.le_of_ble_eq_true rfl) K.1 dL_law_598 (fun v2 h2 hq2 => ?_)
  obtain ⟨rfl, f2⟩ := hq2
  have I2 : Inv h2 := I1.of fun a c hd => f2 a c (by unfold dep at hd; omega) (by unfold dep at hd; omega)
  exact wp_same rfl K dL_law_601 rfl (k _ I2)
set_option maxRecDepth 100000 in
theorem lw_need {G : Gx} {E : En} {b L : Nat} {xs : Nat → Int32} {i : Nat} {h : Hp} (K : Lw G E b L xs) (hi : i + 5 ≤ L) (I : Inv h) (k : ∀ h2 : Hp, Inv h2 → Wp G E 4 postL 932 (lsL E b i) [] h2) : Wp G E 4 postL 606 (lsL E b i) [] h := by
  refine wp_aloadR_n 1 K.1 dL_law_606 rfl rfl ?_
  refine wp_arg (j := 1) (k := 1) rfl (by omega) K dL_law_607 dL_law_608 dL_law_609 dL_law_610 dL_law_611 ?_
  refine wp_arg (j := 2) (k := 2) rfl (by omega) K dL_law_612 dL_law_613 dL_law_614 dL_law_615 dL_law_616 ?_
  refine wp_callV (rest := []) (x_need E h (sx xs (i + 1)) (sx xs (i + 2)) (sx_r xs _) (sx_r xs _) ) svL_78 sh_0 (by decide) rfl rfl (Nat.le_of_ble_eq_true rfl) K.1 dL_law_617 (fun v1 h1 hq1 => ?_)
  obtain ⟨rfl, f1⟩ := hq1
  have I1 : Inv h1 := I.of fun a c hd => f1 a c (by unfold dep at hd; omega) (by unfold dep at hd; omega)
  have M1 := I.M.of (hx := h1) (fun c => ⟨f1 129 c (by omega) (by omega), f1 130 c (by omega) (by omega), f1 131 c (by omega) (by omega)⟩)
  refine wp_aloadR_n 2 K.1 dL_law_620 rfl rfl ?_
  refine wp_arg (j := 1) (k := 1) rfl (by omega) K dL_law_621 dL_law_622 dL_law_623 dL_law_624 dL_law_625 ?_
  refine wp_arg (j := 2) (k := 2) rfl (by omega) K dL_law_626 dL_law_627 dL_law_628 dL_law_629 dL_law_630 ?_
  refine wp_callV (rest := [iv _]) (m_need E h1 (sx xs (i + 1)) (sx xs (i + 2)) (sx_r xs _) (sx_r xs _)) svL_81 sh_128 (by decide) rfl rfl (Nat.le_of_ble_eq_true rfl) K.1 dL_law_631 (fun v2 h2 hq2 => ?_)
  obtain ⟨rfl, f2⟩ := hq2
  have I2 : Inv h2 := I1.of fun a c hd => f2 a c (by unfold dep at hd; omega) (by unfold dep at hd; omega)
  exact wp_same rfl K dL_law_634 rfl (k _ I2)
set_option maxRecDepth 100000 in
theorem lw_worst {G : Gx} {E : En} {b L : Nat} {xs : Nat → Int32} {i : Nat} {h : Hp} (K : Lw G E b L xs) (hi : i + 5 ≤ L) (I : Inv h) (k : ∀ h2 : Hp, Inv h2 → Wp G E 4 postL 932 (lsL E b i) [] h2) : Wp G E 4 postL 639 (lsL E b i) [] h := by
  refine wp_aloadR_n 1 K.1 dL_law_639 rfl rfl ?_
  refine wp_arg (j := 1) (k := 1) rfl (by omega) K dL_law_640 dL_law_641 dL_law_642 dL_law_643 dL_law_644 ?_
  refine wp_arg (j := 2) (k := 2) rfl (by omega) K dL_law_645 dL_law_646 dL_law_647 dL_law_648 dL_law_649 ?_
  refine wp_arg (j := 3) (k := 3) rfl (by omega) K dL_law_650 dL_law_651 dL_law_652 dL_law_653 dL_law_654 ?_
  refine wp_arg (j := 4) (k := 4) rfl (by omega) K dL_law_655 dL_law_656 dL_law_657 dL_law_658 dL_law_659 ?_
  refine wp_callV (rest := []) (x_worst E h (sx xs (i + 1)) (sx xs (i + 2)) (sx xs (i + 3)) (sx xs (i + 4)) (sx_r xs _) (sx_r xs _) (sx_r xs _) (sx_r xs _) ) svL_82 sh_0 (by decide) rfl rfl (Nat.le_of_ble_eq_true rfl) K.1 dL_law_660 (fun v1 h1 hq1 => ?_)
  obtain ⟨rfl, f1⟩ := hq1
  have I1 : Inv h1 := I.of fun a c hd => f1 a c (by unfold dep at hd; omega) (by unfold dep at hd; omega)
  have M1 := I.M.of (hx := h1) (fun c => ⟨f1 129 c (by omega) (by omega), f1 130 c (by omega) (by omega), f1 131 c (by omega) (by omega)⟩)
  refine wp_aloadR_n 2 K.1 dL_law_663 rfl rfl ?_
  refine wp_arg (j := 1) (k := 1) rfl (by omega) K dL_law_664 dL_law_665 dL_law_666 dL_law_667 dL_law_668 ?_
  refine wp_arg (j := 2) (k := 2) rfl (by omega) K dL_law_669 dL_law_670 dL_law_671 dL_law_672 dL_law_673 ?_
  refine wp_arg (j := 3) (k := 3) rfl (by omega) K dL_law_674 dL_law_675 dL_law_676 dL_law_677 dL_law_678 ?_
  refine wp_arg (j := 4) (k := 4) rfl (by omega) K dL_law_679 dL_law_680 dL_law_681 dL_law_682 dL_law_683 ?_
  refine wp_callV (rest := [iv _]) (m_worst E h1 (sx xs (i + 1)) (sx xs (i + 2)) (sx xs (i + 3)) (sx xs (i + 4)) (sx_r xs _) (sx_r xs _) (sx_r xs _) (sx_r xs _)) svL_85 sh_128 (by decide) rfl rfl (Nat.le_of_ble_eq_true rfl) K.1 dL_law_684 (fun v2 h2 hq2 => ?_)
  obtain ⟨rfl, f2⟩ := hq2
  have I2 : Inv h2 := I1.of fun a c hd => f2 a c (by unfold dep at hd; omega) (by unfold dep at hd; omega)
  exact wp_same rfl K dL_law_687 rfl (k _ I2)
set_option maxRecDepth 100000 in
theorem lw_come {G : Gx} {E : En} {b L : Nat} {xs : Nat → Int32} {i : Nat} {h : Hp} (K : Lw G E b L xs) (hi : i + 5 ≤ L) (I : Inv h) (k : ∀ h2 : Hp, Inv h2 → Wp G E 4 postL 932 (lsL E b i) [] h2) : Wp G E 4 postL 692 (lsL E b i) [] h := by
  refine wp_aloadR_n 1 K.1 dL_law_692 rfl rfl ?_
  refine wp_arg (j := 1) (k := 1) rfl (by omega) K dL_law_693 dL_law_694 dL_law_695 dL_law_696 dL_law_697 ?_
  refine wp_callV (rest := []) (x_come E h (sx xs (i + 1)) (sx_r xs _) I.c I.z I.p I.N) svL_86 sh_0 (by decide) rfl rfl (Nat.le_of_ble_eq_true rfl) K.1 dL_law_698 (fun v1 h1 hq1 => ?_)
  obtain ⟨rfl, f1⟩ := hq1
  have I1 : Inv h1 := I.of fun a c hd => f1 a c (by unfold dep at hd; omega)
  have M1 := I.M.of (hx := h1) (fun c => ⟨f1 129 c (by omega), f1 130 c (by omega), f1 131 c (by omega)⟩)
  refine wp_aloadR_n 2 K.1 dL_law_701 rfl rfl ?_
  refine wp_arg (j := 1) (k := 1) rfl (by omega) K dL_law_702 dL_law_703 dL_law_704 dL_law_705 dL_law_706 ?_
  refine wp_callV (rest := [iv _]) (m_come E h1 _ _ _ _ _ _ M1 (sx xs (i + 1)) (sx_r xs _)) svL_89 sh_128 (by decide) rfl rfl (Nat.le_of_ble_eq_true rfl) K.1 dL_law_707 (fun v2 h2 hq2 => ?_)
  obtain ⟨rfl, f2⟩ := hq2
  have I2 : Inv h2 := I1.of fun a c hd => f2 a c (by unfold dep at hd; omega) (by unfold dep at hd; omega)
  exact wp_same rfl K dL_law_710 rfl (k _ I2)
set_option maxRecDepth 100000 in
theorem lw_badly {G : Gx} {E : En} {b L : Nat} {xs : Nat → Int32} {i : Nat} {h : Hp} (K : Lw G E b L xs) (hi : i + 5 ≤ L) (I : Inv h) (k : ∀ h2 : Hp, Inv h2 → Wp G E 4 postL 932 (lsL E b i) [] h2) : Wp G E 4 postL 715 (lsL E b i) [] h := by
  refine wp_aloadR_n 1 K.1 dL_law_715 rfl rfl ?_
  refine wp_arg (j := 1) (k := 1) rfl (by omega) K dL_law_716 dL_law_717 dL_law_718 dL_law_719 dL_law_720 ?_
  refine wp_callV (rest := []) (x_badly E h (sx xs (i + 1)) (sx_r xs _) I.c I.z I.p I.N) svL_90 sh_0 (by decide) rfl rfl (Nat.le_of_ble_eq_true rfl) K.1 dL_law_721 (fun v1 h1 hq1 => ?_)
  obtain ⟨⟨z1, rfl, y1⟩, f1⟩ := hq1
  have I1 : Inv h1 := I.of fun a c hd => f1 a c (by unfold dep at hd; omega) (by unfold dep at hd; omega)
  have M1 := I.M.of (hx := h1) (fun c => ⟨f1 129 c (by omega) (by omega), f1 130 c (by omega) (by omega), f1 131 c (by omega) (by omega)⟩)
  refine wp_aloadR_n 2 K.1 dL_law_724 rfl rfl ?_
  refine wp_arg (j := 1) (k := 1) rfl (by omega) K dL_law_725 dL_law_726 dL_law_727 dL_law_728 dL_law_729 ?_
  refine wp_callV (rest := [iv _]) (m_badly E h1 _ _ _ _ _ _ M1 (sx xs (i + 1)) (sx_r xs _)) svL_93 sh_128 (by decide) rfl rfl (Nat.le_of_ble_eq_true rfl) K.1 dL_law_730 (fun v2 h2 hq2 => ?_)
  obtain ⟨⟨z2, rfl, y2⟩, f2⟩ := hq2
  have I2 : Inv h2 := I1.of fun a c hd => f2 a c (by unfold dep at hd; omega) (by unfold dep at hd; omega) (by unfold dep at hd; omega)
  have e12 : z1 = z2 := by
    split at y1
    · rename_i w; rw [if_pos w] at y2; exact y1.trans y2.symm
    · rename_i w; rw [if_neg w] at y2; split at y1
      · rename_i u; rw [if_pos u] at y2; exact y1.trans y2.symm
      · rename_i u; rw [if_neg u] at y2; exact badP_uniq y1 y2
  exact wp_same e12 K dL_law_733 rfl (k _ I2)
set_option maxRecDepth 100000 in
theorem lw_apart {G : Gx} {E : En} {b L : Nat} {xs : Nat → Int32} {i : Nat} {h : Hp} (K : Lw G E b L xs) (hi : i + 5 ≤ L) (I : Inv h) (k : ∀ h2 : Hp, Inv h2 → Wp G E 4 postL 932 (lsL E b i) [] h2) : Wp G E 4 postL 738 (lsL E b i) [] h := by
  refine wp_aloadR_n 1 K.1 dL_law_738 rfl rfl ?_
  refine wp_arg (j := 1) (k := 1) rfl (by omega) K dL_law_739 dL_law_740 dL_law_741 dL_law_742 dL_law_743 ?_
  refine wp_arg (j := 2) (k := 2) rfl (by omega) K dL_law_744 dL_law_745 dL_law_746 dL_law_747 dL_law_748 ?_
  refine wp_callV (rest := []) (x_apart E h (sx xs (i + 1)) (sx xs (i + 2)) (sx_r xs _) (sx_r xs _) I.z I.p I.N) svL_94 sh_0 (by decide) rfl rfl (Nat.le_of_ble_eq_true rfl) K.1 dL_law_749 (fun v1 h1 hq1 => ?_)
  obtain ⟨⟨z1, rfl, y1⟩, f1⟩ := hq1
  have I1 : Inv h1 := I.of fun a c hd => f1 a c (by unfold dep at hd; omega) (by unfold dep at hd; omega)
  have M1 := I.M.of (hx := h1) (fun c => ⟨f1 129 c (by omega) (by omega), f1 130 c (by omega) (by omega), f1 131 c (by omega) (by omega)⟩)
  refine wp_aloadR_n 2 K.1 dL_law_752 rfl rfl ?_
  refine wp_arg (j := 1) (k := 1) rfl (by omega) K dL_law_753 dL_law_754 dL_law_755 dL_law_756 dL_law_757 ?_
  refine wp_arg (j := 2) (k := 2) rfl (by omega) K dL_law_758 dL_law_759 dL_law_760 dL_law_761 dL_law_762 ?_
  refine wp_callV (rest := [iv _]) (m_apart E h1 _ _ _ _ _ _ M1 (sx xs (i + 1)) (sx xs (i + 2)) (sx_r xs _) (sx_r xs _)) svL_97 sh_128 (by decide) rfl rfl (Nat.le_of_ble_eq_true rfl) K.1 dL_law_763 (fun v2 h2 hq2 => ?_)
  obtain ⟨⟨z2, rfl, y2⟩, f2⟩ := hq2
  have I2 : Inv h2 := I1.of fun a c hd => f2 a c (by unfold dep at hd; omega) (by unfold dep at hd; omega)
  have e12 : z1 = z2 := apartP_uniq y1 y2
  exact wp_same e12 K dL_law_766 rfl (k _ I2)
set_option maxRecDepth 100000 in
theorem lw_turns {G : Gx} {E : En} {b L : Nat} {xs : Nat → Int32} {i : Nat} {h : Hp} (K : Lw G E b L xs) (hi : i + 5 ≤ L) (I : Inv h) (k : ∀ h2 : Hp, Inv h2 → Wp G E 4 postL 932 (lsL E b i) [] h2) : Wp G E 4 postL 771 (lsL E b i) [] h := by
  refine wp_aloadR_n 1 K.1 dL_law_771 rfl rfl ?_
  refine wp_arg (j := 1) (k := 1) rfl (by omega) K dL_law_772 dL_law_773 dL_law_774 dL_law_775 dL_law_776 ?_
  refine wp_arg (j := 2) (k := 2) rfl (by omega) K dL_law_777 dL_law_778 dL_law_779 dL_law_780 dL_law_781 ?_
  refine wp_callV (rest := []) (x_turns E h (sx xs (i + 1)) (sx xs (i + 2)) (sx_r xs _) (sx_r xs _) I.z I.p I.N) svL_98 sh_0 (by decide) rfl rfl (Nat.le_of_ble_eq_true rfl) K.1 dL_law_782 (fun v1 h1 hq1 => ?_)
  obtain ⟨rfl, f1⟩ := hq1
  have I1 : Inv h1 := I.of fun a c hd => f1 a c (by unfold dep at hd; omega) (by unfold dep at hd; omega) (by unfold dep at hd; omega)
  have M1 := I.M.of (hx := h1) (fun c => ⟨f1 129 c (by omega) (by omega) (by omega), f1 130 c (by omega) (by omega) (by omega), f1 131 c (by omega) (by omega) (by omega)⟩)
  refine wp_aloadR_n 2 K.1 dL_law_785 rfl rfl ?_
  refine wp_arg (j := 1) (k := 1) rfl (by omega) K dL_law_786 dL_law_787 dL_law_788 dL_law_789 dL_law_790 ?_
  refine wp_arg (j := 2) (k := 2) rfl (by omega) K dL_law_791 dL_law_792 dL_law_793 dL_law_794 dL_law_795 ?_
  refine wp_callV (rest := [iv _]) (m_turns E h1 _ _ _ _ _ _ M1 (sx xs (i + 1)) (sx xs (i + 2)) (sx_r xs _) (sx_r xs _)) svL_101 sh_128 (by decide) rfl rfl (Nat.le_of_ble_eq_true rfl) K.1 dL_law_796 (fun v2 h2 hq2 => ?_)
  obtain ⟨rfl, f2⟩ := hq2
  have I2 : Inv h2 := I1.of fun a c hd => f2 a c (by unfold dep at hd; omega) (by unfold dep at hd; omega)
  exact wp_same rfl K dL_law_799 rfl (k _ I2)
set_option maxRecDepth 100000 in
theorem lw_sale {G : Gx} {E : En} {b L : Nat} {xs : Nat → Int32} {i : Nat} {h : Hp} (K : Lw G E b L xs) (hi : i + 5 ≤ L) (I : Inv h) (k : ∀ h2 : Hp, Inv h2 → Wp G E 4 postL 932 (lsL E b i) [] h2) : Wp G E 4 postL 804 (lsL E b i) [] h := by
  refine wp_aloadR_n 1 K.1 dL_law_804 rfl rfl ?_
  refine wp_arg (j := 1) (k := 1) rfl (by omega) K dL_law_805 dL_law_806 dL_law_807 dL_law_808 dL_law_809 ?_
  refine wp_callV (rest := []) (x_sale E h (sx xs (i + 1)) (sx_r xs _) I.z I.b) svL_102 sh_0 (by decide) rfl rfl (Nat.le_of_ble_eq_true rfl) K.1 dL_law_810 (fun v1 h1 hq1 => ?_)
  obtain ⟨rfl, rfl⟩ := hq1
  refine wp_aloadR_n 2 K.1 dL_law_813 rfl rfl ?_
  refine wp_arg (j := 1) (k := 1) rfl (by omega) K dL_law_814 dL_law_815 dL_law_816 dL_law_817 dL_law_818 ?_
  refine wp_callV (rest := [iv _]) (m_sale E _ _ _ _ _ _ _ (sa_M I) (sx xs (i + 1)) (sa_b I) (sx_r xs _)) svL_105 sh_128 (by decide) rfl rfl (Nat.le_of_ble_eq_true rfl) K.1 dL_law_819 (fun v2 h2 hq2 => ?_)
  obtain ⟨rfl, rfl⟩ := hq2
  exact wp_same (sale_e I) K dL_law_822 rfl (k _ (sale_i I))
set_option maxRecDepth 100000 in
theorem lw_burn {G : Gx} {E : En} {b L : Nat} {xs : Nat → Int32} {i : Nat} {h : Hp} (K : Lw G E b L xs) (hi : i + 5 ≤ L) (I : Inv h) (k : ∀ h2 : Hp, Inv h2 → Wp G E 4 postL 932 (lsL E b i) [] h2) : Wp G E 4 postL 827 (lsL E b i) [] h := by
  refine wp_aloadR_n 1 K.1 dL_law_827 rfl rfl ?_
  refine wp_callV (rest := []) (x_burn E h) svL_106 sh_0 (by decide) rfl rfl (Nat.le_of_ble_eq_true rfl) K.1 dL_law_828 (fun v1 h1 hq1 => ?_)
  obtain ⟨rfl, rfl⟩ := hq1
  refine wp_aloadR_n 2 K.1 dL_law_831 rfl rfl ?_
  refine wp_callV (rest := [iv _]) (m_burn E _) svL_109 sh_128 (by decide) rfl rfl (Nat.le_of_ble_eq_true rfl) K.1 dL_law_832 (fun v2 h2 hq2 => ?_)
  obtain ⟨rfl, rfl⟩ := hq2
  exact wp_same (bu_e I) K dL_law_835 rfl (k _ I.burn)
set_option maxRecDepth 100000 in
theorem lw_judge {G : Gx} {E : En} {b L : Nat} {xs : Nat → Int32} {i : Nat} {h : Hp} (K : Lw G E b L xs) (hi : i + 5 ≤ L) (I : Inv h) (k : ∀ h2 : Hp, Inv h2 → Wp G E 4 postL 932 (lsL E b i) [] h2) : Wp G E 4 postL 840 (lsL E b i) [] h := by
  refine wp_aloadR_n 1 K.1 dL_law_840 rfl rfl ?_
  refine wp_arg (j := 1) (k := 1) rfl (by omega) K dL_law_841 dL_law_842 dL_law_843 dL_law_844 dL_law_845 ?_
  refine wp_callV (rest := []) (x_judge E h (sx xs (i + 1)) (sx_r xs _) I.z I.p I.N I.S I.C I.b I.l) svL_110 sh_0 (by decide) rfl rfl (Nat.le_of_ble_eq_true rfl) K.1 dL_law_846 (fun v1 h1 hq1 => ?_)
  obtain ⟨rfl, rfl⟩ := hq1
  refine wp_aloadR_n 2 K.1 dL_law_849 rfl rfl ?_
  refine wp_arg (j := 1) (k := 1) rfl (by omega) K dL_law_850 dL_law_851 dL_law_852 dL_law_853 dL_law_854 ?_
  refine wp_callV (rest := [iv _]) (m_judge E _ _ _ _ _ _ _ I.M (sx xs (i + 1)) (sx_r xs _) (by rw [I.b2]; exact I.b) _ I.l2) svL_113 sh_128 (by decide) rfl rfl (Nat.le_of_ble_eq_true rfl) K.1 dL_law_855 (fun v2 h2 hq2 => ?_)
  obtain ⟨rfl, rfl⟩ := hq2
  exact wp_same (by rw [I.b2]) K dL_law_858 rfl (k _ I)
set_option maxRecDepth 100000 in
theorem lw_keep {G : Gx} {E : En} {b L : Nat} {xs : Nat → Int32} {i : Nat} {h : Hp} (K : Lw G E b L xs) (hi : i + 5 ≤ L) (I : Inv h) (k : ∀ h2 : Hp, Inv h2 → Wp G E 4 postL 932 (lsL E b i) [] h2) : Wp G E 4 postL 863 (lsL E b i) [] h := by
  refine wp_aloadR_n 1 K.1 dL_law_863 rfl rfl ?_
  refine wp_arg (j := 1) (k := 1) rfl (by omega) K dL_law_864 dL_law_865 dL_law_866 dL_law_867 dL_law_868 ?_
  refine wp_callV (rest := []) (x_keep E h (sx xs (i + 1)) (sx_r xs _) I.b) svL_114 sh_0 (by decide) rfl rfl (Nat.le_of_ble_eq_true rfl) K.1 dL_law_869 (fun v1 h1 hq1 => ?_)
  obtain ⟨rfl, rfl⟩ := hq1
  refine wp_aloadR_n 2 K.1 dL_law_872 rfl rfl ?_
  refine wp_arg (j := 1) (k := 1) rfl (by omega) K dL_law_873 dL_law_874 dL_law_875 dL_law_876 dL_law_877 ?_
  refine wp_callV (rest := [iv _]) (m_keep E _ (sx xs (i + 1)) (sx_r xs _)) svL_117 sh_128 (by decide) rfl rfl (Nat.le_of_ble_eq_true rfl) K.1 dL_law_878 (fun v2 h2 hq2 => ?_)
  obtain ⟨rfl, rfl⟩ := hq2
  exact wp_same (keep_e I) K dL_law_881 rfl (k _ (keep_i I))
set_option maxRecDepth 100000 in
theorem lw_back {G : Gx} {E : En} {b L : Nat} {xs : Nat → Int32} {i : Nat} {h : Hp} (K : Lw G E b L xs) (hi : i + 5 ≤ L) (I : Inv h) (k : ∀ h2 : Hp, Inv h2 → Wp G E 4 postL 932 (lsL E b i) [] h2) : Wp G E 4 postL 886 (lsL E b i) [] h := by
  refine wp_aloadR_n 1 K.1 dL_law_886 rfl rfl ?_
  refine wp_arg (j := 1) (k := 1) rfl (by omega) K dL_law_887 dL_law_888 dL_law_889 dL_law_890 dL_law_891 ?_
  refine wp_callV (rest := []) (x_back E h (sx xs (i + 1)) (sx_r xs _) I.k26) svL_118 sh_0 (by decide) rfl rfl (Nat.le_of_ble_eq_true rfl) K.1 dL_law_892 (fun v1 h1 hq1 => ?_)
  obtain ⟨rfl, rfl⟩ := hq1
  refine wp_aloadR_n 2 K.1 dL_law_895 rfl rfl ?_
  refine wp_arg (j := 1) (k := 1) rfl (by omega) K dL_law_896 dL_law_897 dL_law_898 dL_law_899 dL_law_900 ?_
  refine wp_callV (rest := [iv _]) (m_back E _ (sx xs (i + 1)) (sx_r xs _) (ba_k I)) svL_121 sh_128 (by decide) rfl rfl (Nat.le_of_ble_eq_true rfl) K.1 dL_law_901 (fun v2 h2 hq2 => ?_)
  obtain ⟨rfl, rfl⟩ := hq2
  exact wp_same (back_e I) K dL_law_904 rfl (k _ (back_i I))
set_option maxRecDepth 100000 in
theorem lw_count {G : Gx} {E : En} {b L : Nat} {xs : Nat → Int32} {i : Nat} {h : Hp} (K : Lw G E b L xs) (hi : i + 5 ≤ L) (I : Inv h) (k : ∀ h2 : Hp, Inv h2 → Wp G E 4 postL 932 (lsL E b i) [] h2) : Wp G E 4 postL 909 (lsL E b i) [] h := by
  refine wp_aloadR_n 1 K.1 dL_law_909 rfl rfl ?_
  refine wp_arg (j := 1) (k := 1) rfl (by omega) K dL_law_910 dL_law_911 dL_law_912 dL_law_913 dL_law_914 ?_
  refine wp_callV (rest := []) (x_count E h (sx xs (i + 1)) (sx_r xs _) ) svL_122 sh_0 (by decide) rfl rfl (Nat.le_of_ble_eq_true rfl) K.1 dL_law_915 (fun v1 h1 hq1 => ?_)
  obtain ⟨rfl, rfl⟩ := hq1
  refine wp_aloadR_n 2 K.1 dL_law_918 rfl rfl ?_
  refine wp_arg (j := 1) (k := 1) rfl (by omega) K dL_law_919 dL_law_920 dL_law_921 dL_law_922 dL_law_923 ?_
  refine wp_callV (rest := [iv _]) (m_count E _ _ _ _ _ _ _ I.M (sx xs (i + 1)) (sx_r xs _)) svL_125 sh_128 (by decide) rfl rfl (Nat.le_of_ble_eq_true rfl) K.1 dL_law_924 (fun v2 h2 hq2 => ?_)
  obtain ⟨rfl, rfl⟩ := hq2
  exact wp_same (by rw [I.n, I.t2, I.b2]) K dL_law_927 rfl (k _ I)

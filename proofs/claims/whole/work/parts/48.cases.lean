section
variable {X : Nat × (Nat → Int32)} {d : Nat} {I : Nat → Nat → Int32} {J : Nat → Nat → Int64}
/-! ===== the law, case by case ===== -/
abbrev MLw (nm : String) : Mth := (⟨RL, nm, "([I)Z"⟩, cL_law, 4, some .boolean)
def LI (I : Nat → Nat → Int32) (J : Nat → Nat → Int64) : Prop := ∃ (rw tx : Tab) (P : Pce) (ds : List Deed) (sh : Shf) (tl : Int32) (ch : Int64 × Int64) (fn : Fnd), AbsC rw tx P ds sh tl ch fn I J ∧ AbsM rw tx P ds sh tl ch fn I J ∧ StOK rw tx P ds sh
theorem ix_k (t k : Nat) : nI (6 * t) + nI k = nI (6 * t + k) := nI_add _ _
theorem lw_c0 {nm : String} {t : Nat} {Φ : Option Value → Mem → Prop} (hL : LI I J) (ht : 6 * t + 6 ≤ X.1) (hX : X.1 ≤ 384) (kk : ∀ I9 J9, LI I9 J9 → Go X (d + 9) 66 (MLw nm) 66 1364 [.ref 103, .ref 0, .ref 48, .int (nI (6 * t))] [] (I9, J9, rf0) Φ) : Go X (d + 9) 66 (MLw nm) 66 244 [.ref 103, .ref 0, .ref 48, .int (nI (6 * t))] [] (I, J, rf0) Φ := by
  obtain ⟨rw, tx, P, ds, sh, tl, ch, fn, hC, hM, hO⟩ := hL
  refine g_aload_n dL_law_244 rfl ?_
  refine g_aload_n dL_law_245 rfl ?_
  refine g_iload_n dL_law_246 rfl ?_
  refine g_iconst (v := 1) dL_law_247 (by decide) ?_
  refine g_iadd dL_law_248 ?_
  rw [show (1 : Int32) = nI 1 from rfl, ix_k]
  refine t_iaro dL_law_249 (by decide) (by decide) rfl (in_nI (by omega) (by omega)) ?_
  refine g_aload_n dL_law_250 rfl ?_
  refine g_iload_n dL_law_251 rfl ?_
  refine g_iconst (v := 2) dL_law_252 (by decide) ?_
  refine g_iadd dL_law_253 ?_
  rw [show (2 : Int32) = nI 2 from rfl, ix_k]
  refine t_iaro dL_law_254 (by decide) (by decide) rfl (in_nI (by omega) (by omega)) ?_
  refine g_callVi dL_law_255 ln_L_13 ⟨_, rfl⟩ rfl (by decide) ⟨_, _, rfl⟩ rfl (Nat.le_of_ble_eq_true rfl) (Nat.le_of_ble_eq_true rfl) (pc_row hC hO) rfl (fun r255 m255 h255 => ?_)
  obtain ⟨I1, rfl, hf1, rfl, hC1⟩ := h255
  have hM1 := hM.frC hf1 rfl
  refine g_aload_n dL_law_258 rfl ?_
  refine g_aload_n dL_law_259 rfl ?_
  refine g_iload_n dL_law_260 rfl ?_
  refine g_iconst (v := 1) dL_law_261 (by decide) ?_
  refine g_iadd dL_law_262 ?_
  rw [show (1 : Int32) = nI 1 from rfl, ix_k]
  refine t_iaro dL_law_263 (by decide) (by decide) rfl (in_nI (by omega) (by omega)) ?_
  refine g_aload_n dL_law_264 rfl ?_
  refine g_iload_n dL_law_265 rfl ?_
  refine g_iconst (v := 2) dL_law_266 (by decide) ?_
  refine g_iadd dL_law_267 ?_
  rw [show (2 : Int32) = nI 2 from rfl, ix_k]
  refine t_iaro dL_law_268 (by decide) (by decide) rfl (in_nI (by omega) (by omega)) ?_
  refine g_callVi dL_law_269 ln_L_17 ⟨_, rfl⟩ rfl (by decide) ⟨_, _, rfl⟩ rfl (Nat.le_of_ble_eq_true rfl) (Nat.le_of_ble_eq_true rfl) (pm_row hM1 hO) rfl (fun r269 m269 h269 => ?_)
  obtain ⟨I2, rfl, hf2, rfl, hM2⟩ := h269
  have hC2 := hC1.frM hf2 rfl
  refine g_icmp_eq (tgt := 1364) dL_law_272 (by decide) (fun c9 => ?_) (fun c9 => ?_)
  · exact kk _ _ ⟨_, _, _, _, _, _, _, _, hC2, hM2, (sk_row (fn := fn) (tl := tl) hO)⟩
  · exact absurd rfl c9
theorem lw_c1 {nm : String} {t : Nat} {Φ : Option Value → Mem → Prop} (hL : LI I J) (ht : 6 * t + 6 ≤ X.1) (hX : X.1 ≤ 384) (kk : ∀ I9 J9, LI I9 J9 → Go X (d + 9) 66 (MLw nm) 66 1364 [.ref 103, .ref 0, .ref 48, .int (nI (6 * t))] [] (I9, J9, rf0) Φ) : Go X (d + 9) 66 (MLw nm) 66 277 [.ref 103, .ref 0, .ref 48, .int (nI (6 * t))] [] (I, J, rf0) Φ := by
  obtain ⟨rw, tx, P, ds, sh, tl, ch, fn, hC, hM, hO⟩ := hL
  refine g_aload_n dL_law_277 rfl ?_
  refine g_aload_n dL_law_278 rfl ?_
  refine g_iload_n dL_law_279 rfl ?_
  refine g_iconst (v := 1) dL_law_280 (by decide) ?_
  refine g_iadd dL_law_281 ?_
  rw [show (1 : Int32) = nI 1 from rfl, ix_k]
  refine t_iaro dL_law_282 (by decide) (by decide) rfl (in_nI (by omega) (by omega)) ?_
  refine g_aload_n dL_law_283 rfl ?_
  refine g_iload_n dL_law_284 rfl ?_
  refine g_iconst (v := 2) dL_law_285 (by decide) ?_
  refine g_iadd dL_law_286 ?_
  rw [show (2 : Int32) = nI 2 from rfl, ix_k]
  refine t_iaro dL_law_287 (by decide) (by decide) rfl (in_nI (by omega) (by omega)) ?_
  refine g_aload_n dL_law_288 rfl ?_
  refine g_iload_n dL_law_289 rfl ?_
  refine g_iconst (v := 3) dL_law_290 (by decide) ?_
  refine g_iadd dL_law_291 ?_
  rw [show (3 : Int32) = nI 3 from rfl, ix_k]
  refine t_iaro dL_law_292 (by decide) (by decide) rfl (in_nI (by omega) (by omega)) ?_
  refine g_callVi dL_law_293 ln_L_18 ⟨_, rfl⟩ rfl (by decide) ⟨_, _, rfl⟩ rfl (Nat.le_of_ble_eq_true rfl) (Nat.le_of_ble_eq_true rfl) (pc_lay hC hO) rfl (fun r293 m293 h293 => ?_)
  obtain ⟨I1, rfl, hf1, rfl, hC1⟩ := h293
  have hM1 := hM.frC hf1 rfl
  refine g_aload_n dL_law_296 rfl ?_
  refine g_aload_n dL_law_297 rfl ?_
  refine g_iload_n dL_law_298 rfl ?_
  refine g_iconst (v := 1) dL_law_299 (by decide) ?_
  refine g_iadd dL_law_300 ?_
  rw [show (1 : Int32) = nI 1 from rfl, ix_k]
  refine t_iaro dL_law_301 (by decide) (by decide) rfl (in_nI (by omega) (by omega)) ?_
  refine g_aload_n dL_law_302 rfl ?_
  refine g_iload_n dL_law_303 rfl ?_
  refine g_iconst (v := 2) dL_law_304 (by decide) ?_
  refine g_iadd dL_law_305 ?_
  rw [show (2 : Int32) = nI 2 from rfl, ix_k]
  refine t_iaro dL_law_306 (by decide) (by decide) rfl (in_nI (by omega) (by omega)) ?_
  refine g_aload_n dL_law_307 rfl ?_
  refine g_iload_n dL_law_308 rfl ?_
  refine g_iconst (v := 3) dL_law_309 (by decide) ?_
  refine g_iadd dL_law_310 ?_
  rw [show (3 : Int32) = nI 3 from rfl, ix_k]
  refine t_iaro dL_law_311 (by decide) (by decide) rfl (in_nI (by omega) (by omega)) ?_
  refine g_callVi dL_law_312 ln_L_22 ⟨_, rfl⟩ rfl (by decide) ⟨_, _, rfl⟩ rfl (Nat.le_of_ble_eq_true rfl) (Nat.le_of_ble_eq_true rfl) (pm_lay hM1 hO) rfl (fun r312 m312 h312 => ?_)
  obtain ⟨I2, rfl, hf2, rfl, hM2⟩ := h312
  have hC2 := hC1.frM hf2 rfl
  refine g_icmp_eq (tgt := 1364) dL_law_315 (by decide) (fun c9 => ?_) (fun c9 => ?_)
  · exact kk _ _ ⟨_, _, _, _, _, _, _, _, hC2, hM2, (sk_lay (fn := fn) (tl := tl) hO)⟩
  · exact absurd rfl c9
theorem lw_c2 {nm : String} {t : Nat} {Φ : Option Value → Mem → Prop} (hL : LI I J) (ht : 6 * t + 6 ≤ X.1) (hX : X.1 ≤ 384) (kk : ∀ I9 J9, LI I9 J9 → Go X (d + 9) 66 (MLw nm) 66 1364 [.ref 103, .ref 0, .ref 48, .int (nI (6 * t))] [] (I9, J9, rf0) Φ) : Go X (d + 9) 66 (MLw nm) 66 320 [.ref 103, .ref 0, .ref 48, .int (nI (6 * t))] [] (I, J, rf0) Φ := by
  obtain ⟨rw, tx, P, ds, sh, tl, ch, fn, hC, hM, hO⟩ := hL
  refine g_aload_n dL_law_320 rfl ?_
  refine g_aload_n dL_law_321 rfl ?_
  refine g_iload_n dL_law_322 rfl ?_
  refine g_iconst (v := 1) dL_law_323 (by decide) ?_
  refine g_iadd dL_law_324 ?_
  rw [show (1 : Int32) = nI 1 from rfl, ix_k]
  refine t_iaro dL_law_325 (by decide) (by decide) rfl (in_nI (by omega) (by omega)) ?_
  refine g_aload_n dL_law_326 rfl ?_
  refine g_iload_n dL_law_327 rfl ?_
  refine g_iconst (v := 2) dL_law_328 (by decide) ?_
  refine g_iadd dL_law_329 ?_
  rw [show (2 : Int32) = nI 2 from rfl, ix_k]
  refine t_iaro dL_law_330 (by decide) (by decide) rfl (in_nI (by omega) (by omega)) ?_
  refine g_callVi dL_law_331 ln_L_23 ⟨_, rfl⟩ rfl (by decide) ⟨_, _, rfl⟩ rfl (Nat.le_of_ble_eq_true rfl) (Nat.le_of_ble_eq_true rfl) (pc_at hC hO) rfl (fun r331 m331 h331 => ?_)
  obtain ⟨I1, rfl, hf1, rfl, hC1⟩ := h331
  have hM1 := hM.frC hf1 rfl
  refine g_aload_n dL_law_334 rfl ?_
  refine g_aload_n dL_law_335 rfl ?_
  refine g_iload_n dL_law_336 rfl ?_
  refine g_iconst (v := 1) dL_law_337 (by decide) ?_
  refine g_iadd dL_law_338 ?_
  rw [show (1 : Int32) = nI 1 from rfl, ix_k]
  refine t_iaro dL_law_339 (by decide) (by decide) rfl (in_nI (by omega) (by omega)) ?_
  refine g_aload_n dL_law_340 rfl ?_
  refine g_iload_n dL_law_341 rfl ?_
  refine g_iconst (v := 2) dL_law_342 (by decide) ?_
  refine g_iadd dL_law_343 ?_
  rw [show (2 : Int32) = nI 2 from rfl, ix_k]
  refine t_iaro dL_law_344 (by decide) (by decide) rfl (in_nI (by omega) (by omega)) ?_
  refine g_callVi dL_law_345 ln_L_26 ⟨_, rfl⟩ rfl (by decide) ⟨_, _, rfl⟩ rfl (Nat.le_of_ble_eq_true rfl) (Nat.le_of_ble_eq_true rfl) (pm_at hM1 hO) rfl (fun r345 m345 h345 => ?_)
  obtain ⟨I2, rfl, hf2, rfl, hM2⟩ := h345
  have hC2 := hC1.frM hf2 rfl
  refine g_icmp_eq (tgt := 1364) dL_law_348 (by decide) (fun c9 => ?_) (fun c9 => ?_)
  · exact kk _ _ ⟨_, _, _, _, _, _, _, _, hC2, hM2, hO⟩
  · exact absurd rfl c9
theorem lw_c3 {nm : String} {t : Nat} {Φ : Option Value → Mem → Prop} (hL : LI I J) (ht : 6 * t + 6 ≤ X.1) (hX : X.1 ≤ 384) (kk : ∀ I9 J9, LI I9 J9 → Go X (d + 9) 66 (MLw nm) 66 1364 [.ref 103, .ref 0, .ref 48, .int (nI (6 * t))] [] (I9, J9, rf0) Φ) : Go X (d + 9) 66 (MLw nm) 66 353 [.ref 103, .ref 0, .ref 48, .int (nI (6 * t))] [] (I, J, rf0) Φ := by
  obtain ⟨rw, tx, P, ds, sh, tl, ch, fn, hC, hM, hO⟩ := hL
  refine g_aload_n dL_law_353 rfl ?_
  refine g_aload_n dL_law_354 rfl ?_
  refine g_iload_n dL_law_355 rfl ?_
  refine g_iconst (v := 1) dL_law_356 (by decide) ?_
  refine g_iadd dL_law_357 ?_
  rw [show (1 : Int32) = nI 1 from rfl, ix_k]
  refine t_iaro dL_law_358 (by decide) (by decide) rfl (in_nI (by omega) (by omega)) ?_
  refine g_callVi dL_law_359 ln_L_27 ⟨_, rfl⟩ rfl (by decide) ⟨_, _, rfl⟩ rfl (Nat.le_of_ble_eq_true rfl) (Nat.le_of_ble_eq_true rfl) (pc_tear hC hO) rfl (fun r359 m359 h359 => ?_)
  obtain ⟨I1, rfl, hf1, rfl, hC1⟩ := h359
  have hM1 := hM.frC hf1 rfl
  refine g_aload_n dL_law_362 rfl ?_
  refine g_aload_n dL_law_363 rfl ?_
  refine g_iload_n dL_law_364 rfl ?_
  refine g_iconst (v := 1) dL_law_365 (by decide) ?_
  refine g_iadd dL_law_366 ?_
  rw [show (1 : Int32) = nI 1 from rfl, ix_k]
  refine t_iaro dL_law_367 (by decide) (by decide) rfl (in_nI (by omega) (by omega)) ?_
  refine g_callVi dL_law_368 ln_L_31 ⟨_, rfl⟩ rfl (by decide) ⟨_, _, rfl⟩ rfl (Nat.le_of_ble_eq_true rfl) (Nat.le_of_ble_eq_true rfl) (pm_tear hM1 hO) rfl (fun r368 m368 h368 => ?_)
  obtain ⟨I2, rfl, hf2, rfl, hM2⟩ := h368
  have hC2 := hC1.frM hf2 rfl
  refine g_icmp_eq (tgt := 1364) dL_law_371 (by decide) (fun c9 => ?_) (fun c9 => ?_)
  · exact kk _ _ ⟨_, _, _, _, _, _, _, _, hC2, hM2, (sk_tear (fn := fn) (tl := tl) hO)⟩
  · exact absurd rfl c9
theorem lw_c4 {nm : String} {t : Nat} {Φ : Option Value → Mem → Prop} (hL : LI I J) (ht : 6 * t + 6 ≤ X.1) (hX : X.1 ≤ 384) (kk : ∀ I9 J9, LI I9 J9 → Go X (d + 9) 66 (MLw nm) 66 1364 [.ref 103, .ref 0, .ref 48, .int (nI (6 * t))] [] (I9, J9, rf0) Φ) : Go X (d + 9) 66 (MLw nm) 66 376 [.ref 103, .ref 0, .ref 48, .int (nI (6 * t))] [] (I, J, rf0) Φ := by
  obtain ⟨rw, tx, P, ds, sh, tl, ch, fn, hC, hM, hO⟩ := hL
  refine g_aload_n dL_law_376 rfl ?_
  refine g_aload_n dL_law_377 rfl ?_
  refine g_iload_n dL_law_378 rfl ?_
  refine g_iconst (v := 1) dL_law_379 (by decide) ?_
  refine g_iadd dL_law_380 ?_
  rw [show (1 : Int32) = nI 1 from rfl, ix_k]
  refine t_iaro dL_law_381 (by decide) (by decide) rfl (in_nI (by omega) (by omega)) ?_
  refine g_aload_n dL_law_382 rfl ?_
  refine g_iload_n dL_law_383 rfl ?_
  refine g_iconst (v := 2) dL_law_384 (by decide) ?_
  refine g_iadd dL_law_385 ?_
  rw [show (2 : Int32) = nI 2 from rfl, ix_k]
  refine t_iaro dL_law_386 (by decide) (by decide) rfl (in_nI (by omega) (by omega)) ?_
  refine g_aload_n dL_law_387 rfl ?_
  refine g_iload_n dL_law_388 rfl ?_
  refine g_iconst (v := 3) dL_law_389 (by decide) ?_
  refine g_iadd dL_law_390 ?_
  rw [show (3 : Int32) = nI 3 from rfl, ix_k]
  refine t_iaro dL_law_391 (by decide) (by decide) rfl (in_nI (by omega) (by omega)) ?_
  refine g_aload_n dL_law_392 rfl ?_
  refine g_iload_n dL_law_393 rfl ?_
  refine g_iconst (v := 4) dL_law_394 (by decide) ?_
  refine g_iadd dL_law_395 ?_
  rw [show (4 : Int32) = nI 4 from rfl, ix_k]
  refine t_iaro dL_law_396 (by decide) (by decide) rfl (in_nI (by omega) (by omega)) ?_
  refine g_aload_n dL_law_397 rfl ?_
  refine g_iload_n dL_law_398 rfl ?_
  refine g_iconst (v := 5) dL_law_399 (by decide) ?_
  refine g_iadd dL_law_400 ?_
  rw [show (5 : Int32) = nI 5 from rfl, ix_k]
  refine t_iaro dL_law_401 (by decide) (by decide) rfl (in_nI (by omega) (by omega)) ?_
  refine g_callVi dL_law_402 ln_L_32 ⟨_, rfl⟩ rfl (by decide) ⟨_, _, rfl⟩ rfl (Nat.le_of_ble_eq_true rfl) (Nat.le_of_ble_eq_true rfl) (pc_copy hC hO) rfl (fun r402 m402 h402 => ?_)
  obtain ⟨I1, rfl, hf1, rfl, hC1⟩ := h402
  have hM1 := hM.frC hf1 rfl
  refine g_aload_n dL_law_405 rfl ?_
  refine g_aload_n dL_law_406 rfl ?_
  refine g_iload_n dL_law_407 rfl ?_
  refine g_iconst (v := 1) dL_law_408 (by decide) ?_
  refine g_iadd dL_law_409 ?_
  rw [show (1 : Int32) = nI 1 from rfl, ix_k]
  refine t_iaro dL_law_410 (by decide) (by decide) rfl (in_nI (by omega) (by omega)) ?_
  refine g_aload_n dL_law_411 rfl ?_
  refine g_iload_n dL_law_412 rfl ?_
  refine g_iconst (v := 2) dL_law_413 (by decide) ?_
  refine g_iadd dL_law_414 ?_
  rw [show (2 : Int32) = nI 2 from rfl, ix_k]
  refine t_iaro dL_law_415 (by decide) (by decide) rfl (in_nI (by omega) (by omega)) ?_
  refine g_aload_n dL_law_416 rfl ?_
  refine g_iload_n dL_law_417 rfl ?_
  refine g_iconst (v := 3) dL_law_418 (by decide) ?_
  refine g_iadd dL_law_419 ?_
  rw [show (3 : Int32) = nI 3 from rfl, ix_k]
  refine t_iaro dL_law_420 (by decide) (by decide) rfl (in_nI (by omega) (by omega)) ?_
  refine g_aload_n dL_law_421 rfl ?_
  refine g_iload_n dL_law_422 rfl ?_
  refine g_iconst (v := 4) dL_law_423 (by decide) ?_
  refine g_iadd dL_law_424 ?_
  rw [show (4 : Int32) = nI 4 from rfl, ix_k]
  refine t_iaro dL_law_425 (by decide) (by decide) rfl (in_nI (by omega) (by omega)) ?_
  refine g_aload_n dL_law_426 rfl ?_
  refine g_iload_n dL_law_427 rfl ?_
  refine g_iconst (v := 5) dL_law_428 (by decide) ?_
  refine g_iadd dL_law_429 ?_
  rw [show (5 : Int32) = nI 5 from rfl, ix_k]
  refine t_iaro dL_law_430 (by decide) (by decide) rfl (in_nI (by omega) (by omega)) ?_
  refine g_callVi dL_law_431 ln_L_36 ⟨_, rfl⟩ rfl (by decide) ⟨_, _, rfl⟩ rfl (Nat.le_of_ble_eq_true rfl) (Nat.le_of_ble_eq_true rfl) (pm_copy hM1 hO) rfl (fun r431 m431 h431 => ?_)
  obtain ⟨I2, rfl, hf2, rfl, hM2⟩ := h431
  have hC2 := hC1.frM hf2 rfl
  refine g_icmp_eq (tgt := 1364) dL_law_434 (by decide) (fun c9 => ?_) (fun c9 => ?_)
  · exact kk _ _ ⟨_, _, _, _, _, _, _, _, hC2, hM2, (sk_copy (fn := fn) (tl := tl) hO)⟩
  · exact absurd rfl c9
theorem lw_c5 {nm : String} {t : Nat} {Φ : Option Value → Mem → Prop} (hL : LI I J) (ht : 6 * t + 6 ≤ X.1) (hX : X.1 ≤ 384) (kk : ∀ I9 J9, LI I9 J9 → Go X (d + 9) 66 (MLw nm) 66 1364 [.ref 103, .ref 0, .ref 48, .int (nI (6 * t))] [] (I9, J9, rf0) Φ) : Go X (d + 9) 66 (MLw nm) 66 439 [.ref 103, .ref 0, .ref 48, .int (nI (6 * t))] [] (I, J, rf0) Φ := by
  obtain ⟨rw, tx, P, ds, sh, tl, ch, fn, hC, hM, hO⟩ := hL
  refine g_aload_n dL_law_439 rfl ?_
  refine g_aload_n dL_law_440 rfl ?_
  refine g_iload_n dL_law_441 rfl ?_
  refine g_iconst (v := 1) dL_law_442 (by decide) ?_
  refine g_iadd dL_law_443 ?_
  rw [show (1 : Int32) = nI 1 from rfl, ix_k]
  refine t_iaro dL_law_444 (by decide) (by decide) rfl (in_nI (by omega) (by omega)) ?_
  refine g_callVi dL_law_445 ln_L_37 ⟨_, rfl⟩ rfl (by decide) ⟨_, _, rfl⟩ rfl (Nat.le_of_ble_eq_true rfl) (Nat.le_of_ble_eq_true rfl) (pc_mean hC hO) rfl (fun r445 m445 h445 => ?_)
  obtain ⟨I1, rfl, hf1, rfl, hC1⟩ := h445
  have hM1 := hM.frC hf1 rfl
  refine g_aload_n dL_law_448 rfl ?_
  refine g_aload_n dL_law_449 rfl ?_
  refine g_iload_n dL_law_450 rfl ?_
  refine g_iconst (v := 1) dL_law_451 (by decide) ?_
  refine g_iadd dL_law_452 ?_
  rw [show (1 : Int32) = nI 1 from rfl, ix_k]
  refine t_iaro dL_law_453 (by decide) (by decide) rfl (in_nI (by omega) (by omega)) ?_
  refine g_callVi dL_law_454 ln_L_40 ⟨_, rfl⟩ rfl (by decide) ⟨_, _, rfl⟩ rfl (Nat.le_of_ble_eq_true rfl) (Nat.le_of_ble_eq_true rfl) (pm_mean hM1 hO) rfl (fun r454 m454 h454 => ?_)
  obtain ⟨I2, rfl, hf2, rfl, hM2⟩ := h454
  have hC2 := hC1.frM hf2 rfl
  refine g_icmp_eq (tgt := 1364) dL_law_457 (by decide) (fun c9 => ?_) (fun c9 => ?_)
  · exact kk _ _ ⟨_, _, _, _, _, _, _, _, hC2, hM2, hO⟩
  · exact absurd rfl c9
theorem lw_c6 {nm : String} {t : Nat} {Φ : Option Value → Mem → Prop} (hL : LI I J) (ht : 6 * t + 6 ≤ X.1) (hX : X.1 ≤ 384) (kk : ∀ I9 J9, LI I9 J9 → Go X (d + 9) 66 (MLw nm) 66 1364 [.ref 103, .ref 0, .ref 48, .int (nI (6 * t))] [] (I9, J9, rf0) Φ) : Go X (d + 9) 66 (MLw nm) 66 462 [.ref 103, .ref 0, .ref 48, .int (nI (6 * t))] [] (I, J, rf0) Φ := by
  obtain ⟨rw, tx, P, ds, sh, tl, ch, fn, hC, hM, hO⟩ := hL
  refine g_aload_n dL_law_462 rfl ?_
  refine g_aload_n dL_law_463 rfl ?_
  refine g_iload_n dL_law_464 rfl ?_
  refine g_iconst (v := 1) dL_law_465 (by decide) ?_
  refine g_iadd dL_law_466 ?_
  rw [show (1 : Int32) = nI 1 from rfl, ix_k]
  refine t_iaro dL_law_467 (by decide) (by decide) rfl (in_nI (by omega) (by omega)) ?_
  refine g_aload_n dL_law_468 rfl ?_
  refine g_iload_n dL_law_469 rfl ?_
  refine g_iconst (v := 2) dL_law_470 (by decide) ?_
  refine g_iadd dL_law_471 ?_
  rw [show (2 : Int32) = nI 2 from rfl, ix_k]
  refine t_iaro dL_law_472 (by decide) (by decide) rfl (in_nI (by omega) (by omega)) ?_
  refine g_callVi dL_law_473 ln_L_41 ⟨_, rfl⟩ rfl (by decide) ⟨_, _, rfl⟩ rfl (Nat.le_of_ble_eq_true rfl) (Nat.le_of_ble_eq_true rfl) (pc_text hC hO) rfl (fun r473 m473 h473 => ?_)
  obtain ⟨I1, rfl, hf1, rfl, hC1⟩ := h473
  have hM1 := hM.frC hf1 rfl
  refine g_aload_n dL_law_476 rfl ?_
  refine g_aload_n dL_law_477 rfl ?_
  refine g_iload_n dL_law_478 rfl ?_
  refine g_iconst (v := 1) dL_law_479 (by decide) ?_
  refine g_iadd dL_law_480 ?_
  rw [show (1 : Int32) = nI 1 from rfl, ix_k]
  refine t_iaro dL_law_481 (by decide) (by decide) rfl (in_nI (by omega) (by omega)) ?_
  refine g_aload_n dL_law_482 rfl ?_
  refine g_iload_n dL_law_483 rfl ?_
  refine g_iconst (v := 2) dL_law_484 (by decide) ?_
  refine g_iadd dL_law_485 ?_
  rw [show (2 : Int32) = nI 2 from rfl, ix_k]
  refine t_iaro dL_law_486 (by decide) (by decide) rfl (in_nI (by omega) (by omega)) ?_
  refine g_callVi dL_law_487 ln_L_44 ⟨_, rfl⟩ rfl (by decide) ⟨_, _, rfl⟩ rfl (Nat.le_of_ble_eq_true rfl) (Nat.le_of_ble_eq_true rfl) (pm_text hM1 hO) rfl (fun r487 m487 h487 => ?_)
  obtain ⟨I2, rfl, hf2, rfl, hM2⟩ := h487
  have hC2 := hC1.frM hf2 rfl
  refine g_icmp_eq (tgt := 1364) dL_law_490 (by decide) (fun c9 => ?_) (fun c9 => ?_)
  · exact kk _ _ ⟨_, _, _, _, _, _, _, _, hC2, hM2, (sk_text (fn := fn) (tl := tl) hO)⟩
  · exact absurd rfl c9
theorem lw_c7 {nm : String} {t : Nat} {Φ : Option Value → Mem → Prop} (hL : LI I J) (ht : 6 * t + 6 ≤ X.1) (hX : X.1 ≤ 384) (kk : ∀ I9 J9, LI I9 J9 → Go X (d + 9) 66 (MLw nm) 66 1364 [.ref 103, .ref 0, .ref 48, .int (nI (6 * t))] [] (I9, J9, rf0) Φ) : Go X (d + 9) 66 (MLw nm) 66 495 [.ref 103, .ref 0, .ref 48, .int (nI (6 * t))] [] (I, J, rf0) Φ := by
  obtain ⟨rw, tx, P, ds, sh, tl, ch, fn, hC, hM, hO⟩ := hL
  refine g_aload_n dL_law_495 rfl ?_
  refine g_aload_n dL_law_496 rfl ?_
  refine g_iload_n dL_law_497 rfl ?_
  refine g_iconst (v := 1) dL_law_498 (by decide) ?_
  refine g_iadd dL_law_499 ?_
  rw [show (1 : Int32) = nI 1 from rfl, ix_k]
  refine t_iaro dL_law_500 (by decide) (by decide) rfl (in_nI (by omega) (by omega)) ?_
  refine g_aload_n dL_law_501 rfl ?_
  refine g_iload_n dL_law_502 rfl ?_
  refine g_iconst (v := 2) dL_law_503 (by decide) ?_
  refine g_iadd dL_law_504 ?_
  rw [show (2 : Int32) = nI 2 from rfl, ix_k]
  refine t_iaro dL_law_505 (by decide) (by decide) rfl (in_nI (by omega) (by omega)) ?_
  refine g_aload_n dL_law_506 rfl ?_
  refine g_iload_n dL_law_507 rfl ?_
  refine g_iconst (v := 3) dL_law_508 (by decide) ?_
  refine g_iadd dL_law_509 ?_
  rw [show (3 : Int32) = nI 3 from rfl, ix_k]
  refine t_iaro dL_law_510 (by decide) (by decide) rfl (in_nI (by omega) (by omega)) ?_
  refine g_callVi dL_law_511 ln_L_45 ⟨_, rfl⟩ rfl (by decide) ⟨_, _, rfl⟩ rfl (Nat.le_of_ble_eq_true rfl) (Nat.le_of_ble_eq_true rfl) (pc_put hC hO) rfl (fun r511 m511 h511 => ?_)
  obtain ⟨I1, rfl, hf1, rfl, hC1⟩ := h511
  have hM1 := hM.frC hf1 rfl
  refine g_aload_n dL_law_514 rfl ?_
  refine g_aload_n dL_law_515 rfl ?_
  refine g_iload_n dL_law_516 rfl ?_
  refine g_iconst (v := 1) dL_law_517 (by decide) ?_
  refine g_iadd dL_law_518 ?_
  rw [show (1 : Int32) = nI 1 from rfl, ix_k]
  refine t_iaro dL_law_519 (by decide) (by decide) rfl (in_nI (by omega) (by omega)) ?_
  refine g_aload_n dL_law_520 rfl ?_
  refine g_iload_n dL_law_521 rfl ?_
  refine g_iconst (v := 2) dL_law_522 (by decide) ?_
  refine g_iadd dL_law_523 ?_
  rw [show (2 : Int32) = nI 2 from rfl, ix_k]
  refine t_iaro dL_law_524 (by decide) (by decide) rfl (in_nI (by omega) (by omega)) ?_
  refine g_aload_n dL_law_525 rfl ?_
  refine g_iload_n dL_law_526 rfl ?_
  refine g_iconst (v := 3) dL_law_527 (by decide) ?_
  refine g_iadd dL_law_528 ?_
  rw [show (3 : Int32) = nI 3 from rfl, ix_k]
  refine t_iaro dL_law_529 (by decide) (by decide) rfl (in_nI (by omega) (by omega)) ?_
  refine g_callVi dL_law_530 ln_L_48 ⟨_, rfl⟩ rfl (by decide) ⟨_, _, rfl⟩ rfl (Nat.le_of_ble_eq_true rfl) (Nat.le_of_ble_eq_true rfl) (pm_put hM1 hO) rfl (fun r530 m530 h530 => ?_)
  obtain ⟨I2, rfl, hf2, rfl, hM2⟩ := h530
  have hC2 := hC1.frM hf2 rfl
  refine g_icmp_eq (tgt := 1364) dL_law_533 (by decide) (fun c9 => ?_) (fun c9 => ?_)
  · exact kk _ _ ⟨_, _, _, _, _, _, _, _, hC2, hM2, (sk_put (fn := fn) (tl := tl) hO)⟩
  · exact absurd rfl c9
theorem lw_c8 {nm : String} {t : Nat} {Φ : Option Value → Mem → Prop} (hL : LI I J) (ht : 6 * t + 6 ≤ X.1) (hX : X.1 ≤ 384) (kk : ∀ I9 J9, LI I9 J9 → Go X (d + 9) 66 (MLw nm) 66 1364 [.ref 103, .ref 0, .ref 48, .int (nI (6 * t))] [] (I9, J9, rf0) Φ) : Go X (d + 9) 66 (MLw nm) 66 538 [.ref 103, .ref 0, .ref 48, .int (nI (6 * t))] [] (I, J, rf0) Φ := by
  obtain ⟨rw, tx, P, ds, sh, tl, ch, fn, hC, hM, hO⟩ := hL
  refine g_aload_n dL_law_538 rfl ?_
  refine g_aload_n dL_law_539 rfl ?_
  refine g_iload_n dL_law_540 rfl ?_
  refine g_iconst (v := 1) dL_law_541 (by decide) ?_
  refine g_iadd dL_law_542 ?_
  rw [show (1 : Int32) = nI 1 from rfl, ix_k]
  refine t_iaro dL_law_543 (by decide) (by decide) rfl (in_nI (by omega) (by omega)) ?_
  refine g_callVi dL_law_544 ln_L_49 ⟨_, rfl⟩ rfl (by decide) ⟨_, _, rfl⟩ rfl (Nat.le_of_ble_eq_true rfl) (Nat.le_of_ble_eq_true rfl) (pc_fault hC hO) rfl (fun r544 m544 h544 => ?_)
  obtain ⟨I1, rfl, hf1, rfl, hC1⟩ := h544
  have hM1 := hM.frC hf1 rfl
  refine g_aload_n dL_law_547 rfl ?_
  refine g_aload_n dL_law_548 rfl ?_
  refine g_iload_n dL_law_549 rfl ?_
  refine g_iconst (v := 1) dL_law_550 (by decide) ?_
  refine g_iadd dL_law_551 ?_
  rw [show (1 : Int32) = nI 1 from rfl, ix_k]
  refine t_iaro dL_law_552 (by decide) (by decide) rfl (in_nI (by omega) (by omega)) ?_
  refine g_callVi dL_law_553 ln_L_52 ⟨_, rfl⟩ rfl (by decide) ⟨_, _, rfl⟩ rfl (Nat.le_of_ble_eq_true rfl) (Nat.le_of_ble_eq_true rfl) (pm_fault hM1 hO) rfl (fun r553 m553 h553 => ?_)
  obtain ⟨I2, rfl, hf2, rfl, hM2⟩ := h553
  have hC2 := hC1.frM hf2 rfl
  refine g_icmp_eq (tgt := 1364) dL_law_556 (by decide) (fun c9 => ?_) (fun c9 => ?_)
  · exact kk _ _ ⟨_, _, _, _, _, _, _, _, hC2, hM2, hO⟩
  · exact absurd rfl c9
theorem lw_c9 {nm : String} {t : Nat} {Φ : Option Value → Mem → Prop} (hL : LI I J) (ht : 6 * t + 6 ≤ X.1) (hX : X.1 ≤ 384) (kk : ∀ I9 J9, LI I9 J9 → Go X (d + 9) 66 (MLw nm) 66 1364 [.ref 103, .ref 0, .ref 48, .int (nI (6 * t))] [] (I9, J9, rf0) Φ) : Go X (d + 9) 66 (MLw nm) 66 561 [.ref 103, .ref 0, .ref 48, .int (nI (6 * t))] [] (I, J, rf0) Φ := by
  obtain ⟨rw, tx, P, ds, sh, tl, ch, fn, hC, hM, hO⟩ := hL
  refine g_aload_n dL_law_561 rfl ?_
  refine g_aload_n dL_law_562 rfl ?_
  refine g_iload_n dL_law_563 rfl ?_
  refine g_iconst (v := 1) dL_law_564 (by decide) ?_
  refine g_iadd dL_law_565 ?_
  rw [show (1 : Int32) = nI 1 from rfl, ix_k]
  refine t_iaro dL_law_566 (by decide) (by decide) rfl (in_nI (by omega) (by omega)) ?_
  refine g_callVi dL_law_567 ln_L_53 ⟨_, rfl⟩ rfl (by decide) ⟨_, _, rfl⟩ rfl (Nat.le_of_ble_eq_true rfl) (Nat.le_of_ble_eq_true rfl) (pc_piece hC hO) rfl (fun r567 m567 h567 => ?_)
  obtain ⟨I1, rfl, hf1, rfl, hC1⟩ := h567
  have hM1 := hM.frC hf1 rfl
  refine g_aload_n dL_law_570 rfl ?_
  refine g_aload_n dL_law_571 rfl ?_
  refine g_iload_n dL_law_572 rfl ?_
  refine g_iconst (v := 1) dL_law_573 (by decide) ?_
  refine g_iadd dL_law_574 ?_
  rw [show (1 : Int32) = nI 1 from rfl, ix_k]
  refine t_iaro dL_law_575 (by decide) (by decide) rfl (in_nI (by omega) (by omega)) ?_
  refine g_callVi dL_law_576 ln_L_56 ⟨_, rfl⟩ rfl (by decide) ⟨_, _, rfl⟩ rfl (Nat.le_of_ble_eq_true rfl) (Nat.le_of_ble_eq_true rfl) (pm_piece hM1 hO) rfl (fun r576 m576 h576 => ?_)
  obtain ⟨I2, rfl, hf2, rfl, hM2⟩ := h576
  have hC2 := hC1.frM hf2 rfl
  refine g_icmp_eq (tgt := 1364) dL_law_579 (by decide) (fun c9 => ?_) (fun c9 => ?_)
  · exact kk _ _ ⟨_, _, _, _, _, _, _, _, hC2, hM2, (sk_piece (fn := fn) (tl := tl) hO)⟩
  · exact absurd rfl c9
theorem lw_c10 {nm : String} {t : Nat} {Φ : Option Value → Mem → Prop} (hL : LI I J) (ht : 6 * t + 6 ≤ X.1) (hX : X.1 ≤ 384) (kk : ∀ I9 J9, LI I9 J9 → Go X (d + 9) 66 (MLw nm) 66 1364 [.ref 103, .ref 0, .ref 48, .int (nI (6 * t))] [] (I9, J9, rf0) Φ) : Go X (d + 9) 66 (MLw nm) 66 584 [.ref 103, .ref 0, .ref 48, .int (nI (6 * t))] [] (I, J, rf0) Φ := by
  obtain ⟨rw, tx, P, ds, sh, tl, ch, fn, hC, hM, hO⟩ := hL
  refine g_aload_n dL_law_584 rfl ?_
  refine g_aload_n dL_law_585 rfl ?_
  refine g_iload_n dL_law_586 rfl ?_
  refine g_iconst (v := 1) dL_law_587 (by decide) ?_
  refine g_iadd dL_law_588 ?_
  rw [show (1 : Int32) = nI 1 from rfl, ix_k]
  refine t_iaro dL_law_589 (by decide) (by decide) rfl (in_nI (by omega) (by omega)) ?_
  refine g_aload_n dL_law_590 rfl ?_
  refine g_iload_n dL_law_591 rfl ?_
  refine g_iconst (v := 2) dL_law_592 (by decide) ?_
  refine g_iadd dL_law_593 ?_
  rw [show (2 : Int32) = nI 2 from rfl, ix_k]
  refine t_iaro dL_law_594 (by decide) (by decide) rfl (in_nI (by omega) (by omega)) ?_
  refine g_callVi dL_law_595 ln_L_57 ⟨_, rfl⟩ rfl (by decide) ⟨_, _, rfl⟩ rfl (Nat.le_of_ble_eq_true rfl) (Nat.le_of_ble_eq_true rfl) (pc_place hC hO) rfl (fun r595 m595 h595 => ?_)
  obtain ⟨I1, rfl, hf1, rfl, hC1⟩ := h595
  have hM1 := hM.frC hf1 rfl
  refine g_aload_n dL_law_598 rfl ?_
  refine g_aload_n dL_law_599 rfl ?_
  refine g_iload_n dL_law_600 rfl ?_
  refine g_iconst (v := 1) dL_law_601 (by decide) ?_
  refine g_iadd dL_law_602 ?_
  rw [show (1 : Int32) = nI 1 from rfl, ix_k]
  refine t_iaro dL_law_603 (by decide) (by decide) rfl (in_nI (by omega) (by omega)) ?_
  refine g_aload_n dL_law_604 rfl ?_
  refine g_iload_n dL_law_605 rfl ?_
  refine g_iconst (v := 2) dL_law_606 (by decide) ?_
  refine g_iadd dL_law_607 ?_
  rw [show (2 : Int32) = nI 2 from rfl, ix_k]
  refine t_iaro dL_law_608 (by decide) (by decide) rfl (in_nI (by omega) (by omega)) ?_
  refine g_callVi dL_law_609 ln_L_60 ⟨_, rfl⟩ rfl (by decide) ⟨_, _, rfl⟩ rfl (Nat.le_of_ble_eq_true rfl) (Nat.le_of_ble_eq_true rfl) (pm_place hM1 hO) rfl (fun r609 m609 h609 => ?_)
  obtain ⟨I2, rfl, hf2, rfl, hM2⟩ := h609
  have hC2 := hC1.frM hf2 rfl
  refine g_icmp_eq (tgt := 1364) dL_law_612 (by decide) (fun c9 => ?_) (fun c9 => ?_)
  · exact kk _ _ ⟨_, _, _, _, _, _, _, _, hC2, hM2, hO⟩
  · exact absurd rfl c9
theorem lw_c11 {nm : String} {t : Nat} {Φ : Option Value → Mem → Prop} (hL : LI I J) (ht : 6 * t + 6 ≤ X.1) (hX : X.1 ≤ 384) (kk : ∀ I9 J9, LI I9 J9 → Go X (d + 9) 66 (MLw nm) 66 1364 [.ref 103, .ref 0, .ref 48, .int (nI (6 * t))] [] (I9, J9, rf0) Φ) : Go X (d + 9) 66 (MLw nm) 66 617 [.ref 103, .ref 0, .ref 48, .int (nI (6 * t))] [] (I, J, rf0) Φ := by
  obtain ⟨rw, tx, P, ds, sh, tl, ch, fn, hC, hM, hO⟩ := hL
  refine g_aload_n dL_law_617 rfl ?_
  refine g_aload_n dL_law_618 rfl ?_
  refine g_iload_n dL_law_619 rfl ?_
  refine g_iconst (v := 1) dL_law_620 (by decide) ?_
  refine g_iadd dL_law_621 ?_
  rw [show (1 : Int32) = nI 1 from rfl, ix_k]
  refine t_iaro dL_law_622 (by decide) (by decide) rfl (in_nI (by omega) (by omega)) ?_
  refine g_aload_n dL_law_623 rfl ?_
  refine g_iload_n dL_law_624 rfl ?_
  refine g_iconst (v := 2) dL_law_625 (by decide) ?_
  refine g_iadd dL_law_626 ?_
  rw [show (2 : Int32) = nI 2 from rfl, ix_k]
  refine t_iaro dL_law_627 (by decide) (by decide) rfl (in_nI (by omega) (by omega)) ?_
  refine g_callVi dL_law_628 ln_L_61 ⟨_, rfl⟩ rfl (by decide) ⟨_, _, rfl⟩ rfl (Nat.le_of_ble_eq_true rfl) (Nat.le_of_ble_eq_true rfl) (pc_note hC hO) rfl (fun r628 m628 h628 => ?_)
  obtain ⟨I1, rfl, hf1, rfl, hC1⟩ := h628
  have hM1 := hM.frC hf1 rfl
  refine g_aload_n dL_law_631 rfl ?_
  refine g_aload_n dL_law_632 rfl ?_
  refine g_iload_n dL_law_633 rfl ?_
  refine g_iconst (v := 1) dL_law_634 (by decide) ?_
  refine g_iadd dL_law_635 ?_
  rw [show (1 : Int32) = nI 1 from rfl, ix_k]
  refine t_iaro dL_law_636 (by decide) (by decide) rfl (in_nI (by omega) (by omega)) ?_
  refine g_aload_n dL_law_637 rfl ?_
  refine g_iload_n dL_law_638 rfl ?_
  refine g_iconst (v := 2) dL_law_639 (by decide) ?_
  refine g_iadd dL_law_640 ?_
  rw [show (2 : Int32) = nI 2 from rfl, ix_k]
  refine t_iaro dL_law_641 (by decide) (by decide) rfl (in_nI (by omega) (by omega)) ?_
  refine g_callVi dL_law_642 ln_L_64 ⟨_, rfl⟩ rfl (by decide) ⟨_, _, rfl⟩ rfl (Nat.le_of_ble_eq_true rfl) (Nat.le_of_ble_eq_true rfl) (pm_note hM1 hO) rfl (fun r642 m642 h642 => ?_)
  obtain ⟨I2, rfl, hf2, rfl, hM2⟩ := h642
  have hC2 := hC1.frM hf2 rfl
  refine g_icmp_eq (tgt := 1364) dL_law_645 (by decide) (fun c9 => ?_) (fun c9 => ?_)
  · exact kk _ _ ⟨_, _, _, _, _, _, _, _, hC2, hM2, hO⟩
  · exact absurd rfl c9
theorem lw_c12 {nm : String} {t : Nat} {Φ : Option Value → Mem → Prop} (hL : LI I J) (ht : 6 * t + 6 ≤ X.1) (hX : X.1 ≤ 384) (kk : ∀ I9 J9, LI I9 J9 → Go X (d + 9) 66 (MLw nm) 66 1364 [.ref 103, .ref 0, .ref 48, .int (nI (6 * t))] [] (I9, J9, rf0) Φ) : Go X (d + 9) 66 (MLw nm) 66 650 [.ref 103, .ref 0, .ref 48, .int (nI (6 * t))] [] (I, J, rf0) Φ := by
  obtain ⟨rw, tx, P, ds, sh, tl, ch, fn, hC, hM, hO⟩ := hL
  refine g_aload_n dL_law_650 rfl ?_
  refine g_aload_n dL_law_651 rfl ?_
  refine g_iload_n dL_law_652 rfl ?_
  refine g_iconst (v := 1) dL_law_653 (by decide) ?_
  refine g_iadd dL_law_654 ?_
  rw [show (1 : Int32) = nI 1 from rfl, ix_k]
  refine t_iaro dL_law_655 (by decide) (by decide) rfl (in_nI (by omega) (by omega)) ?_
  refine g_aload_n dL_law_656 rfl ?_
  refine g_iload_n dL_law_657 rfl ?_
  refine g_iconst (v := 2) dL_law_658 (by decide) ?_
  refine g_iadd dL_law_659 ?_
  rw [show (2 : Int32) = nI 2 from rfl, ix_k]
  refine t_iaro dL_law_660 (by decide) (by decide) rfl (in_nI (by omega) (by omega)) ?_
  refine g_callVi dL_law_661 ln_L_65 ⟨_, rfl⟩ rfl (by decide) ⟨_, _, rfl⟩ rfl (Nat.le_of_ble_eq_true rfl) (Nat.le_of_ble_eq_true rfl) (pc_mark hC hO) rfl (fun r661 m661 h661 => ?_)
  obtain ⟨I1, rfl, hf1, rfl, hC1⟩ := h661
  have hM1 := hM.frC hf1 rfl
  refine g_aload_n dL_law_664 rfl ?_
  refine g_aload_n dL_law_665 rfl ?_
  refine g_iload_n dL_law_666 rfl ?_
  refine g_iconst (v := 1) dL_law_667 (by decide) ?_
  refine g_iadd dL_law_668 ?_
  rw [show (1 : Int32) = nI 1 from rfl, ix_k]
  refine t_iaro dL_law_669 (by decide) (by decide) rfl (in_nI (by omega) (by omega)) ?_
  refine g_aload_n dL_law_670 rfl ?_
  refine g_iload_n dL_law_671 rfl ?_
  refine g_iconst (v := 2) dL_law_672 (by decide) ?_
  refine g_iadd dL_law_673 ?_
  rw [show (2 : Int32) = nI 2 from rfl, ix_k]
  refine t_iaro dL_law_674 (by decide) (by decide) rfl (in_nI (by omega) (by omega)) ?_
  refine g_callVi dL_law_675 ln_L_68 ⟨_, rfl⟩ rfl (by decide) ⟨_, _, rfl⟩ rfl (Nat.le_of_ble_eq_true rfl) (Nat.le_of_ble_eq_true rfl) (pm_mark hM1 hO) rfl (fun r675 m675 h675 => ?_)
  obtain ⟨I2, rfl, hf2, rfl, hM2⟩ := h675
  have hC2 := hC1.frM hf2 rfl
  refine g_icmp_eq (tgt := 1364) dL_law_678 (by decide) (fun c9 => ?_) (fun c9 => ?_)
  · exact kk _ _ ⟨_, _, _, _, _, _, _, _, hC2, hM2, hO⟩
  · exact absurd rfl c9
theorem lw_c13 {nm : String} {t : Nat} {Φ : Option Value → Mem → Prop} (hL : LI I J) (ht : 6 * t + 6 ≤ X.1) (hX : X.1 ≤ 384) (kk : ∀ I9 J9, LI I9 J9 → Go X (d + 9) 66 (MLw nm) 66 1364 [.ref 103, .ref 0, .ref 48, .int (nI (6 * t))] [] (I9, J9, rf0) Φ) : Go X (d + 9) 66 (MLw nm) 66 683 [.ref 103, .ref 0, .ref 48, .int (nI (6 * t))] [] (I, J, rf0) Φ := by
  obtain ⟨rw, tx, P, ds, sh, tl, ch, fn, hC, hM, hO⟩ := hL
  refine g_aload_n dL_law_683 rfl ?_
  refine g_callVi dL_law_684 ln_L_69 ⟨_, rfl⟩ rfl (by decide) ⟨_, _, rfl⟩ rfl (Nat.le_of_ble_eq_true rfl) (Nat.le_of_ble_eq_true rfl) (pc_play hC hO) rfl (fun r684 m684 h684 => ?_)
  obtain ⟨I1, rfl, hf1, rfl, hC1⟩ := h684
  have hM1 := hM.frC hf1 rfl
  refine g_aload_n dL_law_687 rfl ?_
  refine g_callVi dL_law_688 ln_L_73 ⟨_, rfl⟩ rfl (by decide) ⟨_, _, rfl⟩ rfl (Nat.le_of_ble_eq_true rfl) (Nat.le_of_ble_eq_true rfl) (pm_play hM1 hO) rfl (fun r688 m688 h688 => ?_)
  obtain ⟨I2, rfl, hf2, rfl, hM2⟩ := h688
  have hC2 := hC1.frM hf2 rfl
  refine g_icmp_eq (tgt := 1364) dL_law_691 (by decide) (fun c9 => ?_) (fun c9 => ?_)
  · exact kk _ _ ⟨_, _, _, _, _, _, _, _, hC2, hM2, (sk_play (fn := fn) (tl := tl) hO)⟩
  · exact absurd rfl c9
theorem lw_c14 {nm : String} {t : Nat} {Φ : Option Value → Mem → Prop} (hL : LI I J) (ht : 6 * t + 6 ≤ X.1) (hX : X.1 ≤ 384) (kk : ∀ I9 J9, LI I9 J9 → Go X (d + 9) 66 (MLw nm) 66 1364 [.ref 103, .ref 0, .ref 48, .int (nI (6 * t))] [] (I9, J9, rf0) Φ) : Go X (d + 9) 66 (MLw nm) 66 696 [.ref 103, .ref 0, .ref 48, .int (nI (6 * t))] [] (I, J, rf0) Φ := by
  obtain ⟨rw, tx, P, ds, sh, tl, ch, fn, hC, hM, hO⟩ := hL
  refine g_aload_n dL_law_696 rfl ?_
  refine g_aload_n dL_law_697 rfl ?_
  refine g_iload_n dL_law_698 rfl ?_
  refine g_iconst (v := 1) dL_law_699 (by decide) ?_
  refine g_iadd dL_law_700 ?_
  rw [show (1 : Int32) = nI 1 from rfl, ix_k]
  refine t_iaro dL_law_701 (by decide) (by decide) rfl (in_nI (by omega) (by omega)) ?_
  refine g_aload_n dL_law_702 rfl ?_
  refine g_iload_n dL_law_703 rfl ?_
  refine g_iconst (v := 2) dL_law_704 (by decide) ?_
  refine g_iadd dL_law_705 ?_
  rw [show (2 : Int32) = nI 2 from rfl, ix_k]
  refine t_iaro dL_law_706 (by decide) (by decide) rfl (in_nI (by omega) (by omega)) ?_
  refine g_callVi dL_law_707 ln_L_74 ⟨_, rfl⟩ rfl (by decide) ⟨_, _, rfl⟩ rfl (Nat.le_of_ble_eq_true rfl) (Nat.le_of_ble_eq_true rfl) (pc_slip hC hO) rfl (fun r707 m707 h707 => ?_)
  obtain ⟨I1, rfl, hf1, rfl, hC1⟩ := h707
  have hM1 := hM.frC hf1 rfl
  refine g_aload_n dL_law_710 rfl ?_
  refine g_aload_n dL_law_711 rfl ?_
  refine g_iload_n dL_law_712 rfl ?_
  refine g_iconst (v := 1) dL_law_713 (by decide) ?_
  refine g_iadd dL_law_714 ?_
  rw [show (1 : Int32) = nI 1 from rfl, ix_k]
  refine t_iaro dL_law_715 (by decide) (by decide) rfl (in_nI (by omega) (by omega)) ?_
  refine g_aload_n dL_law_716 rfl ?_
  refine g_iload_n dL_law_717 rfl ?_
  refine g_iconst (v := 2) dL_law_718 (by decide) ?_
  refine g_iadd dL_law_719 ?_
  rw [show (2 : Int32) = nI 2 from rfl, ix_k]
  refine t_iaro dL_law_720 (by decide) (by decide) rfl (in_nI (by omega) (by omega)) ?_
  refine g_callVi dL_law_721 ln_L_77 ⟨_, rfl⟩ rfl (by decide) ⟨_, _, rfl⟩ rfl (Nat.le_of_ble_eq_true rfl) (Nat.le_of_ble_eq_true rfl) (pm_slip hM1 hO) rfl (fun r721 m721 h721 => ?_)
  obtain ⟨I2, rfl, hf2, rfl, hM2⟩ := h721
  have hC2 := hC1.frM hf2 rfl
  refine g_icmp_eq (tgt := 1364) dL_law_724 (by decide) (fun c9 => ?_) (fun c9 => ?_)
  · exact kk _ _ ⟨_, _, _, _, _, _, _, _, hC2, hM2, (sk_slip (fn := fn) (tl := tl) hO)⟩
  · exact absurd rfl c9
theorem lw_c15 {nm : String} {t : Nat} {Φ : Option Value → Mem → Prop} (hL : LI I J) (ht : 6 * t + 6 ≤ X.1) (hX : X.1 ≤ 384) (kk : ∀ I9 J9, LI I9 J9 → Go X (d + 9) 66 (MLw nm) 66 1364 [.ref 103, .ref 0, .ref 48, .int (nI (6 * t))] [] (I9, J9, rf0) Φ) : Go X (d + 9) 66 (MLw nm) 66 729 [.ref 103, .ref 0, .ref 48, .int (nI (6 * t))] [] (I, J, rf0) Φ := by
  obtain ⟨rw, tx, P, ds, sh, tl, ch, fn, hC, hM, hO⟩ := hL
  refine g_aload_n dL_law_729 rfl ?_
  refine g_aload_n dL_law_730 rfl ?_
  refine g_iload_n dL_law_731 rfl ?_
  refine g_iconst (v := 1) dL_law_732 (by decide) ?_
  refine g_iadd dL_law_733 ?_
  rw [show (1 : Int32) = nI 1 from rfl, ix_k]
  refine t_iaro dL_law_734 (by decide) (by decide) rfl (in_nI (by omega) (by omega)) ?_
  refine g_aload_n dL_law_735 rfl ?_
  refine g_iload_n dL_law_736 rfl ?_
  refine g_iconst (v := 2) dL_law_737 (by decide) ?_
  refine g_iadd dL_law_738 ?_
  rw [show (2 : Int32) = nI 2 from rfl, ix_k]
  refine t_iaro dL_law_739 (by decide) (by decide) rfl (in_nI (by omega) (by omega)) ?_
  refine g_callVi dL_law_740 ln_L_78 ⟨_, rfl⟩ rfl (by decide) ⟨_, _, rfl⟩ rfl (Nat.le_of_ble_eq_true rfl) (Nat.le_of_ble_eq_true rfl) (pc_jump hC hO) rfl (fun r740 m740 h740 => ?_)
  obtain ⟨I1, rfl, hf1, rfl, hC1⟩ := h740
  have hM1 := hM.frC hf1 rfl
  refine g_aload_n dL_law_743 rfl ?_
  refine g_aload_n dL_law_744 rfl ?_
  refine g_iload_n dL_law_745 rfl ?_
  refine g_iconst (v := 1) dL_law_746 (by decide) ?_
  refine g_iadd dL_law_747 ?_
  rw [show (1 : Int32) = nI 1 from rfl, ix_k]
  refine t_iaro dL_law_748 (by decide) (by decide) rfl (in_nI (by omega) (by omega)) ?_
  refine g_aload_n dL_law_749 rfl ?_
  refine g_iload_n dL_law_750 rfl ?_
  refine g_iconst (v := 2) dL_law_751 (by decide) ?_
  refine g_iadd dL_law_752 ?_
  rw [show (2 : Int32) = nI 2 from rfl, ix_k]
  refine t_iaro dL_law_753 (by decide) (by decide) rfl (in_nI (by omega) (by omega)) ?_
  refine g_callVi dL_law_754 ln_L_81 ⟨_, rfl⟩ rfl (by decide) ⟨_, _, rfl⟩ rfl (Nat.le_of_ble_eq_true rfl) (Nat.le_of_ble_eq_true rfl) (pm_jump hM1 hO) rfl (fun r754 m754 h754 => ?_)
  obtain ⟨I2, rfl, hf2, rfl, hM2⟩ := h754
  have hC2 := hC1.frM hf2 rfl
  refine g_icmp_eq (tgt := 1364) dL_law_757 (by decide) (fun c9 => ?_) (fun c9 => ?_)
  · exact kk _ _ ⟨_, _, _, _, _, _, _, _, hC2, hM2, (sk_jump (fn := fn) (tl := tl) hO)⟩
  · exact absurd rfl c9
theorem lw_c16 {nm : String} {t : Nat} {Φ : Option Value → Mem → Prop} (hL : LI I J) (ht : 6 * t + 6 ≤ X.1) (hX : X.1 ≤ 384) (kk : ∀ I9 J9, LI I9 J9 → Go X (d + 9) 66 (MLw nm) 66 1364 [.ref 103, .ref 0, .ref 48, .int (nI (6 * t))] [] (I9, J9, rf0) Φ) : Go X (d + 9) 66 (MLw nm) 66 762 [.ref 103, .ref 0, .ref 48, .int (nI (6 * t))] [] (I, J, rf0) Φ := by
  obtain ⟨rw, tx, P, ds, sh, tl, ch, fn, hC, hM, hO⟩ := hL
  refine g_aload_n dL_law_762 rfl ?_
  refine g_aload_n dL_law_763 rfl ?_
  refine g_iload_n dL_law_764 rfl ?_
  refine g_iconst (v := 1) dL_law_765 (by decide) ?_
  refine g_iadd dL_law_766 ?_
  rw [show (1 : Int32) = nI 1 from rfl, ix_k]
  refine t_iaro dL_law_767 (by decide) (by decide) rfl (in_nI (by omega) (by omega)) ?_
  refine g_callVi dL_law_768 ln_L_82 ⟨_, rfl⟩ rfl (by decide) ⟨_, _, rfl⟩ rfl (Nat.le_of_ble_eq_true rfl) (Nat.le_of_ble_eq_true rfl) (pc_anew hC hO) rfl (fun r768 m768 h768 => ?_)
  obtain ⟨I1, rfl, hf1, rfl, hC1⟩ := h768
  have hM1 := hM.frC hf1 rfl
  refine g_aload_n dL_law_771 rfl ?_
  refine g_aload_n dL_law_772 rfl ?_
  refine g_iload_n dL_law_773 rfl ?_
  refine g_iconst (v := 1) dL_law_774 (by decide) ?_
  refine g_iadd dL_law_775 ?_
  rw [show (1 : Int32) = nI 1 from rfl, ix_k]
  refine t_iaro dL_law_776 (by decide) (by decide) rfl (in_nI (by omega) (by omega)) ?_
  refine g_callVi dL_law_777 ln_L_85 ⟨_, rfl⟩ rfl (by decide) ⟨_, _, rfl⟩ rfl (Nat.le_of_ble_eq_true rfl) (Nat.le_of_ble_eq_true rfl) (pm_anew hM1 hO) rfl (fun r777 m777 h777 => ?_)
  obtain ⟨I2, rfl, hf2, rfl, hM2⟩ := h777
  have hC2 := hC1.frM hf2 rfl
  refine g_icmp_eq (tgt := 1364) dL_law_780 (by decide) (fun c9 => ?_) (fun c9 => ?_)
  · exact kk _ _ ⟨_, _, _, _, _, _, _, _, hC2, hM2, (sk_anew (fn := fn) (tl := tl) hO)⟩
  · exact absurd rfl c9
theorem lw_c17 {nm : String} {t : Nat} {Φ : Option Value → Mem → Prop} (hL : LI I J) (ht : 6 * t + 6 ≤ X.1) (hX : X.1 ≤ 384) (kk : ∀ I9 J9, LI I9 J9 → Go X (d + 9) 66 (MLw nm) 66 1364 [.ref 103, .ref 0, .ref 48, .int (nI (6 * t))] [] (I9, J9, rf0) Φ) : Go X (d + 9) 66 (MLw nm) 66 785 [.ref 103, .ref 0, .ref 48, .int (nI (6 * t))] [] (I, J, rf0) Φ := by
  obtain ⟨rw, tx, P, ds, sh, tl, ch, fn, hC, hM, hO⟩ := hL
  refine g_aload_n dL_law_785 rfl ?_
  refine g_aload_n dL_law_786 rfl ?_
  refine g_iload_n dL_law_787 rfl ?_
  refine g_iconst (v := 1) dL_law_788 (by decide) ?_
  refine g_iadd dL_law_789 ?_
  rw [show (1 : Int32) = nI 1 from rfl, ix_k]
  refine t_iaro dL_law_790 (by decide) (by decide) rfl (in_nI (by omega) (by omega)) ?_
  refine g_callVi dL_law_791 ln_L_86 ⟨_, rfl⟩ rfl (by decide) ⟨_, _, rfl⟩ rfl (Nat.le_of_ble_eq_true rfl) (Nat.le_of_ble_eq_true rfl) (pc_undo hC hO) rfl (fun r791 m791 h791 => ?_)
  obtain ⟨I1, rfl, hf1, rfl, hC1⟩ := h791
  have hM1 := hM.frC hf1 rfl
  refine g_aload_n dL_law_794 rfl ?_
  refine g_aload_n dL_law_795 rfl ?_
  refine g_iload_n dL_law_796 rfl ?_
  refine g_iconst (v := 1) dL_law_797 (by decide) ?_
  refine g_iadd dL_law_798 ?_
  rw [show (1 : Int32) = nI 1 from rfl, ix_k]
  refine t_iaro dL_law_799 (by decide) (by decide) rfl (in_nI (by omega) (by omega)) ?_
  refine g_callVi dL_law_800 ln_L_89 ⟨_, rfl⟩ rfl (by decide) ⟨_, _, rfl⟩ rfl (Nat.le_of_ble_eq_true rfl) (Nat.le_of_ble_eq_true rfl) (pm_undo hM1 hO) rfl (fun r800 m800 h800 => ?_)
  obtain ⟨I2, rfl, hf2, rfl, hM2⟩ := h800
  have hC2 := hC1.frM hf2 rfl
  refine g_icmp_eq (tgt := 1364) dL_law_803 (by decide) (fun c9 => ?_) (fun c9 => ?_)
  · exact kk _ _ ⟨_, _, _, _, _, _, _, _, hC2, hM2, (sk_undo (fn := fn) (tl := tl) hO)⟩
  · exact absurd rfl c9
theorem lw_c18 {nm : String} {t : Nat} {Φ : Option Value → Mem → Prop} (hL : LI I J) (ht : 6 * t + 6 ≤ X.1) (hX : X.1 ≤ 384) (kk : ∀ I9 J9, LI I9 J9 → Go X (d + 9) 66 (MLw nm) 66 1364 [.ref 103, .ref 0, .ref 48, .int (nI (6 * t))] [] (I9, J9, rf0) Φ) : Go X (d + 9) 66 (MLw nm) 66 808 [.ref 103, .ref 0, .ref 48, .int (nI (6 * t))] [] (I, J, rf0) Φ := by
  obtain ⟨rw, tx, P, ds, sh, tl, ch, fn, hC, hM, hO⟩ := hL
  refine g_aload_n dL_law_808 rfl ?_
  refine g_callVi dL_law_809 ln_L_90 ⟨_, rfl⟩ rfl (by decide) ⟨_, _, rfl⟩ rfl (Nat.le_of_ble_eq_true rfl) (Nat.le_of_ble_eq_true rfl) (pc_here hC hO) rfl (fun r809 m809 h809 => ?_)
  obtain ⟨I1, rfl, hf1, rfl, hC1⟩ := h809
  have hM1 := hM.frC hf1 rfl
  refine g_aload_n dL_law_812 rfl ?_
  refine g_callVi dL_law_813 ln_L_93 ⟨_, rfl⟩ rfl (by decide) ⟨_, _, rfl⟩ rfl (Nat.le_of_ble_eq_true rfl) (Nat.le_of_ble_eq_true rfl) (pm_here hM1 hO) rfl (fun r813 m813 h813 => ?_)
  obtain ⟨I2, rfl, hf2, rfl, hM2⟩ := h813
  have hC2 := hC1.frM hf2 rfl
  refine g_icmp_eq (tgt := 1364) dL_law_816 (by decide) (fun c9 => ?_) (fun c9 => ?_)
  · exact kk _ _ ⟨_, _, _, _, _, _, _, _, hC2, hM2, hO⟩
  · exact absurd rfl c9
theorem lw_c19 {nm : String} {t : Nat} {Φ : Option Value → Mem → Prop} (hL : LI I J) (ht : 6 * t + 6 ≤ X.1) (hX : X.1 ≤ 384) (kk : ∀ I9 J9, LI I9 J9 → Go X (d + 9) 66 (MLw nm) 66 1364 [.ref 103, .ref 0, .ref 48, .int (nI (6 * t))] [] (I9, J9, rf0) Φ) : Go X (d + 9) 66 (MLw nm) 66 821 [.ref 103, .ref 0, .ref 48, .int (nI (6 * t))] [] (I, J, rf0) Φ := by
  obtain ⟨rw, tx, P, ds, sh, tl, ch, fn, hC, hM, hO⟩ := hL
  refine g_aload_n dL_law_821 rfl ?_
  refine g_aload_n dL_law_822 rfl ?_
  refine g_iload_n dL_law_823 rfl ?_
  refine g_iconst (v := 1) dL_law_824 (by decide) ?_
  refine g_iadd dL_law_825 ?_
  rw [show (1 : Int32) = nI 1 from rfl, ix_k]
  refine t_iaro dL_law_826 (by decide) (by decide) rfl (in_nI (by omega) (by omega)) ?_
  refine g_callVi dL_law_827 ln_L_94 ⟨_, rfl⟩ rfl (by decide) ⟨_, _, rfl⟩ rfl (Nat.le_of_ble_eq_true rfl) (Nat.le_of_ble_eq_true rfl) (pc_out hC hO) rfl (fun r827 m827 h827 => ?_)
  obtain ⟨I1, rfl, hf1, rfl, hC1⟩ := h827
  have hM1 := hM.frC hf1 rfl
  refine g_aload_n dL_law_830 rfl ?_
  refine g_aload_n dL_law_831 rfl ?_
  refine g_iload_n dL_law_832 rfl ?_
  refine g_iconst (v := 1) dL_law_833 (by decide) ?_
  refine g_iadd dL_law_834 ?_
  rw [show (1 : Int32) = nI 1 from rfl, ix_k]
  refine t_iaro dL_law_835 (by decide) (by decide) rfl (in_nI (by omega) (by omega)) ?_
  refine g_callVi dL_law_836 ln_L_97 ⟨_, rfl⟩ rfl (by decide) ⟨_, _, rfl⟩ rfl (Nat.le_of_ble_eq_true rfl) (Nat.le_of_ble_eq_true rfl) (pm_out hM1 hO) rfl (fun r836 m836 h836 => ?_)
  obtain ⟨I2, rfl, hf2, rfl, hM2⟩ := h836
  have hC2 := hC1.frM hf2 rfl
  refine g_icmp_eq (tgt := 1364) dL_law_839 (by decide) (fun c9 => ?_) (fun c9 => ?_)
  · exact kk _ _ ⟨_, _, _, _, _, _, _, _, hC2, hM2, hO⟩
  · exact absurd rfl c9
theorem lw_c20 {nm : String} {t : Nat} {Φ : Option Value → Mem → Prop} (hL : LI I J) (ht : 6 * t + 6 ≤ X.1) (hX : X.1 ≤ 384) (kk : ∀ I9 J9, LI I9 J9 → Go X (d + 9) 66 (MLw nm) 66 1364 [.ref 103, .ref 0, .ref 48, .int (nI (6 * t))] [] (I9, J9, rf0) Φ) : Go X (d + 9) 66 (MLw nm) 66 844 [.ref 103, .ref 0, .ref 48, .int (nI (6 * t))] [] (I, J, rf0) Φ := by
  obtain ⟨rw, tx, P, ds, sh, tl, ch, fn, hC, hM, hO⟩ := hL
  refine g_aload_n dL_law_844 rfl ?_
  refine g_callVi dL_law_845 ln_L_98 ⟨_, rfl⟩ rfl (by decide) ⟨_, _, rfl⟩ rfl (Nat.le_of_ble_eq_true rfl) (Nat.le_of_ble_eq_true rfl) (pc_hear hC hO) rfl (fun r845 m845 h845 => ?_)
  obtain ⟨I1, rfl, hf1, rfl, hC1⟩ := h845
  have hM1 := hM.frC hf1 rfl
  refine g_aload_n dL_law_848 rfl ?_
  refine g_callVi dL_law_849 ln_L_101 ⟨_, rfl⟩ rfl (by decide) ⟨_, _, rfl⟩ rfl (Nat.le_of_ble_eq_true rfl) (Nat.le_of_ble_eq_true rfl) (pm_hear hM1 hO) rfl (fun r849 m849 h849 => ?_)
  obtain ⟨I2, rfl, hf2, rfl, hM2⟩ := h849
  have hC2 := hC1.frM hf2 rfl
  refine g_icmp_eq (tgt := 1364) dL_law_852 (by decide) (fun c9 => ?_) (fun c9 => ?_)
  · exact kk _ _ ⟨_, _, _, _, _, _, _, _, hC2, hM2, hO⟩
  · exact absurd rfl c9
theorem lw_c21 {nm : String} {t : Nat} {Φ : Option Value → Mem → Prop} (hL : LI I J) (ht : 6 * t + 6 ≤ X.1) (hX : X.1 ≤ 384) (kk : ∀ I9 J9, LI I9 J9 → Go X (d + 9) 66 (MLw nm) 66 1364 [.ref 103, .ref 0, .ref 48, .int (nI (6 * t))] [] (I9, J9, rf0) Φ) : Go X (d + 9) 66 (MLw nm) 66 857 [.ref 103, .ref 0, .ref 48, .int (nI (6 * t))] [] (I, J, rf0) Φ := by
  obtain ⟨rw, tx, P, ds, sh, tl, ch, fn, hC, hM, hO⟩ := hL
  refine g_aload_n dL_law_857 rfl ?_
  refine g_aload_n dL_law_858 rfl ?_
  refine g_iload_n dL_law_859 rfl ?_
  refine g_iconst (v := 1) dL_law_860 (by decide) ?_
  refine g_iadd dL_law_861 ?_
  rw [show (1 : Int32) = nI 1 from rfl, ix_k]
  refine t_iaro dL_law_862 (by decide) (by decide) rfl (in_nI (by omega) (by omega)) ?_
  refine g_callVi dL_law_863 ln_L_102 ⟨_, rfl⟩ rfl (by decide) ⟨_, _, rfl⟩ rfl (Nat.le_of_ble_eq_true rfl) (Nat.le_of_ble_eq_true rfl) (pc_heard hC hO) rfl (fun r863 m863 h863 => ?_)
  obtain ⟨I1, rfl, hf1, rfl, hC1⟩ := h863
  have hM1 := hM.frC hf1 rfl
  refine g_aload_n dL_law_866 rfl ?_
  refine g_aload_n dL_law_867 rfl ?_
  refine g_iload_n dL_law_868 rfl ?_
  refine g_iconst (v := 1) dL_law_869 (by decide) ?_
  refine g_iadd dL_law_870 ?_
  rw [show (1 : Int32) = nI 1 from rfl, ix_k]
  refine t_iaro dL_law_871 (by decide) (by decide) rfl (in_nI (by omega) (by omega)) ?_
  refine g_callVi dL_law_872 ln_L_105 ⟨_, rfl⟩ rfl (by decide) ⟨_, _, rfl⟩ rfl (Nat.le_of_ble_eq_true rfl) (Nat.le_of_ble_eq_true rfl) (pm_heard hM1 hO) rfl (fun r872 m872 h872 => ?_)
  obtain ⟨I2, rfl, hf2, rfl, hM2⟩ := h872
  have hC2 := hC1.frM hf2 rfl
  refine g_icmp_eq (tgt := 1364) dL_law_875 (by decide) (fun c9 => ?_) (fun c9 => ?_)
  · exact kk _ _ ⟨_, _, _, _, _, _, _, _, hC2, hM2, (sk_heard (fn := fn) (tl := tl) hO)⟩
  · exact absurd rfl c9
theorem lw_c22 {nm : String} {t : Nat} {Φ : Option Value → Mem → Prop} (hL : LI I J) (ht : 6 * t + 6 ≤ X.1) (hX : X.1 ≤ 384) (kk : ∀ I9 J9, LI I9 J9 → Go X (d + 9) 66 (MLw nm) 66 1364 [.ref 103, .ref 0, .ref 48, .int (nI (6 * t))] [] (I9, J9, rf0) Φ) : Go X (d + 9) 66 (MLw nm) 66 880 [.ref 103, .ref 0, .ref 48, .int (nI (6 * t))] [] (I, J, rf0) Φ := by
  obtain ⟨rw, tx, P, ds, sh, tl, ch, fn, hC, hM, hO⟩ := hL
  refine g_aload_n dL_law_880 rfl ?_
  refine g_aload_n dL_law_881 rfl ?_
  refine g_iload_n dL_law_882 rfl ?_
  refine g_iconst (v := 1) dL_law_883 (by decide) ?_
  refine g_iadd dL_law_884 ?_
  rw [show (1 : Int32) = nI 1 from rfl, ix_k]
  refine t_iaro dL_law_885 (by decide) (by decide) rfl (in_nI (by omega) (by omega)) ?_
  refine g_callVi dL_law_886 ln_L_106 ⟨_, rfl⟩ rfl (by decide) ⟨_, _, rfl⟩ rfl (Nat.le_of_ble_eq_true rfl) (Nat.le_of_ble_eq_true rfl) (pc_image hC hO) rfl (fun r886 m886 h886 => ?_)
  obtain ⟨I1, rfl, hf1, rfl, hC1⟩ := h886
  have hM1 := hM.frC hf1 rfl
  refine g_aload_n dL_law_889 rfl ?_
  refine g_aload_n dL_law_890 rfl ?_
  refine g_iload_n dL_law_891 rfl ?_
  refine g_iconst (v := 1) dL_law_892 (by decide) ?_
  refine g_iadd dL_law_893 ?_
  rw [show (1 : Int32) = nI 1 from rfl, ix_k]
  refine t_iaro dL_law_894 (by decide) (by decide) rfl (in_nI (by omega) (by omega)) ?_
  refine g_callVi dL_law_895 ln_L_109 ⟨_, rfl⟩ rfl (by decide) ⟨_, _, rfl⟩ rfl (Nat.le_of_ble_eq_true rfl) (Nat.le_of_ble_eq_true rfl) (pm_image hM1 hO) rfl (fun r895 m895 h895 => ?_)
  obtain ⟨I2, rfl, hf2, rfl, hM2⟩ := h895
  have hC2 := hC1.frM hf2 rfl
  refine g_icmp_eq (tgt := 1364) dL_law_898 (by decide) (fun c9 => ?_) (fun c9 => ?_)
  · exact kk _ _ ⟨_, _, _, _, _, _, _, _, hC2, hM2, (sk_image (fn := fn) (tl := tl) hO)⟩
  · exact absurd rfl c9
theorem lw_c23 {nm : String} {t : Nat} {Φ : Option Value → Mem → Prop} (hL : LI I J) (ht : 6 * t + 6 ≤ X.1) (hX : X.1 ≤ 384) (kk : ∀ I9 J9, LI I9 J9 → Go X (d + 9) 66 (MLw nm) 66 1364 [.ref 103, .ref 0, .ref 48, .int (nI (6 * t))] [] (I9, J9, rf0) Φ) : Go X (d + 9) 66 (MLw nm) 66 903 [.ref 103, .ref 0, .ref 48, .int (nI (6 * t))] [] (I, J, rf0) Φ := by
  obtain ⟨rw, tx, P, ds, sh, tl, ch, fn, hC, hM, hO⟩ := hL
  refine g_aload_n dL_law_903 rfl ?_
  refine g_aload_n dL_law_904 rfl ?_
  refine g_iload_n dL_law_905 rfl ?_
  refine g_iconst (v := 1) dL_law_906 (by decide) ?_
  refine g_iadd dL_law_907 ?_
  rw [show (1 : Int32) = nI 1 from rfl, ix_k]
  refine t_iaro dL_law_908 (by decide) (by decide) rfl (in_nI (by omega) (by omega)) ?_
  refine g_callVi dL_law_909 ln_L_110 ⟨_, rfl⟩ rfl (by decide) ⟨_, _, rfl⟩ rfl (Nat.le_of_ble_eq_true rfl) (Nat.le_of_ble_eq_true rfl) (pc_restore hC hO) rfl (fun r909 m909 h909 => ?_)
  obtain ⟨I1, rfl, hf1, rfl, hC1⟩ := h909
  have hM1 := hM.frC hf1 rfl
  refine g_aload_n dL_law_912 rfl ?_
  refine g_aload_n dL_law_913 rfl ?_
  refine g_iload_n dL_law_914 rfl ?_
  refine g_iconst (v := 1) dL_law_915 (by decide) ?_
  refine g_iadd dL_law_916 ?_
  rw [show (1 : Int32) = nI 1 from rfl, ix_k]
  refine t_iaro dL_law_917 (by decide) (by decide) rfl (in_nI (by omega) (by omega)) ?_
  refine g_callVi dL_law_918 ln_L_113 ⟨_, rfl⟩ rfl (by decide) ⟨_, _, rfl⟩ rfl (Nat.le_of_ble_eq_true rfl) (Nat.le_of_ble_eq_true rfl) (pm_restore hM1 hO) rfl (fun r918 m918 h918 => ?_)
  obtain ⟨I2, rfl, hf2, rfl, hM2⟩ := h918
  have hC2 := hC1.frM hf2 rfl
  refine g_icmp_eq (tgt := 1364) dL_law_921 (by decide) (fun c9 => ?_) (fun c9 => ?_)
  · exact kk _ _ ⟨_, _, _, _, _, _, _, _, hC2, hM2, (sk_restore (fn := fn) (tl := tl) hO)⟩
  · exact absurd rfl c9
theorem lw_c24 {nm : String} {t : Nat} {Φ : Option Value → Mem → Prop} (hL : LI I J) (ht : 6 * t + 6 ≤ X.1) (hX : X.1 ≤ 384) (kk : ∀ I9 J9, LI I9 J9 → Go X (d + 9) 66 (MLw nm) 66 1364 [.ref 103, .ref 0, .ref 48, .int (nI (6 * t))] [] (I9, J9, rf0) Φ) : Go X (d + 9) 66 (MLw nm) 66 926 [.ref 103, .ref 0, .ref 48, .int (nI (6 * t))] [] (I, J, rf0) Φ := by
  obtain ⟨rw, tx, P, ds, sh, tl, ch, fn, hC, hM, hO⟩ := hL
  refine g_aload_n dL_law_926 rfl ?_
  refine g_callVi dL_law_927 ln_L_114 ⟨_, rfl⟩ rfl (by decide) ⟨_, _, rfl⟩ rfl (Nat.le_of_ble_eq_true rfl) (Nat.le_of_ble_eq_true rfl) (pc_fits hC hO) rfl (fun r927 m927 h927 => ?_)
  obtain ⟨I1, rfl, hf1, rfl, hC1⟩ := h927
  have hM1 := hM.frC hf1 rfl
  refine g_aload_n dL_law_930 rfl ?_
  refine g_callVi dL_law_931 ln_L_117 ⟨_, rfl⟩ rfl (by decide) ⟨_, _, rfl⟩ rfl (Nat.le_of_ble_eq_true rfl) (Nat.le_of_ble_eq_true rfl) (pm_fits hM1 hO) rfl (fun r931 m931 h931 => ?_)
  obtain ⟨I2, rfl, hf2, rfl, hM2⟩ := h931
  have hC2 := hC1.frM hf2 rfl
  refine g_icmp_eq (tgt := 1364) dL_law_934 (by decide) (fun c9 => ?_) (fun c9 => ?_)
  · exact kk _ _ ⟨_, _, _, _, _, _, _, _, hC2, hM2, hO⟩
  · exact absurd rfl c9
theorem lw_c25 {nm : String} {t : Nat} {Φ : Option Value → Mem → Prop} (hL : LI I J) (ht : 6 * t + 6 ≤ X.1) (hX : X.1 ≤ 384) (kk : ∀ I9 J9, LI I9 J9 → Go X (d + 9) 66 (MLw nm) 66 1364 [.ref 103, .ref 0, .ref 48, .int (nI (6 * t))] [] (I9, J9, rf0) Φ) : Go X (d + 9) 66 (MLw nm) 66 939 [.ref 103, .ref 0, .ref 48, .int (nI (6 * t))] [] (I, J, rf0) Φ := by
  obtain ⟨rw, tx, P, ds, sh, tl, ch, fn, hC, hM, hO⟩ := hL
  refine g_aload_n dL_law_939 rfl ?_
  refine g_aload_n dL_law_940 rfl ?_
  refine g_iload_n dL_law_941 rfl ?_
  refine g_iconst (v := 1) dL_law_942 (by decide) ?_
  refine g_iadd dL_law_943 ?_
  rw [show (1 : Int32) = nI 1 from rfl, ix_k]
  refine t_iaro dL_law_944 (by decide) (by decide) rfl (in_nI (by omega) (by omega)) ?_
  refine g_callVi dL_law_945 ln_L_118 ⟨_, rfl⟩ rfl (by decide) ⟨_, _, rfl⟩ rfl (Nat.le_of_ble_eq_true rfl) (Nat.le_of_ble_eq_true rfl) (pc_odds hC hO) rfl (fun r945 m945 h945 => ?_)
  obtain ⟨I1, J1, rfl, hf1, hj1, rfl, hC1⟩ := h945
  have hM1 := hM.frC hf1 hj1
  refine g_aload_n dL_law_948 rfl ?_
  refine g_aload_n dL_law_949 rfl ?_
  refine g_iload_n dL_law_950 rfl ?_
  refine g_iconst (v := 1) dL_law_951 (by decide) ?_
  refine g_iadd dL_law_952 ?_
  rw [show (1 : Int32) = nI 1 from rfl, ix_k]
  refine t_iaro dL_law_953 (by decide) (by decide) rfl (in_nI (by omega) (by omega)) ?_
  refine g_callVi dL_law_954 ln_L_121 ⟨_, rfl⟩ rfl (by decide) ⟨_, _, rfl⟩ rfl (Nat.le_of_ble_eq_true rfl) (Nat.le_of_ble_eq_true rfl) (pm_odds hM1 hO) rfl (fun r954 m954 h954 => ?_)
  obtain ⟨I2, J2, rfl, hf2, hj2, rfl, hM2⟩ := h954
  have hC2 := hC1.frM hf2 hj2
  refine g_icmp_eq (tgt := 1364) dL_law_957 (by decide) (fun c9 => ?_) (fun c9 => ?_)
  · exact kk _ _ ⟨_, _, _, _, _, _, _, _, hC2, hM2, hO⟩
  · exact absurd rfl c9
theorem lw_c26 {nm : String} {t : Nat} {Φ : Option Value → Mem → Prop} (hL : LI I J) (ht : 6 * t + 6 ≤ X.1) (hX : X.1 ≤ 384) (kk : ∀ I9 J9, LI I9 J9 → Go X (d + 9) 66 (MLw nm) 66 1364 [.ref 103, .ref 0, .ref 48, .int (nI (6 * t))] [] (I9, J9, rf0) Φ) : Go X (d + 9) 66 (MLw nm) 66 962 [.ref 103, .ref 0, .ref 48, .int (nI (6 * t))] [] (I, J, rf0) Φ := by
  obtain ⟨rw, tx, P, ds, sh, tl, ch, fn, hC, hM, hO⟩ := hL
  refine g_aload_n dL_law_962 rfl ?_
  refine g_aload_n dL_law_963 rfl ?_
  refine g_iload_n dL_law_964 rfl ?_
  refine g_iconst (v := 1) dL_law_965 (by decide) ?_
  refine g_iadd dL_law_966 ?_
  rw [show (1 : Int32) = nI 1 from rfl, ix_k]
  refine t_iaro dL_law_967 (by decide) (by decide) rfl (in_nI (by omega) (by omega)) ?_
  refine g_callVi dL_law_968 ln_L_122 ⟨_, rfl⟩ rfl (by decide) ⟨_, _, rfl⟩ rfl (Nat.le_of_ble_eq_true rfl) (Nat.le_of_ble_eq_true rfl) (pc_self hC hO) rfl (fun r968 m968 h968 => ?_)
  obtain ⟨I1, J1, rfl, hf1, hj1, rfl, hC1⟩ := h968
  have hM1 := hM.frC hf1 hj1
  refine g_aload_n dL_law_971 rfl ?_
  refine g_aload_n dL_law_972 rfl ?_
  refine g_iload_n dL_law_973 rfl ?_
  refine g_iconst (v := 1) dL_law_974 (by decide) ?_
  refine g_iadd dL_law_975 ?_
  rw [show (1 : Int32) = nI 1 from rfl, ix_k]
  refine t_iaro dL_law_976 (by decide) (by decide) rfl (in_nI (by omega) (by omega)) ?_
  refine g_callVi dL_law_977 ln_L_125 ⟨_, rfl⟩ rfl (by decide) ⟨_, _, rfl⟩ rfl (Nat.le_of_ble_eq_true rfl) (Nat.le_of_ble_eq_true rfl) (pm_self hM1 hO) rfl (fun r977 m977 h977 => ?_)
  obtain ⟨I2, J2, rfl, hf2, hj2, rfl, hM2⟩ := h977
  have hC2 := hC1.frM hf2 hj2
  refine g_icmp_eq (tgt := 1364) dL_law_980 (by decide) (fun c9 => ?_) (fun c9 => ?_)
  · exact kk _ _ ⟨_, _, _, _, _, _, _, _, hC2, hM2, hO⟩
  · exact absurd rfl c9
theorem lw_c27 {nm : String} {t : Nat} {Φ : Option Value → Mem → Prop} (hL : LI I J) (ht : 6 * t + 6 ≤ X.1) (hX : X.1 ≤ 384) (kk : ∀ I9 J9, LI I9 J9 → Go X (d + 9) 66 (MLw nm) 66 1364 [.ref 103, .ref 0, .ref 48, .int (nI (6 * t))] [] (I9, J9, rf0) Φ) : Go X (d + 9) 66 (MLw nm) 66 985 [.ref 103, .ref 0, .ref 48, .int (nI (6 * t))] [] (I, J, rf0) Φ := by
  obtain ⟨rw, tx, P, ds, sh, tl, ch, fn, hC, hM, hO⟩ := hL
  refine g_aload_n dL_law_985 rfl ?_
  refine g_callVi dL_law_986 ln_L_126 ⟨_, rfl⟩ rfl (by decide) ⟨_, _, rfl⟩ rfl (Nat.le_of_ble_eq_true rfl) (Nat.le_of_ble_eq_true rfl) (pc_who hC hO) rfl (fun r986 m986 h986 => ?_)
  obtain ⟨I1, rfl, hf1, rfl, hC1⟩ := h986
  have hM1 := hM.frC hf1 rfl
  refine g_aload_n dL_law_989 rfl ?_
  refine g_callVi dL_law_990 ln_L_129 ⟨_, rfl⟩ rfl (by decide) ⟨_, _, rfl⟩ rfl (Nat.le_of_ble_eq_true rfl) (Nat.le_of_ble_eq_true rfl) (pm_who hM1 hO) rfl (fun r990 m990 h990 => ?_)
  obtain ⟨I2, J2, rfl, hf2, hj2, rfl, hM2⟩ := h990
  have hC2 := hC1.frM hf2 hj2
  refine g_icmp_eq (tgt := 1364) dL_law_993 (by decide) (fun c9 => ?_) (fun c9 => ?_)
  · exact kk _ _ ⟨_, _, _, _, _, _, _, _, hC2, hM2, hO⟩
  · exact absurd rfl c9
theorem lw_c28 {nm : String} {t : Nat} {Φ : Option Value → Mem → Prop} (hL : LI I J) (ht : 6 * t + 6 ≤ X.1) (hX : X.1 ≤ 384) (kk : ∀ I9 J9, LI I9 J9 → Go X (d + 9) 66 (MLw nm) 66 1364 [.ref 103, .ref 0, .ref 48, .int (nI (6 * t))] [] (I9, J9, rf0) Φ) : Go X (d + 9) 66 (MLw nm) 66 998 [.ref 103, .ref 0, .ref 48, .int (nI (6 * t))] [] (I, J, rf0) Φ := by
  obtain ⟨rw, tx, P, ds, sh, tl, ch, fn, hC, hM, hO⟩ := hL
  refine g_aload_n dL_law_998 rfl ?_
  refine g_callVi dL_law_999 ln_L_130 ⟨_, rfl⟩ rfl (by decide) ⟨_, _, rfl⟩ rfl (Nat.le_of_ble_eq_true rfl) (Nat.le_of_ble_eq_true rfl) (pc_likely hC hO) rfl (fun r999 m999 h999 => ?_)
  obtain ⟨I1, rfl, hf1, rfl, hC1⟩ := h999
  have hM1 := hM.frC hf1 rfl
  refine g_aload_n dL_law_1002 rfl ?_
  refine g_callVi dL_law_1003 ln_L_133 ⟨_, rfl⟩ rfl (by decide) ⟨_, _, rfl⟩ rfl (Nat.le_of_ble_eq_true rfl) (Nat.le_of_ble_eq_true rfl) (pm_likely hM1 hO) rfl (fun r1003 m1003 h1003 => ?_)
  obtain ⟨I2, rfl, hf2, rfl, hM2⟩ := h1003
  have hC2 := hC1.frM hf2 rfl
  refine g_icmp_eq (tgt := 1364) dL_law_1006 (by decide) (fun c9 => ?_) (fun c9 => ?_)
  · exact kk _ _ ⟨_, _, _, _, _, _, _, _, hC2, hM2, hO⟩
  · exact absurd rfl c9
theorem lw_c29 {nm : String} {t : Nat} {Φ : Option Value → Mem → Prop} (hL : LI I J) (ht : 6 * t + 6 ≤ X.1) (hX : X.1 ≤ 384) (kk : ∀ I9 J9, LI I9 J9 → Go X (d + 9) 66 (MLw nm) 66 1364 [.ref 103, .ref 0, .ref 48, .int (nI (6 * t))] [] (I9, J9, rf0) Φ) : Go X (d + 9) 66 (MLw nm) 66 1011 [.ref 103, .ref 0, .ref 48, .int (nI (6 * t))] [] (I, J, rf0) Φ := by
  obtain ⟨rw, tx, P, ds, sh, tl, ch, fn, hC, hM, hO⟩ := hL
  refine g_aload_n dL_law_1011 rfl ?_
  refine g_callVi dL_law_1012 ln_L_134 ⟨_, rfl⟩ rfl (by decide) ⟨_, _, rfl⟩ rfl (Nat.le_of_ble_eq_true rfl) (Nat.le_of_ble_eq_true rfl) (pc_began hC hO) rfl (fun r1012 m1012 h1012 => ?_)
  obtain ⟨I1, rfl, hf1, rfl, hC1⟩ := h1012
  have hM1 := hM.frC hf1 rfl
  refine g_aload_n dL_law_1015 rfl ?_
  refine g_callVi dL_law_1016 ln_L_137 ⟨_, rfl⟩ rfl (by decide) ⟨_, _, rfl⟩ rfl (Nat.le_of_ble_eq_true rfl) (Nat.le_of_ble_eq_true rfl) (pm_began hM1 hO) rfl (fun r1016 m1016 h1016 => ?_)
  obtain ⟨I2, rfl, hf2, rfl, hM2⟩ := h1016
  have hC2 := hC1.frM hf2 rfl
  refine g_icmp_eq (tgt := 1364) dL_law_1019 (by decide) (fun c9 => ?_) (fun c9 => ?_)
  · exact kk _ _ ⟨_, _, _, _, _, _, _, _, hC2, hM2, hO⟩
  · exact absurd rfl c9
theorem lw_c30 {nm : String} {t : Nat} {Φ : Option Value → Mem → Prop} (hL : LI I J) (ht : 6 * t + 6 ≤ X.1) (hX : X.1 ≤ 384) (kk : ∀ I9 J9, LI I9 J9 → Go X (d + 9) 66 (MLw nm) 66 1364 [.ref 103, .ref 0, .ref 48, .int (nI (6 * t))] [] (I9, J9, rf0) Φ) : Go X (d + 9) 66 (MLw nm) 66 1024 [.ref 103, .ref 0, .ref 48, .int (nI (6 * t))] [] (I, J, rf0) Φ := by
  obtain ⟨rw, tx, P, ds, sh, tl, ch, fn, hC, hM, hO⟩ := hL
  refine g_aload_n dL_law_1024 rfl ?_
  refine g_aload_n dL_law_1025 rfl ?_
  refine g_iload_n dL_law_1026 rfl ?_
  refine g_iconst (v := 1) dL_law_1027 (by decide) ?_
  refine g_iadd dL_law_1028 ?_
  rw [show (1 : Int32) = nI 1 from rfl, ix_k]
  refine t_iaro dL_law_1029 (by decide) (by decide) rfl (in_nI (by omega) (by omega)) ?_
  refine g_callVi dL_law_1030 ln_L_138 ⟨_, rfl⟩ rfl (by decide) ⟨_, _, rfl⟩ rfl (Nat.le_of_ble_eq_true rfl) (Nat.le_of_ble_eq_true rfl) (pc_tells hC hO) rfl (fun r1030 m1030 h1030 => ?_)
  obtain ⟨I1, rfl, hf1, rfl, hC1⟩ := h1030
  have hM1 := hM.frC hf1 rfl
  refine g_aload_n dL_law_1033 rfl ?_
  refine g_aload_n dL_law_1034 rfl ?_
  refine g_iload_n dL_law_1035 rfl ?_
  refine g_iconst (v := 1) dL_law_1036 (by decide) ?_
  refine g_iadd dL_law_1037 ?_
  rw [show (1 : Int32) = nI 1 from rfl, ix_k]
  refine t_iaro dL_law_1038 (by decide) (by decide) rfl (in_nI (by omega) (by omega)) ?_
  refine g_callVi dL_law_1039 ln_L_141 ⟨_, rfl⟩ rfl (by decide) ⟨_, _, rfl⟩ rfl (Nat.le_of_ble_eq_true rfl) (Nat.le_of_ble_eq_true rfl) (pm_tells hM1 hO) rfl (fun r1039 m1039 h1039 => ?_)
  obtain ⟨I2, rfl, hf2, rfl, hM2⟩ := h1039
  have hC2 := hC1.frM hf2 rfl
  refine g_icmp_eq (tgt := 1364) dL_law_1042 (by decide) (fun c9 => ?_) (fun c9 => ?_)
  · exact kk _ _ ⟨_, _, _, _, _, _, _, _, hC2, hM2, hO⟩
  · exact absurd rfl c9
theorem lw_c31 {nm : String} {t : Nat} {Φ : Option Value → Mem → Prop} (hL : LI I J) (ht : 6 * t + 6 ≤ X.1) (hX : X.1 ≤ 384) (kk : ∀ I9 J9, LI I9 J9 → Go X (d + 9) 66 (MLw nm) 66 1364 [.ref 103, .ref 0, .ref 48, .int (nI (6 * t))] [] (I9, J9, rf0) Φ) : Go X (d + 9) 66 (MLw nm) 66 1047 [.ref 103, .ref 0, .ref 48, .int (nI (6 * t))] [] (I, J, rf0) Φ := by
  obtain ⟨rw, tx, P, ds, sh, tl, ch, fn, hC, hM, hO⟩ := hL
  refine g_aload_n dL_law_1047 rfl ?_
  refine g_callVi dL_law_1048 ln_L_142 ⟨_, rfl⟩ rfl (by decide) ⟨_, _, rfl⟩ rfl (Nat.le_of_ble_eq_true rfl) (Nat.le_of_ble_eq_true rfl) (pc_best hC hO) rfl (fun r1048 m1048 h1048 => ?_)
  obtain ⟨I1, rfl, hf1, rfl, hC1⟩ := h1048
  have hM1 := hM.frC hf1 rfl
  refine g_aload_n dL_law_1051 rfl ?_
  refine g_callVi dL_law_1052 ln_L_145 ⟨_, rfl⟩ rfl (by decide) ⟨_, _, rfl⟩ rfl (Nat.le_of_ble_eq_true rfl) (Nat.le_of_ble_eq_true rfl) (pm_best hM1 hO) rfl (fun r1052 m1052 h1052 => ?_)
  obtain ⟨I2, rfl, hf2, rfl, hM2⟩ := h1052
  have hC2 := hC1.frM hf2 rfl
  refine g_icmp_eq (tgt := 1364) dL_law_1055 (by decide) (fun c9 => ?_) (fun c9 => ?_)
  · exact kk _ _ ⟨_, _, _, _, _, _, _, _, hC2, hM2, hO⟩
  · exact absurd rfl c9
theorem lw_c32 {nm : String} {t : Nat} {Φ : Option Value → Mem → Prop} (hL : LI I J) (ht : 6 * t + 6 ≤ X.1) (hX : X.1 ≤ 384) (kk : ∀ I9 J9, LI I9 J9 → Go X (d + 9) 66 (MLw nm) 66 1364 [.ref 103, .ref 0, .ref 48, .int (nI (6 * t))] [] (I9, J9, rf0) Φ) : Go X (d + 9) 66 (MLw nm) 66 1060 [.ref 103, .ref 0, .ref 48, .int (nI (6 * t))] [] (I, J, rf0) Φ := by
  obtain ⟨rw, tx, P, ds, sh, tl, ch, fn, hC, hM, hO⟩ := hL
  refine g_aload_n dL_law_1060 rfl ?_
  refine g_aload_n dL_law_1061 rfl ?_
  refine g_iload_n dL_law_1062 rfl ?_
  refine g_iconst (v := 1) dL_law_1063 (by decide) ?_
  refine g_iadd dL_law_1064 ?_
  rw [show (1 : Int32) = nI 1 from rfl, ix_k]
  refine t_iaro dL_law_1065 (by decide) (by decide) rfl (in_nI (by omega) (by omega)) ?_
  refine g_aload_n dL_law_1066 rfl ?_
  refine g_iload_n dL_law_1067 rfl ?_
  refine g_iconst (v := 2) dL_law_1068 (by decide) ?_
  refine g_iadd dL_law_1069 ?_
  rw [show (2 : Int32) = nI 2 from rfl, ix_k]
  refine t_iaro dL_law_1070 (by decide) (by decide) rfl (in_nI (by omega) (by omega)) ?_
  refine g_callVi dL_law_1071 ln_L_146 ⟨_, rfl⟩ rfl (by decide) ⟨_, _, rfl⟩ rfl (Nat.le_of_ble_eq_true rfl) (Nat.le_of_ble_eq_true rfl) (pc_hides hC hO) rfl (fun r1071 m1071 h1071 => ?_)
  obtain ⟨I1, rfl, hf1, rfl, hC1⟩ := h1071
  have hM1 := hM.frC hf1 rfl
  refine g_aload_n dL_law_1074 rfl ?_
  refine g_aload_n dL_law_1075 rfl ?_
  refine g_iload_n dL_law_1076 rfl ?_
  refine g_iconst (v := 1) dL_law_1077 (by decide) ?_
  refine g_iadd dL_law_1078 ?_
  rw [show (1 : Int32) = nI 1 from rfl, ix_k]
  refine t_iaro dL_law_1079 (by decide) (by decide) rfl (in_nI (by omega) (by omega)) ?_
  refine g_aload_n dL_law_1080 rfl ?_
  refine g_iload_n dL_law_1081 rfl ?_
  refine g_iconst (v := 2) dL_law_1082 (by decide) ?_
  refine g_iadd dL_law_1083 ?_
  rw [show (2 : Int32) = nI 2 from rfl, ix_k]
  refine t_iaro dL_law_1084 (by decide) (by decide) rfl (in_nI (by omega) (by omega)) ?_
  refine g_callVi dL_law_1085 ln_L_149 ⟨_, rfl⟩ rfl (by decide) ⟨_, _, rfl⟩ rfl (Nat.le_of_ble_eq_true rfl) (Nat.le_of_ble_eq_true rfl) (pm_hides hM1 hO) rfl (fun r1085 m1085 h1085 => ?_)
  obtain ⟨I2, rfl, hf2, rfl, hM2⟩ := h1085
  have hC2 := hC1.frM hf2 rfl
  refine g_icmp_eq (tgt := 1364) dL_law_1088 (by decide) (fun c9 => ?_) (fun c9 => ?_)
  · exact kk _ _ ⟨_, _, _, _, _, _, _, _, hC2, hM2, hO⟩
  · exact absurd rfl c9
theorem lw_c33 {nm : String} {t : Nat} {Φ : Option Value → Mem → Prop} (hL : LI I J) (ht : 6 * t + 6 ≤ X.1) (hX : X.1 ≤ 384) (kk : ∀ I9 J9, LI I9 J9 → Go X (d + 9) 66 (MLw nm) 66 1364 [.ref 103, .ref 0, .ref 48, .int (nI (6 * t))] [] (I9, J9, rf0) Φ) : Go X (d + 9) 66 (MLw nm) 66 1093 [.ref 103, .ref 0, .ref 48, .int (nI (6 * t))] [] (I, J, rf0) Φ := by
  obtain ⟨rw, tx, P, ds, sh, tl, ch, fn, hC, hM, hO⟩ := hL
  refine g_aload_n dL_law_1093 rfl ?_
  refine g_callVi dL_law_1094 ln_L_150 ⟨_, rfl⟩ rfl (by decide) ⟨_, _, rfl⟩ rfl (Nat.le_of_ble_eq_true rfl) (Nat.le_of_ble_eq_true rfl) (pc_fewest hC hO) rfl (fun r1094 m1094 h1094 => ?_)
  obtain ⟨I1, rfl, hf1, rfl, hC1⟩ := h1094
  have hM1 := hM.frC hf1 rfl
  refine g_aload_n dL_law_1097 rfl ?_
  refine g_callVi dL_law_1098 ln_L_153 ⟨_, rfl⟩ rfl (by decide) ⟨_, _, rfl⟩ rfl (Nat.le_of_ble_eq_true rfl) (Nat.le_of_ble_eq_true rfl) (pm_fewest hM1 hO) rfl (fun r1098 m1098 h1098 => ?_)
  obtain ⟨I2, rfl, hf2, rfl, hM2⟩ := h1098
  have hC2 := hC1.frM hf2 rfl
  refine g_icmp_eq (tgt := 1364) dL_law_1101 (by decide) (fun c9 => ?_) (fun c9 => ?_)
  · exact kk _ _ ⟨_, _, _, _, _, _, _, _, hC2, hM2, hO⟩
  · exact absurd rfl c9
theorem lw_c34 {nm : String} {t : Nat} {Φ : Option Value → Mem → Prop} (hL : LI I J) (ht : 6 * t + 6 ≤ X.1) (hX : X.1 ≤ 384) (kk : ∀ I9 J9, LI I9 J9 → Go X (d + 9) 66 (MLw nm) 66 1364 [.ref 103, .ref 0, .ref 48, .int (nI (6 * t))] [] (I9, J9, rf0) Φ) : Go X (d + 9) 66 (MLw nm) 66 1106 [.ref 103, .ref 0, .ref 48, .int (nI (6 * t))] [] (I, J, rf0) Φ := by
  obtain ⟨rw, tx, P, ds, sh, tl, ch, fn, hC, hM, hO⟩ := hL
  refine g_aload_n dL_law_1106 rfl ?_
  refine g_callVi dL_law_1107 ln_L_154 ⟨_, rfl⟩ rfl (by decide) ⟨_, _, rfl⟩ rfl (Nat.le_of_ble_eq_true rfl) (Nat.le_of_ble_eq_true rfl) (pc_modern hC hO) rfl (fun r1107 m1107 h1107 => ?_)
  obtain ⟨I1, rfl, hf1, rfl, hC1⟩ := h1107
  have hM1 := hM.frC hf1 rfl
  refine g_aload_n dL_law_1110 rfl ?_
  refine g_callVi dL_law_1111 ln_L_157 ⟨_, rfl⟩ rfl (by decide) ⟨_, _, rfl⟩ rfl (Nat.le_of_ble_eq_true rfl) (Nat.le_of_ble_eq_true rfl) (pm_modern hM1 hO) rfl (fun r1111 m1111 h1111 => ?_)
  obtain ⟨I2, rfl, hf2, rfl, hM2⟩ := h1111
  have hC2 := hC1.frM hf2 rfl
  refine g_icmp_eq (tgt := 1364) dL_law_1114 (by decide) (fun c9 => ?_) (fun c9 => ?_)
  · exact kk _ _ ⟨_, _, _, _, _, _, _, _, hC2, hM2, hO⟩
  · exact absurd rfl c9
theorem lw_c35 {nm : String} {t : Nat} {Φ : Option Value → Mem → Prop} (hL : LI I J) (ht : 6 * t + 6 ≤ X.1) (hX : X.1 ≤ 384) (kk : ∀ I9 J9, LI I9 J9 → Go X (d + 9) 66 (MLw nm) 66 1364 [.ref 103, .ref 0, .ref 48, .int (nI (6 * t))] [] (I9, J9, rf0) Φ) : Go X (d + 9) 66 (MLw nm) 66 1119 [.ref 103, .ref 0, .ref 48, .int (nI (6 * t))] [] (I, J, rf0) Φ := by
  obtain ⟨rw, tx, P, ds, sh, tl, ch, fn, hC, hM, hO⟩ := hL
  refine g_aload_n dL_law_1119 rfl ?_
  refine g_aload_n dL_law_1120 rfl ?_
  refine g_iload_n dL_law_1121 rfl ?_
  refine g_iconst (v := 1) dL_law_1122 (by decide) ?_
  refine g_iadd dL_law_1123 ?_
  rw [show (1 : Int32) = nI 1 from rfl, ix_k]
  refine t_iaro dL_law_1124 (by decide) (by decide) rfl (in_nI (by omega) (by omega)) ?_
  refine g_callVi dL_law_1125 ln_L_158 ⟨_, rfl⟩ rfl (by decide) ⟨_, _, rfl⟩ rfl (Nat.le_of_ble_eq_true rfl) (Nat.le_of_ble_eq_true rfl) (pc_together hC hO) rfl (fun r1125 m1125 h1125 => ?_)
  obtain ⟨I1, rfl, hf1, rfl, hC1⟩ := h1125
  have hM1 := hM.frC hf1 rfl
  refine g_aload_n dL_law_1128 rfl ?_
  refine g_aload_n dL_law_1129 rfl ?_
  refine g_iload_n dL_law_1130 rfl ?_
  refine g_iconst (v := 1) dL_law_1131 (by decide) ?_
  refine g_iadd dL_law_1132 ?_
  rw [show (1 : Int32) = nI 1 from rfl, ix_k]
  refine t_iaro dL_law_1133 (by decide) (by decide) rfl (in_nI (by omega) (by omega)) ?_
  refine g_callVi dL_law_1134 ln_L_161 ⟨_, rfl⟩ rfl (by decide) ⟨_, _, rfl⟩ rfl (Nat.le_of_ble_eq_true rfl) (Nat.le_of_ble_eq_true rfl) (pm_together hM1 hO) rfl (fun r1134 m1134 h1134 => ?_)
  obtain ⟨I2, rfl, hf2, rfl, hM2⟩ := h1134
  have hC2 := hC1.frM hf2 rfl
  refine g_icmp_eq (tgt := 1364) dL_law_1137 (by decide) (fun c9 => ?_) (fun c9 => ?_)
  · exact kk _ _ ⟨_, _, _, _, _, _, _, _, hC2, hM2, hO⟩
  · exact absurd rfl c9
theorem lw_c36 {nm : String} {t : Nat} {Φ : Option Value → Mem → Prop} (hL : LI I J) (ht : 6 * t + 6 ≤ X.1) (hX : X.1 ≤ 384) (kk : ∀ I9 J9, LI I9 J9 → Go X (d + 9) 66 (MLw nm) 66 1364 [.ref 103, .ref 0, .ref 48, .int (nI (6 * t))] [] (I9, J9, rf0) Φ) : Go X (d + 9) 66 (MLw nm) 66 1142 [.ref 103, .ref 0, .ref 48, .int (nI (6 * t))] [] (I, J, rf0) Φ := by
  obtain ⟨rw, tx, P, ds, sh, tl, ch, fn, hC, hM, hO⟩ := hL
  refine g_aload_n dL_law_1142 rfl ?_
  refine g_callVi dL_law_1143 ln_L_162 ⟨_, rfl⟩ rfl (by decide) ⟨_, _, rfl⟩ rfl (Nat.le_of_ble_eq_true rfl) (Nat.le_of_ble_eq_true rfl) (pc_rule hC hO) rfl (fun r1143 m1143 h1143 => ?_)
  obtain ⟨I1, rfl, hf1, rfl, hC1⟩ := h1143
  have hM1 := hM.frC hf1 rfl
  refine g_aload_n dL_law_1146 rfl ?_
  refine g_callVi dL_law_1147 ln_L_165 ⟨_, rfl⟩ rfl (by decide) ⟨_, _, rfl⟩ rfl (Nat.le_of_ble_eq_true rfl) (Nat.le_of_ble_eq_true rfl) (pm_rule hM1 hO) rfl (fun r1147 m1147 h1147 => ?_)
  obtain ⟨I2, rfl, hf2, rfl, hM2⟩ := h1147
  have hC2 := hC1.frM hf2 rfl
  refine g_icmp_eq (tgt := 1364) dL_law_1150 (by decide) (fun c9 => ?_) (fun c9 => ?_)
  · exact kk _ _ ⟨_, _, _, _, _, _, _, _, hC2, hM2, hO⟩
  · exact absurd rfl c9
theorem lw_c37 {nm : String} {t : Nat} {Φ : Option Value → Mem → Prop} (hL : LI I J) (ht : 6 * t + 6 ≤ X.1) (hX : X.1 ≤ 384) (kk : ∀ I9 J9, LI I9 J9 → Go X (d + 9) 66 (MLw nm) 66 1364 [.ref 103, .ref 0, .ref 48, .int (nI (6 * t))] [] (I9, J9, rf0) Φ) : Go X (d + 9) 66 (MLw nm) 66 1155 [.ref 103, .ref 0, .ref 48, .int (nI (6 * t))] [] (I, J, rf0) Φ := by
  obtain ⟨rw, tx, P, ds, sh, tl, ch, fn, hC, hM, hO⟩ := hL
  refine g_aload_n dL_law_1155 rfl ?_
  refine g_aload_n dL_law_1156 rfl ?_
  refine g_iload_n dL_law_1157 rfl ?_
  refine g_iconst (v := 1) dL_law_1158 (by decide) ?_
  refine g_iadd dL_law_1159 ?_
  rw [show (1 : Int32) = nI 1 from rfl, ix_k]
  refine t_iaro dL_law_1160 (by decide) (by decide) rfl (in_nI (by omega) (by omega)) ?_
  refine g_callVi dL_law_1161 ln_L_166 ⟨_, rfl⟩ rfl (by decide) ⟨_, _, rfl⟩ rfl (Nat.le_of_ble_eq_true rfl) (Nat.le_of_ble_eq_true rfl) (pc_signs hC hO) rfl (fun r1161 m1161 h1161 => ?_)
  obtain ⟨I1, rfl, hf1, rfl, hC1⟩ := h1161
  have hM1 := hM.frC hf1 rfl
  refine g_aload_n dL_law_1164 rfl ?_
  refine g_aload_n dL_law_1165 rfl ?_
  refine g_iload_n dL_law_1166 rfl ?_
  refine g_iconst (v := 1) dL_law_1167 (by decide) ?_
  refine g_iadd dL_law_1168 ?_
  rw [show (1 : Int32) = nI 1 from rfl, ix_k]
  refine t_iaro dL_law_1169 (by decide) (by decide) rfl (in_nI (by omega) (by omega)) ?_
  refine g_callVi dL_law_1170 ln_L_169 ⟨_, rfl⟩ rfl (by decide) ⟨_, _, rfl⟩ rfl (Nat.le_of_ble_eq_true rfl) (Nat.le_of_ble_eq_true rfl) (pm_signs hM1 hO) rfl (fun r1170 m1170 h1170 => ?_)
  obtain ⟨I2, rfl, hf2, rfl, hM2⟩ := h1170
  have hC2 := hC1.frM hf2 rfl
  refine g_icmp_eq (tgt := 1364) dL_law_1173 (by decide) (fun c9 => ?_) (fun c9 => ?_)
  · exact kk _ _ ⟨_, _, _, _, _, _, _, _, hC2, hM2, hO⟩
  · exact absurd rfl c9
theorem lw_c38 {nm : String} {t : Nat} {Φ : Option Value → Mem → Prop} (hL : LI I J) (ht : 6 * t + 6 ≤ X.1) (hX : X.1 ≤ 384) (kk : ∀ I9 J9, LI I9 J9 → Go X (d + 9) 66 (MLw nm) 66 1364 [.ref 103, .ref 0, .ref 48, .int (nI (6 * t))] [] (I9, J9, rf0) Φ) : Go X (d + 9) 66 (MLw nm) 66 1178 [.ref 103, .ref 0, .ref 48, .int (nI (6 * t))] [] (I, J, rf0) Φ := by
  obtain ⟨rw, tx, P, ds, sh, tl, ch, fn, hC, hM, hO⟩ := hL
  refine g_aload_n dL_law_1178 rfl ?_
  refine g_callVi dL_law_1179 ln_L_170 ⟨_, rfl⟩ rfl (by decide) ⟨_, _, rfl⟩ rfl (Nat.le_of_ble_eq_true rfl) (Nat.le_of_ble_eq_true rfl) (pc_line hC hO) rfl (fun r1179 m1179 h1179 => ?_)
  obtain ⟨I1, rfl, hf1, rfl, hC1⟩ := h1179
  have hM1 := hM.frC hf1 rfl
  refine g_aload_n dL_law_1182 rfl ?_
  refine g_callVi dL_law_1183 ln_L_173 ⟨_, rfl⟩ rfl (by decide) ⟨_, _, rfl⟩ rfl (Nat.le_of_ble_eq_true rfl) (Nat.le_of_ble_eq_true rfl) (pm_line hM1 hO) rfl (fun r1183 m1183 h1183 => ?_)
  obtain ⟨I2, rfl, hf2, rfl, hM2⟩ := h1183
  have hC2 := hC1.frM hf2 rfl
  refine g_icmp_eq (tgt := 1364) dL_law_1186 (by decide) (fun c9 => ?_) (fun c9 => ?_)
  · exact kk _ _ ⟨_, _, _, _, _, _, _, _, hC2, hM2, hO⟩
  · exact absurd rfl c9
theorem lw_c39 {nm : String} {t : Nat} {Φ : Option Value → Mem → Prop} (hL : LI I J) (ht : 6 * t + 6 ≤ X.1) (hX : X.1 ≤ 384) (kk : ∀ I9 J9, LI I9 J9 → Go X (d + 9) 66 (MLw nm) 66 1364 [.ref 103, .ref 0, .ref 48, .int (nI (6 * t))] [] (I9, J9, rf0) Φ) : Go X (d + 9) 66 (MLw nm) 66 1191 [.ref 103, .ref 0, .ref 48, .int (nI (6 * t))] [] (I, J, rf0) Φ := by
  obtain ⟨rw, tx, P, ds, sh, tl, ch, fn, hC, hM, hO⟩ := hL
  refine g_aload_n dL_law_1191 rfl ?_
  refine g_callVi dL_law_1192 ln_L_174 ⟨_, rfl⟩ rfl (by decide) ⟨_, _, rfl⟩ rfl (Nat.le_of_ble_eq_true rfl) (Nat.le_of_ble_eq_true rfl) (pc_letter hC hO) rfl (fun r1192 m1192 h1192 => ?_)
  obtain ⟨I1, rfl, hf1, rfl, hC1⟩ := h1192
  have hM1 := hM.frC hf1 rfl
  refine g_aload_n dL_law_1195 rfl ?_
  refine g_callVi dL_law_1196 ln_L_177 ⟨_, rfl⟩ rfl (by decide) ⟨_, _, rfl⟩ rfl (Nat.le_of_ble_eq_true rfl) (Nat.le_of_ble_eq_true rfl) (pm_letter hM1 hO) rfl (fun r1196 m1196 h1196 => ?_)
  obtain ⟨I2, rfl, hf2, rfl, hM2⟩ := h1196
  have hC2 := hC1.frM hf2 rfl
  refine g_icmp_eq (tgt := 1364) dL_law_1199 (by decide) (fun c9 => ?_) (fun c9 => ?_)
  · exact kk _ _ ⟨_, _, _, _, _, _, _, _, hC2, hM2, hO⟩
  · exact absurd rfl c9
theorem lw_c40 {nm : String} {t : Nat} {Φ : Option Value → Mem → Prop} (hL : LI I J) (ht : 6 * t + 6 ≤ X.1) (hX : X.1 ≤ 384) (kk : ∀ I9 J9, LI I9 J9 → Go X (d + 9) 66 (MLw nm) 66 1364 [.ref 103, .ref 0, .ref 48, .int (nI (6 * t))] [] (I9, J9, rf0) Φ) : Go X (d + 9) 66 (MLw nm) 66 1204 [.ref 103, .ref 0, .ref 48, .int (nI (6 * t))] [] (I, J, rf0) Φ := by
  obtain ⟨rw, tx, P, ds, sh, tl, ch, fn, hC, hM, hO⟩ := hL
  refine g_aload_n dL_law_1204 rfl ?_
  refine g_callVi dL_law_1205 ln_L_178 ⟨_, rfl⟩ rfl (by decide) ⟨_, _, rfl⟩ rfl (Nat.le_of_ble_eq_true rfl) (Nat.le_of_ble_eq_true rfl) (pc_aloud hC hO) rfl (fun r1205 m1205 h1205 => ?_)
  obtain ⟨I1, rfl, hf1, rfl, hC1⟩ := h1205
  have hM1 := hM.frC hf1 rfl
  refine g_aload_n dL_law_1208 rfl ?_
  refine g_callVi dL_law_1209 ln_L_181 ⟨_, rfl⟩ rfl (by decide) ⟨_, _, rfl⟩ rfl (Nat.le_of_ble_eq_true rfl) (Nat.le_of_ble_eq_true rfl) (pm_aloud hM1 hO) rfl (fun r1209 m1209 h1209 => ?_)
  obtain ⟨I2, rfl, hf2, rfl, hM2⟩ := h1209
  have hC2 := hC1.frM hf2 rfl
  refine g_icmp_eq (tgt := 1364) dL_law_1212 (by decide) (fun c9 => ?_) (fun c9 => ?_)
  · exact kk _ _ ⟨_, _, _, _, _, _, _, _, hC2, hM2, hO⟩
  · exact absurd rfl c9
theorem lw_c41 {nm : String} {t : Nat} {Φ : Option Value → Mem → Prop} (hL : LI I J) (ht : 6 * t + 6 ≤ X.1) (hX : X.1 ≤ 384) (kk : ∀ I9 J9, LI I9 J9 → Go X (d + 9) 66 (MLw nm) 66 1364 [.ref 103, .ref 0, .ref 48, .int (nI (6 * t))] [] (I9, J9, rf0) Φ) : Go X (d + 9) 66 (MLw nm) 66 1217 [.ref 103, .ref 0, .ref 48, .int (nI (6 * t))] [] (I, J, rf0) Φ := by
  obtain ⟨rw, tx, P, ds, sh, tl, ch, fn, hC, hM, hO⟩ := hL
  refine g_aload_n dL_law_1217 rfl ?_
  refine g_aload_n dL_law_1218 rfl ?_
  refine g_iload_n dL_law_1219 rfl ?_
  refine g_iconst (v := 1) dL_law_1220 (by decide) ?_
  refine g_iadd dL_law_1221 ?_
  rw [show (1 : Int32) = nI 1 from rfl, ix_k]
  refine t_iaro dL_law_1222 (by decide) (by decide) rfl (in_nI (by omega) (by omega)) ?_
  refine g_aload_n dL_law_1223 rfl ?_
  refine g_iload_n dL_law_1224 rfl ?_
  refine g_iconst (v := 2) dL_law_1225 (by decide) ?_
  refine g_iadd dL_law_1226 ?_
  rw [show (2 : Int32) = nI 2 from rfl, ix_k]
  refine t_iaro dL_law_1227 (by decide) (by decide) rfl (in_nI (by omega) (by omega)) ?_
  refine g_callVi dL_law_1228 ln_L_182 ⟨_, rfl⟩ rfl (by decide) ⟨_, _, rfl⟩ rfl (Nat.le_of_ble_eq_true rfl) (Nat.le_of_ble_eq_true rfl) (pc_lots hC hO) rfl (fun r1228 m1228 h1228 => ?_)
  obtain ⟨I1, rfl, hf1, rfl, hC1⟩ := h1228
  have hM1 := hM.frC hf1 rfl
  refine g_aload_n dL_law_1231 rfl ?_
  refine g_aload_n dL_law_1232 rfl ?_
  refine g_iload_n dL_law_1233 rfl ?_
  refine g_iconst (v := 1) dL_law_1234 (by decide) ?_
  refine g_iadd dL_law_1235 ?_
  rw [show (1 : Int32) = nI 1 from rfl, ix_k]
  refine t_iaro dL_law_1236 (by decide) (by decide) rfl (in_nI (by omega) (by omega)) ?_
  refine g_aload_n dL_law_1237 rfl ?_
  refine g_iload_n dL_law_1238 rfl ?_
  refine g_iconst (v := 2) dL_law_1239 (by decide) ?_
  refine g_iadd dL_law_1240 ?_
  rw [show (2 : Int32) = nI 2 from rfl, ix_k]
  refine t_iaro dL_law_1241 (by decide) (by decide) rfl (in_nI (by omega) (by omega)) ?_
  refine g_callVi dL_law_1242 ln_L_185 ⟨_, rfl⟩ rfl (by decide) ⟨_, _, rfl⟩ rfl (Nat.le_of_ble_eq_true rfl) (Nat.le_of_ble_eq_true rfl) (pm_lots hM1 hO) rfl (fun r1242 m1242 h1242 => ?_)
  obtain ⟨I2, rfl, hf2, rfl, hM2⟩ := h1242
  have hC2 := hC1.frM hf2 rfl
  refine g_icmp_eq (tgt := 1364) dL_law_1245 (by decide) (fun c9 => ?_) (fun c9 => ?_)
  · exact kk _ _ ⟨_, _, _, _, _, _, _, _, hC2, hM2, (sk_lots (fn := fn) (tl := tl) hO)⟩
  · exact absurd rfl c9
theorem lw_c42 {nm : String} {t : Nat} {Φ : Option Value → Mem → Prop} (hL : LI I J) (ht : 6 * t + 6 ≤ X.1) (hX : X.1 ≤ 384) (kk : ∀ I9 J9, LI I9 J9 → Go X (d + 9) 66 (MLw nm) 66 1364 [.ref 103, .ref 0, .ref 48, .int (nI (6 * t))] [] (I9, J9, rf0) Φ) : Go X (d + 9) 66 (MLw nm) 66 1250 [.ref 103, .ref 0, .ref 48, .int (nI (6 * t))] [] (I, J, rf0) Φ := by
  obtain ⟨rw, tx, P, ds, sh, tl, ch, fn, hC, hM, hO⟩ := hL
  refine g_aload_n dL_law_1250 rfl ?_
  refine g_callVi dL_law_1251 ln_L_186 ⟨_, rfl⟩ rfl (by decide) ⟨_, _, rfl⟩ rfl (Nat.le_of_ble_eq_true rfl) (Nat.le_of_ble_eq_true rfl) (pc_asked hC hO) rfl (fun r1251 m1251 h1251 => ?_)
  obtain ⟨I1, rfl, hf1, rfl, hC1⟩ := h1251
  have hM1 := hM.frC hf1 rfl
  refine g_aload_n dL_law_1254 rfl ?_
  refine g_callVi dL_law_1255 ln_L_189 ⟨_, rfl⟩ rfl (by decide) ⟨_, _, rfl⟩ rfl (Nat.le_of_ble_eq_true rfl) (Nat.le_of_ble_eq_true rfl) (pm_asked hM1 hO) rfl (fun r1255 m1255 h1255 => ?_)
  obtain ⟨I2, rfl, hf2, rfl, hM2⟩ := h1255
  have hC2 := hC1.frM hf2 rfl
  refine g_icmp_eq (tgt := 1364) dL_law_1258 (by decide) (fun c9 => ?_) (fun c9 => ?_)
  · exact kk _ _ ⟨_, _, _, _, _, _, _, _, hC2, hM2, hO⟩
  · exact absurd rfl c9
theorem lw_c43 {nm : String} {t : Nat} {Φ : Option Value → Mem → Prop} (hL : LI I J) (ht : 6 * t + 6 ≤ X.1) (hX : X.1 ≤ 384) (kk : ∀ I9 J9, LI I9 J9 → Go X (d + 9) 66 (MLw nm) 66 1364 [.ref 103, .ref 0, .ref 48, .int (nI (6 * t))] [] (I9, J9, rf0) Φ) : Go X (d + 9) 66 (MLw nm) 66 1263 [.ref 103, .ref 0, .ref 48, .int (nI (6 * t))] [] (I, J, rf0) Φ := by
  obtain ⟨rw, tx, P, ds, sh, tl, ch, fn, hC, hM, hO⟩ := hL
  refine g_aload_n dL_law_1263 rfl ?_
  refine g_callVl dL_law_1264 ln_L_190 rfl rfl (by decide) ⟨_, _, rfl⟩ rfl (Nat.le_of_ble_eq_true rfl) (Nat.le_of_ble_eq_true rfl) (pc_upper hC hO) rfl (fun r1264 m1264 h1264 => ?_)
  obtain ⟨I1, rfl, hf1, rfl, hC1⟩ := h1264
  have hM1 := hM.frC hf1 rfl
  refine g_aload_n dL_law_1267 rfl ?_
  refine g_callVl dL_law_1268 ln_L_194 rfl rfl (by decide) ⟨_, _, rfl⟩ rfl (Nat.le_of_ble_eq_true rfl) (Nat.le_of_ble_eq_true rfl) (pm_upper hM1 hO) rfl (fun r1268 m1268 h1268 => ?_)
  obtain ⟨I2, rfl, hf2, rfl, hM2⟩ := h1268
  have hC2 := hC1.frM hf2 rfl
  refine g_lcmp dL_law_1271 ?_
  refine g_if_eq (tgt := 1364) dL_law_1272 (by decide) (fun c9 => ?_) (fun c9 => ?_)
  · exact kk _ _ ⟨_, _, _, _, _, _, _, _, hC2, hM2, hO⟩
  · exact absurd ((lg_cmp_eq _ _).mpr rfl) c9
theorem lw_c44 {nm : String} {t : Nat} {Φ : Option Value → Mem → Prop} (hL : LI I J) (ht : 6 * t + 6 ≤ X.1) (hX : X.1 ≤ 384) (kk : ∀ I9 J9, LI I9 J9 → Go X (d + 9) 66 (MLw nm) 66 1364 [.ref 103, .ref 0, .ref 48, .int (nI (6 * t))] [] (I9, J9, rf0) Φ) : Go X (d + 9) 66 (MLw nm) 66 1277 [.ref 103, .ref 0, .ref 48, .int (nI (6 * t))] [] (I, J, rf0) Φ := by
  obtain ⟨rw, tx, P, ds, sh, tl, ch, fn, hC, hM, hO⟩ := hL
  refine g_aload_n dL_law_1277 rfl ?_
  refine g_callVl dL_law_1278 ln_L_195 rfl rfl (by decide) ⟨_, _, rfl⟩ rfl (Nat.le_of_ble_eq_true rfl) (Nat.le_of_ble_eq_true rfl) (pc_lower hC hO) rfl (fun r1278 m1278 h1278 => ?_)
  obtain ⟨I1, rfl, hf1, rfl, hC1⟩ := h1278
  have hM1 := hM.frC hf1 rfl
  refine g_aload_n dL_law_1281 rfl ?_
  refine g_callVl dL_law_1282 ln_L_198 rfl rfl (by decide) ⟨_, _, rfl⟩ rfl (Nat.le_of_ble_eq_true rfl) (Nat.le_of_ble_eq_true rfl) (pm_lower hM1 hO) rfl (fun r1282 m1282 h1282 => ?_)
  obtain ⟨I2, rfl, hf2, rfl, hM2⟩ := h1282
  have hC2 := hC1.frM hf2 rfl
  refine g_lcmp dL_law_1285 ?_
  refine g_if_eq (tgt := 1364) dL_law_1286 (by decide) (fun c9 => ?_) (fun c9 => ?_)
  · exact kk _ _ ⟨_, _, _, _, _, _, _, _, hC2, hM2, hO⟩
  · exact absurd ((lg_cmp_eq _ _).mpr rfl) c9
theorem lw_c45 {nm : String} {t : Nat} {Φ : Option Value → Mem → Prop} (hL : LI I J) (ht : 6 * t + 6 ≤ X.1) (hX : X.1 ≤ 384) (kk : ∀ I9 J9, LI I9 J9 → Go X (d + 9) 66 (MLw nm) 66 1364 [.ref 103, .ref 0, .ref 48, .int (nI (6 * t))] [] (I9, J9, rf0) Φ) : Go X (d + 9) 66 (MLw nm) 66 1291 [.ref 103, .ref 0, .ref 48, .int (nI (6 * t))] [] (I, J, rf0) Φ := by
  obtain ⟨rw, tx, P, ds, sh, tl, ch, fn, hC, hM, hO⟩ := hL
  refine g_aload_n dL_law_1291 rfl ?_
  refine g_aload_n dL_law_1292 rfl ?_
  refine g_iload_n dL_law_1293 rfl ?_
  refine g_iconst (v := 1) dL_law_1294 (by decide) ?_
  refine g_iadd dL_law_1295 ?_
  rw [show (1 : Int32) = nI 1 from rfl, ix_k]
  refine t_iaro dL_law_1296 (by decide) (by decide) rfl (in_nI (by omega) (by omega)) ?_
  refine g_callVi dL_law_1297 ln_L_199 ⟨_, rfl⟩ rfl (by decide) ⟨_, _, rfl⟩ rfl (Nat.le_of_ble_eq_true rfl) (Nat.le_of_ble_eq_true rfl) (pc_count hC hO) rfl (fun r1297 m1297 h1297 => ?_)
  obtain ⟨I1, rfl, hf1, rfl, hC1⟩ := h1297
  have hM1 := hM.frC hf1 rfl
  refine g_aload_n dL_law_1300 rfl ?_
  refine g_aload_n dL_law_1301 rfl ?_
  refine g_iload_n dL_law_1302 rfl ?_
  refine g_iconst (v := 1) dL_law_1303 (by decide) ?_
  refine g_iadd dL_law_1304 ?_
  rw [show (1 : Int32) = nI 1 from rfl, ix_k]
  refine t_iaro dL_law_1305 (by decide) (by decide) rfl (in_nI (by omega) (by omega)) ?_
  refine g_callVi dL_law_1306 ln_L_202 ⟨_, rfl⟩ rfl (by decide) ⟨_, _, rfl⟩ rfl (Nat.le_of_ble_eq_true rfl) (Nat.le_of_ble_eq_true rfl) (pm_count hM1 hO) rfl (fun r1306 m1306 h1306 => ?_)
  obtain ⟨I2, rfl, hf2, rfl, hM2⟩ := h1306
  have hC2 := hC1.frM hf2 rfl
  refine g_icmp_eq (tgt := 1364) dL_law_1309 (by decide) (fun c9 => ?_) (fun c9 => ?_)
  · exact kk _ _ ⟨_, _, _, _, _, _, _, _, hC2, hM2, hO⟩
  · exact absurd rfl c9
theorem lw_c46 {nm : String} {t : Nat} {Φ : Option Value → Mem → Prop} (hL : LI I J) (ht : 6 * t + 6 ≤ X.1) (hX : X.1 ≤ 384) (kk : ∀ I9 J9, LI I9 J9 → Go X (d + 9) 66 (MLw nm) 66 1364 [.ref 103, .ref 0, .ref 48, .int (nI (6 * t))] [] (I9, J9, rf0) Φ) : Go X (d + 9) 66 (MLw nm) 66 1314 [.ref 103, .ref 0, .ref 48, .int (nI (6 * t))] [] (I, J, rf0) Φ := by
  obtain ⟨rw, tx, P, ds, sh, tl, ch, fn, hC, hM, hO⟩ := hL
  refine g_aload_n dL_law_1314 rfl ?_
  refine g_callVi dL_law_1315 ln_L_203 ⟨_, rfl⟩ rfl (by decide) ⟨_, _, rfl⟩ rfl (Nat.le_of_ble_eq_true rfl) (Nat.le_of_ble_eq_true rfl) (pc_finding hC hO) rfl (fun r1315 m1315 h1315 => ?_)
  obtain ⟨I1, rfl, hf1, rfl, hC1⟩ := h1315
  have hM1 := hM.frC hf1 rfl
  refine g_aload_n dL_law_1318 rfl ?_
  refine g_callVi dL_law_1319 ln_L_206 ⟨_, rfl⟩ rfl (by decide) ⟨_, _, rfl⟩ rfl (Nat.le_of_ble_eq_true rfl) (Nat.le_of_ble_eq_true rfl) (pm_finding hM1 hO) rfl (fun r1319 m1319 h1319 => ?_)
  obtain ⟨I2, rfl, hf2, rfl, hM2⟩ := h1319
  have hC2 := hC1.frM hf2 rfl
  refine g_icmp_eq (tgt := 1364) dL_law_1322 (by decide) (fun c9 => ?_) (fun c9 => ?_)
  · exact kk _ _ ⟨_, _, _, _, _, _, _, _, hC2, hM2, hO⟩
  · exact absurd rfl c9
theorem lw_c47 {nm : String} {t : Nat} {Φ : Option Value → Mem → Prop} (hL : LI I J) (ht : 6 * t + 6 ≤ X.1) (hX : X.1 ≤ 384) (kk : ∀ I9 J9, LI I9 J9 → Go X (d + 9) 66 (MLw nm) 66 1364 [.ref 103, .ref 0, .ref 48, .int (nI (6 * t))] [] (I9, J9, rf0) Φ) : Go X (d + 9) 66 (MLw nm) 66 1327 [.ref 103, .ref 0, .ref 48, .int (nI (6 * t))] [] (I, J, rf0) Φ := by
  obtain ⟨rw, tx, P, ds, sh, tl, ch, fn, hC, hM, hO⟩ := hL
  refine g_aload_n dL_law_1327 rfl ?_
  refine g_aload_n dL_law_1328 rfl ?_
  refine g_iload_n dL_law_1329 rfl ?_
  refine g_iconst (v := 1) dL_law_1330 (by decide) ?_
  refine g_iadd dL_law_1331 ?_
  rw [show (1 : Int32) = nI 1 from rfl, ix_k]
  refine t_iaro dL_law_1332 (by decide) (by decide) rfl (in_nI (by omega) (by omega)) ?_
  refine g_callVi dL_law_1333 ln_L_207 ⟨_, rfl⟩ rfl (by decide) ⟨_, _, rfl⟩ rfl (Nat.le_of_ble_eq_true rfl) (Nat.le_of_ble_eq_true rfl) (pc_findings hC hO) rfl (fun r1333 m1333 h1333 => ?_)
  obtain ⟨I1, rfl, hf1, rfl, hC1⟩ := h1333
  have hM1 := hM.frC hf1 rfl
  refine g_aload_n dL_law_1336 rfl ?_
  refine g_aload_n dL_law_1337 rfl ?_
  refine g_iload_n dL_law_1338 rfl ?_
  refine g_iconst (v := 1) dL_law_1339 (by decide) ?_
  refine g_iadd dL_law_1340 ?_
  rw [show (1 : Int32) = nI 1 from rfl, ix_k]
  refine t_iaro dL_law_1341 (by decide) (by decide) rfl (in_nI (by omega) (by omega)) ?_
  refine g_callVi dL_law_1342 ln_L_210 ⟨_, rfl⟩ rfl (by decide) ⟨_, _, rfl⟩ rfl (Nat.le_of_ble_eq_true rfl) (Nat.le_of_ble_eq_true rfl) (pm_findings hM1 hO) rfl (fun r1342 m1342 h1342 => ?_)
  obtain ⟨I2, rfl, hf2, rfl, hM2⟩ := h1342
  have hC2 := hC1.frM hf2 rfl
  refine g_icmp_eq (tgt := 1364) dL_law_1345 (by decide) (fun c9 => ?_) (fun c9 => ?_)
  · exact kk _ _ ⟨_, _, _, _, _, _, _, _, hC2, hM2, hO⟩
  · exact absurd rfl c9
theorem lw_c48 {nm : String} {t : Nat} {Φ : Option Value → Mem → Prop} (hL : LI I J) (ht : 6 * t + 6 ≤ X.1) (hX : X.1 ≤ 384) (kk : ∀ I9 J9, LI I9 J9 → Go X (d + 9) 66 (MLw nm) 66 1364 [.ref 103, .ref 0, .ref 48, .int (nI (6 * t))] [] (I9, J9, rf0) Φ) : Go X (d + 9) 66 (MLw nm) 66 1350 [.ref 103, .ref 0, .ref 48, .int (nI (6 * t))] [] (I, J, rf0) Φ := by
  obtain ⟨rw, tx, P, ds, sh, tl, ch, fn, hC, hM, hO⟩ := hL
  refine g_aload_n dL_law_1350 rfl ?_
  refine g_callVl dL_law_1351 ln_L_211 rfl rfl (by decide) ⟨_, _, rfl⟩ rfl (Nat.le_of_ble_eq_true rfl) (Nat.le_of_ble_eq_true rfl) (pc_digest hC hO) rfl (fun r1351 m1351 h1351 => ?_)
  obtain ⟨I1, rfl, hf1, rfl, hC1⟩ := h1351
  have hM1 := hM.frC hf1 rfl
  refine g_aload_n dL_law_1354 rfl ?_
  refine g_callVl dL_law_1355 ln_L_214 rfl rfl (by decide) ⟨_, _, rfl⟩ rfl (Nat.le_of_ble_eq_true rfl) (Nat.le_of_ble_eq_true rfl) (pm_digest hM1 hO) rfl (fun r1355 m1355 h1355 => ?_)
  obtain ⟨I2, rfl, hf2, rfl, hM2⟩ := h1355
  have hC2 := hC1.frM hf2 rfl
  refine g_lcmp dL_law_1358 ?_
  refine g_if_eq (tgt := 1364) dL_law_1359 (by decide) (fun c9 => ?_) (fun c9 => ?_)
  · exact kk _ _ ⟨_, _, _, _, _, _, _, _, hC2, hM2, hO⟩
  · exact absurd ((lg_cmp_eq _ _).mpr rfl) c9
end

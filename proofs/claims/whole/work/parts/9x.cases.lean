abbrev lsL (Y : LX) (i : Int) : List (Option Value) := [some (.ref Y.2.2.2.1), some (rf (EC Y.2.1) 0), some (rf (EM Y.2.2.1) 0), some (iv i)]
abbrev scI (Y : LX) (j : Int) : Int := (Y.2.2.2.2.2.1 j.toNat).toInt
section JLU
variable {Y : LX} {Q : State → Prop} {σ μ : MemT}
theorem lc_letter (G : GL Y) {i : Int} (hi : 0 ≤ i ∧ i + 5 ≤ (Y.2.2.2.2.1 : Nat)) (hW : Wf σ) (hR : Rel σ μ) (kk : ∀ σ2 μ2, Wf σ2 → Rel σ2 μ2 → JL Y Q 1238 (lsL Y i) [] σ2 μ2) : JL Y Q 184 (lsL Y i) [] σ μ := by
  obtain ⟨z, τ, d1, d2, e1, e2, k1, k2, hw⟩ := op_letter (x1 := Y.2.1) (x2 := Y.2.2.1) (scI Y (i + 1)) (scI Y (i + 2)) (scI Y (i + 3)) (ofI_rng _) (ofI_rng _) (ofI_rng _) σ μ hW hR
  refine l_aload G dL_law_184 rfl ?_
  refine l_arg (i := i) (k := 1) G ⟨rfl, rfl⟩ (by omega) dL_law_185 dL_law_186 dL_law_187 dL_law_188 dL_law_189 ?_
  refine l_arg (i := i) (k := 2) G ⟨rfl, rfl⟩ (by omega) dL_law_190 dL_law_191 dL_law_192 dL_law_193 dL_law_194 ?_
  refine l_arg (i := i) (k := 3) G ⟨rfl, rfl⟩ (by omega) dL_law_195 dL_law_196 dL_law_197 dL_law_198 dL_law_199 ?_
  refine l_callC (As := [iv (scI Y (i + 1)), iv (scI Y (i + 2)), iv (scI Y (i + 3))]) G mv_L_13 dL_law_200 k1 rfl rfl (Nat.le_of_ble_eq_true rfl) e1 (fun r σ2 hp => ?_)
  obtain ⟨z2, rfl, rfl, hk⟩ := hp
  refine l_aload G dL_law_203 rfl ?_
  refine l_arg (i := i) (k := 1) G ⟨rfl, rfl⟩ (by omega) dL_law_204 dL_law_205 dL_law_206 dL_law_207 dL_law_208 ?_
  refine l_arg (i := i) (k := 2) G ⟨rfl, rfl⟩ (by omega) dL_law_209 dL_law_210 dL_law_211 dL_law_212 dL_law_213 ?_
  refine l_arg (i := i) (k := 3) G ⟨rfl, rfl⟩ (by omega) dL_law_214 dL_law_215 dL_law_216 dL_law_217 dL_law_218 ?_
  refine l_callM (As := [iv (scI Y (i + 1)), iv (scI Y (i + 2)), iv (scI Y (i + 3))]) G mv_L_17 dL_law_219 k2 rfl rfl (Nat.le_of_ble_eq_true rfl) e2 (fun r μ2 hp => ?_)
  obtain ⟨z3, rfl, rfl, hr⟩ := hp
  refine l_eq (tgt := 1238) G dL_law_222 (by decide) ?_
  exact kk _ _ (hw.kc hk) (hr.kc hk)
theorem lc_say (G : GL Y) {i : Int} (hi : 0 ≤ i ∧ i + 5 ≤ (Y.2.2.2.2.1 : Nat)) (hW : Wf σ) (hR : Rel σ μ) (kk : ∀ σ2 μ2, Wf σ2 → Rel σ2 μ2 → JL Y Q 1238 (lsL Y i) [] σ2 μ2) : JL Y Q 227 (lsL Y i) [] σ μ := by
  obtain ⟨z, τ, d1, d2, e1, e2, k1, k2, hw⟩ := op_say (x1 := Y.2.1) (x2 := Y.2.2.1) (scI Y (i + 1)) (ofI_rng _) σ μ hW hR
  refine l_aload G dL_law_227 rfl ?_
  refine l_arg (i := i) (k := 1) G ⟨rfl, rfl⟩ (by omega) dL_law_228 dL_law_229 dL_law_230 dL_law_231 dL_law_232 ?_
  refine l_callC (As := [iv (scI Y (i + 1))]) G mv_L_18 dL_law_233 k1 rfl rfl (Nat.le_of_ble_eq_true rfl) e1 (fun r σ2 hp => ?_)
  obtain ⟨z2, rfl, rfl, hk⟩ := hp
  refine l_aload G dL_law_236 rfl ?_
  refine l_arg (i := i) (k := 1) G ⟨rfl, rfl⟩ (by omega) dL_law_237 dL_law_238 dL_law_239 dL_law_240 dL_law_241 ?_
  refine l_callM (As := [iv (scI Y (i + 1))]) G mv_L_22 dL_law_242 k2 rfl rfl (Nat.le_of_ble_eq_true rfl) e2 (fun r μ2 hp => ?_)
  obtain ⟨z3, rfl, rfl, hr⟩ := hp
  refine l_eq (tgt := 1238) G dL_law_245 (by decide) ?_
  exact kk _ _ (hw.kc hk) (hr.kc hk)
theorem lc_dot (G : GL Y) {i : Int} (hi : 0 ≤ i ∧ i + 5 ≤ (Y.2.2.2.2.1 : Nat)) (hW : Wf σ) (hR : Rel σ μ) (kk : ∀ σ2 μ2, Wf σ2 → Rel σ2 μ2 → JL Y Q 1238 (lsL Y i) [] σ2 μ2) : JL Y Q 250 (lsL Y i) [] σ μ := by
  obtain ⟨z, τ, d1, d2, e1, e2, k1, k2, hw⟩ := op_dot (x1 := Y.2.1) (x2 := Y.2.2.1) (scI Y (i + 1)) (ofI_rng _) σ μ hW hR
  refine l_aload G dL_law_250 rfl ?_
  refine l_arg (i := i) (k := 1) G ⟨rfl, rfl⟩ (by omega) dL_law_251 dL_law_252 dL_law_253 dL_law_254 dL_law_255 ?_
  refine l_callC (As := [iv (scI Y (i + 1))]) G mv_L_23 dL_law_256 k1 rfl rfl (Nat.le_of_ble_eq_true rfl) e1 (fun r σ2 hp => ?_)
  obtain ⟨z2, rfl, rfl, hk⟩ := hp
  refine l_aload G dL_law_259 rfl ?_
  refine l_arg (i := i) (k := 1) G ⟨rfl, rfl⟩ (by omega) dL_law_260 dL_law_261 dL_law_262 dL_law_263 dL_law_264 ?_
  refine l_callM (As := [iv (scI Y (i + 1))]) G mv_L_26 dL_law_265 k2 rfl rfl (Nat.le_of_ble_eq_true rfl) e2 (fun r μ2 hp => ?_)
  obtain ⟨z3, rfl, rfl, hr⟩ := hp
  refine l_eq (tgt := 1238) G dL_law_268 (by decide) ?_
  exact kk _ _ (hw.kc hk) (hr.kc hk)
theorem lc_wipe (G : GL Y) {i : Int} (hi : 0 ≤ i ∧ i + 5 ≤ (Y.2.2.2.2.1 : Nat)) (hW : Wf σ) (hR : Rel σ μ) (kk : ∀ σ2 μ2, Wf σ2 → Rel σ2 μ2 → JL Y Q 1238 (lsL Y i) [] σ2 μ2) : JL Y Q 273 (lsL Y i) [] σ μ := by
  obtain ⟨z, τ, d1, d2, e1, e2, k1, k2, hw⟩ := op_wipe (x1 := Y.2.1) (x2 := Y.2.2.1) (scI Y (i + 1)) (ofI_rng _) σ μ hW hR
  refine l_aload G dL_law_273 rfl ?_
  refine l_arg (i := i) (k := 1) G ⟨rfl, rfl⟩ (by omega) dL_law_274 dL_law_275 dL_law_276 dL_law_277 dL_law_278 ?_
  refine l_callC (As := [iv (scI Y (i + 1))]) G mv_L_27 dL_law_279 k1 rfl rfl (Nat.le_of_ble_eq_true rfl) e1 (fun r σ2 hp => ?_)
  obtain ⟨z2, rfl, rfl, hk⟩ := hp
  refine l_aload G dL_law_282 rfl ?_
  refine l_arg (i := i) (k := 1) G ⟨rfl, rfl⟩ (by omega) dL_law_283 dL_law_284 dL_law_285 dL_law_286 dL_law_287 ?_
  refine l_callM (As := [iv (scI Y (i + 1))]) G mv_L_30 dL_law_288 k2 rfl rfl (Nat.le_of_ble_eq_true rfl) e2 (fun r μ2 hp => ?_)
  obtain ⟨z3, rfl, rfl, hr⟩ := hp
  refine l_eq (tgt := 1238) G dL_law_291 (by decide) ?_
  exact kk _ _ (hw.kc hk) (hr.kc hk)
theorem lc_abbreviate (G : GL Y) {i : Int} (hi : 0 ≤ i ∧ i + 5 ≤ (Y.2.2.2.2.1 : Nat)) (hW : Wf σ) (hR : Rel σ μ) (kk : ∀ σ2 μ2, Wf σ2 → Rel σ2 μ2 → JL Y Q 1238 (lsL Y i) [] σ2 μ2) : JL Y Q 296 (lsL Y i) [] σ μ := by
  obtain ⟨z, τ, d1, d2, e1, e2, k1, k2, hw⟩ := op_abbreviate (x1 := Y.2.1) (x2 := Y.2.2.1) (scI Y (i + 1)) (ofI_rng _) σ μ hW hR
  refine l_aload G dL_law_296 rfl ?_
  refine l_arg (i := i) (k := 1) G ⟨rfl, rfl⟩ (by omega) dL_law_297 dL_law_298 dL_law_299 dL_law_300 dL_law_301 ?_
  refine l_callC (As := [iv (scI Y (i + 1))]) G mv_L_31 dL_law_302 k1 rfl rfl (Nat.le_of_ble_eq_true rfl) e1 (fun r σ2 hp => ?_)
  obtain ⟨z2, rfl, rfl, hk⟩ := hp
  refine l_aload G dL_law_305 rfl ?_
  refine l_arg (i := i) (k := 1) G ⟨rfl, rfl⟩ (by omega) dL_law_306 dL_law_307 dL_law_308 dL_law_309 dL_law_310 ?_
  refine l_callM (As := [iv (scI Y (i + 1))]) G mv_L_34 dL_law_311 k2 rfl rfl (Nat.le_of_ble_eq_true rfl) e2 (fun r μ2 hp => ?_)
  obtain ⟨z3, rfl, rfl, hr⟩ := hp
  refine l_eq (tgt := 1238) G dL_law_314 (by decide) ?_
  exact kk _ _ (hw.kc hk) (hr.kc hk)
theorem lc_write (G : GL Y) {i : Int} (hi : 0 ≤ i ∧ i + 5 ≤ (Y.2.2.2.2.1 : Nat)) (hW : Wf σ) (hR : Rel σ μ) (kk : ∀ σ2 μ2, Wf σ2 → Rel σ2 μ2 → JL Y Q 1238 (lsL Y i) [] σ2 μ2) : JL Y Q 319 (lsL Y i) [] σ μ := by
  obtain ⟨z, τ, d1, d2, e1, e2, k1, k2, hw⟩ := op_write (x1 := Y.2.1) (x2 := Y.2.2.1) (scI Y (i + 1)) (scI Y (i + 2)) (ofI_rng _) (ofI_rng _) σ μ hW hR
  refine l_aload G dL_law_319 rfl ?_
  refine l_arg (i := i) (k := 1) G ⟨rfl, rfl⟩ (by omega) dL_law_320 dL_law_321 dL_law_322 dL_law_323 dL_law_324 ?_
  refine l_arg (i := i) (k := 2) G ⟨rfl, rfl⟩ (by omega) dL_law_325 dL_law_326 dL_law_327 dL_law_328 dL_law_329 ?_
  refine l_callC (As := [iv (scI Y (i + 1)), iv (scI Y (i + 2))]) G mv_L_35 dL_law_330 k1 rfl rfl (Nat.le_of_ble_eq_true rfl) e1 (fun r σ2 hp => ?_)
  obtain ⟨z2, rfl, rfl, hk⟩ := hp
  refine l_aload G dL_law_333 rfl ?_
  refine l_arg (i := i) (k := 1) G ⟨rfl, rfl⟩ (by omega) dL_law_334 dL_law_335 dL_law_336 dL_law_337 dL_law_338 ?_
  refine l_arg (i := i) (k := 2) G ⟨rfl, rfl⟩ (by omega) dL_law_339 dL_law_340 dL_law_341 dL_law_342 dL_law_343 ?_
  refine l_callM (As := [iv (scI Y (i + 1)), iv (scI Y (i + 2))]) G mv_L_39 dL_law_344 k2 rfl rfl (Nat.le_of_ble_eq_true rfl) e2 (fun r μ2 hp => ?_)
  obtain ⟨z3, rfl, rfl, hr⟩ := hp
  refine l_eq (tgt := 1238) G dL_law_347 (by decide) ?_
  exact kk _ _ (hw.kc hk) (hr.kc hk)
theorem lc_read (G : GL Y) {i : Int} (hi : 0 ≤ i ∧ i + 5 ≤ (Y.2.2.2.2.1 : Nat)) (hW : Wf σ) (hR : Rel σ μ) (kk : ∀ σ2 μ2, Wf σ2 → Rel σ2 μ2 → JL Y Q 1238 (lsL Y i) [] σ2 μ2) : JL Y Q 352 (lsL Y i) [] σ μ := by
  obtain ⟨z, τ, d1, d2, e1, e2, k1, k2, hw⟩ := op_read (x1 := Y.2.1) (x2 := Y.2.2.1) (scI Y (i + 1)) (scI Y (i + 2)) (ofI_rng _) (ofI_rng _) σ μ hW hR
  refine l_aload G dL_law_352 rfl ?_
  refine l_arg (i := i) (k := 1) G ⟨rfl, rfl⟩ (by omega) dL_law_353 dL_law_354 dL_law_355 dL_law_356 dL_law_357 ?_
  refine l_arg (i := i) (k := 2) G ⟨rfl, rfl⟩ (by omega) dL_law_358 dL_law_359 dL_law_360 dL_law_361 dL_law_362 ?_
  refine l_callC (As := [iv (scI Y (i + 1)), iv (scI Y (i + 2))]) G mv_L_40 dL_law_363 k1 rfl rfl (Nat.le_of_ble_eq_true rfl) e1 (fun r σ2 hp => ?_)
  obtain ⟨z2, rfl, rfl, hk⟩ := hp
  refine l_aload G dL_law_366 rfl ?_
  refine l_arg (i := i) (k := 1) G ⟨rfl, rfl⟩ (by omega) dL_law_367 dL_law_368 dL_law_369 dL_law_370 dL_law_371 ?_
  refine l_arg (i := i) (k := 2) G ⟨rfl, rfl⟩ (by omega) dL_law_372 dL_law_373 dL_law_374 dL_law_375 dL_law_376 ?_
  refine l_callM (As := [iv (scI Y (i + 1)), iv (scI Y (i + 2))]) G mv_L_43 dL_law_377 k2 rfl rfl (Nat.le_of_ble_eq_true rfl) e2 (fun r μ2 hp => ?_)
  obtain ⟨z3, rfl, rfl, hr⟩ := hp
  refine l_eq (tgt := 1238) G dL_law_380 (by decide) ?_
  exact kk _ _ (hw.kc hk) (hr.kc hk)
theorem lc_ways (G : GL Y) {i : Int} (hi : 0 ≤ i ∧ i + 5 ≤ (Y.2.2.2.2.1 : Nat)) (hW : Wf σ) (hR : Rel σ μ) (kk : ∀ σ2 μ2, Wf σ2 → Rel σ2 μ2 → JL Y Q 1238 (lsL Y i) [] σ2 μ2) : JL Y Q 385 (lsL Y i) [] σ μ := by
  obtain ⟨z, τ, d1, d2, e1, e2, k1, k2, hw⟩ := op_ways (x1 := Y.2.1) (x2 := Y.2.2.1) (scI Y (i + 1)) (scI Y (i + 2)) (ofI_rng _) (ofI_rng _) σ μ hW hR
  refine l_aload G dL_law_385 rfl ?_
  refine l_arg (i := i) (k := 1) G ⟨rfl, rfl⟩ (by omega) dL_law_386 dL_law_387 dL_law_388 dL_law_389 dL_law_390 ?_
  refine l_arg (i := i) (k := 2) G ⟨rfl, rfl⟩ (by omega) dL_law_391 dL_law_392 dL_law_393 dL_law_394 dL_law_395 ?_
  refine l_callC (As := [iv (scI Y (i + 1)), iv (scI Y (i + 2))]) G mv_L_44 dL_law_396 k1 rfl rfl (Nat.le_of_ble_eq_true rfl) e1 (fun r σ2 hp => ?_)
  obtain ⟨z2, rfl, rfl, hk⟩ := hp
  refine l_aload G dL_law_399 rfl ?_
  refine l_arg (i := i) (k := 1) G ⟨rfl, rfl⟩ (by omega) dL_law_400 dL_law_401 dL_law_402 dL_law_403 dL_law_404 ?_
  refine l_arg (i := i) (k := 2) G ⟨rfl, rfl⟩ (by omega) dL_law_405 dL_law_406 dL_law_407 dL_law_408 dL_law_409 ?_
  refine l_callM (As := [iv (scI Y (i + 1)), iv (scI Y (i + 2))]) G mv_L_47 dL_law_410 k2 rfl rfl (Nat.le_of_ble_eq_true rfl) e2 (fun r μ2 hp => ?_)
  obtain ⟨z3, rfl, rfl, hr⟩ := hp
  refine l_eq (tgt := 1238) G dL_law_413 (by decide) ?_
  exact kk _ _ (hw.kc hk) (hr.kc hk)
theorem lc_word (G : GL Y) {i : Int} (hi : 0 ≤ i ∧ i + 5 ≤ (Y.2.2.2.2.1 : Nat)) (hW : Wf σ) (hR : Rel σ μ) (kk : ∀ σ2 μ2, Wf σ2 → Rel σ2 μ2 → JL Y Q 1238 (lsL Y i) [] σ2 μ2) : JL Y Q 418 (lsL Y i) [] σ μ := by
  obtain ⟨z, τ, d1, d2, e1, e2, k1, k2, hw⟩ := op_word (x1 := Y.2.1) (x2 := Y.2.2.1)   σ μ hW hR
  refine l_aload G dL_law_418 rfl ?_
  refine l_callC (As := []) G mv_L_48 dL_law_419 k1 rfl rfl (Nat.le_of_ble_eq_true rfl) e1 (fun r σ2 hp => ?_)
  obtain ⟨z2, rfl, rfl, hk⟩ := hp
  refine l_aload G dL_law_422 rfl ?_
  refine l_callM (As := []) G mv_L_52 dL_law_423 k2 rfl rfl (Nat.le_of_ble_eq_true rfl) e2 (fun r μ2 hp => ?_)
  obtain ⟨z3, rfl, rfl, hr⟩ := hp
  refine l_eq (tgt := 1238) G dL_law_426 (by decide) ?_
  exact kk _ _ (hw.kc hk) (hr.kc hk)
theorem lc_count (G : GL Y) {i : Int} (hi : 0 ≤ i ∧ i + 5 ≤ (Y.2.2.2.2.1 : Nat)) (hW : Wf σ) (hR : Rel σ μ) (kk : ∀ σ2 μ2, Wf σ2 → Rel σ2 μ2 → JL Y Q 1238 (lsL Y i) [] σ2 μ2) : JL Y Q 431 (lsL Y i) [] σ μ := by
  obtain ⟨z, τ, d1, d2, e1, e2, k1, k2, hw⟩ := op_count (x1 := Y.2.1) (x2 := Y.2.2.1) (scI Y (i + 1)) (scI Y (i + 2)) (scI Y (i + 3)) (ofI_rng _) (ofI_rng _) (ofI_rng _) σ μ hW hR
  refine l_aload G dL_law_431 rfl ?_
  refine l_arg (i := i) (k := 1) G ⟨rfl, rfl⟩ (by omega) dL_law_432 dL_law_433 dL_law_434 dL_law_435 dL_law_436 ?_
  refine l_arg (i := i) (k := 2) G ⟨rfl, rfl⟩ (by omega) dL_law_437 dL_law_438 dL_law_439 dL_law_440 dL_law_441 ?_
  refine l_arg (i := i) (k := 3) G ⟨rfl, rfl⟩ (by omega) dL_law_442 dL_law_443 dL_law_444 dL_law_445 dL_law_446 ?_
  refine l_callC (As := [iv (scI Y (i + 1)), iv (scI Y (i + 2)), iv (scI Y (i + 3))]) G mv_L_53 dL_law_447 k1 rfl rfl (Nat.le_of_ble_eq_true rfl) e1 (fun r σ2 hp => ?_)
  obtain ⟨z2, rfl, rfl, hk⟩ := hp
  refine l_aload G dL_law_450 rfl ?_
  refine l_arg (i := i) (k := 1) G ⟨rfl, rfl⟩ (by omega) dL_law_451 dL_law_452 dL_law_453 dL_law_454 dL_law_455 ?_
  refine l_arg (i := i) (k := 2) G ⟨rfl, rfl⟩ (by omega) dL_law_456 dL_law_457 dL_law_458 dL_law_459 dL_law_460 ?_
  refine l_arg (i := i) (k := 3) G ⟨rfl, rfl⟩ (by omega) dL_law_461 dL_law_462 dL_law_463 dL_law_464 dL_law_465 ?_
  refine l_callM (As := [iv (scI Y (i + 1)), iv (scI Y (i + 2)), iv (scI Y (i + 3))]) G mv_L_56 dL_law_466 k2 rfl rfl (Nat.le_of_ble_eq_true rfl) e2 (fun r μ2 hp => ?_)
  obtain ⟨z3, rfl, rfl, hr⟩ := hp
  refine l_eq (tgt := 1238) G dL_law_469 (by decide) ?_
  exact kk _ _ (hw.kc hk) (hr.kc hk)
theorem lc_room (G : GL Y) {i : Int} (hi : 0 ≤ i ∧ i + 5 ≤ (Y.2.2.2.2.1 : Nat)) (hW : Wf σ) (hR : Rel σ μ) (kk : ∀ σ2 μ2, Wf σ2 → Rel σ2 μ2 → JL Y Q 1238 (lsL Y i) [] σ2 μ2) : JL Y Q 474 (lsL Y i) [] σ μ := by
  obtain ⟨z, τ, d1, d2, e1, e2, k1, k2, hw⟩ := op_room (x1 := Y.2.1) (x2 := Y.2.2.1) (scI Y (i + 1)) (scI Y (i + 2)) (scI Y (i + 3)) (ofI_rng _) (ofI_rng _) (ofI_rng _) σ μ hW hR
  refine l_aload G dL_law_474 rfl ?_
  refine l_arg (i := i) (k := 1) G ⟨rfl, rfl⟩ (by omega) dL_law_475 dL_law_476 dL_law_477 dL_law_478 dL_law_479 ?_
  refine l_arg (i := i) (k := 2) G ⟨rfl, rfl⟩ (by omega) dL_law_480 dL_law_481 dL_law_482 dL_law_483 dL_law_484 ?_
  refine l_arg (i := i) (k := 3) G ⟨rfl, rfl⟩ (by omega) dL_law_485 dL_law_486 dL_law_487 dL_law_488 dL_law_489 ?_
  refine l_callC (As := [iv (scI Y (i + 1)), iv (scI Y (i + 2)), iv (scI Y (i + 3))]) G mv_L_57 dL_law_490 k1 rfl rfl (Nat.le_of_ble_eq_true rfl) e1 (fun r σ2 hp => ?_)
  obtain ⟨z2, rfl, rfl, hk⟩ := hp
  refine l_aload G dL_law_493 rfl ?_
  refine l_arg (i := i) (k := 1) G ⟨rfl, rfl⟩ (by omega) dL_law_494 dL_law_495 dL_law_496 dL_law_497 dL_law_498 ?_
  refine l_arg (i := i) (k := 2) G ⟨rfl, rfl⟩ (by omega) dL_law_499 dL_law_500 dL_law_501 dL_law_502 dL_law_503 ?_
  refine l_arg (i := i) (k := 3) G ⟨rfl, rfl⟩ (by omega) dL_law_504 dL_law_505 dL_law_506 dL_law_507 dL_law_508 ?_
  refine l_callM (As := [iv (scI Y (i + 1)), iv (scI Y (i + 2)), iv (scI Y (i + 3))]) G mv_L_60 dL_law_509 k2 rfl rfl (Nat.le_of_ble_eq_true rfl) e2 (fun r μ2 hp => ?_)
  obtain ⟨z3, rfl, rfl, hr⟩ := hp
  refine l_eq (tgt := 1238) G dL_law_512 (by decide) ?_
  exact kk _ _ (hw.kc hk) (hr.kc hk)
theorem lc_row (G : GL Y) {i : Int} (hi : 0 ≤ i ∧ i + 5 ≤ (Y.2.2.2.2.1 : Nat)) (hW : Wf σ) (hR : Rel σ μ) (kk : ∀ σ2 μ2, Wf σ2 → Rel σ2 μ2 → JL Y Q 1238 (lsL Y i) [] σ2 μ2) : JL Y Q 517 (lsL Y i) [] σ μ := by
  obtain ⟨z, τ, d1, d2, e1, e2, k1, k2, hw⟩ := op_row (x1 := Y.2.1) (x2 := Y.2.2.1)   σ μ hW hR
  refine l_aload G dL_law_517 rfl ?_
  refine l_callC (As := []) G mv_L_61 dL_law_518 k1 rfl rfl (Nat.le_of_ble_eq_true rfl) e1 (fun r σ2 hp => ?_)
  obtain ⟨z2, rfl, rfl, hk⟩ := hp
  refine l_aload G dL_law_521 rfl ?_
  refine l_callM (As := []) G mv_L_64 dL_law_522 k2 rfl rfl (Nat.le_of_ble_eq_true rfl) e2 (fun r μ2 hp => ?_)
  obtain ⟨z3, rfl, rfl, hr⟩ := hp
  refine l_eq (tgt := 1238) G dL_law_525 (by decide) ?_
  exact kk _ _ (hw.kc hk) (hr.kc hk)
theorem lc_chosen (G : GL Y) {i : Int} (hi : 0 ≤ i ∧ i + 5 ≤ (Y.2.2.2.2.1 : Nat)) (hW : Wf σ) (hR : Rel σ μ) (kk : ∀ σ2 μ2, Wf σ2 → Rel σ2 μ2 → JL Y Q 1238 (lsL Y i) [] σ2 μ2) : JL Y Q 530 (lsL Y i) [] σ μ := by
  obtain ⟨z, τ, d1, d2, e1, e2, k1, k2, hw⟩ := op_chosen (x1 := Y.2.1) (x2 := Y.2.2.1) (scI Y (i + 1)) (scI Y (i + 2)) (scI Y (i + 3)) (scI Y (i + 4)) (ofI_rng _) (ofI_rng _) (ofI_rng _) (ofI_rng _) σ μ hW hR
  refine l_aload G dL_law_530 rfl ?_
  refine l_arg (i := i) (k := 1) G ⟨rfl, rfl⟩ (by omega) dL_law_531 dL_law_532 dL_law_533 dL_law_534 dL_law_535 ?_
  refine l_arg (i := i) (k := 2) G ⟨rfl, rfl⟩ (by omega) dL_law_536 dL_law_537 dL_law_538 dL_law_539 dL_law_540 ?_
  refine l_arg (i := i) (k := 3) G ⟨rfl, rfl⟩ (by omega) dL_law_541 dL_law_542 dL_law_543 dL_law_544 dL_law_545 ?_
  refine l_arg (i := i) (k := 4) G ⟨rfl, rfl⟩ (by omega) dL_law_546 dL_law_547 dL_law_548 dL_law_549 dL_law_550 ?_
  refine l_callC (As := [iv (scI Y (i + 1)), iv (scI Y (i + 2)), iv (scI Y (i + 3)), iv (scI Y (i + 4))]) G mv_L_65 dL_law_551 k1 rfl rfl (Nat.le_of_ble_eq_true rfl) e1 (fun r σ2 hp => ?_)
  obtain ⟨z2, rfl, rfl, hk⟩ := hp
  refine l_aload G dL_law_554 rfl ?_
  refine l_arg (i := i) (k := 1) G ⟨rfl, rfl⟩ (by omega) dL_law_555 dL_law_556 dL_law_557 dL_law_558 dL_law_559 ?_
  refine l_arg (i := i) (k := 2) G ⟨rfl, rfl⟩ (by omega) dL_law_560 dL_law_561 dL_law_562 dL_law_563 dL_law_564 ?_
  refine l_arg (i := i) (k := 3) G ⟨rfl, rfl⟩ (by omega) dL_law_565 dL_law_566 dL_law_567 dL_law_568 dL_law_569 ?_
  refine l_arg (i := i) (k := 4) G ⟨rfl, rfl⟩ (by omega) dL_law_570 dL_law_571 dL_law_572 dL_law_573 dL_law_574 ?_
  refine l_callM (As := [iv (scI Y (i + 1)), iv (scI Y (i + 2)), iv (scI Y (i + 3)), iv (scI Y (i + 4))]) G mv_L_69 dL_law_575 k2 rfl rfl (Nat.le_of_ble_eq_true rfl) e2 (fun r μ2 hp => ?_)
  obtain ⟨z3, rfl, rfl, hr⟩ := hp
  refine l_eq (tgt := 1238) G dL_law_578 (by decide) ?_
  exact kk _ _ (hw.kc hk) (hr.kc hk)
theorem lc_reader (G : GL Y) {i : Int} (hi : 0 ≤ i ∧ i + 5 ≤ (Y.2.2.2.2.1 : Nat)) (hW : Wf σ) (hR : Rel σ μ) (kk : ∀ σ2 μ2, Wf σ2 → Rel σ2 μ2 → JL Y Q 1238 (lsL Y i) [] σ2 μ2) : JL Y Q 583 (lsL Y i) [] σ μ := by
  by_cases h_q : scI Y (i + 3) = 0
  · obtain ⟨z, τ, d1, d2, e1, e2, k1, k2, hw⟩ := op_reader (x1 := Y.2.1) (x2 := Y.2.2.1) (scI Y (i + 1)) (scI Y (i + 2)) (0) (ofI_rng _) (ofI_rng _) (Or.inl rfl) σ μ hW hR
    refine l_aload G dL_law_583 rfl ?_
    refine l_arg (i := i) (k := 1) G ⟨rfl, rfl⟩ (by omega) dL_law_584 dL_law_585 dL_law_586 dL_law_587 dL_law_588 ?_
    refine l_arg (i := i) (k := 2) G ⟨rfl, rfl⟩ (by omega) dL_law_589 dL_law_590 dL_law_591 dL_law_592 dL_law_593 ?_
    refine l_arg (i := i) (k := 3) G ⟨rfl, rfl⟩ (by omega) dL_law_594 dL_law_595 dL_law_596 dL_law_597 dL_law_598 ?_
    refine l_ifeq (tgt := 606) G dL_law_599 (by decide) (ofI_rng _) (fun _ => ?_) (fun h_1 => absurd h_q h_1)
    refine l_iconst G dL_law_606 ?_
    refine l_callC (As := [iv (scI Y (i + 1)), iv (scI Y (i + 2)), iv (0)]) G mv_L_70 dL_law_607 k1 rfl rfl (Nat.le_of_ble_eq_true rfl) e1 (fun r σ2 hp => ?_)
    obtain ⟨z2, rfl, rfl, hk⟩ := hp
    refine l_aload G dL_law_610 rfl ?_
    refine l_arg (i := i) (k := 1) G ⟨rfl, rfl⟩ (by omega) dL_law_611 dL_law_612 dL_law_613 dL_law_614 dL_law_615 ?_
    refine l_arg (i := i) (k := 2) G ⟨rfl, rfl⟩ (by omega) dL_law_616 dL_law_617 dL_law_618 dL_law_619 dL_law_620 ?_
    refine l_arg (i := i) (k := 3) G ⟨rfl, rfl⟩ (by omega) dL_law_621 dL_law_622 dL_law_623 dL_law_624 dL_law_625 ?_
    refine l_ifeq (tgt := 633) G dL_law_626 (by decide) (ofI_rng _) (fun _ => ?_) (fun h_1 => absurd h_q h_1)
    refine l_iconst G dL_law_633 ?_
    refine l_callM (As := [iv (scI Y (i + 1)), iv (scI Y (i + 2)), iv (0)]) G mv_L_74 dL_law_634 k2 rfl rfl (Nat.le_of_ble_eq_true rfl) e2 (fun r μ2 hp => ?_)
    obtain ⟨z3, rfl, rfl, hr⟩ := hp
    refine l_eq (tgt := 1238) G dL_law_637 (by decide) ?_
    exact kk _ _ (hw.kc hk) (hr.kc hk)
  · obtain ⟨z, τ, d1, d2, e1, e2, k1, k2, hw⟩ := op_reader (x1 := Y.2.1) (x2 := Y.2.2.1) (scI Y (i + 1)) (scI Y (i + 2)) (1) (ofI_rng _) (ofI_rng _) (Or.inr rfl) σ μ hW hR
    refine l_aload G dL_law_583 rfl ?_
    refine l_arg (i := i) (k := 1) G ⟨rfl, rfl⟩ (by omega) dL_law_584 dL_law_585 dL_law_586 dL_law_587 dL_law_588 ?_
    refine l_arg (i := i) (k := 2) G ⟨rfl, rfl⟩ (by omega) dL_law_589 dL_law_590 dL_law_591 dL_law_592 dL_law_593 ?_
    refine l_arg (i := i) (k := 3) G ⟨rfl, rfl⟩ (by omega) dL_law_594 dL_law_595 dL_law_596 dL_law_597 dL_law_598 ?_
    refine l_ifeq (tgt := 606) G dL_law_599 (by decide) (ofI_rng _) (fun h_1 => absurd h_1 h_q) (fun _ => ?_)
    refine l_iconst G dL_law_602 ?_
    refine l_goto (tgt := 607) G dL_law_603 (by decide) ?_
    refine l_callC (As := [iv (scI Y (i + 1)), iv (scI Y (i + 2)), iv (1)]) G mv_L_70 dL_law_607 k1 rfl rfl (Nat.le_of_ble_eq_true rfl) e1 (fun r σ2 hp => ?_)
    obtain ⟨z2, rfl, rfl, hk⟩ := hp
    refine l_aload G dL_law_610 rfl ?_
    refine l_arg (i := i) (k := 1) G ⟨rfl, rfl⟩ (by omega) dL_law_611 dL_law_612 dL_law_613 dL_law_614 dL_law_615 ?_
    refine l_arg (i := i) (k := 2) G ⟨rfl, rfl⟩ (by omega) dL_law_616 dL_law_617 dL_law_618 dL_law_619 dL_law_620 ?_
    refine l_arg (i := i) (k := 3) G ⟨rfl, rfl⟩ (by omega) dL_law_621 dL_law_622 dL_law_623 dL_law_624 dL_law_625 ?_
    refine l_ifeq (tgt := 633) G dL_law_626 (by decide) (ofI_rng _) (fun h_1 => absurd h_1 h_q) (fun _ => ?_)
    refine l_iconst G dL_law_629 ?_
    refine l_goto (tgt := 634) G dL_law_630 (by decide) ?_
    refine l_callM (As := [iv (scI Y (i + 1)), iv (scI Y (i + 2)), iv (1)]) G mv_L_74 dL_law_634 k2 rfl rfl (Nat.le_of_ble_eq_true rfl) e2 (fun r μ2 hp => ?_)
    obtain ⟨z3, rfl, rfl, hr⟩ := hp
    refine l_eq (tgt := 1238) G dL_law_637 (by decide) ?_
    exact kk _ _ (hw.kc hk) (hr.kc hk)
theorem lc_know (G : GL Y) {i : Int} (hi : 0 ≤ i ∧ i + 5 ≤ (Y.2.2.2.2.1 : Nat)) (hW : Wf σ) (hR : Rel σ μ) (kk : ∀ σ2 μ2, Wf σ2 → Rel σ2 μ2 → JL Y Q 1238 (lsL Y i) [] σ2 μ2) : JL Y Q 642 (lsL Y i) [] σ μ := by
  obtain ⟨z, τ, d1, d2, e1, e2, k1, k2, hw⟩ := op_know (x1 := Y.2.1) (x2 := Y.2.2.1) (scI Y (i + 1)) (scI Y (i + 2)) (scI Y (i + 3)) (ofI_rng _) (ofI_rng _) (ofI_rng _) σ μ hW hR
  refine l_aload G dL_law_642 rfl ?_
  refine l_arg (i := i) (k := 1) G ⟨rfl, rfl⟩ (by omega) dL_law_643 dL_law_644 dL_law_645 dL_law_646 dL_law_647 ?_
  refine l_arg (i := i) (k := 2) G ⟨rfl, rfl⟩ (by omega) dL_law_648 dL_law_649 dL_law_650 dL_law_651 dL_law_652 ?_
  refine l_arg (i := i) (k := 3) G ⟨rfl, rfl⟩ (by omega) dL_law_653 dL_law_654 dL_law_655 dL_law_656 dL_law_657 ?_
  refine l_callC (As := [iv (scI Y (i + 1)), iv (scI Y (i + 2)), iv (scI Y (i + 3))]) G mv_L_75 dL_law_658 k1 rfl rfl (Nat.le_of_ble_eq_true rfl) e1 (fun r σ2 hp => ?_)
  obtain ⟨z2, rfl, rfl, hk⟩ := hp
  refine l_aload G dL_law_661 rfl ?_
  refine l_arg (i := i) (k := 1) G ⟨rfl, rfl⟩ (by omega) dL_law_662 dL_law_663 dL_law_664 dL_law_665 dL_law_666 ?_
  refine l_arg (i := i) (k := 2) G ⟨rfl, rfl⟩ (by omega) dL_law_667 dL_law_668 dL_law_669 dL_law_670 dL_law_671 ?_
  refine l_arg (i := i) (k := 3) G ⟨rfl, rfl⟩ (by omega) dL_law_672 dL_law_673 dL_law_674 dL_law_675 dL_law_676 ?_
  refine l_callM (As := [iv (scI Y (i + 1)), iv (scI Y (i + 2)), iv (scI Y (i + 3))]) G mv_L_78 dL_law_677 k2 rfl rfl (Nat.le_of_ble_eq_true rfl) e2 (fun r μ2 hp => ?_)
  obtain ⟨z3, rfl, rfl, hr⟩ := hp
  refine l_eq (tgt := 1238) G dL_law_680 (by decide) ?_
  exact kk _ _ (hw.kc hk) (hr.kc hk)
theorem lc_move (G : GL Y) {i : Int} (hi : 0 ≤ i ∧ i + 5 ≤ (Y.2.2.2.2.1 : Nat)) (hW : Wf σ) (hR : Rel σ μ) (kk : ∀ σ2 μ2, Wf σ2 → Rel σ2 μ2 → JL Y Q 1238 (lsL Y i) [] σ2 μ2) : JL Y Q 685 (lsL Y i) [] σ μ := by
  obtain ⟨z, τ, d1, d2, e1, e2, k1, k2, hw⟩ := op_move (x1 := Y.2.1) (x2 := Y.2.2.1) (scI Y (i + 1)) (scI Y (i + 2)) (ofI_rng _) (ofI_rng _) σ μ hW hR
  refine l_aload G dL_law_685 rfl ?_
  refine l_arg (i := i) (k := 1) G ⟨rfl, rfl⟩ (by omega) dL_law_686 dL_law_687 dL_law_688 dL_law_689 dL_law_690 ?_
  refine l_arg (i := i) (k := 2) G ⟨rfl, rfl⟩ (by omega) dL_law_691 dL_law_692 dL_law_693 dL_law_694 dL_law_695 ?_
  refine l_callC (As := [iv (scI Y (i + 1)), iv (scI Y (i + 2))]) G mv_L_79 dL_law_696 k1 rfl rfl (Nat.le_of_ble_eq_true rfl) e1 (fun r σ2 hp => ?_)
  obtain ⟨z2, rfl, rfl, hk⟩ := hp
  refine l_aload G dL_law_699 rfl ?_
  refine l_arg (i := i) (k := 1) G ⟨rfl, rfl⟩ (by omega) dL_law_700 dL_law_701 dL_law_702 dL_law_703 dL_law_704 ?_
  refine l_arg (i := i) (k := 2) G ⟨rfl, rfl⟩ (by omega) dL_law_705 dL_law_706 dL_law_707 dL_law_708 dL_law_709 ?_
  refine l_callM (As := [iv (scI Y (i + 1)), iv (scI Y (i + 2))]) G mv_L_82 dL_law_710 k2 rfl rfl (Nat.le_of_ble_eq_true rfl) e2 (fun r μ2 hp => ?_)
  obtain ⟨z3, rfl, rfl, hr⟩ := hp
  refine l_eq (tgt := 1238) G dL_law_713 (by decide) ?_
  exact kk _ _ (hw.kc hk) (hr.kc hk)
theorem lc_about (G : GL Y) {i : Int} (hi : 0 ≤ i ∧ i + 5 ≤ (Y.2.2.2.2.1 : Nat)) (hW : Wf σ) (hR : Rel σ μ) (kk : ∀ σ2 μ2, Wf σ2 → Rel σ2 μ2 → JL Y Q 1238 (lsL Y i) [] σ2 μ2) : JL Y Q 718 (lsL Y i) [] σ μ := by
  obtain ⟨z, τ, d1, d2, e1, e2, k1, k2, hw⟩ := op_about (x1 := Y.2.1) (x2 := Y.2.2.1) (scI Y (i + 1)) (scI Y (i + 2)) (ofI_rng _) (ofI_rng _) σ μ hW hR
  refine l_aload G dL_law_718 rfl ?_
  refine l_arg (i := i) (k := 1) G ⟨rfl, rfl⟩ (by omega) dL_law_719 dL_law_720 dL_law_721 dL_law_722 dL_law_723 ?_
  refine l_arg (i := i) (k := 2) G ⟨rfl, rfl⟩ (by omega) dL_law_724 dL_law_725 dL_law_726 dL_law_727 dL_law_728 ?_
  refine l_callC (As := [iv (scI Y (i + 1)), iv (scI Y (i + 2))]) G mv_L_83 dL_law_729 k1 rfl rfl (Nat.le_of_ble_eq_true rfl) e1 (fun r σ2 hp => ?_)
  obtain ⟨z2, rfl, rfl, hk⟩ := hp
  refine l_aload G dL_law_732 rfl ?_
  refine l_arg (i := i) (k := 1) G ⟨rfl, rfl⟩ (by omega) dL_law_733 dL_law_734 dL_law_735 dL_law_736 dL_law_737 ?_
  refine l_arg (i := i) (k := 2) G ⟨rfl, rfl⟩ (by omega) dL_law_738 dL_law_739 dL_law_740 dL_law_741 dL_law_742 ?_
  refine l_callM (As := [iv (scI Y (i + 1)), iv (scI Y (i + 2))]) G mv_L_86 dL_law_743 k2 rfl rfl (Nat.le_of_ble_eq_true rfl) e2 (fun r μ2 hp => ?_)
  obtain ⟨z3, rfl, rfl, hr⟩ := hp
  refine l_eq (tgt := 1238) G dL_law_746 (by decide) ?_
  exact kk _ _ (hw.kc hk) (hr.kc hk)
theorem lc_near (G : GL Y) {i : Int} (hi : 0 ≤ i ∧ i + 5 ≤ (Y.2.2.2.2.1 : Nat)) (hW : Wf σ) (hR : Rel σ μ) (kk : ∀ σ2 μ2, Wf σ2 → Rel σ2 μ2 → JL Y Q 1238 (lsL Y i) [] σ2 μ2) : JL Y Q 751 (lsL Y i) [] σ μ := by
  obtain ⟨z, τ, d1, d2, e1, e2, k1, k2, hw⟩ := op_near (x1 := Y.2.1) (x2 := Y.2.2.1) (scI Y (i + 1)) (scI Y (i + 2)) (ofI_rng _) (ofI_rng _) σ μ hW hR
  refine l_aload G dL_law_751 rfl ?_
  refine l_arg (i := i) (k := 1) G ⟨rfl, rfl⟩ (by omega) dL_law_752 dL_law_753 dL_law_754 dL_law_755 dL_law_756 ?_
  refine l_arg (i := i) (k := 2) G ⟨rfl, rfl⟩ (by omega) dL_law_757 dL_law_758 dL_law_759 dL_law_760 dL_law_761 ?_
  refine l_callC (As := [iv (scI Y (i + 1)), iv (scI Y (i + 2))]) G mv_L_87 dL_law_762 k1 rfl rfl (Nat.le_of_ble_eq_true rfl) e1 (fun r σ2 hp => ?_)
  obtain ⟨z2, rfl, rfl, hk⟩ := hp
  refine l_aload G dL_law_765 rfl ?_
  refine l_arg (i := i) (k := 1) G ⟨rfl, rfl⟩ (by omega) dL_law_766 dL_law_767 dL_law_768 dL_law_769 dL_law_770 ?_
  refine l_arg (i := i) (k := 2) G ⟨rfl, rfl⟩ (by omega) dL_law_771 dL_law_772 dL_law_773 dL_law_774 dL_law_775 ?_
  refine l_callM (As := [iv (scI Y (i + 1)), iv (scI Y (i + 2))]) G mv_L_90 dL_law_776 k2 rfl rfl (Nat.le_of_ble_eq_true rfl) e2 (fun r μ2 hp => ?_)
  obtain ⟨z3, rfl, rfl, hr⟩ := hp
  refine l_eq (tgt := 1238) G dL_law_779 (by decide) ?_
  exact kk _ _ (hw.kc hk) (hr.kc hk)
theorem lc_pace (G : GL Y) {i : Int} (hi : 0 ≤ i ∧ i + 5 ≤ (Y.2.2.2.2.1 : Nat)) (hW : Wf σ) (hR : Rel σ μ) (kk : ∀ σ2 μ2, Wf σ2 → Rel σ2 μ2 → JL Y Q 1238 (lsL Y i) [] σ2 μ2) : JL Y Q 784 (lsL Y i) [] σ μ := by
  obtain ⟨z, τ, d1, d2, e1, e2, k1, k2, hw⟩ := op_pace (x1 := Y.2.1) (x2 := Y.2.2.1) (scI Y (i + 1)) (scI Y (i + 2)) (ofI_rng _) (ofI_rng _) σ μ hW hR
  refine l_aload G dL_law_784 rfl ?_
  refine l_arg (i := i) (k := 1) G ⟨rfl, rfl⟩ (by omega) dL_law_785 dL_law_786 dL_law_787 dL_law_788 dL_law_789 ?_
  refine l_arg (i := i) (k := 2) G ⟨rfl, rfl⟩ (by omega) dL_law_790 dL_law_791 dL_law_792 dL_law_793 dL_law_794 ?_
  refine l_callC (As := [iv (scI Y (i + 1)), iv (scI Y (i + 2))]) G mv_L_91 dL_law_795 k1 rfl rfl (Nat.le_of_ble_eq_true rfl) e1 (fun r σ2 hp => ?_)
  obtain ⟨z2, rfl, rfl, hk⟩ := hp
  refine l_aload G dL_law_798 rfl ?_
  refine l_arg (i := i) (k := 1) G ⟨rfl, rfl⟩ (by omega) dL_law_799 dL_law_800 dL_law_801 dL_law_802 dL_law_803 ?_
  refine l_arg (i := i) (k := 2) G ⟨rfl, rfl⟩ (by omega) dL_law_804 dL_law_805 dL_law_806 dL_law_807 dL_law_808 ?_
  refine l_callM (As := [iv (scI Y (i + 1)), iv (scI Y (i + 2))]) G mv_L_94 dL_law_809 k2 rfl rfl (Nat.le_of_ble_eq_true rfl) e2 (fun r μ2 hp => ?_)
  obtain ⟨z3, rfl, rfl, hr⟩ := hp
  refine l_eq (tgt := 1238) G dL_law_812 (by decide) ?_
  exact kk _ _ (hw.kc hk) (hr.kc hk)
theorem lc_learn (G : GL Y) {i : Int} (hi : 0 ≤ i ∧ i + 5 ≤ (Y.2.2.2.2.1 : Nat)) (hW : Wf σ) (hR : Rel σ μ) (kk : ∀ σ2 μ2, Wf σ2 → Rel σ2 μ2 → JL Y Q 1238 (lsL Y i) [] σ2 μ2) : JL Y Q 817 (lsL Y i) [] σ μ := by
  obtain ⟨z, τ, d1, d2, e1, e2, k1, k2, hw⟩ := op_learn (x1 := Y.2.1) (x2 := Y.2.2.1) (scI Y (i + 1)) (scI Y (i + 2)) (ofI_rng _) (ofI_rng _) σ μ hW hR
  refine l_aload G dL_law_817 rfl ?_
  refine l_arg (i := i) (k := 1) G ⟨rfl, rfl⟩ (by omega) dL_law_818 dL_law_819 dL_law_820 dL_law_821 dL_law_822 ?_
  refine l_arg (i := i) (k := 2) G ⟨rfl, rfl⟩ (by omega) dL_law_823 dL_law_824 dL_law_825 dL_law_826 dL_law_827 ?_
  refine l_callC (As := [iv (scI Y (i + 1)), iv (scI Y (i + 2))]) G mv_L_95 dL_law_828 k1 rfl rfl (Nat.le_of_ble_eq_true rfl) e1 (fun r σ2 hp => ?_)
  obtain ⟨z2, rfl, rfl, hk⟩ := hp
  refine l_aload G dL_law_831 rfl ?_
  refine l_arg (i := i) (k := 1) G ⟨rfl, rfl⟩ (by omega) dL_law_832 dL_law_833 dL_law_834 dL_law_835 dL_law_836 ?_
  refine l_arg (i := i) (k := 2) G ⟨rfl, rfl⟩ (by omega) dL_law_837 dL_law_838 dL_law_839 dL_law_840 dL_law_841 ?_
  refine l_callM (As := [iv (scI Y (i + 1)), iv (scI Y (i + 2))]) G mv_L_98 dL_law_842 k2 rfl rfl (Nat.le_of_ble_eq_true rfl) e2 (fun r μ2 hp => ?_)
  obtain ⟨z3, rfl, rfl, hr⟩ := hp
  refine l_eq (tgt := 1238) G dL_law_845 (by decide) ?_
  exact kk _ _ (hw.kc hk) (hr.kc hk)
theorem lc_shelf (G : GL Y) {i : Int} (hi : 0 ≤ i ∧ i + 5 ≤ (Y.2.2.2.2.1 : Nat)) (hW : Wf σ) (hR : Rel σ μ) (kk : ∀ σ2 μ2, Wf σ2 → Rel σ2 μ2 → JL Y Q 1238 (lsL Y i) [] σ2 μ2) : JL Y Q 850 (lsL Y i) [] σ μ := by
  obtain ⟨z, τ, d1, d2, e1, e2, k1, k2, hw⟩ := op_shelf (x1 := Y.2.1) (x2 := Y.2.2.1) (scI Y (i + 1)) (scI Y (i + 2)) (scI Y (i + 3)) (scI Y (i + 4)) (ofI_rng _) (ofI_rng _) (ofI_rng _) (ofI_rng _) σ μ hW hR
  refine l_aload G dL_law_850 rfl ?_
  refine l_arg (i := i) (k := 1) G ⟨rfl, rfl⟩ (by omega) dL_law_851 dL_law_852 dL_law_853 dL_law_854 dL_law_855 ?_
  refine l_arg (i := i) (k := 2) G ⟨rfl, rfl⟩ (by omega) dL_law_856 dL_law_857 dL_law_858 dL_law_859 dL_law_860 ?_
  refine l_arg (i := i) (k := 3) G ⟨rfl, rfl⟩ (by omega) dL_law_861 dL_law_862 dL_law_863 dL_law_864 dL_law_865 ?_
  refine l_arg (i := i) (k := 4) G ⟨rfl, rfl⟩ (by omega) dL_law_866 dL_law_867 dL_law_868 dL_law_869 dL_law_870 ?_
  refine l_callC (As := [iv (scI Y (i + 1)), iv (scI Y (i + 2)), iv (scI Y (i + 3)), iv (scI Y (i + 4))]) G mv_L_99 dL_law_871 k1 rfl rfl (Nat.le_of_ble_eq_true rfl) e1 (fun r σ2 hp => ?_)
  obtain ⟨z2, rfl, rfl, hk⟩ := hp
  refine l_aload G dL_law_874 rfl ?_
  refine l_arg (i := i) (k := 1) G ⟨rfl, rfl⟩ (by omega) dL_law_875 dL_law_876 dL_law_877 dL_law_878 dL_law_879 ?_
  refine l_arg (i := i) (k := 2) G ⟨rfl, rfl⟩ (by omega) dL_law_880 dL_law_881 dL_law_882 dL_law_883 dL_law_884 ?_
  refine l_arg (i := i) (k := 3) G ⟨rfl, rfl⟩ (by omega) dL_law_885 dL_law_886 dL_law_887 dL_law_888 dL_law_889 ?_
  refine l_arg (i := i) (k := 4) G ⟨rfl, rfl⟩ (by omega) dL_law_890 dL_law_891 dL_law_892 dL_law_893 dL_law_894 ?_
  refine l_callM (As := [iv (scI Y (i + 1)), iv (scI Y (i + 2)), iv (scI Y (i + 3)), iv (scI Y (i + 4))]) G mv_L_102 dL_law_895 k2 rfl rfl (Nat.le_of_ble_eq_true rfl) e2 (fun r μ2 hp => ?_)
  obtain ⟨z3, rfl, rfl, hr⟩ := hp
  refine l_eq (tgt := 1238) G dL_law_898 (by decide) ?_
  exact kk _ _ (hw.kc hk) (hr.kc hk)
theorem lc_reads (G : GL Y) {i : Int} (hi : 0 ≤ i ∧ i + 5 ≤ (Y.2.2.2.2.1 : Nat)) (hW : Wf σ) (hR : Rel σ μ) (kk : ∀ σ2 μ2, Wf σ2 → Rel σ2 μ2 → JL Y Q 1238 (lsL Y i) [] σ2 μ2) : JL Y Q 903 (lsL Y i) [] σ μ := by
  obtain ⟨z, τ, d1, d2, e1, e2, k1, k2, hw⟩ := op_reads (x1 := Y.2.1) (x2 := Y.2.2.1) (scI Y (i + 1)) (ofI_rng _) σ μ hW hR
  refine l_aload G dL_law_903 rfl ?_
  refine l_arg (i := i) (k := 1) G ⟨rfl, rfl⟩ (by omega) dL_law_904 dL_law_905 dL_law_906 dL_law_907 dL_law_908 ?_
  refine l_callC (As := [iv (scI Y (i + 1))]) G mv_L_103 dL_law_909 k1 rfl rfl (Nat.le_of_ble_eq_true rfl) e1 (fun r σ2 hp => ?_)
  obtain ⟨z2, rfl, rfl, hk⟩ := hp
  refine l_aload G dL_law_912 rfl ?_
  refine l_arg (i := i) (k := 1) G ⟨rfl, rfl⟩ (by omega) dL_law_913 dL_law_914 dL_law_915 dL_law_916 dL_law_917 ?_
  refine l_callM (As := [iv (scI Y (i + 1))]) G mv_L_106 dL_law_918 k2 rfl rfl (Nat.le_of_ble_eq_true rfl) e2 (fun r μ2 hp => ?_)
  obtain ⟨z3, rfl, rfl, hr⟩ := hp
  refine l_eq (tgt := 1238) G dL_law_921 (by decide) ?_
  exact kk _ _ (hw.kc hk) (hr.kc hk)
theorem lc_school (G : GL Y) {i : Int} (hi : 0 ≤ i ∧ i + 5 ≤ (Y.2.2.2.2.1 : Nat)) (hW : Wf σ) (hR : Rel σ μ) (kk : ∀ σ2 μ2, Wf σ2 → Rel σ2 μ2 → JL Y Q 1238 (lsL Y i) [] σ2 μ2) : JL Y Q 926 (lsL Y i) [] σ μ := by
  obtain ⟨z, τ, d1, d2, e1, e2, k1, k2, hw⟩ := op_school (x1 := Y.2.1) (x2 := Y.2.2.1) (scI Y (i + 1)) (scI Y (i + 2)) (ofI_rng _) (ofI_rng _) σ μ hW hR
  refine l_aload G dL_law_926 rfl ?_
  refine l_arg (i := i) (k := 1) G ⟨rfl, rfl⟩ (by omega) dL_law_927 dL_law_928 dL_law_929 dL_law_930 dL_law_931 ?_
  refine l_arg (i := i) (k := 2) G ⟨rfl, rfl⟩ (by omega) dL_law_932 dL_law_933 dL_law_934 dL_law_935 dL_law_936 ?_
  refine l_callC (As := [iv (scI Y (i + 1)), iv (scI Y (i + 2))]) G mv_L_107 dL_law_937 k1 rfl rfl (Nat.le_of_ble_eq_true rfl) e1 (fun r σ2 hp => ?_)
  obtain ⟨z2, rfl, rfl, hk⟩ := hp
  refine l_aload G dL_law_940 rfl ?_
  refine l_arg (i := i) (k := 1) G ⟨rfl, rfl⟩ (by omega) dL_law_941 dL_law_942 dL_law_943 dL_law_944 dL_law_945 ?_
  refine l_arg (i := i) (k := 2) G ⟨rfl, rfl⟩ (by omega) dL_law_946 dL_law_947 dL_law_948 dL_law_949 dL_law_950 ?_
  refine l_callM (As := [iv (scI Y (i + 1)), iv (scI Y (i + 2))]) G mv_L_110 dL_law_951 k2 rfl rfl (Nat.le_of_ble_eq_true rfl) e2 (fun r μ2 hp => ?_)
  obtain ⟨z3, rfl, rfl, hr⟩ := hp
  refine l_eq (tgt := 1238) G dL_law_954 (by decide) ?_
  exact kk _ _ (hw.kc hk) (hr.kc hk)
theorem lc_fund (G : GL Y) {i : Int} (hi : 0 ≤ i ∧ i + 5 ≤ (Y.2.2.2.2.1 : Nat)) (hW : Wf σ) (hR : Rel σ μ) (kk : ∀ σ2 μ2, Wf σ2 → Rel σ2 μ2 → JL Y Q 1238 (lsL Y i) [] σ2 μ2) : JL Y Q 959 (lsL Y i) [] σ μ := by
  obtain ⟨z, τ, d1, d2, e1, e2, k1, k2, hw⟩ := op_fund (x1 := Y.2.1) (x2 := Y.2.2.1) (scI Y (i + 1)) (scI Y (i + 2)) (ofI_rng _) (ofI_rng _) σ μ hW hR
  refine l_aload G dL_law_959 rfl ?_
  refine l_arg (i := i) (k := 1) G ⟨rfl, rfl⟩ (by omega) dL_law_960 dL_law_961 dL_law_962 dL_law_963 dL_law_964 ?_
  refine l_arg (i := i) (k := 2) G ⟨rfl, rfl⟩ (by omega) dL_law_965 dL_law_966 dL_law_967 dL_law_968 dL_law_969 ?_
  refine l_callC (As := [iv (scI Y (i + 1)), iv (scI Y (i + 2))]) G mv_L_111 dL_law_970 k1 rfl rfl (Nat.le_of_ble_eq_true rfl) e1 (fun r σ2 hp => ?_)
  obtain ⟨z2, rfl, rfl, hk⟩ := hp
  refine l_aload G dL_law_973 rfl ?_
  refine l_arg (i := i) (k := 1) G ⟨rfl, rfl⟩ (by omega) dL_law_974 dL_law_975 dL_law_976 dL_law_977 dL_law_978 ?_
  refine l_arg (i := i) (k := 2) G ⟨rfl, rfl⟩ (by omega) dL_law_979 dL_law_980 dL_law_981 dL_law_982 dL_law_983 ?_
  refine l_callM (As := [iv (scI Y (i + 1)), iv (scI Y (i + 2))]) G mv_L_114 dL_law_984 k2 rfl rfl (Nat.le_of_ble_eq_true rfl) e2 (fun r μ2 hp => ?_)
  obtain ⟨z3, rfl, rfl, hr⟩ := hp
  refine l_eq (tgt := 1238) G dL_law_987 (by decide) ?_
  exact kk _ _ (hw.kc hk) (hr.kc hk)
theorem lc_sign (G : GL Y) {i : Int} (hi : 0 ≤ i ∧ i + 5 ≤ (Y.2.2.2.2.1 : Nat)) (hW : Wf σ) (hR : Rel σ μ) (kk : ∀ σ2 μ2, Wf σ2 → Rel σ2 μ2 → JL Y Q 1238 (lsL Y i) [] σ2 μ2) : JL Y Q 992 (lsL Y i) [] σ μ := by
  obtain ⟨z, τ, d1, d2, e1, e2, k1, k2, hw⟩ := op_sign (x1 := Y.2.1) (x2 := Y.2.2.1) (scI Y (i + 1)) (ofI_rng _) σ μ hW hR
  refine l_aload G dL_law_992 rfl ?_
  refine l_arg (i := i) (k := 1) G ⟨rfl, rfl⟩ (by omega) dL_law_993 dL_law_994 dL_law_995 dL_law_996 dL_law_997 ?_
  refine l_callC (As := [iv (scI Y (i + 1))]) G mv_L_115 dL_law_998 k1 rfl rfl (Nat.le_of_ble_eq_true rfl) e1 (fun r σ2 hp => ?_)
  obtain ⟨z2, rfl, rfl, hk⟩ := hp
  refine l_aload G dL_law_1001 rfl ?_
  refine l_arg (i := i) (k := 1) G ⟨rfl, rfl⟩ (by omega) dL_law_1002 dL_law_1003 dL_law_1004 dL_law_1005 dL_law_1006 ?_
  refine l_callM (As := [iv (scI Y (i + 1))]) G mv_L_118 dL_law_1007 k2 rfl rfl (Nat.le_of_ble_eq_true rfl) e2 (fun r μ2 hp => ?_)
  obtain ⟨z3, rfl, rfl, hr⟩ := hp
  refine l_eq (tgt := 1238) G dL_law_1010 (by decide) ?_
  exact kk _ _ (hw.kc hk) (hr.kc hk)
theorem lc_fault (G : GL Y) {i : Int} (hi : 0 ≤ i ∧ i + 5 ≤ (Y.2.2.2.2.1 : Nat)) (hW : Wf σ) (hR : Rel σ μ) (kk : ∀ σ2 μ2, Wf σ2 → Rel σ2 μ2 → JL Y Q 1238 (lsL Y i) [] σ2 μ2) : JL Y Q 1015 (lsL Y i) [] σ μ := by
  obtain ⟨z, τ, d1, d2, e1, e2, k1, k2, hw⟩ := op_fault (x1 := Y.2.1) (x2 := Y.2.2.1)   σ μ hW hR
  refine l_aload G dL_law_1015 rfl ?_
  refine l_callC (As := []) G mv_L_119 dL_law_1016 k1 rfl rfl (Nat.le_of_ble_eq_true rfl) e1 (fun r σ2 hp => ?_)
  obtain ⟨z2, rfl, rfl, hk⟩ := hp
  refine l_aload G dL_law_1019 rfl ?_
  refine l_callM (As := []) G mv_L_122 dL_law_1020 k2 rfl rfl (Nat.le_of_ble_eq_true rfl) e2 (fun r μ2 hp => ?_)
  obtain ⟨z3, rfl, rfl, hr⟩ := hp
  refine l_eq (tgt := 1238) G dL_law_1023 (by decide) ?_
  exact kk _ _ (hw.kc hk) (hr.kc hk)
theorem lc_board (G : GL Y) {i : Int} (hi : 0 ≤ i ∧ i + 5 ≤ (Y.2.2.2.2.1 : Nat)) (hW : Wf σ) (hR : Rel σ μ) (kk : ∀ σ2 μ2, Wf σ2 → Rel σ2 μ2 → JL Y Q 1238 (lsL Y i) [] σ2 μ2) : JL Y Q 1028 (lsL Y i) [] σ μ := by
  obtain ⟨z, τ, d1, d2, e1, e2, k1, k2, hw⟩ := op_board (x1 := Y.2.1) (x2 := Y.2.2.1) (scI Y (i + 1)) (ofI_rng _) σ μ hW hR
  refine l_aload G dL_law_1028 rfl ?_
  refine l_arg (i := i) (k := 1) G ⟨rfl, rfl⟩ (by omega) dL_law_1029 dL_law_1030 dL_law_1031 dL_law_1032 dL_law_1033 ?_
  refine l_callC (As := [iv (scI Y (i + 1))]) G mv_L_123 dL_law_1034 k1 rfl rfl (Nat.le_of_ble_eq_true rfl) e1 (fun r σ2 hp => ?_)
  obtain ⟨z2, rfl, rfl, hk⟩ := hp
  refine l_aload G dL_law_1037 rfl ?_
  refine l_arg (i := i) (k := 1) G ⟨rfl, rfl⟩ (by omega) dL_law_1038 dL_law_1039 dL_law_1040 dL_law_1041 dL_law_1042 ?_
  refine l_callM (As := [iv (scI Y (i + 1))]) G mv_L_126 dL_law_1043 k2 rfl rfl (Nat.le_of_ble_eq_true rfl) e2 (fun r μ2 hp => ?_)
  obtain ⟨z3, rfl, rfl, hr⟩ := hp
  refine l_eq (tgt := 1238) G dL_law_1046 (by decide) ?_
  exact kk _ _ (hw.kc hk) (hr.kc hk)
theorem lc_voters (G : GL Y) {i : Int} (hi : 0 ≤ i ∧ i + 5 ≤ (Y.2.2.2.2.1 : Nat)) (hW : Wf σ) (hR : Rel σ μ) (kk : ∀ σ2 μ2, Wf σ2 → Rel σ2 μ2 → JL Y Q 1238 (lsL Y i) [] σ2 μ2) : JL Y Q 1051 (lsL Y i) [] σ μ := by
  obtain ⟨z, τ, d1, d2, e1, e2, k1, k2, hw⟩ := op_voters (x1 := Y.2.1) (x2 := Y.2.2.1) (scI Y (i + 1)) (ofI_rng _) σ μ hW hR
  refine l_aload G dL_law_1051 rfl ?_
  refine l_arg (i := i) (k := 1) G ⟨rfl, rfl⟩ (by omega) dL_law_1052 dL_law_1053 dL_law_1054 dL_law_1055 dL_law_1056 ?_
  refine l_callC (As := [iv (scI Y (i + 1))]) G mv_L_127 dL_law_1057 k1 rfl rfl (Nat.le_of_ble_eq_true rfl) e1 (fun r σ2 hp => ?_)
  obtain ⟨z2, rfl, rfl, hk⟩ := hp
  refine l_aload G dL_law_1060 rfl ?_
  refine l_arg (i := i) (k := 1) G ⟨rfl, rfl⟩ (by omega) dL_law_1061 dL_law_1062 dL_law_1063 dL_law_1064 dL_law_1065 ?_
  refine l_callM (As := [iv (scI Y (i + 1))]) G mv_L_130 dL_law_1066 k2 rfl rfl (Nat.le_of_ble_eq_true rfl) e2 (fun r μ2 hp => ?_)
  obtain ⟨z3, rfl, rfl, hr⟩ := hp
  refine l_eq (tgt := 1238) G dL_law_1069 (by decide) ?_
  exact kk _ _ (hw.kc hk) (hr.kc hk)
theorem lc_choice (G : GL Y) {i : Int} (hi : 0 ≤ i ∧ i + 5 ≤ (Y.2.2.2.2.1 : Nat)) (hW : Wf σ) (hR : Rel σ μ) (kk : ∀ σ2 μ2, Wf σ2 → Rel σ2 μ2 → JL Y Q 1238 (lsL Y i) [] σ2 μ2) : JL Y Q 1074 (lsL Y i) [] σ μ := by
  by_cases h_q : scI Y (i + 2) = 0
  · obtain ⟨z, τ, d1, d2, e1, e2, k1, k2, hw⟩ := op_choice (x1 := Y.2.1) (x2 := Y.2.2.1) (scI Y (i + 1)) (0) (ofI_rng _) (Or.inl rfl) σ μ hW hR
    refine l_aload G dL_law_1074 rfl ?_
    refine l_arg (i := i) (k := 1) G ⟨rfl, rfl⟩ (by omega) dL_law_1075 dL_law_1076 dL_law_1077 dL_law_1078 dL_law_1079 ?_
    refine l_arg (i := i) (k := 2) G ⟨rfl, rfl⟩ (by omega) dL_law_1080 dL_law_1081 dL_law_1082 dL_law_1083 dL_law_1084 ?_
    refine l_ifeq (tgt := 1092) G dL_law_1085 (by decide) (ofI_rng _) (fun _ => ?_) (fun h_1 => absurd h_q h_1)
    refine l_iconst G dL_law_1092 ?_
    refine l_callC (As := [iv (scI Y (i + 1)), iv (0)]) G mv_L_131 dL_law_1093 k1 rfl rfl (Nat.le_of_ble_eq_true rfl) e1 (fun r σ2 hp => ?_)
    obtain ⟨z2, rfl, rfl, hk⟩ := hp
    refine l_aload G dL_law_1096 rfl ?_
    refine l_arg (i := i) (k := 1) G ⟨rfl, rfl⟩ (by omega) dL_law_1097 dL_law_1098 dL_law_1099 dL_law_1100 dL_law_1101 ?_
    refine l_arg (i := i) (k := 2) G ⟨rfl, rfl⟩ (by omega) dL_law_1102 dL_law_1103 dL_law_1104 dL_law_1105 dL_law_1106 ?_
    refine l_ifeq (tgt := 1114) G dL_law_1107 (by decide) (ofI_rng _) (fun _ => ?_) (fun h_1 => absurd h_q h_1)
    refine l_iconst G dL_law_1114 ?_
    refine l_callM (As := [iv (scI Y (i + 1)), iv (0)]) G mv_L_135 dL_law_1115 k2 rfl rfl (Nat.le_of_ble_eq_true rfl) e2 (fun r μ2 hp => ?_)
    obtain ⟨z3, rfl, rfl, hr⟩ := hp
    refine l_eq (tgt := 1238) G dL_law_1118 (by decide) ?_
    exact kk _ _ (hw.kc hk) (hr.kc hk)
  · obtain ⟨z, τ, d1, d2, e1, e2, k1, k2, hw⟩ := op_choice (x1 := Y.2.1) (x2 := Y.2.2.1) (scI Y (i + 1)) (1) (ofI_rng _) (Or.inr rfl) σ μ hW hR
    refine l_aload G dL_law_1074 rfl ?_
    refine l_arg (i := i) (k := 1) G ⟨rfl, rfl⟩ (by omega) dL_law_1075 dL_law_1076 dL_law_1077 dL_law_1078 dL_law_1079 ?_
    refine l_arg (i := i) (k := 2) G ⟨rfl, rfl⟩ (by omega) dL_law_1080 dL_law_1081 dL_law_1082 dL_law_1083 dL_law_1084 ?_
    refine l_ifeq (tgt := 1092) G dL_law_1085 (by decide) (ofI_rng _) (fun h_1 => absurd h_1 h_q) (fun _ => ?_)
    refine l_iconst G dL_law_1088 ?_
    refine l_goto (tgt := 1093) G dL_law_1089 (by decide) ?_
    refine l_callC (As := [iv (scI Y (i + 1)), iv (1)]) G mv_L_131 dL_law_1093 k1 rfl rfl (Nat.le_of_ble_eq_true rfl) e1 (fun r σ2 hp => ?_)
    obtain ⟨z2, rfl, rfl, hk⟩ := hp
    refine l_aload G dL_law_1096 rfl ?_
    refine l_arg (i := i) (k := 1) G ⟨rfl, rfl⟩ (by omega) dL_law_1097 dL_law_1098 dL_law_1099 dL_law_1100 dL_law_1101 ?_
    refine l_arg (i := i) (k := 2) G ⟨rfl, rfl⟩ (by omega) dL_law_1102 dL_law_1103 dL_law_1104 dL_law_1105 dL_law_1106 ?_
    refine l_ifeq (tgt := 1114) G dL_law_1107 (by decide) (ofI_rng _) (fun h_1 => absurd h_1 h_q) (fun _ => ?_)
    refine l_iconst G dL_law_1110 ?_
    refine l_goto (tgt := 1115) G dL_law_1111 (by decide) ?_
    refine l_callM (As := [iv (scI Y (i + 1)), iv (1)]) G mv_L_135 dL_law_1115 k2 rfl rfl (Nat.le_of_ble_eq_true rfl) e2 (fun r μ2 hp => ?_)
    obtain ⟨z3, rfl, rfl, hr⟩ := hp
    refine l_eq (tgt := 1238) G dL_law_1118 (by decide) ?_
    exact kk _ _ (hw.kc hk) (hr.kc hk)
theorem lc_part (G : GL Y) {i : Int} (hi : 0 ≤ i ∧ i + 5 ≤ (Y.2.2.2.2.1 : Nat)) (hW : Wf σ) (hR : Rel σ μ) (kk : ∀ σ2 μ2, Wf σ2 → Rel σ2 μ2 → JL Y Q 1238 (lsL Y i) [] σ2 μ2) : JL Y Q 1123 (lsL Y i) [] σ μ := by
  obtain ⟨z, τ, d1, d2, e1, e2, k1, k2, hw⟩ := op_part (x1 := Y.2.1) (x2 := Y.2.2.1) (scI Y (i + 1)) (scI Y (i + 2)) (ofI_rng _) (ofI_rng _) σ μ hW hR
  refine l_aload G dL_law_1123 rfl ?_
  refine l_arg (i := i) (k := 1) G ⟨rfl, rfl⟩ (by omega) dL_law_1124 dL_law_1125 dL_law_1126 dL_law_1127 dL_law_1128 ?_
  refine l_arg (i := i) (k := 2) G ⟨rfl, rfl⟩ (by omega) dL_law_1129 dL_law_1130 dL_law_1131 dL_law_1132 dL_law_1133 ?_
  refine l_callC (As := [iv (scI Y (i + 1)), iv (scI Y (i + 2))]) G mv_L_136 dL_law_1134 k1 rfl rfl (Nat.le_of_ble_eq_true rfl) e1 (fun r σ2 hp => ?_)
  obtain ⟨z2, rfl, rfl, hk⟩ := hp
  refine l_aload G dL_law_1137 rfl ?_
  refine l_arg (i := i) (k := 1) G ⟨rfl, rfl⟩ (by omega) dL_law_1138 dL_law_1139 dL_law_1140 dL_law_1141 dL_law_1142 ?_
  refine l_arg (i := i) (k := 2) G ⟨rfl, rfl⟩ (by omega) dL_law_1143 dL_law_1144 dL_law_1145 dL_law_1146 dL_law_1147 ?_
  refine l_callM (As := [iv (scI Y (i + 1)), iv (scI Y (i + 2))]) G mv_L_139 dL_law_1148 k2 rfl rfl (Nat.le_of_ble_eq_true rfl) e2 (fun r μ2 hp => ?_)
  obtain ⟨z3, rfl, rfl, hr⟩ := hp
  refine l_eq (tgt := 1238) G dL_law_1151 (by decide) ?_
  exact kk _ _ (hw.kc hk) (hr.kc hk)
theorem lc_mix (G : GL Y) {i : Int} (hi : 0 ≤ i ∧ i + 5 ≤ (Y.2.2.2.2.1 : Nat)) (hW : Wf σ) (hR : Rel σ μ) (kk : ∀ σ2 μ2, Wf σ2 → Rel σ2 μ2 → JL Y Q 1238 (lsL Y i) [] σ2 μ2) : JL Y Q 1156 (lsL Y i) [] σ μ := by
  obtain ⟨z, τ, d1, d2, e1, e2, k1, k2, hw⟩ := op_mix (x1 := Y.2.1) (x2 := Y.2.2.1) (scI Y (i + 1)) (ofI_rng _) σ μ hW hR
  refine l_aload G dL_law_1156 rfl ?_
  refine l_arg (i := i) (k := 1) G ⟨rfl, rfl⟩ (by omega) dL_law_1157 dL_law_1158 dL_law_1159 dL_law_1160 dL_law_1161 ?_
  refine l_callC (As := [iv (scI Y (i + 1))]) G mv_L_140 dL_law_1162 k1 rfl rfl (Nat.le_of_ble_eq_true rfl) e1 (fun r σ2 hp => ?_)
  obtain ⟨z2, rfl, rfl, hk⟩ := hp
  refine l_aload G dL_law_1165 rfl ?_
  refine l_arg (i := i) (k := 1) G ⟨rfl, rfl⟩ (by omega) dL_law_1166 dL_law_1167 dL_law_1168 dL_law_1169 dL_law_1170 ?_
  refine l_callM (As := [iv (scI Y (i + 1))]) G mv_L_143 dL_law_1171 k2 rfl rfl (Nat.le_of_ble_eq_true rfl) e2 (fun r μ2 hp => ?_)
  obtain ⟨z3, rfl, rfl, hr⟩ := hp
  refine l_eq (tgt := 1238) G dL_law_1174 (by decide) ?_
  exact kk _ _ (hw.kc hk) (hr.kc hk)
theorem lc_anew (G : GL Y) {i : Int} (hi : 0 ≤ i ∧ i + 5 ≤ (Y.2.2.2.2.1 : Nat)) (hW : Wf σ) (hR : Rel σ μ) (kk : ∀ σ2 μ2, Wf σ2 → Rel σ2 μ2 → JL Y Q 1238 (lsL Y i) [] σ2 μ2) : JL Y Q 1179 (lsL Y i) [] σ μ := by
  obtain ⟨z, τ, d1, d2, e1, e2, k1, k2, hw⟩ := op_anew (x1 := Y.2.1) (x2 := Y.2.2.1) (scI Y (i + 1)) (ofI_rng _) σ μ hW hR
  refine l_aload G dL_law_1179 rfl ?_
  refine l_arg (i := i) (k := 1) G ⟨rfl, rfl⟩ (by omega) dL_law_1180 dL_law_1181 dL_law_1182 dL_law_1183 dL_law_1184 ?_
  refine l_callC (As := [iv (scI Y (i + 1))]) G mv_L_144 dL_law_1185 k1 rfl rfl (Nat.le_of_ble_eq_true rfl) e1 (fun r σ2 hp => ?_)
  obtain ⟨z2, rfl, rfl, hk⟩ := hp
  refine l_aload G dL_law_1188 rfl ?_
  refine l_arg (i := i) (k := 1) G ⟨rfl, rfl⟩ (by omega) dL_law_1189 dL_law_1190 dL_law_1191 dL_law_1192 dL_law_1193 ?_
  refine l_callM (As := [iv (scI Y (i + 1))]) G mv_L_147 dL_law_1194 k2 rfl rfl (Nat.le_of_ble_eq_true rfl) e2 (fun r μ2 hp => ?_)
  obtain ⟨z3, rfl, rfl, hr⟩ := hp
  refine l_eq (tgt := 1238) G dL_law_1197 (by decide) ?_
  exact kk _ _ (hw.kc hk) (hr.kc hk)
theorem lc_best (G : GL Y) {i : Int} (hi : 0 ≤ i ∧ i + 5 ≤ (Y.2.2.2.2.1 : Nat)) (hW : Wf σ) (hR : Rel σ μ) (kk : ∀ σ2 μ2, Wf σ2 → Rel σ2 μ2 → JL Y Q 1238 (lsL Y i) [] σ2 μ2) : JL Y Q 1202 (lsL Y i) [] σ μ := by
  obtain ⟨z, τ, d1, d2, e1, e2, k1, k2, hw⟩ := op_best (x1 := Y.2.1) (x2 := Y.2.2.1)   σ μ hW hR
  refine l_aload G dL_law_1202 rfl ?_
  refine l_callC (As := []) G mv_L_148 dL_law_1203 k1 rfl rfl (Nat.le_of_ble_eq_true rfl) e1 (fun r σ2 hp => ?_)
  obtain ⟨z2, rfl, rfl, hk⟩ := hp
  refine l_aload G dL_law_1206 rfl ?_
  refine l_callM (As := []) G mv_L_151 dL_law_1207 k2 rfl rfl (Nat.le_of_ble_eq_true rfl) e2 (fun r μ2 hp => ?_)
  obtain ⟨z3, rfl, rfl, hr⟩ := hp
  refine l_eq (tgt := 1238) G dL_law_1210 (by decide) ?_
  exact kk _ _ (hw.kc hk) (hr.kc hk)
theorem lc_told (G : GL Y) {i : Int} (hi : 0 ≤ i ∧ i + 5 ≤ (Y.2.2.2.2.1 : Nat)) (hW : Wf σ) (hR : Rel σ μ) (kk : ∀ σ2 μ2, Wf σ2 → Rel σ2 μ2 → JL Y Q 1238 (lsL Y i) [] σ2 μ2) : JL Y Q 1215 (lsL Y i) [] σ μ := by
  obtain ⟨z, τ, d1, d2, e1, e2, k1, k2, hw⟩ := op_told (x1 := Y.2.1) (x2 := Y.2.2.1) (scI Y (i + 1)) (ofI_rng _) σ μ hW hR
  refine l_aload G dL_law_1215 rfl ?_
  refine l_arg (i := i) (k := 1) G ⟨rfl, rfl⟩ (by omega) dL_law_1216 dL_law_1217 dL_law_1218 dL_law_1219 dL_law_1220 ?_
  refine l_callC (As := [iv (scI Y (i + 1))]) G mv_L_152 dL_law_1221 k1 rfl rfl (Nat.le_of_ble_eq_true rfl) e1 (fun r σ2 hp => ?_)
  obtain ⟨z2, rfl, rfl, hk⟩ := hp
  refine l_aload G dL_law_1224 rfl ?_
  refine l_arg (i := i) (k := 1) G ⟨rfl, rfl⟩ (by omega) dL_law_1225 dL_law_1226 dL_law_1227 dL_law_1228 dL_law_1229 ?_
  refine l_callM (As := [iv (scI Y (i + 1))]) G mv_L_155 dL_law_1230 k2 rfl rfl (Nat.le_of_ble_eq_true rfl) e2 (fun r μ2 hp => ?_)
  obtain ⟨z3, rfl, rfl, hr⟩ := hp
  refine l_eq (tgt := 1238) G dL_law_1233 (by decide) ?_
  exact kk _ _ (hw.kc hk) (hr.kc hk)
end JLU

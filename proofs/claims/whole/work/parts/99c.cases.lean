/-! the cases of the law, one by one: from the case to the step of the loop, with the same answer of both sides -/
set_option maxRecDepth 100000 in
set_option maxHeartbeats 4000000 in
theorem lc_0 {κ : Kt} {δ : Dl} {b b0 L i : Nat} {xs : Nat → Int32} {Q : State → Prop} {μ ν : Mm} {S : St} (X : LXc κ δ b b0 L xs) (hL : L ≤ 3072) (hi : i + 6 ≤ L) (hR : RX μ S) (hM : RMX ν S) (k : ∀ (μ1 ν1 : Mm) (S1 : St), RX μ1 S1 → RMX ν1 S1 → LW κ δ b Q 186 5241 1606 [some (.ref b0), some (.ref (b + 0)), some (.ref (b + NX + 0)), some (.int (nI i))] [] μ1 ν1) : LW κ δ b Q 186 5241 212 [some (.ref b0), some (.ref (b + 0)), some (.ref (b + NX + 0)), some (.int (nI i))] [] μ ν := by
  refine LW.aload_n X dL_law_212 (i := 1) rfl rfl ?_
  refine LW.arg X (i := i) (j := 1) dL_law_213 dL_law_214 dL_law_215 dL_law_216 dL_law_217 (by decide) rfl rfl (by omega) hL ?_
  refine LW.arg X (i := i) (j := 2) dL_law_218 dL_law_219 dL_law_220 dL_law_221 dL_law_222 (by decide) rfl rfl (by omega) hL ?_
  refine LW.arg X (i := i) (j := 3) dL_law_223 dL_law_224 dL_law_225 dL_law_226 dL_law_227 (by decide) rfl rfl (by omega) hL ?_
  refine LW.callX X dL_law_228 lL_13 (c_X11_row hR (x := (xs (i + 1))) (y := (xs (i + 2))) (z := (xs (i + 3)))) rfl rfl rfl rfl ⟨rfl, rfl⟩ ?_
  rintro _ μ1 ⟨r1, rfl, q1⟩
  show LW κ δ b Q 186 5241 231 [some (.ref b0), some (.ref (b + 0)), some (.ref (b + NX + 0)), some (.int (nI i))] [.int r1] μ1 ν
  refine LW.aload_n X dL_law_231 (i := 2) rfl rfl ?_
  refine LW.arg X (i := i) (j := 1) dL_law_232 dL_law_233 dL_law_234 dL_law_235 dL_law_236 (by decide) rfl rfl (by omega) hL ?_
  refine LW.arg X (i := i) (j := 2) dL_law_237 dL_law_238 dL_law_239 dL_law_240 dL_law_241 (by decide) rfl rfl (by omega) hL ?_
  refine LW.arg X (i := i) (j := 3) dL_law_242 dL_law_243 dL_law_244 dL_law_245 dL_law_246 (by decide) rfl rfl (by omega) hL ?_
  refine LW.callM X dL_law_247 lL_17 (c_X12_row hM (x := (xs (i + 1))) (y := (xs (i + 2))) (z := (xs (i + 3)))) rfl rfl rfl rfl ⟨rfl, rfl⟩ ?_
  rintro _ ν1 ⟨r2, rfl, q2⟩
  show LW κ δ b Q 186 5241 250 [some (.ref b0), some (.ref (b + 0)), some (.ref (b + NX + 0)), some (.int (nI i))] [.int r2, .int r1] μ1 ν1
  refine LW.eqI X (tgt := 1606) dL_law_250 (by decide) (q1.1.trans q2.1.symm) ?_
  exact k _ _ _ q1.2 q2.2
set_option maxRecDepth 100000 in
set_option maxHeartbeats 4000000 in
theorem lc_1 {κ : Kt} {δ : Dl} {b b0 L i : Nat} {xs : Nat → Int32} {Q : State → Prop} {μ ν : Mm} {S : St} (X : LXc κ δ b b0 L xs) (hL : L ≤ 3072) (hi : i + 6 ≤ L) (hR : RX μ S) (hM : RMX ν S) (k : ∀ (μ1 ν1 : Mm) (S1 : St), RX μ1 S1 → RMX ν1 S1 → LW κ δ b Q 186 5241 1606 [some (.ref b0), some (.ref (b + 0)), some (.ref (b + NX + 0)), some (.int (nI i))] [] μ1 ν1) : LW κ δ b Q 186 5241 255 [some (.ref b0), some (.ref (b + 0)), some (.ref (b + NX + 0)), some (.int (nI i))] [] μ ν := by
  refine LW.aload_n X dL_law_255 (i := 1) rfl rfl ?_
  refine LW.arg X (i := i) (j := 1) dL_law_256 dL_law_257 dL_law_258 dL_law_259 dL_law_260 (by decide) rfl rfl (by omega) hL ?_
  refine LW.arg X (i := i) (j := 2) dL_law_261 dL_law_262 dL_law_263 dL_law_264 dL_law_265 (by decide) rfl rfl (by omega) hL ?_
  refine LW.arg X (i := i) (j := 3) dL_law_266 dL_law_267 dL_law_268 dL_law_269 dL_law_270 (by decide) rfl rfl (by omega) hL ?_
  refine LW.i2l X dL_law_271 ?_
  refine LW.bipush X (v := 32) dL_law_272 rfl ?_
  refine LW.lshl X dL_law_274 ?_
  refine LW.arg X (i := i) (j := 4) dL_law_275 dL_law_276 dL_law_277 dL_law_278 dL_law_279 (by decide) rfl rfl (by omega) hL ?_
  refine LW.i2l X dL_law_280 ?_
  refine LW.ldcl X (v := 4294967295) dL_law_281 kL_18 ?_
  refine LW.land X dL_law_284 ?_
  refine LW.lor X dL_law_285 ?_
  refine LW.callX X dL_law_286 lL_20 (c_X11_set hR (x := (xs (i + 1))) (i := (xs (i + 2))) (v := ((((xs (i + 3)).toInt64) <<< ((32 : Int32).toInt64 &&& 63)) ||| (((xs (i + 4)).toInt64) &&& 4294967295)))) rfl rfl rfl rfl ⟨rfl, rfl⟩ ?_
  rintro _ μ1 ⟨r1, rfl, q1⟩
  show LW κ δ b Q 186 5241 289 [some (.ref b0), some (.ref (b + 0)), some (.ref (b + NX + 0)), some (.int (nI i))] [.int r1] μ1 ν
  refine LW.aload_n X dL_law_289 (i := 2) rfl rfl ?_
  refine LW.arg X (i := i) (j := 1) dL_law_290 dL_law_291 dL_law_292 dL_law_293 dL_law_294 (by decide) rfl rfl (by omega) hL ?_
  refine LW.arg X (i := i) (j := 2) dL_law_295 dL_law_296 dL_law_297 dL_law_298 dL_law_299 (by decide) rfl rfl (by omega) hL ?_
  refine LW.arg X (i := i) (j := 3) dL_law_300 dL_law_301 dL_law_302 dL_law_303 dL_law_304 (by decide) rfl rfl (by omega) hL ?_
  refine LW.i2l X dL_law_305 ?_
  refine LW.bipush X (v := 32) dL_law_306 rfl ?_
  refine LW.lshl X dL_law_308 ?_
  refine LW.arg X (i := i) (j := 4) dL_law_309 dL_law_310 dL_law_311 dL_law_312 dL_law_313 (by decide) rfl rfl (by omega) hL ?_
  refine LW.i2l X dL_law_314 ?_
  refine LW.ldcl X (v := 4294967295) dL_law_315 kL_18 ?_
  refine LW.land X dL_law_318 ?_
  refine LW.lor X dL_law_319 ?_
  refine LW.callM X dL_law_320 lL_24 (c_X12_set hM (x := (xs (i + 1))) (y := (xs (i + 2))) (v := ((((xs (i + 3)).toInt64) <<< ((32 : Int32).toInt64 &&& 63)) ||| (((xs (i + 4)).toInt64) &&& 4294967295)))) rfl rfl rfl rfl ⟨rfl, rfl⟩ ?_
  rintro _ ν1 ⟨r2, rfl, q2⟩
  show LW κ δ b Q 186 5241 323 [some (.ref b0), some (.ref (b + 0)), some (.ref (b + NX + 0)), some (.int (nI i))] [.int r2, .int r1] μ1 ν1
  refine LW.eqI X (tgt := 1606) dL_law_323 (by decide) (q1.1.trans q2.1.symm) ?_
  exact k _ _ _ q1.2 q2.2
set_option maxRecDepth 100000 in
set_option maxHeartbeats 4000000 in
theorem lc_2 {κ : Kt} {δ : Dl} {b b0 L i : Nat} {xs : Nat → Int32} {Q : State → Prop} {μ ν : Mm} {S : St} (X : LXc κ δ b b0 L xs) (hL : L ≤ 3072) (hi : i + 6 ≤ L) (hR : RX μ S) (hM : RMX ν S) (k : ∀ (μ1 ν1 : Mm) (S1 : St), RX μ1 S1 → RMX ν1 S1 → LW κ δ b Q 186 5241 1606 [some (.ref b0), some (.ref (b + 0)), some (.ref (b + NX + 0)), some (.int (nI i))] [] μ1 ν1) : LW κ δ b Q 186 5241 328 [some (.ref b0), some (.ref (b + 0)), some (.ref (b + NX + 0)), some (.int (nI i))] [] μ ν := by
  refine LW.aload_n X dL_law_328 (i := 1) rfl rfl ?_
  refine LW.arg X (i := i) (j := 1) dL_law_329 dL_law_330 dL_law_331 dL_law_332 dL_law_333 (by decide) rfl rfl (by omega) hL ?_
  refine LW.arg X (i := i) (j := 2) dL_law_334 dL_law_335 dL_law_336 dL_law_337 dL_law_338 (by decide) rfl rfl (by omega) hL ?_
  refine LW.arg X (i := i) (j := 3) dL_law_339 dL_law_340 dL_law_341 dL_law_342 dL_law_343 (by decide) rfl rfl (by omega) hL ?_
  refine LW.arg X (i := i) (j := 4) dL_law_344 dL_law_345 dL_law_346 dL_law_347 dL_law_348 (by decide) rfl rfl (by omega) hL ?_
  refine LW.arg X (i := i) (j := 5) dL_law_349 dL_law_350 dL_law_351 dL_law_352 dL_law_353 (by decide) rfl rfl (by omega) hL ?_
  refine LW.callX X dL_law_354 lL_25 (c_X11_copy hR (x := (xs (i + 1))) (y := (xs (i + 2))) (u := (xs (i + 3))) (v := (xs (i + 4))) (w := (xs (i + 5)))) rfl rfl rfl rfl ⟨rfl, rfl⟩ ?_
  rintro _ μ1 ⟨r1, rfl, q1⟩
  show LW κ δ b Q 186 5241 357 [some (.ref b0), some (.ref (b + 0)), some (.ref (b + NX + 0)), some (.int (nI i))] [.int r1] μ1 ν
  refine LW.aload_n X dL_law_357 (i := 2) rfl rfl ?_
  refine LW.arg X (i := i) (j := 1) dL_law_358 dL_law_359 dL_law_360 dL_law_361 dL_law_362 (by decide) rfl rfl (by omega) hL ?_
  refine LW.arg X (i := i) (j := 2) dL_law_363 dL_law_364 dL_law_365 dL_law_366 dL_law_367 (by decide) rfl rfl (by omega) hL ?_
  refine LW.arg X (i := i) (j := 3) dL_law_368 dL_law_369 dL_law_370 dL_law_371 dL_law_372 (by decide) rfl rfl (by omega) hL ?_
  refine LW.arg X (i := i) (j := 4) dL_law_373 dL_law_374 dL_law_375 dL_law_376 dL_law_377 (by decide) rfl rfl (by omega) hL ?_
  refine LW.arg X (i := i) (j := 5) dL_law_378 dL_law_379 dL_law_380 dL_law_381 dL_law_382 (by decide) rfl rfl (by omega) hL ?_
  refine LW.callM X dL_law_383 lL_29 (c_X12_copy hM (x := (xs (i + 1))) (y := (xs (i + 2))) (u := (xs (i + 3))) (v := (xs (i + 4))) (w := (xs (i + 5)))) rfl rfl rfl rfl ⟨rfl, rfl⟩ ?_
  rintro _ ν1 ⟨r2, rfl, q2⟩
  show LW κ δ b Q 186 5241 386 [some (.ref b0), some (.ref (b + 0)), some (.ref (b + NX + 0)), some (.int (nI i))] [.int r2, .int r1] μ1 ν1
  refine LW.eqI X (tgt := 1606) dL_law_386 (by decide) (q1.1.trans q2.1.symm) ?_
  exact k _ _ _ q1.2 q2.2
set_option maxRecDepth 100000 in
set_option maxHeartbeats 4000000 in
theorem lc_3 {κ : Kt} {δ : Dl} {b b0 L i : Nat} {xs : Nat → Int32} {Q : State → Prop} {μ ν : Mm} {S : St} (X : LXc κ δ b b0 L xs) (hL : L ≤ 3072) (hi : i + 6 ≤ L) (hR : RX μ S) (hM : RMX ν S) (k : ∀ (μ1 ν1 : Mm) (S1 : St), RX μ1 S1 → RMX ν1 S1 → LW κ δ b Q 186 5241 1606 [some (.ref b0), some (.ref (b + 0)), some (.ref (b + NX + 0)), some (.int (nI i))] [] μ1 ν1) : LW κ δ b Q 186 5241 391 [some (.ref b0), some (.ref (b + 0)), some (.ref (b + NX + 0)), some (.int (nI i))] [] μ ν := by
  refine LW.aload_n X dL_law_391 (i := 1) rfl rfl ?_
  refine LW.arg X (i := i) (j := 1) dL_law_392 dL_law_393 dL_law_394 dL_law_395 dL_law_396 (by decide) rfl rfl (by omega) hL ?_
  refine LW.arg X (i := i) (j := 2) dL_law_397 dL_law_398 dL_law_399 dL_law_400 dL_law_401 (by decide) rfl rfl (by omega) hL ?_
  refine LW.callX X dL_law_402 lL_30 (c_X11_element hR (x := (xs (i + 1))) (i := (xs (i + 2)))) rfl rfl rfl rfl ⟨rfl, rfl⟩ ?_
  rintro _ μ1 ⟨r1, rfl, q1⟩
  show LW κ δ b Q 186 5241 405 [some (.ref b0), some (.ref (b + 0)), some (.ref (b + NX + 0)), some (.int (nI i))] [.long r1] μ1 ν
  refine LW.aload_n X dL_law_405 (i := 2) rfl rfl ?_
  refine LW.arg X (i := i) (j := 1) dL_law_406 dL_law_407 dL_law_408 dL_law_409 dL_law_410 (by decide) rfl rfl (by omega) hL ?_
  refine LW.arg X (i := i) (j := 2) dL_law_411 dL_law_412 dL_law_413 dL_law_414 dL_law_415 (by decide) rfl rfl (by omega) hL ?_
  refine LW.callM X dL_law_416 lL_34 (c_X12_element hM (x := (xs (i + 1))) (y := (xs (i + 2)))) rfl rfl rfl rfl ⟨rfl, rfl⟩ ?_
  rintro _ ν1 ⟨r2, rfl, q2⟩
  show LW κ δ b Q 186 5241 419 [some (.ref b0), some (.ref (b + 0)), some (.ref (b + NX + 0)), some (.int (nI i))] [.long r2, .long r1] μ1 ν1
  refine LW.eqL X (tgt := 1606) dL_law_419 dL_law_420 (by decide) (q1.1.trans q2.1.symm) ?_
  obtain ⟨-, rfl⟩ := q1
  obtain ⟨-, rfl⟩ := q2
  exact k _ _ _ hR hM
set_option maxRecDepth 100000 in
set_option maxHeartbeats 4000000 in
theorem lc_4 {κ : Kt} {δ : Dl} {b b0 L i : Nat} {xs : Nat → Int32} {Q : State → Prop} {μ ν : Mm} {S : St} (X : LXc κ δ b b0 L xs) (hL : L ≤ 3072) (hi : i + 6 ≤ L) (hR : RX μ S) (hM : RMX ν S) (k : ∀ (μ1 ν1 : Mm) (S1 : St), RX μ1 S1 → RMX ν1 S1 → LW κ δ b Q 186 5241 1606 [some (.ref b0), some (.ref (b + 0)), some (.ref (b + NX + 0)), some (.int (nI i))] [] μ1 ν1) : LW κ δ b Q 186 5241 425 [some (.ref b0), some (.ref (b + 0)), some (.ref (b + NX + 0)), some (.int (nI i))] [] μ ν := by
  refine LW.aload_n X dL_law_425 (i := 1) rfl rfl ?_
  refine LW.arg X (i := i) (j := 1) dL_law_426 dL_law_427 dL_law_428 dL_law_429 dL_law_430 (by decide) rfl rfl (by omega) hL ?_
  refine LW.arg X (i := i) (j := 2) dL_law_431 dL_law_432 dL_law_433 dL_law_434 dL_law_435 (by decide) rfl rfl (by omega) hL ?_
  refine LW.callX X dL_law_436 lL_35 (c_X11_show hR (x := (xs (i + 1))) (y := (xs (i + 2)))) rfl rfl rfl rfl ⟨rfl, rfl⟩ ?_
  rintro _ μ1 ⟨r1, rfl, q1⟩
  show LW κ δ b Q 186 5241 439 [some (.ref b0), some (.ref (b + 0)), some (.ref (b + NX + 0)), some (.int (nI i))] [.int r1] μ1 ν
  refine LW.aload_n X dL_law_439 (i := 2) rfl rfl ?_
  refine LW.arg X (i := i) (j := 1) dL_law_440 dL_law_441 dL_law_442 dL_law_443 dL_law_444 (by decide) rfl rfl (by omega) hL ?_
  refine LW.arg X (i := i) (j := 2) dL_law_445 dL_law_446 dL_law_447 dL_law_448 dL_law_449 (by decide) rfl rfl (by omega) hL ?_
  refine LW.callM X dL_law_450 lL_39 (c_X12_show hM (x := (xs (i + 1))) (y := (xs (i + 2)))) rfl rfl rfl rfl ⟨rfl, rfl⟩ ?_
  rintro _ ν1 ⟨r2, rfl, q2⟩
  show LW κ δ b Q 186 5241 453 [some (.ref b0), some (.ref (b + 0)), some (.ref (b + NX + 0)), some (.int (nI i))] [.int r2, .int r1] μ1 ν1
  refine LW.eqI X (tgt := 1606) dL_law_453 (by decide) (q1.1.trans q2.1.symm) ?_
  exact k _ _ _ q1.2 q2.2
set_option maxRecDepth 100000 in
set_option maxHeartbeats 4000000 in
theorem lc_5 {κ : Kt} {δ : Dl} {b b0 L i : Nat} {xs : Nat → Int32} {Q : State → Prop} {μ ν : Mm} {S : St} (X : LXc κ δ b b0 L xs) (hL : L ≤ 3072) (hi : i + 6 ≤ L) (hR : RX μ S) (hM : RMX ν S) (k : ∀ (μ1 ν1 : Mm) (S1 : St), RX μ1 S1 → RMX ν1 S1 → LW κ δ b Q 186 5241 1606 [some (.ref b0), some (.ref (b + 0)), some (.ref (b + NX + 0)), some (.int (nI i))] [] μ1 ν1) : LW κ δ b Q 186 5241 458 [some (.ref b0), some (.ref (b + 0)), some (.ref (b + NX + 0)), some (.int (nI i))] [] μ ν := by
  refine LW.aload_n X dL_law_458 (i := 1) rfl rfl ?_
  refine LW.arg X (i := i) (j := 1) dL_law_459 dL_law_460 dL_law_461 dL_law_462 dL_law_463 (by decide) rfl rfl (by omega) hL ?_
  refine LW.callX X dL_law_464 lL_40 (c_X11_holds hR (x := (xs (i + 1)))) rfl rfl rfl rfl ⟨rfl, rfl⟩ ?_
  rintro _ μ1 ⟨r1, rfl, q1⟩
  show LW κ δ b Q 186 5241 467 [some (.ref b0), some (.ref (b + 0)), some (.ref (b + NX + 0)), some (.int (nI i))] [.int r1] μ1 ν
  refine LW.aload_n X dL_law_467 (i := 2) rfl rfl ?_
  refine LW.arg X (i := i) (j := 1) dL_law_468 dL_law_469 dL_law_470 dL_law_471 dL_law_472 (by decide) rfl rfl (by omega) hL ?_
  refine LW.callM X dL_law_473 lL_44 (c_X12_holds hM (x := (xs (i + 1)))) rfl rfl rfl rfl ⟨rfl, rfl⟩ ?_
  rintro _ ν1 ⟨r2, rfl, q2⟩
  show LW κ δ b Q 186 5241 476 [some (.ref b0), some (.ref (b + 0)), some (.ref (b + NX + 0)), some (.int (nI i))] [.int r2, .int r1] μ1 ν1
  refine LW.eqI X (tgt := 1606) dL_law_476 (by decide) (q1.1.trans q2.1.symm) ?_
  obtain ⟨-, rfl⟩ := q1
  obtain ⟨-, rfl⟩ := q2
  exact k _ _ _ hR hM
set_option maxRecDepth 100000 in
set_option maxHeartbeats 4000000 in
theorem lc_6 {κ : Kt} {δ : Dl} {b b0 L i : Nat} {xs : Nat → Int32} {Q : State → Prop} {μ ν : Mm} {S : St} (X : LXc κ δ b b0 L xs) (hL : L ≤ 3072) (hi : i + 6 ≤ L) (hR : RX μ S) (hM : RMX ν S) (k : ∀ (μ1 ν1 : Mm) (S1 : St), RX μ1 S1 → RMX ν1 S1 → LW κ δ b Q 186 5241 1606 [some (.ref b0), some (.ref (b + 0)), some (.ref (b + NX + 0)), some (.int (nI i))] [] μ1 ν1) : LW κ δ b Q 186 5241 481 [some (.ref b0), some (.ref (b + 0)), some (.ref (b + NX + 0)), some (.int (nI i))] [] μ ν := by
  refine LW.aload_n X dL_law_481 (i := 1) rfl rfl ?_
  refine LW.arg X (i := i) (j := 1) dL_law_482 dL_law_483 dL_law_484 dL_law_485 dL_law_486 (by decide) rfl rfl (by omega) hL ?_
  refine LW.arg X (i := i) (j := 2) dL_law_487 dL_law_488 dL_law_489 dL_law_490 dL_law_491 (by decide) rfl rfl (by omega) hL ?_
  refine LW.callX X dL_law_492 lL_45 (c_X11_says hR (x := (xs (i + 1))) (y := (xs (i + 2)))) rfl rfl rfl rfl ⟨rfl, rfl⟩ ?_
  rintro _ μ1 ⟨r1, rfl, q1⟩
  show LW κ δ b Q 186 5241 495 [some (.ref b0), some (.ref (b + 0)), some (.ref (b + NX + 0)), some (.int (nI i))] [.int r1] μ1 ν
  refine LW.aload_n X dL_law_495 (i := 2) rfl rfl ?_
  refine LW.arg X (i := i) (j := 1) dL_law_496 dL_law_497 dL_law_498 dL_law_499 dL_law_500 (by decide) rfl rfl (by omega) hL ?_
  refine LW.arg X (i := i) (j := 2) dL_law_501 dL_law_502 dL_law_503 dL_law_504 dL_law_505 (by decide) rfl rfl (by omega) hL ?_
  refine LW.callM X dL_law_506 lL_48 (c_X12_says hM (x := (xs (i + 1))) (y := (xs (i + 2)))) rfl rfl rfl rfl ⟨rfl, rfl⟩ ?_
  rintro _ ν1 ⟨r2, rfl, q2⟩
  show LW κ δ b Q 186 5241 509 [some (.ref b0), some (.ref (b + 0)), some (.ref (b + NX + 0)), some (.int (nI i))] [.int r2, .int r1] μ1 ν1
  refine LW.eqI X (tgt := 1606) dL_law_509 (by decide) (q1.1.trans q2.1.symm) ?_
  exact k _ _ _ q1.2 q2.2
set_option maxRecDepth 100000 in
set_option maxHeartbeats 4000000 in
theorem lc_7 {κ : Kt} {δ : Dl} {b b0 L i : Nat} {xs : Nat → Int32} {Q : State → Prop} {μ ν : Mm} {S : St} (X : LXc κ δ b b0 L xs) (hL : L ≤ 3072) (hi : i + 6 ≤ L) (hR : RX μ S) (hM : RMX ν S) (k : ∀ (μ1 ν1 : Mm) (S1 : St), RX μ1 S1 → RMX ν1 S1 → LW κ δ b Q 186 5241 1606 [some (.ref b0), some (.ref (b + 0)), some (.ref (b + NX + 0)), some (.int (nI i))] [] μ1 ν1) : LW κ δ b Q 186 5241 514 [some (.ref b0), some (.ref (b + 0)), some (.ref (b + NX + 0)), some (.int (nI i))] [] μ ν := by
  refine LW.aload_n X dL_law_514 (i := 1) rfl rfl ?_
  refine LW.arg X (i := i) (j := 1) dL_law_515 dL_law_516 dL_law_517 dL_law_518 dL_law_519 (by decide) rfl rfl (by omega) hL ?_
  refine LW.arg X (i := i) (j := 2) dL_law_520 dL_law_521 dL_law_522 dL_law_523 dL_law_524 (by decide) rfl rfl (by omega) hL ?_
  refine LW.callX X dL_law_525 lL_49 (c_X11_house hR (x := (xs (i + 1))) (y := (xs (i + 2)))) rfl rfl rfl rfl ⟨rfl, rfl⟩ ?_
  rintro _ μ1 ⟨r1, rfl, q1⟩
  show LW κ δ b Q 186 5241 528 [some (.ref b0), some (.ref (b + 0)), some (.ref (b + NX + 0)), some (.int (nI i))] [.int r1] μ1 ν
  refine LW.aload_n X dL_law_528 (i := 2) rfl rfl ?_
  refine LW.arg X (i := i) (j := 1) dL_law_529 dL_law_530 dL_law_531 dL_law_532 dL_law_533 (by decide) rfl rfl (by omega) hL ?_
  refine LW.arg X (i := i) (j := 2) dL_law_534 dL_law_535 dL_law_536 dL_law_537 dL_law_538 (by decide) rfl rfl (by omega) hL ?_
  refine LW.callM X dL_law_539 lL_52 (c_X12_house hM (x := (xs (i + 1))) (y := (xs (i + 2)))) rfl rfl rfl rfl ⟨rfl, rfl⟩ ?_
  rintro _ ν1 ⟨r2, rfl, q2⟩
  show LW κ δ b Q 186 5241 542 [some (.ref b0), some (.ref (b + 0)), some (.ref (b + NX + 0)), some (.int (nI i))] [.int r2, .int r1] μ1 ν1
  refine LW.eqI X (tgt := 1606) dL_law_542 (by decide) (q1.1.trans q2.1.symm) ?_
  exact k _ _ _ q1.2 q2.2
set_option maxRecDepth 100000 in
set_option maxHeartbeats 4000000 in
theorem lc_8 {κ : Kt} {δ : Dl} {b b0 L i : Nat} {xs : Nat → Int32} {Q : State → Prop} {μ ν : Mm} {S : St} (X : LXc κ δ b b0 L xs) (hL : L ≤ 3072) (hi : i + 6 ≤ L) (hR : RX μ S) (hM : RMX ν S) (k : ∀ (μ1 ν1 : Mm) (S1 : St), RX μ1 S1 → RMX ν1 S1 → LW κ δ b Q 186 5241 1606 [some (.ref b0), some (.ref (b + 0)), some (.ref (b + NX + 0)), some (.int (nI i))] [] μ1 ν1) : LW κ δ b Q 186 5241 547 [some (.ref b0), some (.ref (b + 0)), some (.ref (b + NX + 0)), some (.int (nI i))] [] μ ν := by
  refine LW.aload_n X dL_law_547 (i := 1) rfl rfl ?_
  refine LW.arg X (i := i) (j := 1) dL_law_548 dL_law_549 dL_law_550 dL_law_551 dL_law_552 (by decide) rfl rfl (by omega) hL ?_
  refine LW.arg X (i := i) (j := 2) dL_law_553 dL_law_554 dL_law_555 dL_law_556 dL_law_557 (by decide) rfl rfl (by omega) hL ?_
  refine LW.callX X dL_law_558 lL_53 (c_X11_houseOf hR (x := (xs (i + 1))) (y := (xs (i + 2)))) rfl rfl rfl rfl ⟨rfl, rfl⟩ ?_
  rintro _ μ1 ⟨r1, rfl, q1⟩
  show LW κ δ b Q 186 5241 561 [some (.ref b0), some (.ref (b + 0)), some (.ref (b + NX + 0)), some (.int (nI i))] [.int r1] μ1 ν
  refine LW.aload_n X dL_law_561 (i := 2) rfl rfl ?_
  refine LW.arg X (i := i) (j := 1) dL_law_562 dL_law_563 dL_law_564 dL_law_565 dL_law_566 (by decide) rfl rfl (by omega) hL ?_
  refine LW.arg X (i := i) (j := 2) dL_law_567 dL_law_568 dL_law_569 dL_law_570 dL_law_571 (by decide) rfl rfl (by omega) hL ?_
  refine LW.callM X dL_law_572 lL_56 (c_X12_houseOf hM (x := (xs (i + 1))) (y := (xs (i + 2)))) rfl rfl rfl rfl ⟨rfl, rfl⟩ ?_
  rintro _ ν1 ⟨r2, rfl, q2⟩
  show LW κ δ b Q 186 5241 575 [some (.ref b0), some (.ref (b + 0)), some (.ref (b + NX + 0)), some (.int (nI i))] [.int r2, .int r1] μ1 ν1
  refine LW.eqI X (tgt := 1606) dL_law_575 (by decide) (q1.1.trans q2.1.symm) ?_
  exact k _ _ _ q1.2 q2.2
set_option maxRecDepth 100000 in
set_option maxHeartbeats 4000000 in
theorem lc_9 {κ : Kt} {δ : Dl} {b b0 L i : Nat} {xs : Nat → Int32} {Q : State → Prop} {μ ν : Mm} {S : St} (X : LXc κ δ b b0 L xs) (hL : L ≤ 3072) (hi : i + 6 ≤ L) (hR : RX μ S) (hM : RMX ν S) (k : ∀ (μ1 ν1 : Mm) (S1 : St), RX μ1 S1 → RMX ν1 S1 → LW κ δ b Q 186 5241 1606 [some (.ref b0), some (.ref (b + 0)), some (.ref (b + NX + 0)), some (.int (nI i))] [] μ1 ν1) : LW κ δ b Q 186 5241 580 [some (.ref b0), some (.ref (b + 0)), some (.ref (b + NX + 0)), some (.int (nI i))] [] μ ν := by
  refine LW.aload_n X dL_law_580 (i := 1) rfl rfl ?_
  refine LW.arg X (i := i) (j := 1) dL_law_581 dL_law_582 dL_law_583 dL_law_584 dL_law_585 (by decide) rfl rfl (by omega) hL ?_
  refine LW.arg X (i := i) (j := 2) dL_law_586 dL_law_587 dL_law_588 dL_law_589 dL_law_590 (by decide) rfl rfl (by omega) hL ?_
  refine LW.arg X (i := i) (j := 3) dL_law_591 dL_law_592 dL_law_593 dL_law_594 dL_law_595 (by decide) rfl rfl (by omega) hL ?_
  refine LW.callX X dL_law_596 lL_57 (c_X11_colour hR (x := (xs (i + 1))) (y := (xs (i + 2))) (z := (xs (i + 3)))) rfl rfl rfl rfl ⟨rfl, rfl⟩ ?_
  rintro _ μ1 ⟨r1, rfl, q1⟩
  show LW κ δ b Q 186 5241 599 [some (.ref b0), some (.ref (b + 0)), some (.ref (b + NX + 0)), some (.int (nI i))] [.int r1] μ1 ν
  refine LW.aload_n X dL_law_599 (i := 2) rfl rfl ?_
  refine LW.arg X (i := i) (j := 1) dL_law_600 dL_law_601 dL_law_602 dL_law_603 dL_law_604 (by decide) rfl rfl (by omega) hL ?_
  refine LW.arg X (i := i) (j := 2) dL_law_605 dL_law_606 dL_law_607 dL_law_608 dL_law_609 (by decide) rfl rfl (by omega) hL ?_
  refine LW.arg X (i := i) (j := 3) dL_law_610 dL_law_611 dL_law_612 dL_law_613 dL_law_614 (by decide) rfl rfl (by omega) hL ?_
  refine LW.callM X dL_law_615 lL_60 (c_X12_colour hM (x := (xs (i + 1))) (y := (xs (i + 2))) (z := (xs (i + 3)))) rfl rfl rfl rfl ⟨rfl, rfl⟩ ?_
  rintro _ ν1 ⟨r2, rfl, q2⟩
  show LW κ δ b Q 186 5241 618 [some (.ref b0), some (.ref (b + 0)), some (.ref (b + NX + 0)), some (.int (nI i))] [.int r2, .int r1] μ1 ν1
  refine LW.eqI X (tgt := 1606) dL_law_618 (by decide) (q1.1.trans q2.1.symm) ?_
  exact k _ _ _ q1.2 q2.2
set_option maxRecDepth 100000 in
set_option maxHeartbeats 4000000 in
theorem lc_10 {κ : Kt} {δ : Dl} {b b0 L i : Nat} {xs : Nat → Int32} {Q : State → Prop} {μ ν : Mm} {S : St} (X : LXc κ δ b b0 L xs) (hL : L ≤ 3072) (hi : i + 6 ≤ L) (hR : RX μ S) (hM : RMX ν S) (k : ∀ (μ1 ν1 : Mm) (S1 : St), RX μ1 S1 → RMX ν1 S1 → LW κ δ b Q 186 5241 1606 [some (.ref b0), some (.ref (b + 0)), some (.ref (b + NX + 0)), some (.int (nI i))] [] μ1 ν1) : LW κ δ b Q 186 5241 623 [some (.ref b0), some (.ref (b + 0)), some (.ref (b + NX + 0)), some (.int (nI i))] [] μ ν := by
  refine LW.aload_n X dL_law_623 (i := 1) rfl rfl ?_
  refine LW.arg X (i := i) (j := 1) dL_law_624 dL_law_625 dL_law_626 dL_law_627 dL_law_628 (by decide) rfl rfl (by omega) hL ?_
  refine LW.arg X (i := i) (j := 2) dL_law_629 dL_law_630 dL_law_631 dL_law_632 dL_law_633 (by decide) rfl rfl (by omega) hL ?_
  refine LW.callX X dL_law_634 lL_61 (c_X11_ask hR (y := (xs (i + 1))) (z := (xs (i + 2)))) rfl rfl rfl rfl ⟨rfl, rfl⟩ ?_
  rintro _ μ1 ⟨r1, rfl, q1⟩
  show LW κ δ b Q 186 5241 637 [some (.ref b0), some (.ref (b + 0)), some (.ref (b + NX + 0)), some (.int (nI i))] [.int r1] μ1 ν
  refine LW.aload_n X dL_law_637 (i := 2) rfl rfl ?_
  refine LW.arg X (i := i) (j := 1) dL_law_638 dL_law_639 dL_law_640 dL_law_641 dL_law_642 (by decide) rfl rfl (by omega) hL ?_
  refine LW.arg X (i := i) (j := 2) dL_law_643 dL_law_644 dL_law_645 dL_law_646 dL_law_647 (by decide) rfl rfl (by omega) hL ?_
  refine LW.callM X dL_law_648 lL_64 (c_X12_ask hM (y := (xs (i + 1))) (z := (xs (i + 2)))) rfl rfl rfl rfl ⟨rfl, rfl⟩ ?_
  rintro _ ν1 ⟨r2, rfl, q2⟩
  show LW κ δ b Q 186 5241 651 [some (.ref b0), some (.ref (b + 0)), some (.ref (b + NX + 0)), some (.int (nI i))] [.int r2, .int r1] μ1 ν1
  refine LW.eqI X (tgt := 1606) dL_law_651 (by decide) (q1.1.trans q2.1.symm) ?_
  exact k _ _ _ q1.2 q2.2
set_option maxRecDepth 100000 in
set_option maxHeartbeats 4000000 in
theorem lc_11 {κ : Kt} {δ : Dl} {b b0 L i : Nat} {xs : Nat → Int32} {Q : State → Prop} {μ ν : Mm} {S : St} (X : LXc κ δ b b0 L xs) (hL : L ≤ 3072) (hi : i + 6 ≤ L) (hR : RX μ S) (hM : RMX ν S) (k : ∀ (μ1 ν1 : Mm) (S1 : St), RX μ1 S1 → RMX ν1 S1 → LW κ δ b Q 186 5241 1606 [some (.ref b0), some (.ref (b + 0)), some (.ref (b + NX + 0)), some (.int (nI i))] [] μ1 ν1) : LW κ δ b Q 186 5241 656 [some (.ref b0), some (.ref (b + 0)), some (.ref (b + NX + 0)), some (.int (nI i))] [] μ ν := by
  refine LW.aload_n X dL_law_656 (i := 1) rfl rfl ?_
  refine LW.arg X (i := i) (j := 1) dL_law_657 dL_law_658 dL_law_659 dL_law_660 dL_law_661 (by decide) rfl rfl (by omega) hL ?_
  refine LW.arg X (i := i) (j := 2) dL_law_662 dL_law_663 dL_law_664 dL_law_665 dL_law_666 (by decide) rfl rfl (by omega) hL ?_
  refine LW.arg X (i := i) (j := 3) dL_law_667 dL_law_668 dL_law_669 dL_law_670 dL_law_671 (by decide) rfl rfl (by omega) hL ?_
  refine LW.arg X (i := i) (j := 4) dL_law_672 dL_law_673 dL_law_674 dL_law_675 dL_law_676 (by decide) rfl rfl (by omega) hL ?_
  refine LW.arg X (i := i) (j := 5) dL_law_677 dL_law_678 dL_law_679 dL_law_680 dL_law_681 (by decide) rfl rfl (by omega) hL ?_
  refine LW.callX X dL_law_682 lL_65 (c_X11_coat hR (x := (xs (i + 1))) (y := (xs (i + 2))) (z := (xs (i + 3))) (u := (xs (i + 4))) (w := (xs (i + 5)))) rfl rfl rfl rfl ⟨rfl, rfl⟩ ?_
  rintro _ μ1 ⟨r1, rfl, q1⟩
  show LW κ δ b Q 186 5241 685 [some (.ref b0), some (.ref (b + 0)), some (.ref (b + NX + 0)), some (.int (nI i))] [.int r1] μ1 ν
  refine LW.aload_n X dL_law_685 (i := 2) rfl rfl ?_
  refine LW.arg X (i := i) (j := 1) dL_law_686 dL_law_687 dL_law_688 dL_law_689 dL_law_690 (by decide) rfl rfl (by omega) hL ?_
  refine LW.arg X (i := i) (j := 2) dL_law_691 dL_law_692 dL_law_693 dL_law_694 dL_law_695 (by decide) rfl rfl (by omega) hL ?_
  refine LW.arg X (i := i) (j := 3) dL_law_696 dL_law_697 dL_law_698 dL_law_699 dL_law_700 (by decide) rfl rfl (by omega) hL ?_
  refine LW.arg X (i := i) (j := 4) dL_law_701 dL_law_702 dL_law_703 dL_law_704 dL_law_705 (by decide) rfl rfl (by omega) hL ?_
  refine LW.arg X (i := i) (j := 5) dL_law_706 dL_law_707 dL_law_708 dL_law_709 dL_law_710 (by decide) rfl rfl (by omega) hL ?_
  refine LW.callM X dL_law_711 lL_68 (c_X12_coat hM (x := (xs (i + 1))) (y := (xs (i + 2))) (z := (xs (i + 3))) (u := (xs (i + 4))) (w := (xs (i + 5)))) rfl rfl rfl rfl ⟨rfl, rfl⟩ ?_
  rintro _ ν1 ⟨r2, rfl, q2⟩
  show LW κ δ b Q 186 5241 714 [some (.ref b0), some (.ref (b + 0)), some (.ref (b + NX + 0)), some (.int (nI i))] [.int r2, .int r1] μ1 ν1
  refine LW.eqI X (tgt := 1606) dL_law_714 (by decide) (q1.1.trans q2.1.symm) ?_
  exact k _ _ _ q1.2 q2.2
set_option maxRecDepth 100000 in
set_option maxHeartbeats 4000000 in
theorem lc_12 {κ : Kt} {δ : Dl} {b b0 L i : Nat} {xs : Nat → Int32} {Q : State → Prop} {μ ν : Mm} {S : St} (X : LXc κ δ b b0 L xs) (hL : L ≤ 3072) (hi : i + 6 ≤ L) (hR : RX μ S) (hM : RMX ν S) (k : ∀ (μ1 ν1 : Mm) (S1 : St), RX μ1 S1 → RMX ν1 S1 → LW κ δ b Q 186 5241 1606 [some (.ref b0), some (.ref (b + 0)), some (.ref (b + NX + 0)), some (.int (nI i))] [] μ1 ν1) : LW κ δ b Q 186 5241 719 [some (.ref b0), some (.ref (b + 0)), some (.ref (b + NX + 0)), some (.int (nI i))] [] μ ν := by
  refine LW.aload_n X dL_law_719 (i := 1) rfl rfl ?_
  refine LW.arg X (i := i) (j := 1) dL_law_720 dL_law_721 dL_law_722 dL_law_723 dL_law_724 (by decide) rfl rfl (by omega) hL ?_
  refine LW.arg X (i := i) (j := 2) dL_law_725 dL_law_726 dL_law_727 dL_law_728 dL_law_729 (by decide) rfl rfl (by omega) hL ?_
  refine LW.arg X (i := i) (j := 3) dL_law_730 dL_law_731 dL_law_732 dL_law_733 dL_law_734 (by decide) rfl rfl (by omega) hL ?_
  refine LW.callX X dL_law_735 lL_69 (c_X11_coatOf hR (x := (xs (i + 1))) (y := (xs (i + 2))) (z := (xs (i + 3)))) rfl rfl rfl rfl ⟨rfl, rfl⟩ ?_
  rintro _ μ1 ⟨r1, rfl, q1⟩
  show LW κ δ b Q 186 5241 738 [some (.ref b0), some (.ref (b + 0)), some (.ref (b + NX + 0)), some (.int (nI i))] [.int r1] μ1 ν
  refine LW.aload_n X dL_law_738 (i := 2) rfl rfl ?_
  refine LW.arg X (i := i) (j := 1) dL_law_739 dL_law_740 dL_law_741 dL_law_742 dL_law_743 (by decide) rfl rfl (by omega) hL ?_
  refine LW.arg X (i := i) (j := 2) dL_law_744 dL_law_745 dL_law_746 dL_law_747 dL_law_748 (by decide) rfl rfl (by omega) hL ?_
  refine LW.arg X (i := i) (j := 3) dL_law_749 dL_law_750 dL_law_751 dL_law_752 dL_law_753 (by decide) rfl rfl (by omega) hL ?_
  refine LW.callM X dL_law_754 lL_72 (c_X12_coatOf hM (x := (xs (i + 1))) (y := (xs (i + 2))) (z := (xs (i + 3)))) rfl rfl rfl rfl ⟨rfl, rfl⟩ ?_
  rintro _ ν1 ⟨r2, rfl, q2⟩
  show LW κ δ b Q 186 5241 757 [some (.ref b0), some (.ref (b + 0)), some (.ref (b + NX + 0)), some (.int (nI i))] [.int r2, .int r1] μ1 ν1
  refine LW.eqI X (tgt := 1606) dL_law_757 (by decide) (q1.1.trans q2.1.symm) ?_
  exact k _ _ _ q1.2 q2.2
set_option maxRecDepth 100000 in
set_option maxHeartbeats 4000000 in
theorem lc_13 {κ : Kt} {δ : Dl} {b b0 L i : Nat} {xs : Nat → Int32} {Q : State → Prop} {μ ν : Mm} {S : St} (X : LXc κ δ b b0 L xs) (hL : L ≤ 3072) (hi : i + 6 ≤ L) (hR : RX μ S) (hM : RMX ν S) (k : ∀ (μ1 ν1 : Mm) (S1 : St), RX μ1 S1 → RMX ν1 S1 → LW κ δ b Q 186 5241 1606 [some (.ref b0), some (.ref (b + 0)), some (.ref (b + NX + 0)), some (.int (nI i))] [] μ1 ν1) : LW κ δ b Q 186 5241 762 [some (.ref b0), some (.ref (b + 0)), some (.ref (b + NX + 0)), some (.int (nI i))] [] μ ν := by
  refine LW.aload_n X dL_law_762 (i := 1) rfl rfl ?_
  refine LW.arg X (i := i) (j := 1) dL_law_763 dL_law_764 dL_law_765 dL_law_766 dL_law_767 (by decide) rfl rfl (by omega) hL ?_
  refine LW.callX X dL_law_768 lL_73 (c_X11_street hR (xa := (xs (i + 1)))) rfl rfl rfl rfl ⟨rfl, rfl⟩ ?_
  rintro _ μ1 ⟨r1, rfl, q1⟩
  show LW κ δ b Q 186 5241 771 [some (.ref b0), some (.ref (b + 0)), some (.ref (b + NX + 0)), some (.int (nI i))] [.int r1] μ1 ν
  refine LW.aload_n X dL_law_771 (i := 2) rfl rfl ?_
  refine LW.arg X (i := i) (j := 1) dL_law_772 dL_law_773 dL_law_774 dL_law_775 dL_law_776 (by decide) rfl rfl (by omega) hL ?_
  refine LW.callM X dL_law_777 lL_76 (c_X12_street hM (xa := (xs (i + 1)))) rfl rfl rfl rfl ⟨rfl, rfl⟩ ?_
  rintro _ ν1 ⟨r2, rfl, q2⟩
  show LW κ δ b Q 186 5241 780 [some (.ref b0), some (.ref (b + 0)), some (.ref (b + NX + 0)), some (.int (nI i))] [.int r2, .int r1] μ1 ν1
  refine LW.eqI X (tgt := 1606) dL_law_780 (by decide) (q1.1.trans q2.1.symm) ?_
  exact k _ _ _ q1.2 q2.2
set_option maxRecDepth 100000 in
set_option maxHeartbeats 4000000 in
theorem lc_14 {κ : Kt} {δ : Dl} {b b0 L i : Nat} {xs : Nat → Int32} {Q : State → Prop} {μ ν : Mm} {S : St} (X : LXc κ δ b b0 L xs) (hL : L ≤ 3072) (hi : i + 6 ≤ L) (hR : RX μ S) (hM : RMX ν S) (k : ∀ (μ1 ν1 : Mm) (S1 : St), RX μ1 S1 → RMX ν1 S1 → LW κ δ b Q 186 5241 1606 [some (.ref b0), some (.ref (b + 0)), some (.ref (b + NX + 0)), some (.int (nI i))] [] μ1 ν1) : LW κ δ b Q 186 5241 785 [some (.ref b0), some (.ref (b + 0)), some (.ref (b + NX + 0)), some (.int (nI i))] [] μ ν := by
  refine LW.aload_n X dL_law_785 (i := 1) rfl rfl ?_
  refine LW.callX X dL_law_786 lL_77 (c_X11_fault hR) rfl rfl rfl rfl ⟨rfl, rfl⟩ ?_
  rintro _ μ1 ⟨r1, rfl, q1⟩
  show LW κ δ b Q 186 5241 789 [some (.ref b0), some (.ref (b + 0)), some (.ref (b + NX + 0)), some (.int (nI i))] [.int r1] μ1 ν
  refine LW.aload_n X dL_law_789 (i := 2) rfl rfl ?_
  refine LW.callM X dL_law_790 lL_81 (c_X12_fault hM) rfl rfl rfl rfl ⟨rfl, rfl⟩ ?_
  rintro _ ν1 ⟨r2, rfl, q2⟩
  show LW κ δ b Q 186 5241 793 [some (.ref b0), some (.ref (b + 0)), some (.ref (b + NX + 0)), some (.int (nI i))] [.int r2, .int r1] μ1 ν1
  refine LW.eqI X (tgt := 1606) dL_law_793 (by decide) (q1.1.trans q2.1.symm) ?_
  obtain ⟨-, rfl⟩ := q1
  obtain ⟨-, rfl⟩ := q2
  exact k _ _ _ hR hM
set_option maxRecDepth 100000 in
set_option maxHeartbeats 4000000 in
theorem lc_15 {κ : Kt} {δ : Dl} {b b0 L i : Nat} {xs : Nat → Int32} {Q : State → Prop} {μ ν : Mm} {S : St} (X : LXc κ δ b b0 L xs) (hL : L ≤ 3072) (hi : i + 6 ≤ L) (hR : RX μ S) (hM : RMX ν S) (k : ∀ (μ1 ν1 : Mm) (S1 : St), RX μ1 S1 → RMX ν1 S1 → LW κ δ b Q 186 5241 1606 [some (.ref b0), some (.ref (b + 0)), some (.ref (b + NX + 0)), some (.int (nI i))] [] μ1 ν1) : LW κ δ b Q 186 5241 798 [some (.ref b0), some (.ref (b + 0)), some (.ref (b + NX + 0)), some (.int (nI i))] [] μ ν := by
  refine LW.aload_n X dL_law_798 (i := 1) rfl rfl ?_
  refine LW.arg X (i := i) (j := 1) dL_law_799 dL_law_800 dL_law_801 dL_law_802 dL_law_803 (by decide) rfl rfl (by omega) hL ?_
  refine LW.arg X (i := i) (j := 2) dL_law_804 dL_law_805 dL_law_806 dL_law_807 dL_law_808 (by decide) rfl rfl (by omega) hL ?_
  refine LW.arg X (i := i) (j := 3) dL_law_809 dL_law_810 dL_law_811 dL_law_812 dL_law_813 (by decide) rfl rfl (by omega) hL ?_
  refine LW.callX X dL_law_814 lL_82 (c_X11_seen hR (x := (xs (i + 1))) (y := (xs (i + 2))) (z := (xs (i + 3)))) rfl rfl rfl rfl ⟨rfl, rfl⟩ ?_
  rintro _ μ1 ⟨r1, rfl, q1⟩
  show LW κ δ b Q 186 5241 817 [some (.ref b0), some (.ref (b + 0)), some (.ref (b + NX + 0)), some (.int (nI i))] [.int r1] μ1 ν
  refine LW.aload_n X dL_law_817 (i := 2) rfl rfl ?_
  refine LW.arg X (i := i) (j := 1) dL_law_818 dL_law_819 dL_law_820 dL_law_821 dL_law_822 (by decide) rfl rfl (by omega) hL ?_
  refine LW.arg X (i := i) (j := 2) dL_law_823 dL_law_824 dL_law_825 dL_law_826 dL_law_827 (by decide) rfl rfl (by omega) hL ?_
  refine LW.arg X (i := i) (j := 3) dL_law_828 dL_law_829 dL_law_830 dL_law_831 dL_law_832 (by decide) rfl rfl (by omega) hL ?_
  refine LW.callM X dL_law_833 lL_85 (c_X12_seen hM (x := (xs (i + 1))) (y := (xs (i + 2))) (z := (xs (i + 3)))) rfl rfl rfl rfl ⟨rfl, rfl⟩ ?_
  rintro _ ν1 ⟨r2, rfl, q2⟩
  show LW κ δ b Q 186 5241 836 [some (.ref b0), some (.ref (b + 0)), some (.ref (b + NX + 0)), some (.int (nI i))] [.int r2, .int r1] μ1 ν1
  refine LW.eqI X (tgt := 1606) dL_law_836 (by decide) (q1.1.trans q2.1.symm) ?_
  exact k _ _ _ q1.2 q2.2
set_option maxRecDepth 100000 in
set_option maxHeartbeats 4000000 in
theorem lc_16 {κ : Kt} {δ : Dl} {b b0 L i : Nat} {xs : Nat → Int32} {Q : State → Prop} {μ ν : Mm} {S : St} (X : LXc κ δ b b0 L xs) (hL : L ≤ 3072) (hi : i + 6 ≤ L) (hR : RX μ S) (hM : RMX ν S) (k : ∀ (μ1 ν1 : Mm) (S1 : St), RX μ1 S1 → RMX ν1 S1 → LW κ δ b Q 186 5241 1606 [some (.ref b0), some (.ref (b + 0)), some (.ref (b + NX + 0)), some (.int (nI i))] [] μ1 ν1) : LW κ δ b Q 186 5241 841 [some (.ref b0), some (.ref (b + 0)), some (.ref (b + NX + 0)), some (.int (nI i))] [] μ ν := by
  refine LW.aload_n X dL_law_841 (i := 1) rfl rfl ?_
  refine LW.arg X (i := i) (j := 1) dL_law_842 dL_law_843 dL_law_844 dL_law_845 dL_law_846 (by decide) rfl rfl (by omega) hL ?_
  refine LW.arg X (i := i) (j := 2) dL_law_847 dL_law_848 dL_law_849 dL_law_850 dL_law_851 (by decide) rfl rfl (by omega) hL ?_
  refine LW.arg X (i := i) (j := 3) dL_law_852 dL_law_853 dL_law_854 dL_law_855 dL_law_856 (by decide) rfl rfl (by omega) hL ?_
  refine LW.callX X dL_law_857 lL_86 (c_X11_wet hR (x := (xs (i + 1))) (y := (xs (i + 2))) (z := (xs (i + 3)))) rfl rfl rfl rfl ⟨rfl, rfl⟩ ?_
  rintro _ μ1 ⟨r1, rfl, q1⟩
  show LW κ δ b Q 186 5241 860 [some (.ref b0), some (.ref (b + 0)), some (.ref (b + NX + 0)), some (.int (nI i))] [.int r1] μ1 ν
  refine LW.aload_n X dL_law_860 (i := 2) rfl rfl ?_
  refine LW.arg X (i := i) (j := 1) dL_law_861 dL_law_862 dL_law_863 dL_law_864 dL_law_865 (by decide) rfl rfl (by omega) hL ?_
  refine LW.arg X (i := i) (j := 2) dL_law_866 dL_law_867 dL_law_868 dL_law_869 dL_law_870 (by decide) rfl rfl (by omega) hL ?_
  refine LW.arg X (i := i) (j := 3) dL_law_871 dL_law_872 dL_law_873 dL_law_874 dL_law_875 (by decide) rfl rfl (by omega) hL ?_
  refine LW.callM X dL_law_876 lL_89 (c_X12_wet hM (x := (xs (i + 1))) (y := (xs (i + 2))) (z := (xs (i + 3)))) rfl rfl rfl rfl ⟨rfl, rfl⟩ ?_
  rintro _ ν1 ⟨r2, rfl, q2⟩
  show LW κ δ b Q 186 5241 879 [some (.ref b0), some (.ref (b + 0)), some (.ref (b + NX + 0)), some (.int (nI i))] [.int r2, .int r1] μ1 ν1
  refine LW.eqI X (tgt := 1606) dL_law_879 (by decide) (q1.1.trans q2.1.symm) ?_
  exact k _ _ _ q1.2 q2.2
set_option maxRecDepth 100000 in
set_option maxHeartbeats 4000000 in
theorem lc_17 {κ : Kt} {δ : Dl} {b b0 L i : Nat} {xs : Nat → Int32} {Q : State → Prop} {μ ν : Mm} {S : St} (X : LXc κ δ b b0 L xs) (hL : L ≤ 3072) (hi : i + 6 ≤ L) (hR : RX μ S) (hM : RMX ν S) (k : ∀ (μ1 ν1 : Mm) (S1 : St), RX μ1 S1 → RMX ν1 S1 → LW κ δ b Q 186 5241 1606 [some (.ref b0), some (.ref (b + 0)), some (.ref (b + NX + 0)), some (.int (nI i))] [] μ1 ν1) : LW κ δ b Q 186 5241 884 [some (.ref b0), some (.ref (b + 0)), some (.ref (b + NX + 0)), some (.int (nI i))] [] μ ν := by
  refine LW.aload_n X dL_law_884 (i := 1) rfl rfl ?_
  refine LW.arg X (i := i) (j := 1) dL_law_885 dL_law_886 dL_law_887 dL_law_888 dL_law_889 (by decide) rfl rfl (by omega) hL ?_
  refine LW.arg X (i := i) (j := 2) dL_law_890 dL_law_891 dL_law_892 dL_law_893 dL_law_894 (by decide) rfl rfl (by omega) hL ?_
  refine LW.callX X dL_law_895 lL_90 (c_X11_deep hR (x := (xs (i + 1))) (y := (xs (i + 2)))) rfl rfl rfl rfl ⟨rfl, rfl⟩ ?_
  rintro _ μ1 ⟨r1, rfl, q1⟩
  show LW κ δ b Q 186 5241 898 [some (.ref b0), some (.ref (b + 0)), some (.ref (b + NX + 0)), some (.int (nI i))] [.int r1] μ1 ν
  refine LW.aload_n X dL_law_898 (i := 2) rfl rfl ?_
  refine LW.arg X (i := i) (j := 1) dL_law_899 dL_law_900 dL_law_901 dL_law_902 dL_law_903 (by decide) rfl rfl (by omega) hL ?_
  refine LW.arg X (i := i) (j := 2) dL_law_904 dL_law_905 dL_law_906 dL_law_907 dL_law_908 (by decide) rfl rfl (by omega) hL ?_
  refine LW.callM X dL_law_909 lL_93 (c_X12_deep hM (x := (xs (i + 1))) (y := (xs (i + 2)))) rfl rfl rfl rfl ⟨rfl, rfl⟩ ?_
  rintro _ ν1 ⟨r2, rfl, q2⟩
  show LW κ δ b Q 186 5241 912 [some (.ref b0), some (.ref (b + 0)), some (.ref (b + NX + 0)), some (.int (nI i))] [.int r2, .int r1] μ1 ν1
  refine LW.eqI X (tgt := 1606) dL_law_912 (by decide) (q1.1.trans q2.1.symm) ?_
  exact k _ _ _ q1.2 q2.2
set_option maxRecDepth 100000 in
set_option maxHeartbeats 4000000 in
theorem lc_18 {κ : Kt} {δ : Dl} {b b0 L i : Nat} {xs : Nat → Int32} {Q : State → Prop} {μ ν : Mm} {S : St} (X : LXc κ δ b b0 L xs) (hL : L ≤ 3072) (hi : i + 6 ≤ L) (hR : RX μ S) (hM : RMX ν S) (k : ∀ (μ1 ν1 : Mm) (S1 : St), RX μ1 S1 → RMX ν1 S1 → LW κ δ b Q 186 5241 1606 [some (.ref b0), some (.ref (b + 0)), some (.ref (b + NX + 0)), some (.int (nI i))] [] μ1 ν1) : LW κ δ b Q 186 5241 917 [some (.ref b0), some (.ref (b + 0)), some (.ref (b + NX + 0)), some (.int (nI i))] [] μ ν := by
  refine LW.aload_n X dL_law_917 (i := 1) rfl rfl ?_
  refine LW.arg X (i := i) (j := 1) dL_law_918 dL_law_919 dL_law_920 dL_law_921 dL_law_922 (by decide) rfl rfl (by omega) hL ?_
  refine LW.callX X dL_law_923 lL_94 (c_X11_skin hR (x := (xs (i + 1)))) rfl rfl rfl rfl ⟨rfl, rfl⟩ ?_
  rintro _ μ1 ⟨r1, rfl, q1⟩
  show LW κ δ b Q 186 5241 926 [some (.ref b0), some (.ref (b + 0)), some (.ref (b + NX + 0)), some (.int (nI i))] [.int r1] μ1 ν
  refine LW.aload_n X dL_law_926 (i := 2) rfl rfl ?_
  refine LW.arg X (i := i) (j := 1) dL_law_927 dL_law_928 dL_law_929 dL_law_930 dL_law_931 (by decide) rfl rfl (by omega) hL ?_
  refine LW.callM X dL_law_932 lL_97 (c_X12_skin hM (x := (xs (i + 1)))) rfl rfl rfl rfl ⟨rfl, rfl⟩ ?_
  rintro _ ν1 ⟨r2, rfl, q2⟩
  show LW κ δ b Q 186 5241 935 [some (.ref b0), some (.ref (b + 0)), some (.ref (b + NX + 0)), some (.int (nI i))] [.int r2, .int r1] μ1 ν1
  refine LW.eqI X (tgt := 1606) dL_law_935 (by decide) (q1.1.trans q2.1.symm) ?_
  exact k _ _ _ q1.2 q2.2
set_option maxRecDepth 100000 in
set_option maxHeartbeats 4000000 in
theorem lc_19 {κ : Kt} {δ : Dl} {b b0 L i : Nat} {xs : Nat → Int32} {Q : State → Prop} {μ ν : Mm} {S : St} (X : LXc κ δ b b0 L xs) (hL : L ≤ 3072) (hi : i + 6 ≤ L) (hR : RX μ S) (hM : RMX ν S) (k : ∀ (μ1 ν1 : Mm) (S1 : St), RX μ1 S1 → RMX ν1 S1 → LW κ δ b Q 186 5241 1606 [some (.ref b0), some (.ref (b + 0)), some (.ref (b + NX + 0)), some (.int (nI i))] [] μ1 ν1) : LW κ δ b Q 186 5241 940 [some (.ref b0), some (.ref (b + 0)), some (.ref (b + NX + 0)), some (.int (nI i))] [] μ ν := by
  refine LW.aload_n X dL_law_940 (i := 1) rfl rfl ?_
  refine LW.arg X (i := i) (j := 1) dL_law_941 dL_law_942 dL_law_943 dL_law_944 dL_law_945 (by decide) rfl rfl (by omega) hL ?_
  refine LW.arg X (i := i) (j := 2) dL_law_946 dL_law_947 dL_law_948 dL_law_949 dL_law_950 (by decide) rfl rfl (by omega) hL ?_
  refine LW.arg X (i := i) (j := 3) dL_law_951 dL_law_952 dL_law_953 dL_law_954 dL_law_955 (by decide) rfl rfl (by omega) hL ?_
  refine LW.callX X dL_law_956 lL_98 (c_X11_hailed hR (x := (xs (i + 1))) (y := (xs (i + 2))) (z := (xs (i + 3)))) rfl rfl rfl rfl ⟨rfl, rfl⟩ ?_
  rintro _ μ1 ⟨r1, rfl, q1⟩
  show LW κ δ b Q 186 5241 959 [some (.ref b0), some (.ref (b + 0)), some (.ref (b + NX + 0)), some (.int (nI i))] [.int r1] μ1 ν
  refine LW.aload_n X dL_law_959 (i := 2) rfl rfl ?_
  refine LW.arg X (i := i) (j := 1) dL_law_960 dL_law_961 dL_law_962 dL_law_963 dL_law_964 (by decide) rfl rfl (by omega) hL ?_
  refine LW.arg X (i := i) (j := 2) dL_law_965 dL_law_966 dL_law_967 dL_law_968 dL_law_969 (by decide) rfl rfl (by omega) hL ?_
  refine LW.arg X (i := i) (j := 3) dL_law_970 dL_law_971 dL_law_972 dL_law_973 dL_law_974 (by decide) rfl rfl (by omega) hL ?_
  refine LW.callM X dL_law_975 lL_101 (c_X12_hailed hM (x := (xs (i + 1))) (y := (xs (i + 2))) (z := (xs (i + 3)))) rfl rfl rfl rfl ⟨rfl, rfl⟩ ?_
  rintro _ ν1 ⟨r2, rfl, q2⟩
  show LW κ δ b Q 186 5241 978 [some (.ref b0), some (.ref (b + 0)), some (.ref (b + NX + 0)), some (.int (nI i))] [.int r2, .int r1] μ1 ν1
  refine LW.eqI X (tgt := 1606) dL_law_978 (by decide) (q1.1.trans q2.1.symm) ?_
  exact k _ _ _ q1.2 q2.2
set_option maxRecDepth 100000 in
set_option maxHeartbeats 4000000 in
theorem lc_20 {κ : Kt} {δ : Dl} {b b0 L i : Nat} {xs : Nat → Int32} {Q : State → Prop} {μ ν : Mm} {S : St} (X : LXc κ δ b b0 L xs) (hL : L ≤ 3072) (hi : i + 6 ≤ L) (hR : RX μ S) (hM : RMX ν S) (k : ∀ (μ1 ν1 : Mm) (S1 : St), RX μ1 S1 → RMX ν1 S1 → LW κ δ b Q 186 5241 1606 [some (.ref b0), some (.ref (b + 0)), some (.ref (b + NX + 0)), some (.int (nI i))] [] μ1 ν1) : LW κ δ b Q 186 5241 983 [some (.ref b0), some (.ref (b + 0)), some (.ref (b + NX + 0)), some (.int (nI i))] [] μ ν := by
  refine LW.aload_n X dL_law_983 (i := 1) rfl rfl ?_
  refine LW.arg X (i := i) (j := 1) dL_law_984 dL_law_985 dL_law_986 dL_law_987 dL_law_988 (by decide) rfl rfl (by omega) hL ?_
  refine LW.arg X (i := i) (j := 2) dL_law_989 dL_law_990 dL_law_991 dL_law_992 dL_law_993 (by decide) rfl rfl (by omega) hL ?_
  refine LW.arg X (i := i) (j := 3) dL_law_994 dL_law_995 dL_law_996 dL_law_997 dL_law_998 (by decide) rfl rfl (by omega) hL ?_
  refine LW.callX X dL_law_999 lL_102 (c_X11_razor hR (x := (xs (i + 1))) (y := (xs (i + 2))) (z := (xs (i + 3)))) rfl rfl rfl rfl ⟨rfl, rfl⟩ ?_
  rintro _ μ1 ⟨r1, rfl, q1⟩
  show LW κ δ b Q 186 5241 1002 [some (.ref b0), some (.ref (b + 0)), some (.ref (b + NX + 0)), some (.int (nI i))] [.int r1] μ1 ν
  refine LW.aload_n X dL_law_1002 (i := 2) rfl rfl ?_
  refine LW.arg X (i := i) (j := 1) dL_law_1003 dL_law_1004 dL_law_1005 dL_law_1006 dL_law_1007 (by decide) rfl rfl (by omega) hL ?_
  refine LW.arg X (i := i) (j := 2) dL_law_1008 dL_law_1009 dL_law_1010 dL_law_1011 dL_law_1012 (by decide) rfl rfl (by omega) hL ?_
  refine LW.arg X (i := i) (j := 3) dL_law_1013 dL_law_1014 dL_law_1015 dL_law_1016 dL_law_1017 (by decide) rfl rfl (by omega) hL ?_
  refine LW.callM X dL_law_1018 lL_105 (c_X12_razor hM (x := (xs (i + 1))) (y := (xs (i + 2))) (z := (xs (i + 3)))) rfl rfl rfl rfl ⟨rfl, rfl⟩ ?_
  rintro _ ν1 ⟨r2, rfl, q2⟩
  show LW κ δ b Q 186 5241 1021 [some (.ref b0), some (.ref (b + 0)), some (.ref (b + NX + 0)), some (.int (nI i))] [.int r2, .int r1] μ1 ν1
  refine LW.eqI X (tgt := 1606) dL_law_1021 (by decide) (q1.1.trans q2.1.symm) ?_
  exact k _ _ _ q1.2 q2.2
set_option maxRecDepth 100000 in
set_option maxHeartbeats 4000000 in
theorem lc_21 {κ : Kt} {δ : Dl} {b b0 L i : Nat} {xs : Nat → Int32} {Q : State → Prop} {μ ν : Mm} {S : St} (X : LXc κ δ b b0 L xs) (hL : L ≤ 3072) (hi : i + 6 ≤ L) (hR : RX μ S) (hM : RMX ν S) (k : ∀ (μ1 ν1 : Mm) (S1 : St), RX μ1 S1 → RMX ν1 S1 → LW κ δ b Q 186 5241 1606 [some (.ref b0), some (.ref (b + 0)), some (.ref (b + NX + 0)), some (.int (nI i))] [] μ1 ν1) : LW κ δ b Q 186 5241 1026 [some (.ref b0), some (.ref (b + 0)), some (.ref (b + NX + 0)), some (.int (nI i))] [] μ ν := by
  refine LW.aload_n X dL_law_1026 (i := 1) rfl rfl ?_
  refine LW.arg X (i := i) (j := 1) dL_law_1027 dL_law_1028 dL_law_1029 dL_law_1030 dL_law_1031 (by decide) rfl rfl (by omega) hL ?_
  refine LW.arg X (i := i) (j := 2) dL_law_1032 dL_law_1033 dL_law_1034 dL_law_1035 dL_law_1036 (by decide) rfl rfl (by omega) hL ?_
  refine LW.callX X dL_law_1037 lL_106 (c_X11_hidden hR (x := (xs (i + 1))) (y := (xs (i + 2)))) rfl rfl rfl rfl ⟨rfl, rfl⟩ ?_
  rintro _ μ1 ⟨r1, rfl, q1⟩
  show LW κ δ b Q 186 5241 1040 [some (.ref b0), some (.ref (b + 0)), some (.ref (b + NX + 0)), some (.int (nI i))] [.int r1] μ1 ν
  refine LW.aload_n X dL_law_1040 (i := 2) rfl rfl ?_
  refine LW.arg X (i := i) (j := 1) dL_law_1041 dL_law_1042 dL_law_1043 dL_law_1044 dL_law_1045 (by decide) rfl rfl (by omega) hL ?_
  refine LW.arg X (i := i) (j := 2) dL_law_1046 dL_law_1047 dL_law_1048 dL_law_1049 dL_law_1050 (by decide) rfl rfl (by omega) hL ?_
  refine LW.callM X dL_law_1051 lL_109 (c_X12_hidden hM (x := (xs (i + 1))) (y := (xs (i + 2)))) rfl rfl rfl rfl ⟨rfl, rfl⟩ ?_
  rintro _ ν1 ⟨r2, rfl, q2⟩
  show LW κ δ b Q 186 5241 1054 [some (.ref b0), some (.ref (b + 0)), some (.ref (b + NX + 0)), some (.int (nI i))] [.int r2, .int r1] μ1 ν1
  refine LW.eqI X (tgt := 1606) dL_law_1054 (by decide) (q1.1.trans q2.1.symm) ?_
  exact k _ _ _ q1.2 q2.2
set_option maxRecDepth 100000 in
set_option maxHeartbeats 4000000 in
theorem lc_22 {κ : Kt} {δ : Dl} {b b0 L i : Nat} {xs : Nat → Int32} {Q : State → Prop} {μ ν : Mm} {S : St} (X : LXc κ δ b b0 L xs) (hL : L ≤ 3072) (hi : i + 6 ≤ L) (hR : RX μ S) (hM : RMX ν S) (k : ∀ (μ1 ν1 : Mm) (S1 : St), RX μ1 S1 → RMX ν1 S1 → LW κ δ b Q 186 5241 1606 [some (.ref b0), some (.ref (b + 0)), some (.ref (b + NX + 0)), some (.int (nI i))] [] μ1 ν1) : LW κ δ b Q 186 5241 1059 [some (.ref b0), some (.ref (b + 0)), some (.ref (b + NX + 0)), some (.int (nI i))] [] μ ν := by
  refine LW.aload_n X dL_law_1059 (i := 1) rfl rfl ?_
  refine LW.arg X (i := i) (j := 1) dL_law_1060 dL_law_1061 dL_law_1062 dL_law_1063 dL_law_1064 (by decide) rfl rfl (by omega) hL ?_
  refine LW.arg X (i := i) (j := 2) dL_law_1065 dL_law_1066 dL_law_1067 dL_law_1068 dL_law_1069 (by decide) rfl rfl (by omega) hL ?_
  refine LW.callX X dL_law_1070 lL_110 (c_X11_shown hR (u := (xs (i + 1))) (v := (xs (i + 2)))) rfl rfl rfl rfl ⟨rfl, rfl⟩ ?_
  rintro _ μ1 ⟨r1, rfl, q1⟩
  show LW κ δ b Q 186 5241 1073 [some (.ref b0), some (.ref (b + 0)), some (.ref (b + NX + 0)), some (.int (nI i))] [.int r1] μ1 ν
  refine LW.aload_n X dL_law_1073 (i := 2) rfl rfl ?_
  refine LW.arg X (i := i) (j := 1) dL_law_1074 dL_law_1075 dL_law_1076 dL_law_1077 dL_law_1078 (by decide) rfl rfl (by omega) hL ?_
  refine LW.arg X (i := i) (j := 2) dL_law_1079 dL_law_1080 dL_law_1081 dL_law_1082 dL_law_1083 (by decide) rfl rfl (by omega) hL ?_
  refine LW.callM X dL_law_1084 lL_113 (c_X12_shown hM (u := (xs (i + 1))) (v := (xs (i + 2)))) rfl rfl rfl rfl ⟨rfl, rfl⟩ ?_
  rintro _ ν1 ⟨r2, rfl, q2⟩
  show LW κ δ b Q 186 5241 1087 [some (.ref b0), some (.ref (b + 0)), some (.ref (b + NX + 0)), some (.int (nI i))] [.int r2, .int r1] μ1 ν1
  refine LW.eqI X (tgt := 1606) dL_law_1087 (by decide) (q1.1.trans q2.1.symm) ?_
  exact k _ _ _ q1.2 q2.2
set_option maxRecDepth 100000 in
set_option maxHeartbeats 4000000 in
theorem lc_23 {κ : Kt} {δ : Dl} {b b0 L i : Nat} {xs : Nat → Int32} {Q : State → Prop} {μ ν : Mm} {S : St} (X : LXc κ δ b b0 L xs) (hL : L ≤ 3072) (hi : i + 6 ≤ L) (hR : RX μ S) (hM : RMX ν S) (k : ∀ (μ1 ν1 : Mm) (S1 : St), RX μ1 S1 → RMX ν1 S1 → LW κ δ b Q 186 5241 1606 [some (.ref b0), some (.ref (b + 0)), some (.ref (b + NX + 0)), some (.int (nI i))] [] μ1 ν1) : LW κ δ b Q 186 5241 1092 [some (.ref b0), some (.ref (b + 0)), some (.ref (b + NX + 0)), some (.int (nI i))] [] μ ν := by
  refine LW.aload_n X dL_law_1092 (i := 1) rfl rfl ?_
  refine LW.arg X (i := i) (j := 1) dL_law_1093 dL_law_1094 dL_law_1095 dL_law_1096 dL_law_1097 (by decide) rfl rfl (by omega) hL ?_
  refine LW.arg X (i := i) (j := 2) dL_law_1098 dL_law_1099 dL_law_1100 dL_law_1101 dL_law_1102 (by decide) rfl rfl (by omega) hL ?_
  refine LW.callX X dL_law_1103 lL_114 (c_X11_firstWet hR (x := (xs (i + 1))) (y := (xs (i + 2)))) rfl rfl rfl rfl ⟨rfl, rfl⟩ ?_
  rintro _ μ1 ⟨r1, rfl, q1⟩
  show LW κ δ b Q 186 5241 1106 [some (.ref b0), some (.ref (b + 0)), some (.ref (b + NX + 0)), some (.int (nI i))] [.int r1] μ1 ν
  refine LW.aload_n X dL_law_1106 (i := 2) rfl rfl ?_
  refine LW.arg X (i := i) (j := 1) dL_law_1107 dL_law_1108 dL_law_1109 dL_law_1110 dL_law_1111 (by decide) rfl rfl (by omega) hL ?_
  refine LW.arg X (i := i) (j := 2) dL_law_1112 dL_law_1113 dL_law_1114 dL_law_1115 dL_law_1116 (by decide) rfl rfl (by omega) hL ?_
  refine LW.callM X dL_law_1117 lL_117 (c_X12_firstWet hM (x := (xs (i + 1))) (y := (xs (i + 2)))) rfl rfl rfl rfl ⟨rfl, rfl⟩ ?_
  rintro _ ν1 ⟨r2, rfl, q2⟩
  show LW κ δ b Q 186 5241 1120 [some (.ref b0), some (.ref (b + 0)), some (.ref (b + NX + 0)), some (.int (nI i))] [.int r2, .int r1] μ1 ν1
  refine LW.eqI X (tgt := 1606) dL_law_1120 (by decide) (q1.1.trans q2.1.symm) ?_
  exact k _ _ _ q1.2 q2.2
set_option maxRecDepth 100000 in
set_option maxHeartbeats 4000000 in
theorem lc_24 {κ : Kt} {δ : Dl} {b b0 L i : Nat} {xs : Nat → Int32} {Q : State → Prop} {μ ν : Mm} {S : St} (X : LXc κ δ b b0 L xs) (hL : L ≤ 3072) (hi : i + 6 ≤ L) (hR : RX μ S) (hM : RMX ν S) (k : ∀ (μ1 ν1 : Mm) (S1 : St), RX μ1 S1 → RMX ν1 S1 → LW κ δ b Q 186 5241 1606 [some (.ref b0), some (.ref (b + 0)), some (.ref (b + NX + 0)), some (.int (nI i))] [] μ1 ν1) : LW κ δ b Q 186 5241 1125 [some (.ref b0), some (.ref (b + 0)), some (.ref (b + NX + 0)), some (.int (nI i))] [] μ ν := by
  refine LW.aload_n X dL_law_1125 (i := 1) rfl rfl ?_
  refine LW.arg X (i := i) (j := 1) dL_law_1126 dL_law_1127 dL_law_1128 dL_law_1129 dL_law_1130 (by decide) rfl rfl (by omega) hL ?_
  refine LW.arg X (i := i) (j := 2) dL_law_1131 dL_law_1132 dL_law_1133 dL_law_1134 dL_law_1135 (by decide) rfl rfl (by omega) hL ?_
  refine LW.arg X (i := i) (j := 3) dL_law_1136 dL_law_1137 dL_law_1138 dL_law_1139 dL_law_1140 (by decide) rfl rfl (by omega) hL ?_
  refine LW.callX X dL_law_1141 lL_118 (c_X11_paint hR (x := (xs (i + 1))) (y := (xs (i + 2))) (z := (xs (i + 3)))) rfl rfl rfl rfl ⟨rfl, rfl⟩ ?_
  rintro _ μ1 ⟨r1, rfl, q1⟩
  show LW κ δ b Q 186 5241 1144 [some (.ref b0), some (.ref (b + 0)), some (.ref (b + NX + 0)), some (.int (nI i))] [.int r1] μ1 ν
  refine LW.aload_n X dL_law_1144 (i := 2) rfl rfl ?_
  refine LW.arg X (i := i) (j := 1) dL_law_1145 dL_law_1146 dL_law_1147 dL_law_1148 dL_law_1149 (by decide) rfl rfl (by omega) hL ?_
  refine LW.arg X (i := i) (j := 2) dL_law_1150 dL_law_1151 dL_law_1152 dL_law_1153 dL_law_1154 (by decide) rfl rfl (by omega) hL ?_
  refine LW.arg X (i := i) (j := 3) dL_law_1155 dL_law_1156 dL_law_1157 dL_law_1158 dL_law_1159 (by decide) rfl rfl (by omega) hL ?_
  refine LW.callM X dL_law_1160 lL_121 (c_X12_paint hM (x := (xs (i + 1))) (y := (xs (i + 2))) (z := (xs (i + 3)))) rfl rfl rfl rfl ⟨rfl, rfl⟩ ?_
  rintro _ ν1 ⟨r2, rfl, q2⟩
  show LW κ δ b Q 186 5241 1163 [some (.ref b0), some (.ref (b + 0)), some (.ref (b + NX + 0)), some (.int (nI i))] [.int r2, .int r1] μ1 ν1
  refine LW.eqI X (tgt := 1606) dL_law_1163 (by decide) (q1.1.trans q2.1.symm) ?_
  exact k _ _ _ q1.2 q2.2
set_option maxRecDepth 100000 in
set_option maxHeartbeats 4000000 in
theorem lc_25 {κ : Kt} {δ : Dl} {b b0 L i : Nat} {xs : Nat → Int32} {Q : State → Prop} {μ ν : Mm} {S : St} (X : LXc κ δ b b0 L xs) (hL : L ≤ 3072) (hi : i + 6 ≤ L) (hR : RX μ S) (hM : RMX ν S) (k : ∀ (μ1 ν1 : Mm) (S1 : St), RX μ1 S1 → RMX ν1 S1 → LW κ δ b Q 186 5241 1606 [some (.ref b0), some (.ref (b + 0)), some (.ref (b + NX + 0)), some (.int (nI i))] [] μ1 ν1) : LW κ δ b Q 186 5241 1168 [some (.ref b0), some (.ref (b + 0)), some (.ref (b + NX + 0)), some (.int (nI i))] [] μ ν := by
  refine LW.aload_n X dL_law_1168 (i := 1) rfl rfl ?_
  refine LW.arg X (i := i) (j := 1) dL_law_1169 dL_law_1170 dL_law_1171 dL_law_1172 dL_law_1173 (by decide) rfl rfl (by omega) hL ?_
  refine LW.arg X (i := i) (j := 2) dL_law_1174 dL_law_1175 dL_law_1176 dL_law_1177 dL_law_1178 (by decide) rfl rfl (by omega) hL ?_
  refine LW.callX X dL_law_1179 lL_122 (c_X11_gap hR (x := (xs (i + 1))) (y := (xs (i + 2)))) rfl rfl rfl rfl ⟨rfl, rfl⟩ ?_
  rintro _ μ1 ⟨r1, rfl, q1⟩
  show LW κ δ b Q 186 5241 1182 [some (.ref b0), some (.ref (b + 0)), some (.ref (b + NX + 0)), some (.int (nI i))] [.int r1] μ1 ν
  refine LW.aload_n X dL_law_1182 (i := 2) rfl rfl ?_
  refine LW.arg X (i := i) (j := 1) dL_law_1183 dL_law_1184 dL_law_1185 dL_law_1186 dL_law_1187 (by decide) rfl rfl (by omega) hL ?_
  refine LW.arg X (i := i) (j := 2) dL_law_1188 dL_law_1189 dL_law_1190 dL_law_1191 dL_law_1192 (by decide) rfl rfl (by omega) hL ?_
  refine LW.callM X dL_law_1193 lL_125 (c_X12_gap hM (x := (xs (i + 1))) (y := (xs (i + 2)))) rfl rfl rfl rfl ⟨rfl, rfl⟩ ?_
  rintro _ ν1 ⟨r2, rfl, q2⟩
  show LW κ δ b Q 186 5241 1196 [some (.ref b0), some (.ref (b + 0)), some (.ref (b + NX + 0)), some (.int (nI i))] [.int r2, .int r1] μ1 ν1
  refine LW.eqI X (tgt := 1606) dL_law_1196 (by decide) (q1.1.trans q2.1.symm) ?_
  exact k _ _ _ q1.2 q2.2
set_option maxRecDepth 100000 in
set_option maxHeartbeats 4000000 in
theorem lc_26 {κ : Kt} {δ : Dl} {b b0 L i : Nat} {xs : Nat → Int32} {Q : State → Prop} {μ ν : Mm} {S : St} (X : LXc κ δ b b0 L xs) (hL : L ≤ 3072) (hi : i + 6 ≤ L) (hR : RX μ S) (hM : RMX ν S) (k : ∀ (μ1 ν1 : Mm) (S1 : St), RX μ1 S1 → RMX ν1 S1 → LW κ δ b Q 186 5241 1606 [some (.ref b0), some (.ref (b + 0)), some (.ref (b + NX + 0)), some (.int (nI i))] [] μ1 ν1) : LW κ δ b Q 186 5241 1201 [some (.ref b0), some (.ref (b + 0)), some (.ref (b + NX + 0)), some (.int (nI i))] [] μ ν := by
  refine LW.aload_n X dL_law_1201 (i := 1) rfl rfl ?_
  refine LW.arg X (i := i) (j := 1) dL_law_1202 dL_law_1203 dL_law_1204 dL_law_1205 dL_law_1206 (by decide) rfl rfl (by omega) hL ?_
  refine LW.arg X (i := i) (j := 2) dL_law_1207 dL_law_1208 dL_law_1209 dL_law_1210 dL_law_1211 (by decide) rfl rfl (by omega) hL ?_
  refine LW.callX X dL_law_1212 lL_126 (c_X11_moves hR (x := (xs (i + 1))) (z := (xs (i + 2)))) rfl rfl rfl rfl ⟨rfl, rfl⟩ ?_
  rintro _ μ1 ⟨r1, rfl, q1⟩
  show LW κ δ b Q 186 5241 1215 [some (.ref b0), some (.ref (b + 0)), some (.ref (b + NX + 0)), some (.int (nI i))] [.int r1] μ1 ν
  refine LW.aload_n X dL_law_1215 (i := 2) rfl rfl ?_
  refine LW.arg X (i := i) (j := 1) dL_law_1216 dL_law_1217 dL_law_1218 dL_law_1219 dL_law_1220 (by decide) rfl rfl (by omega) hL ?_
  refine LW.arg X (i := i) (j := 2) dL_law_1221 dL_law_1222 dL_law_1223 dL_law_1224 dL_law_1225 (by decide) rfl rfl (by omega) hL ?_
  refine LW.callM X dL_law_1226 lL_129 (c_X12_moves hM (x := (xs (i + 1))) (z := (xs (i + 2)))) rfl rfl rfl rfl ⟨rfl, rfl⟩ ?_
  rintro _ ν1 ⟨r2, rfl, q2⟩
  show LW κ δ b Q 186 5241 1229 [some (.ref b0), some (.ref (b + 0)), some (.ref (b + NX + 0)), some (.int (nI i))] [.int r2, .int r1] μ1 ν1
  refine LW.eqI X (tgt := 1606) dL_law_1229 (by decide) (q1.1.trans q2.1.symm) ?_
  exact k _ _ _ q1.2 q2.2
set_option maxRecDepth 100000 in
set_option maxHeartbeats 4000000 in
theorem lc_27 {κ : Kt} {δ : Dl} {b b0 L i : Nat} {xs : Nat → Int32} {Q : State → Prop} {μ ν : Mm} {S : St} (X : LXc κ δ b b0 L xs) (hL : L ≤ 3072) (hi : i + 6 ≤ L) (hR : RX μ S) (hM : RMX ν S) (k : ∀ (μ1 ν1 : Mm) (S1 : St), RX μ1 S1 → RMX ν1 S1 → LW κ δ b Q 186 5241 1606 [some (.ref b0), some (.ref (b + 0)), some (.ref (b + NX + 0)), some (.int (nI i))] [] μ1 ν1) : LW κ δ b Q 186 5241 1234 [some (.ref b0), some (.ref (b + 0)), some (.ref (b + NX + 0)), some (.int (nI i))] [] μ ν := by
  refine LW.aload_n X dL_law_1234 (i := 1) rfl rfl ?_
  refine LW.arg X (i := i) (j := 1) dL_law_1235 dL_law_1236 dL_law_1237 dL_law_1238 dL_law_1239 (by decide) rfl rfl (by omega) hL ?_
  refine LW.arg X (i := i) (j := 2) dL_law_1240 dL_law_1241 dL_law_1242 dL_law_1243 dL_law_1244 (by decide) rfl rfl (by omega) hL ?_
  refine LW.arg X (i := i) (j := 3) dL_law_1245 dL_law_1246 dL_law_1247 dL_law_1248 dL_law_1249 (by decide) rfl rfl (by omega) hL ?_
  refine LW.callX X dL_law_1250 lL_130 (c_X11_orders hR (xa := (xs (i + 1))) (ya := (xs (i + 2))) (za := (xs (i + 3)))) rfl rfl rfl rfl ⟨rfl, rfl⟩ ?_
  rintro _ μ1 ⟨r1, rfl, q1⟩
  show LW κ δ b Q 186 5241 1253 [some (.ref b0), some (.ref (b + 0)), some (.ref (b + NX + 0)), some (.int (nI i))] [.int r1] μ1 ν
  refine LW.aload_n X dL_law_1253 (i := 2) rfl rfl ?_
  refine LW.arg X (i := i) (j := 1) dL_law_1254 dL_law_1255 dL_law_1256 dL_law_1257 dL_law_1258 (by decide) rfl rfl (by omega) hL ?_
  refine LW.arg X (i := i) (j := 2) dL_law_1259 dL_law_1260 dL_law_1261 dL_law_1262 dL_law_1263 (by decide) rfl rfl (by omega) hL ?_
  refine LW.arg X (i := i) (j := 3) dL_law_1264 dL_law_1265 dL_law_1266 dL_law_1267 dL_law_1268 (by decide) rfl rfl (by omega) hL ?_
  refine LW.callM X dL_law_1269 lL_133 (c_X12_orders hM (xa := (xs (i + 1))) (ya := (xs (i + 2))) (za := (xs (i + 3)))) rfl rfl rfl rfl ⟨rfl, rfl⟩ ?_
  rintro _ ν1 ⟨r2, rfl, q2⟩
  show LW κ δ b Q 186 5241 1272 [some (.ref b0), some (.ref (b + 0)), some (.ref (b + NX + 0)), some (.int (nI i))] [.int r2, .int r1] μ1 ν1
  refine LW.eqI X (tgt := 1606) dL_law_1272 (by decide) (q1.1.trans q2.1.symm) ?_
  exact k _ _ _ q1.2 q2.2
set_option maxRecDepth 100000 in
set_option maxHeartbeats 4000000 in
theorem lc_28 {κ : Kt} {δ : Dl} {b b0 L i : Nat} {xs : Nat → Int32} {Q : State → Prop} {μ ν : Mm} {S : St} (X : LXc κ δ b b0 L xs) (hL : L ≤ 3072) (hi : i + 6 ≤ L) (hR : RX μ S) (hM : RMX ν S) (k : ∀ (μ1 ν1 : Mm) (S1 : St), RX μ1 S1 → RMX ν1 S1 → LW κ δ b Q 186 5241 1606 [some (.ref b0), some (.ref (b + 0)), some (.ref (b + NX + 0)), some (.int (nI i))] [] μ1 ν1) : LW κ δ b Q 186 5241 1277 [some (.ref b0), some (.ref (b + 0)), some (.ref (b + NX + 0)), some (.int (nI i))] [] μ ν := by
  refine LW.aload_n X dL_law_1277 (i := 1) rfl rfl ?_
  refine LW.arg X (i := i) (j := 1) dL_law_1278 dL_law_1279 dL_law_1280 dL_law_1281 dL_law_1282 (by decide) rfl rfl (by omega) hL ?_
  refine LW.arg X (i := i) (j := 2) dL_law_1283 dL_law_1284 dL_law_1285 dL_law_1286 dL_law_1287 (by decide) rfl rfl (by omega) hL ?_
  refine LW.callX X dL_law_1288 lL_134 (c_X11_forged hR (xa := (xs (i + 1))) (ya := (xs (i + 2)))) rfl rfl rfl rfl ⟨rfl, rfl⟩ ?_
  rintro _ μ1 ⟨r1, rfl, q1⟩
  show LW κ δ b Q 186 5241 1291 [some (.ref b0), some (.ref (b + 0)), some (.ref (b + NX + 0)), some (.int (nI i))] [.int r1] μ1 ν
  refine LW.aload_n X dL_law_1291 (i := 2) rfl rfl ?_
  refine LW.arg X (i := i) (j := 1) dL_law_1292 dL_law_1293 dL_law_1294 dL_law_1295 dL_law_1296 (by decide) rfl rfl (by omega) hL ?_
  refine LW.arg X (i := i) (j := 2) dL_law_1297 dL_law_1298 dL_law_1299 dL_law_1300 dL_law_1301 (by decide) rfl rfl (by omega) hL ?_
  refine LW.callM X dL_law_1302 lL_137 (c_X12_forged hM (xa := (xs (i + 1))) (ya := (xs (i + 2)))) rfl rfl rfl rfl ⟨rfl, rfl⟩ ?_
  rintro _ ν1 ⟨r2, rfl, q2⟩
  show LW κ δ b Q 186 5241 1305 [some (.ref b0), some (.ref (b + 0)), some (.ref (b + NX + 0)), some (.int (nI i))] [.int r2, .int r1] μ1 ν1
  refine LW.eqI X (tgt := 1606) dL_law_1305 (by decide) (q1.1.trans q2.1.symm) ?_
  exact k _ _ _ q1.2 q2.2
set_option maxRecDepth 100000 in
set_option maxHeartbeats 4000000 in
theorem lc_29 {κ : Kt} {δ : Dl} {b b0 L i : Nat} {xs : Nat → Int32} {Q : State → Prop} {μ ν : Mm} {S : St} (X : LXc κ δ b b0 L xs) (hL : L ≤ 3072) (hi : i + 6 ≤ L) (hR : RX μ S) (hM : RMX ν S) (k : ∀ (μ1 ν1 : Mm) (S1 : St), RX μ1 S1 → RMX ν1 S1 → LW κ δ b Q 186 5241 1606 [some (.ref b0), some (.ref (b + 0)), some (.ref (b + NX + 0)), some (.int (nI i))] [] μ1 ν1) : LW κ δ b Q 186 5241 1310 [some (.ref b0), some (.ref (b + 0)), some (.ref (b + NX + 0)), some (.int (nI i))] [] μ ν := by
  refine LW.aload_n X dL_law_1310 (i := 1) rfl rfl ?_
  refine LW.arg X (i := i) (j := 1) dL_law_1311 dL_law_1312 dL_law_1313 dL_law_1314 dL_law_1315 (by decide) rfl rfl (by omega) hL ?_
  refine LW.arg X (i := i) (j := 2) dL_law_1316 dL_law_1317 dL_law_1318 dL_law_1319 dL_law_1320 (by decide) rfl rfl (by omega) hL ?_
  refine LW.callX X dL_law_1321 lL_138 (c_X11_lane hR (x := (xs (i + 1))) (y := (xs (i + 2)))) rfl rfl rfl rfl ⟨rfl, rfl⟩ ?_
  rintro _ μ1 ⟨r1, rfl, q1⟩
  show LW κ δ b Q 186 5241 1324 [some (.ref b0), some (.ref (b + 0)), some (.ref (b + NX + 0)), some (.int (nI i))] [.int r1] μ1 ν
  refine LW.aload_n X dL_law_1324 (i := 2) rfl rfl ?_
  refine LW.arg X (i := i) (j := 1) dL_law_1325 dL_law_1326 dL_law_1327 dL_law_1328 dL_law_1329 (by decide) rfl rfl (by omega) hL ?_
  refine LW.arg X (i := i) (j := 2) dL_law_1330 dL_law_1331 dL_law_1332 dL_law_1333 dL_law_1334 (by decide) rfl rfl (by omega) hL ?_
  refine LW.callM X dL_law_1335 lL_141 (c_X12_lane hM (x := (xs (i + 1))) (y := (xs (i + 2)))) rfl rfl rfl rfl ⟨rfl, rfl⟩ ?_
  rintro _ ν1 ⟨r2, rfl, q2⟩
  show LW κ δ b Q 186 5241 1338 [some (.ref b0), some (.ref (b + 0)), some (.ref (b + NX + 0)), some (.int (nI i))] [.int r2, .int r1] μ1 ν1
  refine LW.eqI X (tgt := 1606) dL_law_1338 (by decide) (q1.1.trans q2.1.symm) ?_
  exact k _ _ _ q1.2 q2.2
set_option maxRecDepth 100000 in
set_option maxHeartbeats 4000000 in
theorem lc_30 {κ : Kt} {δ : Dl} {b b0 L i : Nat} {xs : Nat → Int32} {Q : State → Prop} {μ ν : Mm} {S : St} (X : LXc κ δ b b0 L xs) (hL : L ≤ 3072) (hi : i + 6 ≤ L) (hR : RX μ S) (hM : RMX ν S) (k : ∀ (μ1 ν1 : Mm) (S1 : St), RX μ1 S1 → RMX ν1 S1 → LW κ δ b Q 186 5241 1606 [some (.ref b0), some (.ref (b + 0)), some (.ref (b + NX + 0)), some (.int (nI i))] [] μ1 ν1) : LW κ δ b Q 186 5241 1343 [some (.ref b0), some (.ref (b + 0)), some (.ref (b + NX + 0)), some (.int (nI i))] [] μ ν := by
  refine LW.aload_n X dL_law_1343 (i := 1) rfl rfl ?_
  refine LW.arg X (i := i) (j := 1) dL_law_1344 dL_law_1345 dL_law_1346 dL_law_1347 dL_law_1348 (by decide) rfl rfl (by omega) hL ?_
  refine LW.arg X (i := i) (j := 2) dL_law_1349 dL_law_1350 dL_law_1351 dL_law_1352 dL_law_1353 (by decide) rfl rfl (by omega) hL ?_
  refine LW.callX X dL_law_1354 lL_142 (c_X11_price hR (x := (xs (i + 1))) (y := (xs (i + 2)))) rfl rfl rfl rfl ⟨rfl, rfl⟩ ?_
  rintro _ μ1 ⟨r1, rfl, q1⟩
  show LW κ δ b Q 186 5241 1357 [some (.ref b0), some (.ref (b + 0)), some (.ref (b + NX + 0)), some (.int (nI i))] [.int r1] μ1 ν
  refine LW.aload_n X dL_law_1357 (i := 2) rfl rfl ?_
  refine LW.arg X (i := i) (j := 1) dL_law_1358 dL_law_1359 dL_law_1360 dL_law_1361 dL_law_1362 (by decide) rfl rfl (by omega) hL ?_
  refine LW.arg X (i := i) (j := 2) dL_law_1363 dL_law_1364 dL_law_1365 dL_law_1366 dL_law_1367 (by decide) rfl rfl (by omega) hL ?_
  refine LW.callM X dL_law_1368 lL_145 (c_X12_price hM (x := (xs (i + 1))) (y := (xs (i + 2)))) rfl rfl rfl rfl ⟨rfl, rfl⟩ ?_
  rintro _ ν1 ⟨r2, rfl, q2⟩
  show LW κ δ b Q 186 5241 1371 [some (.ref b0), some (.ref (b + 0)), some (.ref (b + NX + 0)), some (.int (nI i))] [.int r2, .int r1] μ1 ν1
  refine LW.eqI X (tgt := 1606) dL_law_1371 (by decide) (q1.1.trans q2.1.symm) ?_
  exact k _ _ _ q1.2 q2.2
set_option maxRecDepth 100000 in
set_option maxHeartbeats 4000000 in
theorem lc_31 {κ : Kt} {δ : Dl} {b b0 L i : Nat} {xs : Nat → Int32} {Q : State → Prop} {μ ν : Mm} {S : St} (X : LXc κ δ b b0 L xs) (hL : L ≤ 3072) (hi : i + 6 ≤ L) (hR : RX μ S) (hM : RMX ν S) (k : ∀ (μ1 ν1 : Mm) (S1 : St), RX μ1 S1 → RMX ν1 S1 → LW κ δ b Q 186 5241 1606 [some (.ref b0), some (.ref (b + 0)), some (.ref (b + NX + 0)), some (.int (nI i))] [] μ1 ν1) : LW κ δ b Q 186 5241 1376 [some (.ref b0), some (.ref (b + 0)), some (.ref (b + NX + 0)), some (.int (nI i))] [] μ ν := by
  refine LW.aload_n X dL_law_1376 (i := 1) rfl rfl ?_
  refine LW.arg X (i := i) (j := 1) dL_law_1377 dL_law_1378 dL_law_1379 dL_law_1380 dL_law_1381 (by decide) rfl rfl (by omega) hL ?_
  refine LW.callX X dL_law_1382 lL_146 (c_X11_hail hR (x := (xs (i + 1)))) rfl rfl rfl rfl ⟨rfl, rfl⟩ ?_
  rintro _ μ1 ⟨r1, rfl, q1⟩
  show LW κ δ b Q 186 5241 1385 [some (.ref b0), some (.ref (b + 0)), some (.ref (b + NX + 0)), some (.int (nI i))] [.int r1] μ1 ν
  refine LW.aload_n X dL_law_1385 (i := 2) rfl rfl ?_
  refine LW.arg X (i := i) (j := 1) dL_law_1386 dL_law_1387 dL_law_1388 dL_law_1389 dL_law_1390 (by decide) rfl rfl (by omega) hL ?_
  refine LW.callM X dL_law_1391 lL_149 (c_X12_hail hM (x := (xs (i + 1)))) rfl rfl rfl rfl ⟨rfl, rfl⟩ ?_
  rintro _ ν1 ⟨r2, rfl, q2⟩
  show LW κ δ b Q 186 5241 1394 [some (.ref b0), some (.ref (b + 0)), some (.ref (b + NX + 0)), some (.int (nI i))] [.int r2, .int r1] μ1 ν1
  refine LW.eqI X (tgt := 1606) dL_law_1394 (by decide) (q1.1.trans q2.1.symm) ?_
  exact k _ _ _ q1.2 q2.2
set_option maxRecDepth 100000 in
set_option maxHeartbeats 4000000 in
theorem lc_32 {κ : Kt} {δ : Dl} {b b0 L i : Nat} {xs : Nat → Int32} {Q : State → Prop} {μ ν : Mm} {S : St} (X : LXc κ δ b b0 L xs) (hL : L ≤ 3072) (hi : i + 6 ≤ L) (hR : RX μ S) (hM : RMX ν S) (k : ∀ (μ1 ν1 : Mm) (S1 : St), RX μ1 S1 → RMX ν1 S1 → LW κ δ b Q 186 5241 1606 [some (.ref b0), some (.ref (b + 0)), some (.ref (b + NX + 0)), some (.int (nI i))] [] μ1 ν1) : LW κ δ b Q 186 5241 1399 [some (.ref b0), some (.ref (b + 0)), some (.ref (b + NX + 0)), some (.int (nI i))] [] μ ν := by
  refine LW.aload_n X dL_law_1399 (i := 1) rfl rfl ?_
  refine LW.arg X (i := i) (j := 1) dL_law_1400 dL_law_1401 dL_law_1402 dL_law_1403 dL_law_1404 (by decide) rfl rfl (by omega) hL ?_
  refine LW.arg X (i := i) (j := 2) dL_law_1405 dL_law_1406 dL_law_1407 dL_law_1408 dL_law_1409 (by decide) rfl rfl (by omega) hL ?_
  refine LW.callX X dL_law_1410 lL_150 (c_X11_scratch hR (x := (xs (i + 1))) (y := (xs (i + 2)))) rfl rfl rfl rfl ⟨rfl, rfl⟩ ?_
  rintro _ μ1 ⟨r1, rfl, q1⟩
  show LW κ δ b Q 186 5241 1413 [some (.ref b0), some (.ref (b + 0)), some (.ref (b + NX + 0)), some (.int (nI i))] [.int r1] μ1 ν
  refine LW.aload_n X dL_law_1413 (i := 2) rfl rfl ?_
  refine LW.arg X (i := i) (j := 1) dL_law_1414 dL_law_1415 dL_law_1416 dL_law_1417 dL_law_1418 (by decide) rfl rfl (by omega) hL ?_
  refine LW.arg X (i := i) (j := 2) dL_law_1419 dL_law_1420 dL_law_1421 dL_law_1422 dL_law_1423 (by decide) rfl rfl (by omega) hL ?_
  refine LW.callM X dL_law_1424 lL_153 (c_X12_scratch hM (x := (xs (i + 1))) (y := (xs (i + 2)))) rfl rfl rfl rfl ⟨rfl, rfl⟩ ?_
  rintro _ ν1 ⟨r2, rfl, q2⟩
  show LW κ δ b Q 186 5241 1427 [some (.ref b0), some (.ref (b + 0)), some (.ref (b + NX + 0)), some (.int (nI i))] [.int r2, .int r1] μ1 ν1
  refine LW.eqI X (tgt := 1606) dL_law_1427 (by decide) (q1.1.trans q2.1.symm) ?_
  exact k _ _ _ q1.2 q2.2
set_option maxRecDepth 100000 in
set_option maxHeartbeats 4000000 in
theorem lc_33 {κ : Kt} {δ : Dl} {b b0 L i : Nat} {xs : Nat → Int32} {Q : State → Prop} {μ ν : Mm} {S : St} (X : LXc κ δ b b0 L xs) (hL : L ≤ 3072) (hi : i + 6 ≤ L) (hR : RX μ S) (hM : RMX ν S) (k : ∀ (μ1 ν1 : Mm) (S1 : St), RX μ1 S1 → RMX ν1 S1 → LW κ δ b Q 186 5241 1606 [some (.ref b0), some (.ref (b + 0)), some (.ref (b + NX + 0)), some (.int (nI i))] [] μ1 ν1) : LW κ δ b Q 186 5241 1432 [some (.ref b0), some (.ref (b + 0)), some (.ref (b + NX + 0)), some (.int (nI i))] [] μ ν := by
  refine LW.aload_n X dL_law_1432 (i := 1) rfl rfl ?_
  refine LW.callX X dL_law_1433 lL_154 (c_X11_falls hR) rfl rfl rfl rfl ⟨rfl, rfl⟩ ?_
  rintro _ μ1 ⟨r1, rfl, q1⟩
  show LW κ δ b Q 186 5241 1436 [some (.ref b0), some (.ref (b + 0)), some (.ref (b + NX + 0)), some (.int (nI i))] [.int r1] μ1 ν
  refine LW.aload_n X dL_law_1436 (i := 2) rfl rfl ?_
  refine LW.callM X dL_law_1437 lL_157 (c_X12_falls hM) rfl rfl rfl rfl ⟨rfl, rfl⟩ ?_
  rintro _ ν1 ⟨r2, rfl, q2⟩
  show LW κ δ b Q 186 5241 1440 [some (.ref b0), some (.ref (b + 0)), some (.ref (b + NX + 0)), some (.int (nI i))] [.int r2, .int r1] μ1 ν1
  refine LW.eqI X (tgt := 1606) dL_law_1440 (by decide) (q1.1.trans q2.1.symm) ?_
  exact k _ _ _ q1.2 q2.2
set_option maxRecDepth 100000 in
set_option maxHeartbeats 4000000 in
theorem lc_34 {κ : Kt} {δ : Dl} {b b0 L i : Nat} {xs : Nat → Int32} {Q : State → Prop} {μ ν : Mm} {S : St} (X : LXc κ δ b b0 L xs) (hL : L ≤ 3072) (hi : i + 6 ≤ L) (hR : RX μ S) (hM : RMX ν S) (k : ∀ (μ1 ν1 : Mm) (S1 : St), RX μ1 S1 → RMX ν1 S1 → LW κ δ b Q 186 5241 1606 [some (.ref b0), some (.ref (b + 0)), some (.ref (b + NX + 0)), some (.int (nI i))] [] μ1 ν1) : LW κ δ b Q 186 5241 1445 [some (.ref b0), some (.ref (b + 0)), some (.ref (b + NX + 0)), some (.int (nI i))] [] μ ν := by
  refine LW.aload_n X dL_law_1445 (i := 1) rfl rfl ?_
  refine LW.arg X (i := i) (j := 1) dL_law_1446 dL_law_1447 dL_law_1448 dL_law_1449 dL_law_1450 (by decide) rfl rfl (by omega) hL ?_
  refine LW.callX X dL_law_1451 lL_158 (c_X11_years hR (x := (xs (i + 1)))) rfl rfl rfl rfl ⟨rfl, rfl⟩ ?_
  rintro _ μ1 ⟨r1, rfl, q1⟩
  show LW κ δ b Q 186 5241 1454 [some (.ref b0), some (.ref (b + 0)), some (.ref (b + NX + 0)), some (.int (nI i))] [.int r1] μ1 ν
  refine LW.aload_n X dL_law_1454 (i := 2) rfl rfl ?_
  refine LW.arg X (i := i) (j := 1) dL_law_1455 dL_law_1456 dL_law_1457 dL_law_1458 dL_law_1459 (by decide) rfl rfl (by omega) hL ?_
  refine LW.callM X dL_law_1460 lL_161 (c_X12_years hM (x := (xs (i + 1)))) rfl rfl rfl rfl ⟨rfl, rfl⟩ ?_
  rintro _ ν1 ⟨r2, rfl, q2⟩
  show LW κ δ b Q 186 5241 1463 [some (.ref b0), some (.ref (b + 0)), some (.ref (b + NX + 0)), some (.int (nI i))] [.int r2, .int r1] μ1 ν1
  refine LW.eqI X (tgt := 1606) dL_law_1463 (by decide) (q1.1.trans q2.1.symm) ?_
  exact k _ _ _ q1.2 q2.2
set_option maxRecDepth 100000 in
set_option maxHeartbeats 4000000 in
theorem lc_35 {κ : Kt} {δ : Dl} {b b0 L i : Nat} {xs : Nat → Int32} {Q : State → Prop} {μ ν : Mm} {S : St} (X : LXc κ δ b b0 L xs) (hL : L ≤ 3072) (hi : i + 6 ≤ L) (hR : RX μ S) (hM : RMX ν S) (k : ∀ (μ1 ν1 : Mm) (S1 : St), RX μ1 S1 → RMX ν1 S1 → LW κ δ b Q 186 5241 1606 [some (.ref b0), some (.ref (b + 0)), some (.ref (b + NX + 0)), some (.int (nI i))] [] μ1 ν1) : LW κ δ b Q 186 5241 1468 [some (.ref b0), some (.ref (b + 0)), some (.ref (b + NX + 0)), some (.int (nI i))] [] μ ν := by
  refine LW.aload_n X dL_law_1468 (i := 1) rfl rfl ?_
  refine LW.arg X (i := i) (j := 1) dL_law_1469 dL_law_1470 dL_law_1471 dL_law_1472 dL_law_1473 (by decide) rfl rfl (by omega) hL ?_
  refine LW.callX X dL_law_1474 lL_162 (c_X11_seed hR (x := (xs (i + 1)))) rfl rfl rfl rfl ⟨rfl, rfl⟩ ?_
  rintro _ μ1 ⟨r1, rfl, q1⟩
  show LW κ δ b Q 186 5241 1477 [some (.ref b0), some (.ref (b + 0)), some (.ref (b + NX + 0)), some (.int (nI i))] [.int r1] μ1 ν
  refine LW.aload_n X dL_law_1477 (i := 2) rfl rfl ?_
  refine LW.arg X (i := i) (j := 1) dL_law_1478 dL_law_1479 dL_law_1480 dL_law_1481 dL_law_1482 (by decide) rfl rfl (by omega) hL ?_
  refine LW.callM X dL_law_1483 lL_165 (c_X12_seed hM (x := (xs (i + 1)))) rfl rfl rfl rfl ⟨rfl, rfl⟩ ?_
  rintro _ ν1 ⟨r2, rfl, q2⟩
  show LW κ δ b Q 186 5241 1486 [some (.ref b0), some (.ref (b + 0)), some (.ref (b + NX + 0)), some (.int (nI i))] [.int r2, .int r1] μ1 ν1
  refine LW.eqI X (tgt := 1606) dL_law_1486 (by decide) (q1.1.trans q2.1.symm) ?_
  exact k _ _ _ q1.2 q2.2
set_option maxRecDepth 100000 in
set_option maxHeartbeats 4000000 in
theorem lc_36 {κ : Kt} {δ : Dl} {b b0 L i : Nat} {xs : Nat → Int32} {Q : State → Prop} {μ ν : Mm} {S : St} (X : LXc κ δ b b0 L xs) (hL : L ≤ 3072) (hi : i + 6 ≤ L) (hR : RX μ S) (hM : RMX ν S) (k : ∀ (μ1 ν1 : Mm) (S1 : St), RX μ1 S1 → RMX ν1 S1 → LW κ δ b Q 186 5241 1606 [some (.ref b0), some (.ref (b + 0)), some (.ref (b + NX + 0)), some (.int (nI i))] [] μ1 ν1) : LW κ δ b Q 186 5241 1491 [some (.ref b0), some (.ref (b + 0)), some (.ref (b + NX + 0)), some (.int (nI i))] [] μ ν := by
  refine LW.aload_n X dL_law_1491 (i := 1) rfl rfl ?_
  refine LW.arg X (i := i) (j := 1) dL_law_1492 dL_law_1493 dL_law_1494 dL_law_1495 dL_law_1496 (by decide) rfl rfl (by omega) hL ?_
  refine LW.arg X (i := i) (j := 2) dL_law_1497 dL_law_1498 dL_law_1499 dL_law_1500 dL_law_1501 (by decide) rfl rfl (by omega) hL ?_
  refine LW.arg X (i := i) (j := 3) dL_law_1502 dL_law_1503 dL_law_1504 dL_law_1505 dL_law_1506 (by decide) rfl rfl (by omega) hL ?_
  refine LW.callX X dL_law_1507 lL_166 (c_X11_act hR (x := (xs (i + 1))) (w := (xs (i + 2))) (z := (xs (i + 3)))) rfl rfl rfl rfl ⟨rfl, rfl⟩ ?_
  rintro _ μ1 ⟨r1, rfl, q1⟩
  show LW κ δ b Q 186 5241 1510 [some (.ref b0), some (.ref (b + 0)), some (.ref (b + NX + 0)), some (.int (nI i))] [.int r1] μ1 ν
  refine LW.aload_n X dL_law_1510 (i := 2) rfl rfl ?_
  refine LW.arg X (i := i) (j := 1) dL_law_1511 dL_law_1512 dL_law_1513 dL_law_1514 dL_law_1515 (by decide) rfl rfl (by omega) hL ?_
  refine LW.arg X (i := i) (j := 2) dL_law_1516 dL_law_1517 dL_law_1518 dL_law_1519 dL_law_1520 (by decide) rfl rfl (by omega) hL ?_
  refine LW.arg X (i := i) (j := 3) dL_law_1521 dL_law_1522 dL_law_1523 dL_law_1524 dL_law_1525 (by decide) rfl rfl (by omega) hL ?_
  refine LW.callM X dL_law_1526 lL_169 (c_X12_act hM (x := (xs (i + 1))) (w := (xs (i + 2))) (z := (xs (i + 3)))) rfl rfl rfl rfl ⟨rfl, rfl⟩ ?_
  rintro _ ν1 ⟨r2, rfl, q2⟩
  show LW κ δ b Q 186 5241 1529 [some (.ref b0), some (.ref (b + 0)), some (.ref (b + NX + 0)), some (.int (nI i))] [.int r2, .int r1] μ1 ν1
  refine LW.eqI X (tgt := 1606) dL_law_1529 (by decide) (q1.1.trans q2.1.symm) ?_
  exact k _ _ _ q1.2 q2.2
set_option maxRecDepth 100000 in
set_option maxHeartbeats 4000000 in
theorem lc_37 {κ : Kt} {δ : Dl} {b b0 L i : Nat} {xs : Nat → Int32} {Q : State → Prop} {μ ν : Mm} {S : St} (X : LXc κ δ b b0 L xs) (hL : L ≤ 3072) (hi : i + 6 ≤ L) (hR : RX μ S) (hM : RMX ν S) (k : ∀ (μ1 ν1 : Mm) (S1 : St), RX μ1 S1 → RMX ν1 S1 → LW κ δ b Q 186 5241 1606 [some (.ref b0), some (.ref (b + 0)), some (.ref (b + NX + 0)), some (.int (nI i))] [] μ1 ν1) : LW κ δ b Q 186 5241 1534 [some (.ref b0), some (.ref (b + 0)), some (.ref (b + NX + 0)), some (.int (nI i))] [] μ ν := by
  refine LW.aload_n X dL_law_1534 (i := 1) rfl rfl ?_
  refine LW.arg X (i := i) (j := 1) dL_law_1535 dL_law_1536 dL_law_1537 dL_law_1538 dL_law_1539 (by decide) rfl rfl (by omega) hL ?_
  refine LW.callX X dL_law_1540 lL_170 (c_X11_trace hR (xa := (xs (i + 1)))) rfl rfl rfl rfl ⟨rfl, rfl⟩ ?_
  rintro _ μ1 ⟨r1, rfl, q1⟩
  show LW κ δ b Q 186 5241 1543 [some (.ref b0), some (.ref (b + 0)), some (.ref (b + NX + 0)), some (.int (nI i))] [.int r1] μ1 ν
  refine LW.aload_n X dL_law_1543 (i := 2) rfl rfl ?_
  refine LW.arg X (i := i) (j := 1) dL_law_1544 dL_law_1545 dL_law_1546 dL_law_1547 dL_law_1548 (by decide) rfl rfl (by omega) hL ?_
  refine LW.callM X dL_law_1549 lL_173 (c_X12_trace hM (xa := (xs (i + 1)))) rfl rfl rfl rfl ⟨rfl, rfl⟩ ?_
  rintro _ ν1 ⟨r2, rfl, q2⟩
  show LW κ δ b Q 186 5241 1552 [some (.ref b0), some (.ref (b + 0)), some (.ref (b + NX + 0)), some (.int (nI i))] [.int r2, .int r1] μ1 ν1
  refine LW.eqI X (tgt := 1606) dL_law_1552 (by decide) (q1.1.trans q2.1.symm) ?_
  obtain ⟨-, rfl⟩ := q1
  obtain ⟨-, rfl⟩ := q2
  exact k _ _ _ hR hM
set_option maxRecDepth 100000 in
set_option maxHeartbeats 4000000 in
theorem lc_38 {κ : Kt} {δ : Dl} {b b0 L i : Nat} {xs : Nat → Int32} {Q : State → Prop} {μ ν : Mm} {S : St} (X : LXc κ δ b b0 L xs) (hL : L ≤ 3072) (hi : i + 6 ≤ L) (hR : RX μ S) (hM : RMX ν S) (k : ∀ (μ1 ν1 : Mm) (S1 : St), RX μ1 S1 → RMX ν1 S1 → LW κ δ b Q 186 5241 1606 [some (.ref b0), some (.ref (b + 0)), some (.ref (b + NX + 0)), some (.int (nI i))] [] μ1 ν1) : LW κ δ b Q 186 5241 1557 [some (.ref b0), some (.ref (b + 0)), some (.ref (b + NX + 0)), some (.int (nI i))] [] μ ν := by
  refine LW.aload_n X dL_law_1557 (i := 1) rfl rfl ?_
  refine LW.callX X dL_law_1558 lL_174 (c_X11_image hR) rfl rfl rfl rfl ⟨rfl, rfl⟩ ?_
  rintro _ μ1 ⟨r1, rfl, q1⟩
  show LW κ δ b Q 186 5241 1561 [some (.ref b0), some (.ref (b + 0)), some (.ref (b + NX + 0)), some (.int (nI i))] [.int r1] μ1 ν
  refine LW.aload_n X dL_law_1561 (i := 2) rfl rfl ?_
  refine LW.callM X dL_law_1562 lL_177 (c_X12_image hM) rfl rfl rfl rfl ⟨rfl, rfl⟩ ?_
  rintro _ ν1 ⟨r2, rfl, q2⟩
  show LW κ δ b Q 186 5241 1565 [some (.ref b0), some (.ref (b + 0)), some (.ref (b + NX + 0)), some (.int (nI i))] [.int r2, .int r1] μ1 ν1
  refine LW.eqI X (tgt := 1606) dL_law_1565 (by decide) (q1.1.trans q2.1.symm) ?_
  exact k _ _ _ q1.2 q2.2
set_option maxRecDepth 100000 in
set_option maxHeartbeats 4000000 in
theorem lc_39 {κ : Kt} {δ : Dl} {b b0 L i : Nat} {xs : Nat → Int32} {Q : State → Prop} {μ ν : Mm} {S : St} (X : LXc κ δ b b0 L xs) (hL : L ≤ 3072) (hi : i + 6 ≤ L) (hR : RX μ S) (hM : RMX ν S) (k : ∀ (μ1 ν1 : Mm) (S1 : St), RX μ1 S1 → RMX ν1 S1 → LW κ δ b Q 186 5241 1606 [some (.ref b0), some (.ref (b + 0)), some (.ref (b + NX + 0)), some (.int (nI i))] [] μ1 ν1) : LW κ δ b Q 186 5241 1570 [some (.ref b0), some (.ref (b + 0)), some (.ref (b + NX + 0)), some (.int (nI i))] [] μ ν := by
  refine LW.aload_n X dL_law_1570 (i := 1) rfl rfl ?_
  refine LW.callX X dL_law_1571 lL_178 (c_X11_restore hR) rfl rfl rfl rfl ⟨rfl, rfl⟩ ?_
  rintro _ μ1 ⟨r1, rfl, q1⟩
  show LW κ δ b Q 186 5241 1574 [some (.ref b0), some (.ref (b + 0)), some (.ref (b + NX + 0)), some (.int (nI i))] [.int r1] μ1 ν
  refine LW.aload_n X dL_law_1574 (i := 2) rfl rfl ?_
  refine LW.callM X dL_law_1575 lL_181 (c_X12_restore hM) rfl rfl rfl rfl ⟨rfl, rfl⟩ ?_
  rintro _ ν1 ⟨r2, rfl, q2⟩
  show LW κ δ b Q 186 5241 1578 [some (.ref b0), some (.ref (b + 0)), some (.ref (b + NX + 0)), some (.int (nI i))] [.int r2, .int r1] μ1 ν1
  refine LW.eqI X (tgt := 1606) dL_law_1578 (by decide) (q1.1.trans q2.1.symm) ?_
  exact k _ _ _ q1.2 q2.2
set_option maxRecDepth 100000 in
set_option maxHeartbeats 4000000 in
theorem lc_40 {κ : Kt} {δ : Dl} {b b0 L i : Nat} {xs : Nat → Int32} {Q : State → Prop} {μ ν : Mm} {S : St} (X : LXc κ δ b b0 L xs) (hL : L ≤ 3072) (hi : i + 6 ≤ L) (hR : RX μ S) (hM : RMX ν S) (k : ∀ (μ1 ν1 : Mm) (S1 : St), RX μ1 S1 → RMX ν1 S1 → LW κ δ b Q 186 5241 1606 [some (.ref b0), some (.ref (b + 0)), some (.ref (b + NX + 0)), some (.int (nI i))] [] μ1 ν1) : LW κ δ b Q 186 5241 1583 [some (.ref b0), some (.ref (b + 0)), some (.ref (b + NX + 0)), some (.int (nI i))] [] μ ν := by
  refine LW.aload_n X dL_law_1583 (i := 1) rfl rfl ?_
  refine LW.arg X (i := i) (j := 1) dL_law_1584 dL_law_1585 dL_law_1586 dL_law_1587 dL_law_1588 (by decide) rfl rfl (by omega) hL ?_
  refine LW.callX X dL_law_1589 lL_182 (c_X11_status hR (xa := (xs (i + 1)))) rfl rfl rfl rfl ⟨rfl, rfl⟩ ?_
  rintro _ μ1 ⟨r1, rfl, q1⟩
  show LW κ δ b Q 186 5241 1592 [some (.ref b0), some (.ref (b + 0)), some (.ref (b + NX + 0)), some (.int (nI i))] [.int r1] μ1 ν
  refine LW.aload_n X dL_law_1592 (i := 2) rfl rfl ?_
  refine LW.arg X (i := i) (j := 1) dL_law_1593 dL_law_1594 dL_law_1595 dL_law_1596 dL_law_1597 (by decide) rfl rfl (by omega) hL ?_
  refine LW.callM X dL_law_1598 lL_185 (c_X12_status hM (xa := (xs (i + 1)))) rfl rfl rfl rfl ⟨rfl, rfl⟩ ?_
  rintro _ ν1 ⟨r2, rfl, q2⟩
  show LW κ δ b Q 186 5241 1601 [some (.ref b0), some (.ref (b + 0)), some (.ref (b + NX + 0)), some (.int (nI i))] [.int r2, .int r1] μ1 ν1
  refine LW.eqI X (tgt := 1606) dL_law_1601 (by decide) (q1.1.trans q2.1.symm) ?_
  obtain ⟨-, rfl⟩ := q1
  obtain ⟨-, rfl⟩ := q2
  exact k _ _ _ hR hM
theorem and63 (x : Int32) : ∃ k, k < 64 ∧ x &&& 63 = nI k := by
  refine ⟨(x &&& 63).toBitVec.toNat, ?_, ?_⟩
  · have h : (x &&& 63).toBitVec = x.toBitVec &&& 63#32 := rfl
    rw [h, BitVec.toNat_and]
    exact Nat.lt_of_le_of_lt Nat.and_le_right (by decide)
  · apply Int32.toBitVec_inj.mp
    show _ = BitVec.ofNat 32 _
    rw [BitVec.ofNat_toNat, BitVec.setWidth_eq]
set_option maxRecDepth 100000 in
set_option maxHeartbeats 4000000 in
theorem lc_sw {κ : Kt} {δ : Dl} {b b0 L i : Nat} {xs : Nat → Int32} {Q : State → Prop} {μ ν : Mm} {S : St} {k9 : Nat} (h9 : k9 < 64) (X : LXc κ δ b b0 L xs) (hL : L ≤ 3072) (hi : i + 6 ≤ L) (hR : RX μ S) (hM : RMX ν S) (k : ∀ (μ1 ν1 : Mm) (S1 : St), RX μ1 S1 → RMX ν1 S1 → LW κ δ b Q 186 5241 1606 [some (.ref b0), some (.ref (b + 0)), some (.ref (b + NX + 0)), some (.int (nI i))] [] μ1 ν1) : LW κ δ b Q 186 5241 33 [some (.ref b0), some (.ref (b + 0)), some (.ref (b + NX + 0)), some (.int (nI i))] [.int (nI k9)] μ ν := by
  match k9, h9 with
  | 0, _ => exact LW.tableIn X (tgt := 212) dL_law_33 (by decide) (by decide) rfl (by decide) (lc_0 X hL hi hR hM k)
  | 1, _ => exact LW.tableIn X (tgt := 255) dL_law_33 (by decide) (by decide) rfl (by decide) (lc_1 X hL hi hR hM k)
  | 2, _ => exact LW.tableIn X (tgt := 328) dL_law_33 (by decide) (by decide) rfl (by decide) (lc_2 X hL hi hR hM k)
  | 3, _ => exact LW.tableIn X (tgt := 391) dL_law_33 (by decide) (by decide) rfl (by decide) (lc_3 X hL hi hR hM k)
  | 4, _ => exact LW.tableIn X (tgt := 425) dL_law_33 (by decide) (by decide) rfl (by decide) (lc_4 X hL hi hR hM k)
  | 5, _ => exact LW.tableIn X (tgt := 458) dL_law_33 (by decide) (by decide) rfl (by decide) (lc_5 X hL hi hR hM k)
  | 6, _ => exact LW.tableIn X (tgt := 481) dL_law_33 (by decide) (by decide) rfl (by decide) (lc_6 X hL hi hR hM k)
  | 7, _ => exact LW.tableIn X (tgt := 514) dL_law_33 (by decide) (by decide) rfl (by decide) (lc_7 X hL hi hR hM k)
  | 8, _ => exact LW.tableIn X (tgt := 547) dL_law_33 (by decide) (by decide) rfl (by decide) (lc_8 X hL hi hR hM k)
  | 9, _ => exact LW.tableIn X (tgt := 580) dL_law_33 (by decide) (by decide) rfl (by decide) (lc_9 X hL hi hR hM k)
  | 10, _ => exact LW.tableIn X (tgt := 623) dL_law_33 (by decide) (by decide) rfl (by decide) (lc_10 X hL hi hR hM k)
  | 11, _ => exact LW.tableIn X (tgt := 656) dL_law_33 (by decide) (by decide) rfl (by decide) (lc_11 X hL hi hR hM k)
  | 12, _ => exact LW.tableIn X (tgt := 719) dL_law_33 (by decide) (by decide) rfl (by decide) (lc_12 X hL hi hR hM k)
  | 13, _ => exact LW.tableIn X (tgt := 762) dL_law_33 (by decide) (by decide) rfl (by decide) (lc_13 X hL hi hR hM k)
  | 14, _ => exact LW.tableIn X (tgt := 785) dL_law_33 (by decide) (by decide) rfl (by decide) (lc_14 X hL hi hR hM k)
  | 15, _ => exact LW.tableIn X (tgt := 798) dL_law_33 (by decide) (by decide) rfl (by decide) (lc_15 X hL hi hR hM k)
  | 16, _ => exact LW.tableIn X (tgt := 841) dL_law_33 (by decide) (by decide) rfl (by decide) (lc_16 X hL hi hR hM k)
  | 17, _ => exact LW.tableIn X (tgt := 884) dL_law_33 (by decide) (by decide) rfl (by decide) (lc_17 X hL hi hR hM k)
  | 18, _ => exact LW.tableIn X (tgt := 917) dL_law_33 (by decide) (by decide) rfl (by decide) (lc_18 X hL hi hR hM k)
  | 19, _ => exact LW.tableIn X (tgt := 940) dL_law_33 (by decide) (by decide) rfl (by decide) (lc_19 X hL hi hR hM k)
  | 20, _ => exact LW.tableIn X (tgt := 983) dL_law_33 (by decide) (by decide) rfl (by decide) (lc_20 X hL hi hR hM k)
  | 21, _ => exact LW.tableIn X (tgt := 1026) dL_law_33 (by decide) (by decide) rfl (by decide) (lc_21 X hL hi hR hM k)
  | 22, _ => exact LW.tableIn X (tgt := 1059) dL_law_33 (by decide) (by decide) rfl (by decide) (lc_22 X hL hi hR hM k)
  | 23, _ => exact LW.tableIn X (tgt := 1092) dL_law_33 (by decide) (by decide) rfl (by decide) (lc_23 X hL hi hR hM k)
  | 24, _ => exact LW.tableIn X (tgt := 1125) dL_law_33 (by decide) (by decide) rfl (by decide) (lc_24 X hL hi hR hM k)
  | 25, _ => exact LW.tableIn X (tgt := 1168) dL_law_33 (by decide) (by decide) rfl (by decide) (lc_25 X hL hi hR hM k)
  | 26, _ => exact LW.tableIn X (tgt := 1201) dL_law_33 (by decide) (by decide) rfl (by decide) (lc_26 X hL hi hR hM k)
  | 27, _ => exact LW.tableIn X (tgt := 1234) dL_law_33 (by decide) (by decide) rfl (by decide) (lc_27 X hL hi hR hM k)
  | 28, _ => exact LW.tableIn X (tgt := 1277) dL_law_33 (by decide) (by decide) rfl (by decide) (lc_28 X hL hi hR hM k)
  | 29, _ => exact LW.tableIn X (tgt := 1310) dL_law_33 (by decide) (by decide) rfl (by decide) (lc_29 X hL hi hR hM k)
  | 30, _ => exact LW.tableIn X (tgt := 1343) dL_law_33 (by decide) (by decide) rfl (by decide) (lc_30 X hL hi hR hM k)
  | 31, _ => exact LW.tableIn X (tgt := 1376) dL_law_33 (by decide) (by decide) rfl (by decide) (lc_31 X hL hi hR hM k)
  | 32, _ => exact LW.tableIn X (tgt := 1399) dL_law_33 (by decide) (by decide) rfl (by decide) (lc_32 X hL hi hR hM k)
  | 33, _ => exact LW.tableIn X (tgt := 1432) dL_law_33 (by decide) (by decide) rfl (by decide) (lc_33 X hL hi hR hM k)
  | 34, _ => exact LW.tableIn X (tgt := 1445) dL_law_33 (by decide) (by decide) rfl (by decide) (lc_34 X hL hi hR hM k)
  | 35, _ => exact LW.tableIn X (tgt := 1468) dL_law_33 (by decide) (by decide) rfl (by decide) (lc_35 X hL hi hR hM k)
  | 36, _ => exact LW.tableIn X (tgt := 1491) dL_law_33 (by decide) (by decide) rfl (by decide) (lc_36 X hL hi hR hM k)
  | 37, _ => exact LW.tableIn X (tgt := 1534) dL_law_33 (by decide) (by decide) rfl (by decide) (lc_37 X hL hi hR hM k)
  | 38, _ => exact LW.tableIn X (tgt := 1557) dL_law_33 (by decide) (by decide) rfl (by decide) (lc_38 X hL hi hR hM k)
  | 39, _ => exact LW.tableIn X (tgt := 1570) dL_law_33 (by decide) (by decide) rfl (by decide) (lc_39 X hL hi hR hM k)
  | 40, _ => exact LW.tableIn X (tgt := 1583) dL_law_33 (by decide) (by decide) rfl (by decide) (lc_40 X hL hi hR hM k)
  | k9 + 41, h9 =>
    refine LW.tableOut X (tgt := 1606) dL_law_33 (Or.inr ?_) (by decide) (k _ _ _ hR hM)
    have e9 : (nI (k9 + 41)).toInt = ((k9 + 41 : Nat) : Int) := Int32.toInt_ofNat_of_lt (by omega)
    rw [e9]
    omega

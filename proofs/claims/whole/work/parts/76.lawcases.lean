/-! ===== the law, case by case (printed by gen/p75.py) ===== -/
theorem zk_i {a : zV} (h : zkind (some .int) a = true) : ∃ x, a = zi x := by
  rcases a with v | w
  · cases v with
    | int x => exact ⟨x, rfl⟩
    | _ => exact absurd (show false = true from h) (by decide)
  · exact absurd (show false = true from h) (by decide)
theorem zk_l {a : zV} (h : zkind (some .long) a = true) : ∃ x, a = zl x := by
  rcases a with v | w
  · cases v with
    | long x => exact ⟨x, rfl⟩
    | _ => exact absurd (show false = true from h) (by decide)
  · exact absurd (show false = true from h) (by decide)
theorem zkI {a : zV} (h : zkind (some .int) a = true) : Nat.ble ([a].map zcat).sum 8 = true := by
  obtain ⟨x, rfl⟩ := zk_i h
  rfl
theorem zkL {a : zV} (h : zkind (some .long) a = true) : Nat.ble ([a].map zcat).sum 8 = true := by
  obtain ⟨x, rfl⟩ := zk_l h
  rfl
section
variable {Q : zQ} {G : zG} {ad : Nat → Nat → Nat} {A : Nat → Prop} {p : Program} {l : Launch} {e : Env} {R : Room} {s : State} {m : MethodId} {args : Array Value} {below : List Frame} {meth : Method} {c : Code} {cells slots : Nat} {Z : State → Prop}
variable {L : Nat} {xs : Nat → Int32}
theorem law_0 (C : zC mi_L 9 Q G ad A p l e R s m args below meth c cells slots Z) (X : zSc ad A s L xs) {i : Nat} (hi : i + 6 ≤ L) (E : ∀ τ, RR τ → zX G ad A p l e R s m args below meth c cells slots Z 1294 (lsF i) [] τ) (σ : zSt) (h : RR σ) : zX G ad A p l e R s m args below meth c cells slots Z 204 (lsF i) [] σ := by
  obtain ⟨dx, Qx, hdx, hx, hq⟩ := s_row σ h (xs (i + 1)) (xs (i + 2))
  refine x_aload C (q := 205) dL_law_204 rfl rfl rfl ?_
  refine x_arg C X (q := 210) (j := 1) (by omega) (by decide) dL_law_205 dL_law_206 dL_law_207 dL_law_208 dL_law_209 rfl ?_
  refine x_arg C X (q := 215) (j := 2) (by omega) (by decide) dL_law_210 dL_law_211 dL_law_212 dL_law_213 dL_law_214 rfl ?_
  refine x_call C (q := 218) (as := [zi (xs (i + 1)), zi (xs (i + 2))]) (rest := []) hx lk_L_13 (by decide) (by decide) rfl hdx rfl rfl rfl dL_law_215 rfl (fun r σ1 hr => ?_)
  obtain ⟨a, rfl, hkd, dm, Qm, hdm, hm, hq2⟩ := hq r σ1 hr
  refine x_aload C (q := 219) dL_law_218 rfl rfl rfl ?_
  refine x_arg C X (q := 224) (j := 1) (by omega) (by decide) dL_law_219 dL_law_220 dL_law_221 dL_law_222 dL_law_223 rfl ?_
  refine x_arg C X (q := 229) (j := 2) (by omega) (by decide) dL_law_224 dL_law_225 dL_law_226 dL_law_227 dL_law_228 rfl ?_
  refine x_call C (q := 232) (as := [zi (xs (i + 1)), zi (xs (i + 2))]) (rest := [a]) hm lk_L_17 (by decide) (by decide) rfl hdm rfl rfl (zkI hkd) dL_law_229 rfl (fun r2 σ2 hr2 => ?_)
  obtain ⟨rfl, hR⟩ := hq2 r2 σ2 hr2
  obtain ⟨y, rfl⟩ := zk_i hkd
  exact x_icmp_eq C 1294 dL_law_232 rfl rfl (E σ2 hR)
theorem law_1 (C : zC mi_L 9 Q G ad A p l e R s m args below meth c cells slots Z) (X : zSc ad A s L xs) {i : Nat} (hi : i + 6 ≤ L) (E : ∀ τ, RR τ → zX G ad A p l e R s m args below meth c cells slots Z 1294 (lsF i) [] τ) (σ : zSt) (h : RR σ) : zX G ad A p l e R s m args below meth c cells slots Z 237 (lsF i) [] σ := by
  obtain ⟨dx, Qx, hdx, hx, hq⟩ := s_lay σ h (xs (i + 1)) (xs (i + 2)) (xs (i + 3))
  refine x_aload C (q := 238) dL_law_237 rfl rfl rfl ?_
  refine x_arg C X (q := 243) (j := 1) (by omega) (by decide) dL_law_238 dL_law_239 dL_law_240 dL_law_241 dL_law_242 rfl ?_
  refine x_arg C X (q := 248) (j := 2) (by omega) (by decide) dL_law_243 dL_law_244 dL_law_245 dL_law_246 dL_law_247 rfl ?_
  refine x_arg C X (q := 253) (j := 3) (by omega) (by decide) dL_law_248 dL_law_249 dL_law_250 dL_law_251 dL_law_252 rfl ?_
  refine x_call C (q := 256) (as := [zi (xs (i + 1)), zi (xs (i + 2)), zi (xs (i + 3))]) (rest := []) hx lk_L_18 (by decide) (by decide) rfl hdx rfl rfl rfl dL_law_253 rfl (fun r σ1 hr => ?_)
  obtain ⟨a, rfl, hkd, dm, Qm, hdm, hm, hq2⟩ := hq r σ1 hr
  refine x_aload C (q := 257) dL_law_256 rfl rfl rfl ?_
  refine x_arg C X (q := 262) (j := 1) (by omega) (by decide) dL_law_257 dL_law_258 dL_law_259 dL_law_260 dL_law_261 rfl ?_
  refine x_arg C X (q := 267) (j := 2) (by omega) (by decide) dL_law_262 dL_law_263 dL_law_264 dL_law_265 dL_law_266 rfl ?_
  refine x_arg C X (q := 272) (j := 3) (by omega) (by decide) dL_law_267 dL_law_268 dL_law_269 dL_law_270 dL_law_271 rfl ?_
  refine x_call C (q := 275) (as := [zi (xs (i + 1)), zi (xs (i + 2)), zi (xs (i + 3))]) (rest := [a]) hm lk_L_22 (by decide) (by decide) rfl hdm rfl rfl (zkI hkd) dL_law_272 rfl (fun r2 σ2 hr2 => ?_)
  obtain ⟨rfl, hR⟩ := hq2 r2 σ2 hr2
  obtain ⟨y, rfl⟩ := zk_i hkd
  exact x_icmp_eq C 1294 dL_law_275 rfl rfl (E σ2 hR)
theorem law_2 (C : zC mi_L 9 Q G ad A p l e R s m args below meth c cells slots Z) (X : zSc ad A s L xs) {i : Nat} (hi : i + 6 ≤ L) (E : ∀ τ, RR τ → zX G ad A p l e R s m args below meth c cells slots Z 1294 (lsF i) [] τ) (σ : zSt) (h : RR σ) : zX G ad A p l e R s m args below meth c cells slots Z 280 (lsF i) [] σ := by
  obtain ⟨dx, Qx, hdx, hx, hq⟩ := s_at σ h (xs (i + 1)) (xs (i + 2))
  refine x_aload C (q := 281) dL_law_280 rfl rfl rfl ?_
  refine x_arg C X (q := 286) (j := 1) (by omega) (by decide) dL_law_281 dL_law_282 dL_law_283 dL_law_284 dL_law_285 rfl ?_
  refine x_arg C X (q := 291) (j := 2) (by omega) (by decide) dL_law_286 dL_law_287 dL_law_288 dL_law_289 dL_law_290 rfl ?_
  refine x_call C (q := 294) (as := [zi (xs (i + 1)), zi (xs (i + 2))]) (rest := []) hx lk_L_23 (by decide) (by decide) rfl hdx rfl rfl rfl dL_law_291 rfl (fun r σ1 hr => ?_)
  obtain ⟨a, rfl, hkd, dm, Qm, hdm, hm, hq2⟩ := hq r σ1 hr
  refine x_aload C (q := 295) dL_law_294 rfl rfl rfl ?_
  refine x_arg C X (q := 300) (j := 1) (by omega) (by decide) dL_law_295 dL_law_296 dL_law_297 dL_law_298 dL_law_299 rfl ?_
  refine x_arg C X (q := 305) (j := 2) (by omega) (by decide) dL_law_300 dL_law_301 dL_law_302 dL_law_303 dL_law_304 rfl ?_
  refine x_call C (q := 308) (as := [zi (xs (i + 1)), zi (xs (i + 2))]) (rest := [a]) hm lk_L_26 (by decide) (by decide) rfl hdm rfl rfl (zkI hkd) dL_law_305 rfl (fun r2 σ2 hr2 => ?_)
  obtain ⟨rfl, hR⟩ := hq2 r2 σ2 hr2
  obtain ⟨y, rfl⟩ := zk_i hkd
  exact x_icmp_eq C 1294 dL_law_308 rfl rfl (E σ2 hR)
theorem law_3 (C : zC mi_L 9 Q G ad A p l e R s m args below meth c cells slots Z) (X : zSc ad A s L xs) {i : Nat} (hi : i + 6 ≤ L) (E : ∀ τ, RR τ → zX G ad A p l e R s m args below meth c cells slots Z 1294 (lsF i) [] τ) (σ : zSt) (h : RR σ) : zX G ad A p l e R s m args below meth c cells slots Z 313 (lsF i) [] σ := by
  obtain ⟨dx, Qx, hdx, hx, hq⟩ := s_tear σ h (xs (i + 1))
  refine x_aload C (q := 314) dL_law_313 rfl rfl rfl ?_
  refine x_arg C X (q := 319) (j := 1) (by omega) (by decide) dL_law_314 dL_law_315 dL_law_316 dL_law_317 dL_law_318 rfl ?_
  refine x_call C (q := 322) (as := [zi (xs (i + 1))]) (rest := []) hx lk_L_27 (by decide) (by decide) rfl hdx rfl rfl rfl dL_law_319 rfl (fun r σ1 hr => ?_)
  obtain ⟨a, rfl, hkd, dm, Qm, hdm, hm, hq2⟩ := hq r σ1 hr
  refine x_aload C (q := 323) dL_law_322 rfl rfl rfl ?_
  refine x_arg C X (q := 328) (j := 1) (by omega) (by decide) dL_law_323 dL_law_324 dL_law_325 dL_law_326 dL_law_327 rfl ?_
  refine x_call C (q := 331) (as := [zi (xs (i + 1))]) (rest := [a]) hm lk_L_31 (by decide) (by decide) rfl hdm rfl rfl (zkI hkd) dL_law_328 rfl (fun r2 σ2 hr2 => ?_)
  obtain ⟨rfl, hR⟩ := hq2 r2 σ2 hr2
  obtain ⟨y, rfl⟩ := zk_i hkd
  exact x_icmp_eq C 1294 dL_law_331 rfl rfl (E σ2 hR)
theorem law_4 (C : zC mi_L 9 Q G ad A p l e R s m args below meth c cells slots Z) (X : zSc ad A s L xs) {i : Nat} (hi : i + 6 ≤ L) (E : ∀ τ, RR τ → zX G ad A p l e R s m args below meth c cells slots Z 1294 (lsF i) [] τ) (σ : zSt) (h : RR σ) : zX G ad A p l e R s m args below meth c cells slots Z 336 (lsF i) [] σ := by
  obtain ⟨dx, Qx, hdx, hx, hq⟩ := s_copy σ h (xs (i + 1)) (xs (i + 2)) (xs (i + 3)) (xs (i + 4)) (xs (i + 5))
  refine x_aload C (q := 337) dL_law_336 rfl rfl rfl ?_
  refine x_arg C X (q := 342) (j := 1) (by omega) (by decide) dL_law_337 dL_law_338 dL_law_339 dL_law_340 dL_law_341 rfl ?_
  refine x_arg C X (q := 347) (j := 2) (by omega) (by decide) dL_law_342 dL_law_343 dL_law_344 dL_law_345 dL_law_346 rfl ?_
  refine x_arg C X (q := 352) (j := 3) (by omega) (by decide) dL_law_347 dL_law_348 dL_law_349 dL_law_350 dL_law_351 rfl ?_
  refine x_arg C X (q := 357) (j := 4) (by omega) (by decide) dL_law_352 dL_law_353 dL_law_354 dL_law_355 dL_law_356 rfl ?_
  refine x_arg C X (q := 362) (j := 5) (by omega) (by decide) dL_law_357 dL_law_358 dL_law_359 dL_law_360 dL_law_361 rfl ?_
  refine x_call C (q := 365) (as := [zi (xs (i + 1)), zi (xs (i + 2)), zi (xs (i + 3)), zi (xs (i + 4)), zi (xs (i + 5))]) (rest := []) hx lk_L_32 (by decide) (by decide) rfl hdx rfl rfl rfl dL_law_362 rfl (fun r σ1 hr => ?_)
  obtain ⟨a, rfl, hkd, dm, Qm, hdm, hm, hq2⟩ := hq r σ1 hr
  refine x_aload C (q := 366) dL_law_365 rfl rfl rfl ?_
  refine x_arg C X (q := 371) (j := 1) (by omega) (by decide) dL_law_366 dL_law_367 dL_law_368 dL_law_369 dL_law_370 rfl ?_
  refine x_arg C X (q := 376) (j := 2) (by omega) (by decide) dL_law_371 dL_law_372 dL_law_373 dL_law_374 dL_law_375 rfl ?_
  refine x_arg C X (q := 381) (j := 3) (by omega) (by decide) dL_law_376 dL_law_377 dL_law_378 dL_law_379 dL_law_380 rfl ?_
  refine x_arg C X (q := 386) (j := 4) (by omega) (by decide) dL_law_381 dL_law_382 dL_law_383 dL_law_384 dL_law_385 rfl ?_
  refine x_arg C X (q := 391) (j := 5) (by omega) (by decide) dL_law_386 dL_law_387 dL_law_388 dL_law_389 dL_law_390 rfl ?_
  refine x_call C (q := 394) (as := [zi (xs (i + 1)), zi (xs (i + 2)), zi (xs (i + 3)), zi (xs (i + 4)), zi (xs (i + 5))]) (rest := [a]) hm lk_L_36 (by decide) (by decide) rfl hdm rfl rfl (zkI hkd) dL_law_391 rfl (fun r2 σ2 hr2 => ?_)
  obtain ⟨rfl, hR⟩ := hq2 r2 σ2 hr2
  obtain ⟨y, rfl⟩ := zk_i hkd
  exact x_icmp_eq C 1294 dL_law_394 rfl rfl (E σ2 hR)
theorem law_5 (C : zC mi_L 9 Q G ad A p l e R s m args below meth c cells slots Z) (X : zSc ad A s L xs) {i : Nat} (hi : i + 6 ≤ L) (E : ∀ τ, RR τ → zX G ad A p l e R s m args below meth c cells slots Z 1294 (lsF i) [] τ) (σ : zSt) (h : RR σ) : zX G ad A p l e R s m args below meth c cells slots Z 399 (lsF i) [] σ := by
  obtain ⟨dx, Qx, hdx, hx, hq⟩ := s_mean σ h (xs (i + 1))
  refine x_aload C (q := 400) dL_law_399 rfl rfl rfl ?_
  refine x_arg C X (q := 405) (j := 1) (by omega) (by decide) dL_law_400 dL_law_401 dL_law_402 dL_law_403 dL_law_404 rfl ?_
  refine x_call C (q := 408) (as := [zi (xs (i + 1))]) (rest := []) hx lk_L_37 (by decide) (by decide) rfl hdx rfl rfl rfl dL_law_405 rfl (fun r σ1 hr => ?_)
  obtain ⟨a, rfl, hkd, dm, Qm, hdm, hm, hq2⟩ := hq r σ1 hr
  refine x_aload C (q := 409) dL_law_408 rfl rfl rfl ?_
  refine x_arg C X (q := 414) (j := 1) (by omega) (by decide) dL_law_409 dL_law_410 dL_law_411 dL_law_412 dL_law_413 rfl ?_
  refine x_call C (q := 417) (as := [zi (xs (i + 1))]) (rest := [a]) hm lk_L_40 (by decide) (by decide) rfl hdm rfl rfl (zkI hkd) dL_law_414 rfl (fun r2 σ2 hr2 => ?_)
  obtain ⟨rfl, hR⟩ := hq2 r2 σ2 hr2
  obtain ⟨y, rfl⟩ := zk_i hkd
  exact x_icmp_eq C 1294 dL_law_417 rfl rfl (E σ2 hR)
theorem law_6 (C : zC mi_L 9 Q G ad A p l e R s m args below meth c cells slots Z) (X : zSc ad A s L xs) {i : Nat} (hi : i + 6 ≤ L) (E : ∀ τ, RR τ → zX G ad A p l e R s m args below meth c cells slots Z 1294 (lsF i) [] τ) (σ : zSt) (h : RR σ) : zX G ad A p l e R s m args below meth c cells slots Z 422 (lsF i) [] σ := by
  obtain ⟨dx, Qx, hdx, hx, hq⟩ := s_text σ h (xs (i + 1)) (xs (i + 2))
  refine x_aload C (q := 423) dL_law_422 rfl rfl rfl ?_
  refine x_arg C X (q := 428) (j := 1) (by omega) (by decide) dL_law_423 dL_law_424 dL_law_425 dL_law_426 dL_law_427 rfl ?_
  refine x_arg C X (q := 433) (j := 2) (by omega) (by decide) dL_law_428 dL_law_429 dL_law_430 dL_law_431 dL_law_432 rfl ?_
  refine x_call C (q := 436) (as := [zi (xs (i + 1)), zi (xs (i + 2))]) (rest := []) hx lk_L_41 (by decide) (by decide) rfl hdx rfl rfl rfl dL_law_433 rfl (fun r σ1 hr => ?_)
  obtain ⟨a, rfl, hkd, dm, Qm, hdm, hm, hq2⟩ := hq r σ1 hr
  refine x_aload C (q := 437) dL_law_436 rfl rfl rfl ?_
  refine x_arg C X (q := 442) (j := 1) (by omega) (by decide) dL_law_437 dL_law_438 dL_law_439 dL_law_440 dL_law_441 rfl ?_
  refine x_arg C X (q := 447) (j := 2) (by omega) (by decide) dL_law_442 dL_law_443 dL_law_444 dL_law_445 dL_law_446 rfl ?_
  refine x_call C (q := 450) (as := [zi (xs (i + 1)), zi (xs (i + 2))]) (rest := [a]) hm lk_L_44 (by decide) (by decide) rfl hdm rfl rfl (zkI hkd) dL_law_447 rfl (fun r2 σ2 hr2 => ?_)
  obtain ⟨rfl, hR⟩ := hq2 r2 σ2 hr2
  obtain ⟨y, rfl⟩ := zk_i hkd
  exact x_icmp_eq C 1294 dL_law_450 rfl rfl (E σ2 hR)
theorem law_7 (C : zC mi_L 9 Q G ad A p l e R s m args below meth c cells slots Z) (X : zSc ad A s L xs) {i : Nat} (hi : i + 6 ≤ L) (E : ∀ τ, RR τ → zX G ad A p l e R s m args below meth c cells slots Z 1294 (lsF i) [] τ) (σ : zSt) (h : RR σ) : zX G ad A p l e R s m args below meth c cells slots Z 455 (lsF i) [] σ := by
  obtain ⟨dx, Qx, hdx, hx, hq⟩ := s_put σ h (xs (i + 1)) (xs (i + 2)) (xs (i + 3))
  refine x_aload C (q := 456) dL_law_455 rfl rfl rfl ?_
  refine x_arg C X (q := 461) (j := 1) (by omega) (by decide) dL_law_456 dL_law_457 dL_law_458 dL_law_459 dL_law_460 rfl ?_
  refine x_arg C X (q := 466) (j := 2) (by omega) (by decide) dL_law_461 dL_law_462 dL_law_463 dL_law_464 dL_law_465 rfl ?_
  refine x_arg C X (q := 471) (j := 3) (by omega) (by decide) dL_law_466 dL_law_467 dL_law_468 dL_law_469 dL_law_470 rfl ?_
  refine x_call C (q := 474) (as := [zi (xs (i + 1)), zi (xs (i + 2)), zi (xs (i + 3))]) (rest := []) hx lk_L_45 (by decide) (by decide) rfl hdx rfl rfl rfl dL_law_471 rfl (fun r σ1 hr => ?_)
  obtain ⟨a, rfl, hkd, dm, Qm, hdm, hm, hq2⟩ := hq r σ1 hr
  refine x_aload C (q := 475) dL_law_474 rfl rfl rfl ?_
  refine x_arg C X (q := 480) (j := 1) (by omega) (by decide) dL_law_475 dL_law_476 dL_law_477 dL_law_478 dL_law_479 rfl ?_
  refine x_arg C X (q := 485) (j := 2) (by omega) (by decide) dL_law_480 dL_law_481 dL_law_482 dL_law_483 dL_law_484 rfl ?_
  refine x_arg C X (q := 490) (j := 3) (by omega) (by decide) dL_law_485 dL_law_486 dL_law_487 dL_law_488 dL_law_489 rfl ?_
  refine x_call C (q := 493) (as := [zi (xs (i + 1)), zi (xs (i + 2)), zi (xs (i + 3))]) (rest := [a]) hm lk_L_48 (by decide) (by decide) rfl hdm rfl rfl (zkI hkd) dL_law_490 rfl (fun r2 σ2 hr2 => ?_)
  obtain ⟨rfl, hR⟩ := hq2 r2 σ2 hr2
  obtain ⟨y, rfl⟩ := zk_i hkd
  exact x_icmp_eq C 1294 dL_law_493 rfl rfl (E σ2 hR)
theorem law_8 (C : zC mi_L 9 Q G ad A p l e R s m args below meth c cells slots Z) (X : zSc ad A s L xs) {i : Nat} (hi : i + 6 ≤ L) (E : ∀ τ, RR τ → zX G ad A p l e R s m args below meth c cells slots Z 1294 (lsF i) [] τ) (σ : zSt) (h : RR σ) : zX G ad A p l e R s m args below meth c cells slots Z 498 (lsF i) [] σ := by
  obtain ⟨dx, Qx, hdx, hx, hq⟩ := s_fault σ h (xs (i + 1))
  refine x_aload C (q := 499) dL_law_498 rfl rfl rfl ?_
  refine x_arg C X (q := 504) (j := 1) (by omega) (by decide) dL_law_499 dL_law_500 dL_law_501 dL_law_502 dL_law_503 rfl ?_
  refine x_call C (q := 507) (as := [zi (xs (i + 1))]) (rest := []) hx lk_L_49 (by decide) (by decide) rfl hdx rfl rfl rfl dL_law_504 rfl (fun r σ1 hr => ?_)
  obtain ⟨a, rfl, hkd, dm, Qm, hdm, hm, hq2⟩ := hq r σ1 hr
  refine x_aload C (q := 508) dL_law_507 rfl rfl rfl ?_
  refine x_arg C X (q := 513) (j := 1) (by omega) (by decide) dL_law_508 dL_law_509 dL_law_510 dL_law_511 dL_law_512 rfl ?_
  refine x_call C (q := 516) (as := [zi (xs (i + 1))]) (rest := [a]) hm lk_L_52 (by decide) (by decide) rfl hdm rfl rfl (zkI hkd) dL_law_513 rfl (fun r2 σ2 hr2 => ?_)
  obtain ⟨rfl, hR⟩ := hq2 r2 σ2 hr2
  obtain ⟨y, rfl⟩ := zk_i hkd
  exact x_icmp_eq C 1294 dL_law_516 rfl rfl (E σ2 hR)
theorem law_9 (C : zC mi_L 9 Q G ad A p l e R s m args below meth c cells slots Z) (X : zSc ad A s L xs) {i : Nat} (hi : i + 6 ≤ L) (E : ∀ τ, RR τ → zX G ad A p l e R s m args below meth c cells slots Z 1294 (lsF i) [] τ) (σ : zSt) (h : RR σ) : zX G ad A p l e R s m args below meth c cells slots Z 521 (lsF i) [] σ := by
  obtain ⟨dx, Qx, hdx, hx, hq⟩ := s_wall σ h (xs (i + 1))
  refine x_aload C (q := 522) dL_law_521 rfl rfl rfl ?_
  refine x_arg C X (q := 527) (j := 1) (by omega) (by decide) dL_law_522 dL_law_523 dL_law_524 dL_law_525 dL_law_526 rfl ?_
  refine x_call C (q := 530) (as := [zi (xs (i + 1))]) (rest := []) hx lk_L_53 (by decide) (by decide) rfl hdx rfl rfl rfl dL_law_527 rfl (fun r σ1 hr => ?_)
  obtain ⟨a, rfl, hkd, dm, Qm, hdm, hm, hq2⟩ := hq r σ1 hr
  refine x_aload C (q := 531) dL_law_530 rfl rfl rfl ?_
  refine x_arg C X (q := 536) (j := 1) (by omega) (by decide) dL_law_531 dL_law_532 dL_law_533 dL_law_534 dL_law_535 rfl ?_
  refine x_call C (q := 539) (as := [zi (xs (i + 1))]) (rest := [a]) hm lk_L_56 (by decide) (by decide) rfl hdm rfl rfl (zkI hkd) dL_law_536 rfl (fun r2 σ2 hr2 => ?_)
  obtain ⟨rfl, hR⟩ := hq2 r2 σ2 hr2
  obtain ⟨y, rfl⟩ := zk_i hkd
  exact x_icmp_eq C 1294 dL_law_539 rfl rfl (E σ2 hR)
theorem law_10 (C : zC mi_L 9 Q G ad A p l e R s m args below meth c cells slots Z) (X : zSc ad A s L xs) {i : Nat} (hi : i + 6 ≤ L) (E : ∀ τ, RR τ → zX G ad A p l e R s m args below meth c cells slots Z 1294 (lsF i) [] τ) (σ : zSt) (h : RR σ) : zX G ad A p l e R s m args below meth c cells slots Z 544 (lsF i) [] σ := by
  obtain ⟨dx, Qx, hdx, hx, hq⟩ := s_lamp σ h (xs (i + 1)) (xs (i + 2))
  refine x_aload C (q := 545) dL_law_544 rfl rfl rfl ?_
  refine x_arg C X (q := 550) (j := 1) (by omega) (by decide) dL_law_545 dL_law_546 dL_law_547 dL_law_548 dL_law_549 rfl ?_
  refine x_arg C X (q := 555) (j := 2) (by omega) (by decide) dL_law_550 dL_law_551 dL_law_552 dL_law_553 dL_law_554 rfl ?_
  refine x_call C (q := 558) (as := [zi (xs (i + 1)), zi (xs (i + 2))]) (rest := []) hx lk_L_57 (by decide) (by decide) rfl hdx rfl rfl rfl dL_law_555 rfl (fun r σ1 hr => ?_)
  obtain ⟨a, rfl, hkd, dm, Qm, hdm, hm, hq2⟩ := hq r σ1 hr
  refine x_aload C (q := 559) dL_law_558 rfl rfl rfl ?_
  refine x_arg C X (q := 564) (j := 1) (by omega) (by decide) dL_law_559 dL_law_560 dL_law_561 dL_law_562 dL_law_563 rfl ?_
  refine x_arg C X (q := 569) (j := 2) (by omega) (by decide) dL_law_564 dL_law_565 dL_law_566 dL_law_567 dL_law_568 rfl ?_
  refine x_call C (q := 572) (as := [zi (xs (i + 1)), zi (xs (i + 2))]) (rest := [a]) hm lk_L_60 (by decide) (by decide) rfl hdm rfl rfl (zkI hkd) dL_law_569 rfl (fun r2 σ2 hr2 => ?_)
  obtain ⟨rfl, hR⟩ := hq2 r2 σ2 hr2
  obtain ⟨y, rfl⟩ := zk_i hkd
  exact x_icmp_eq C 1294 dL_law_572 rfl rfl (E σ2 hR)
theorem law_11 (C : zC mi_L 9 Q G ad A p l e R s m args below meth c cells slots Z) (X : zSc ad A s L xs) {i : Nat} (hi : i + 6 ≤ L) (E : ∀ τ, RR τ → zX G ad A p l e R s m args below meth c cells slots Z 1294 (lsF i) [] τ) (σ : zSt) (h : RR σ) : zX G ad A p l e R s m args below meth c cells slots Z 577 (lsF i) [] σ := by
  obtain ⟨dx, Qx, hdx, hx, hq⟩ := s_mark σ h (xs (i + 1)) (xs (i + 2))
  refine x_aload C (q := 578) dL_law_577 rfl rfl rfl ?_
  refine x_arg C X (q := 583) (j := 1) (by omega) (by decide) dL_law_578 dL_law_579 dL_law_580 dL_law_581 dL_law_582 rfl ?_
  refine x_arg C X (q := 588) (j := 2) (by omega) (by decide) dL_law_583 dL_law_584 dL_law_585 dL_law_586 dL_law_587 rfl ?_
  refine x_call C (q := 591) (as := [zi (xs (i + 1)), zi (xs (i + 2))]) (rest := []) hx lk_L_61 (by decide) (by decide) rfl hdx rfl rfl rfl dL_law_588 rfl (fun r σ1 hr => ?_)
  obtain ⟨a, rfl, hkd, dm, Qm, hdm, hm, hq2⟩ := hq r σ1 hr
  refine x_aload C (q := 592) dL_law_591 rfl rfl rfl ?_
  refine x_arg C X (q := 597) (j := 1) (by omega) (by decide) dL_law_592 dL_law_593 dL_law_594 dL_law_595 dL_law_596 rfl ?_
  refine x_arg C X (q := 602) (j := 2) (by omega) (by decide) dL_law_597 dL_law_598 dL_law_599 dL_law_600 dL_law_601 rfl ?_
  refine x_call C (q := 605) (as := [zi (xs (i + 1)), zi (xs (i + 2))]) (rest := [a]) hm lk_L_64 (by decide) (by decide) rfl hdm rfl rfl (zkI hkd) dL_law_602 rfl (fun r2 σ2 hr2 => ?_)
  obtain ⟨rfl, hR⟩ := hq2 r2 σ2 hr2
  obtain ⟨y, rfl⟩ := zk_i hkd
  exact x_icmp_eq C 1294 dL_law_605 rfl rfl (E σ2 hR)
theorem law_12 (C : zC mi_L 9 Q G ad A p l e R s m args below meth c cells slots Z) (X : zSc ad A s L xs) {i : Nat} (hi : i + 6 ≤ L) (E : ∀ τ, RR τ → zX G ad A p l e R s m args below meth c cells slots Z 1294 (lsF i) [] τ) (σ : zSt) (h : RR σ) : zX G ad A p l e R s m args below meth c cells slots Z 610 (lsF i) [] σ := by
  obtain ⟨dx, Qx, hdx, hx, hq⟩ := s_press σ h (xs (i + 1))
  refine x_aload C (q := 611) dL_law_610 rfl rfl rfl ?_
  refine x_arg C X (q := 616) (j := 1) (by omega) (by decide) dL_law_611 dL_law_612 dL_law_613 dL_law_614 dL_law_615 rfl ?_
  refine x_call C (q := 619) (as := [zi (xs (i + 1))]) (rest := []) hx lk_L_65 (by decide) (by decide) rfl hdx rfl rfl rfl dL_law_616 rfl (fun r σ1 hr => ?_)
  obtain ⟨a, rfl, hkd, dm, Qm, hdm, hm, hq2⟩ := hq r σ1 hr
  refine x_aload C (q := 620) dL_law_619 rfl rfl rfl ?_
  refine x_arg C X (q := 625) (j := 1) (by omega) (by decide) dL_law_620 dL_law_621 dL_law_622 dL_law_623 dL_law_624 rfl ?_
  refine x_call C (q := 628) (as := [zi (xs (i + 1))]) (rest := [a]) hm lk_L_68 (by decide) (by decide) rfl hdm rfl rfl (zkI hkd) dL_law_625 rfl (fun r2 σ2 hr2 => ?_)
  obtain ⟨rfl, hR⟩ := hq2 r2 σ2 hr2
  obtain ⟨y, rfl⟩ := zk_i hkd
  exact x_icmp_eq C 1294 dL_law_628 rfl rfl (E σ2 hR)
theorem law_13 (C : zC mi_L 9 Q G ad A p l e R s m args below meth c cells slots Z) (X : zSc ad A s L xs) {i : Nat} (hi : i + 6 ≤ L) (E : ∀ τ, RR τ → zX G ad A p l e R s m args below meth c cells slots Z 1294 (lsF i) [] τ) (σ : zSt) (h : RR σ) : zX G ad A p l e R s m args below meth c cells slots Z 633 (lsF i) [] σ := by
  obtain ⟨dx, Qx, hdx, hx, hq⟩ := s_set σ h (xs (i + 1)) (xs (i + 2))
  refine x_aload C (q := 634) dL_law_633 rfl rfl rfl ?_
  refine x_arg C X (q := 639) (j := 1) (by omega) (by decide) dL_law_634 dL_law_635 dL_law_636 dL_law_637 dL_law_638 rfl ?_
  refine x_arg C X (q := 644) (j := 2) (by omega) (by decide) dL_law_639 dL_law_640 dL_law_641 dL_law_642 dL_law_643 rfl ?_
  refine x_call C (q := 647) (as := [zi (xs (i + 1)), zi (xs (i + 2))]) (rest := []) hx lk_L_69 (by decide) (by decide) rfl hdx rfl rfl rfl dL_law_644 rfl (fun r σ1 hr => ?_)
  obtain ⟨a, rfl, hkd, dm, Qm, hdm, hm, hq2⟩ := hq r σ1 hr
  refine x_aload C (q := 648) dL_law_647 rfl rfl rfl ?_
  refine x_arg C X (q := 653) (j := 1) (by omega) (by decide) dL_law_648 dL_law_649 dL_law_650 dL_law_651 dL_law_652 rfl ?_
  refine x_arg C X (q := 658) (j := 2) (by omega) (by decide) dL_law_653 dL_law_654 dL_law_655 dL_law_656 dL_law_657 rfl ?_
  refine x_call C (q := 661) (as := [zi (xs (i + 1)), zi (xs (i + 2))]) (rest := [a]) hm lk_L_72 (by decide) (by decide) rfl hdm rfl rfl (zkI hkd) dL_law_658 rfl (fun r2 σ2 hr2 => ?_)
  obtain ⟨rfl, hR⟩ := hq2 r2 σ2 hr2
  obtain ⟨y, rfl⟩ := zk_i hkd
  exact x_icmp_eq C 1294 dL_law_661 rfl rfl (E σ2 hR)
theorem law_14 (C : zC mi_L 9 Q G ad A p l e R s m args below meth c cells slots Z) (X : zSc ad A s L xs) {i : Nat} (hi : i + 6 ≤ L) (E : ∀ τ, RR τ → zX G ad A p l e R s m args below meth c cells slots Z 1294 (lsF i) [] τ) (σ : zSt) (h : RR σ) : zX G ad A p l e R s m args below meth c cells slots Z 666 (lsF i) [] σ := by
  obtain ⟨dx, Qx, hdx, hx, hq⟩ := s_crack σ h (xs (i + 1))
  refine x_aload C (q := 667) dL_law_666 rfl rfl rfl ?_
  refine x_arg C X (q := 672) (j := 1) (by omega) (by decide) dL_law_667 dL_law_668 dL_law_669 dL_law_670 dL_law_671 rfl ?_
  refine x_call C (q := 675) (as := [zi (xs (i + 1))]) (rest := []) hx lk_L_73 (by decide) (by decide) rfl hdx rfl rfl rfl dL_law_672 rfl (fun r σ1 hr => ?_)
  obtain ⟨a, rfl, hkd, dm, Qm, hdm, hm, hq2⟩ := hq r σ1 hr
  refine x_aload C (q := 676) dL_law_675 rfl rfl rfl ?_
  refine x_arg C X (q := 681) (j := 1) (by omega) (by decide) dL_law_676 dL_law_677 dL_law_678 dL_law_679 dL_law_680 rfl ?_
  refine x_call C (q := 684) (as := [zi (xs (i + 1))]) (rest := [a]) hm lk_L_76 (by decide) (by decide) rfl hdm rfl rfl (zkI hkd) dL_law_681 rfl (fun r2 σ2 hr2 => ?_)
  obtain ⟨rfl, hR⟩ := hq2 r2 σ2 hr2
  obtain ⟨y, rfl⟩ := zk_i hkd
  exact x_icmp_eq C 1294 dL_law_684 rfl rfl (E σ2 hR)
theorem law_15 (C : zC mi_L 9 Q G ad A p l e R s m args below meth c cells slots Z) (X : zSc ad A s L xs) {i : Nat} (hi : i + 6 ≤ L) (E : ∀ τ, RR τ → zX G ad A p l e R s m args below meth c cells slots Z 1294 (lsF i) [] τ) (σ : zSt) (h : RR σ) : zX G ad A p l e R s m args below meth c cells slots Z 689 (lsF i) [] σ := by
  obtain ⟨dx, Qx, hdx, hx, hq⟩ := s_undo σ h (xs (i + 1))
  refine x_aload C (q := 690) dL_law_689 rfl rfl rfl ?_
  refine x_arg C X (q := 695) (j := 1) (by omega) (by decide) dL_law_690 dL_law_691 dL_law_692 dL_law_693 dL_law_694 rfl ?_
  refine x_call C (q := 698) (as := [zi (xs (i + 1))]) (rest := []) hx lk_L_77 (by decide) (by decide) rfl hdx rfl rfl rfl dL_law_695 rfl (fun r σ1 hr => ?_)
  obtain ⟨a, rfl, hkd, dm, Qm, hdm, hm, hq2⟩ := hq r σ1 hr
  refine x_aload C (q := 699) dL_law_698 rfl rfl rfl ?_
  refine x_arg C X (q := 704) (j := 1) (by omega) (by decide) dL_law_699 dL_law_700 dL_law_701 dL_law_702 dL_law_703 rfl ?_
  refine x_call C (q := 707) (as := [zi (xs (i + 1))]) (rest := [a]) hm lk_L_80 (by decide) (by decide) rfl hdm rfl rfl (zkI hkd) dL_law_704 rfl (fun r2 σ2 hr2 => ?_)
  obtain ⟨rfl, hR⟩ := hq2 r2 σ2 hr2
  obtain ⟨y, rfl⟩ := zk_i hkd
  exact x_icmp_eq C 1294 dL_law_707 rfl rfl (E σ2 hR)
theorem law_16 (C : zC mi_L 9 Q G ad A p l e R s m args below meth c cells slots Z) (X : zSc ad A s L xs) {i : Nat} (hi : i + 6 ≤ L) (E : ∀ τ, RR τ → zX G ad A p l e R s m args below meth c cells slots Z 1294 (lsF i) [] τ) (σ : zSt) (h : RR σ) : zX G ad A p l e R s m args below meth c cells slots Z 712 (lsF i) [] σ := by
  obtain ⟨dx, Qx, hdx, hx, hq⟩ := s_keep σ h (xs (i + 1))
  refine x_aload C (q := 713) dL_law_712 rfl rfl rfl ?_
  refine x_arg C X (q := 718) (j := 1) (by omega) (by decide) dL_law_713 dL_law_714 dL_law_715 dL_law_716 dL_law_717 rfl ?_
  refine x_call C (q := 721) (as := [zi (xs (i + 1))]) (rest := []) hx lk_L_81 (by decide) (by decide) rfl hdx rfl rfl rfl dL_law_718 rfl (fun r σ1 hr => ?_)
  obtain ⟨a, rfl, hkd, dm, Qm, hdm, hm, hq2⟩ := hq r σ1 hr
  refine x_aload C (q := 722) dL_law_721 rfl rfl rfl ?_
  refine x_arg C X (q := 727) (j := 1) (by omega) (by decide) dL_law_722 dL_law_723 dL_law_724 dL_law_725 dL_law_726 rfl ?_
  refine x_call C (q := 730) (as := [zi (xs (i + 1))]) (rest := [a]) hm lk_L_84 (by decide) (by decide) rfl hdm rfl rfl (zkI hkd) dL_law_727 rfl (fun r2 σ2 hr2 => ?_)
  obtain ⟨rfl, hR⟩ := hq2 r2 σ2 hr2
  obtain ⟨y, rfl⟩ := zk_i hkd
  exact x_icmp_eq C 1294 dL_law_730 rfl rfl (E σ2 hR)
theorem law_17 (C : zC mi_L 9 Q G ad A p l e R s m args below meth c cells slots Z) (X : zSc ad A s L xs) {i : Nat} (hi : i + 6 ≤ L) (E : ∀ τ, RR τ → zX G ad A p l e R s m args below meth c cells slots Z 1294 (lsF i) [] τ) (σ : zSt) (h : RR σ) : zX G ad A p l e R s m args below meth c cells slots Z 735 (lsF i) [] σ := by
  obtain ⟨dx, Qx, hdx, hx, hq⟩ := s_on σ h (xs (i + 1))
  refine x_aload C (q := 736) dL_law_735 rfl rfl rfl ?_
  refine x_arg C X (q := 741) (j := 1) (by omega) (by decide) dL_law_736 dL_law_737 dL_law_738 dL_law_739 dL_law_740 rfl ?_
  refine x_call C (q := 744) (as := [zi (xs (i + 1))]) (rest := []) hx lk_L_85 (by decide) (by decide) rfl hdx rfl rfl rfl dL_law_741 rfl (fun r σ1 hr => ?_)
  obtain ⟨a, rfl, hkd, dm, Qm, hdm, hm, hq2⟩ := hq r σ1 hr
  refine x_aload C (q := 745) dL_law_744 rfl rfl rfl ?_
  refine x_arg C X (q := 750) (j := 1) (by omega) (by decide) dL_law_745 dL_law_746 dL_law_747 dL_law_748 dL_law_749 rfl ?_
  refine x_call C (q := 753) (as := [zi (xs (i + 1))]) (rest := [a]) hm lk_L_88 (by decide) (by decide) rfl hdm rfl rfl (zkI hkd) dL_law_750 rfl (fun r2 σ2 hr2 => ?_)
  obtain ⟨rfl, hR⟩ := hq2 r2 σ2 hr2
  obtain ⟨y, rfl⟩ := zk_i hkd
  exact x_icmp_eq C 1294 dL_law_753 rfl rfl (E σ2 hR)
theorem law_18 (C : zC mi_L 9 Q G ad A p l e R s m args below meth c cells slots Z) (X : zSc ad A s L xs) {i : Nat} (hi : i + 6 ≤ L) (E : ∀ τ, RR τ → zX G ad A p l e R s m args below meth c cells slots Z 1294 (lsF i) [] τ) (σ : zSt) (h : RR σ) : zX G ad A p l e R s m args below meth c cells slots Z 758 (lsF i) [] σ := by
  obtain ⟨dx, Qx, hdx, hx, hq⟩ := s_touched σ h (xs (i + 1)) (xs (i + 2)) (xs (i + 3)) (xs (i + 4))
  refine x_aload C (q := 759) dL_law_758 rfl rfl rfl ?_
  refine x_arg C X (q := 764) (j := 1) (by omega) (by decide) dL_law_759 dL_law_760 dL_law_761 dL_law_762 dL_law_763 rfl ?_
  refine x_arg C X (q := 769) (j := 2) (by omega) (by decide) dL_law_764 dL_law_765 dL_law_766 dL_law_767 dL_law_768 rfl ?_
  refine x_arg C X (q := 774) (j := 3) (by omega) (by decide) dL_law_769 dL_law_770 dL_law_771 dL_law_772 dL_law_773 rfl ?_
  refine x_arg C X (q := 779) (j := 4) (by omega) (by decide) dL_law_774 dL_law_775 dL_law_776 dL_law_777 dL_law_778 rfl ?_
  refine x_call C (q := 782) (as := [zi (xs (i + 1)), zi (xs (i + 2)), zi (xs (i + 3)), zi (xs (i + 4))]) (rest := []) hx lk_L_89 (by decide) (by decide) rfl hdx rfl rfl rfl dL_law_779 rfl (fun r σ1 hr => ?_)
  obtain ⟨a, rfl, hkd, dm, Qm, hdm, hm, hq2⟩ := hq r σ1 hr
  refine x_aload C (q := 783) dL_law_782 rfl rfl rfl ?_
  refine x_arg C X (q := 788) (j := 1) (by omega) (by decide) dL_law_783 dL_law_784 dL_law_785 dL_law_786 dL_law_787 rfl ?_
  refine x_arg C X (q := 793) (j := 2) (by omega) (by decide) dL_law_788 dL_law_789 dL_law_790 dL_law_791 dL_law_792 rfl ?_
  refine x_arg C X (q := 798) (j := 3) (by omega) (by decide) dL_law_793 dL_law_794 dL_law_795 dL_law_796 dL_law_797 rfl ?_
  refine x_arg C X (q := 803) (j := 4) (by omega) (by decide) dL_law_798 dL_law_799 dL_law_800 dL_law_801 dL_law_802 rfl ?_
  refine x_call C (q := 806) (as := [zi (xs (i + 1)), zi (xs (i + 2)), zi (xs (i + 3)), zi (xs (i + 4))]) (rest := [a]) hm lk_L_93 (by decide) (by decide) rfl hdm rfl rfl (zkI hkd) dL_law_803 rfl (fun r2 σ2 hr2 => ?_)
  obtain ⟨rfl, hR⟩ := hq2 r2 σ2 hr2
  obtain ⟨y, rfl⟩ := zk_i hkd
  exact x_icmp_eq C 1294 dL_law_806 rfl rfl (E σ2 hR)
theorem law_19 (C : zC mi_L 9 Q G ad A p l e R s m args below meth c cells slots Z) (X : zSc ad A s L xs) {i : Nat} (hi : i + 6 ≤ L) (E : ∀ τ, RR τ → zX G ad A p l e R s m args below meth c cells slots Z 1294 (lsF i) [] τ) (σ : zSt) (h : RR σ) : zX G ad A p l e R s m args below meth c cells slots Z 811 (lsF i) [] σ := by
  obtain ⟨dx, Qx, hdx, hx, hq⟩ := s_shows σ h (xs (i + 1))
  refine x_aload C (q := 812) dL_law_811 rfl rfl rfl ?_
  refine x_arg C X (q := 817) (j := 1) (by omega) (by decide) dL_law_812 dL_law_813 dL_law_814 dL_law_815 dL_law_816 rfl ?_
  refine x_call C (q := 820) (as := [zi (xs (i + 1))]) (rest := []) hx lk_L_94 (by decide) (by decide) rfl hdx rfl rfl rfl dL_law_817 rfl (fun r σ1 hr => ?_)
  obtain ⟨a, rfl, hkd, dm, Qm, hdm, hm, hq2⟩ := hq r σ1 hr
  refine x_aload C (q := 821) dL_law_820 rfl rfl rfl ?_
  refine x_arg C X (q := 826) (j := 1) (by omega) (by decide) dL_law_821 dL_law_822 dL_law_823 dL_law_824 dL_law_825 rfl ?_
  refine x_call C (q := 829) (as := [zi (xs (i + 1))]) (rest := [a]) hm lk_L_97 (by decide) (by decide) rfl hdm rfl rfl (zkI hkd) dL_law_826 rfl (fun r2 σ2 hr2 => ?_)
  obtain ⟨rfl, hR⟩ := hq2 r2 σ2 hr2
  obtain ⟨y, rfl⟩ := zk_i hkd
  exact x_icmp_eq C 1294 dL_law_829 rfl rfl (E σ2 hR)
theorem law_20 (C : zC mi_L 9 Q G ad A p l e R s m args below meth c cells slots Z) (X : zSc ad A s L xs) {i : Nat} (hi : i + 6 ≤ L) (E : ∀ τ, RR τ → zX G ad A p l e R s m args below meth c cells slots Z 1294 (lsF i) [] τ) (σ : zSt) (h : RR σ) : zX G ad A p l e R s m args below meth c cells slots Z 834 (lsF i) [] σ := by
  obtain ⟨dx, Qx, hdx, hx, hq⟩ := s_most σ h
  refine x_aload C (q := 835) dL_law_834 rfl rfl rfl ?_
  refine x_call C (q := 838) (as := []) (rest := []) hx lk_L_98 (by decide) (by decide) rfl hdx rfl rfl rfl dL_law_835 rfl (fun r σ1 hr => ?_)
  obtain ⟨a, rfl, hkd, dm, Qm, hdm, hm, hq2⟩ := hq r σ1 hr
  refine x_aload C (q := 839) dL_law_838 rfl rfl rfl ?_
  refine x_call C (q := 842) (as := []) (rest := [a]) hm lk_L_102 (by decide) (by decide) rfl hdm rfl rfl (zkI hkd) dL_law_839 rfl (fun r2 σ2 hr2 => ?_)
  obtain ⟨rfl, hR⟩ := hq2 r2 σ2 hr2
  obtain ⟨y, rfl⟩ := zk_i hkd
  exact x_icmp_eq C 1294 dL_law_842 rfl rfl (E σ2 hR)
theorem law_21 (C : zC mi_L 9 Q G ad A p l e R s m args below meth c cells slots Z) (X : zSc ad A s L xs) {i : Nat} (hi : i + 6 ≤ L) (E : ∀ τ, RR τ → zX G ad A p l e R s m args below meth c cells slots Z 1294 (lsF i) [] τ) (σ : zSt) (h : RR σ) : zX G ad A p l e R s m args below meth c cells slots Z 847 (lsF i) [] σ := by
  obtain ⟨dx, Qx, hdx, hx, hq⟩ := s_fewest σ h (xs (i + 1)) (xs (i + 2))
  refine x_aload C (q := 848) dL_law_847 rfl rfl rfl ?_
  refine x_arg C X (q := 853) (j := 1) (by omega) (by decide) dL_law_848 dL_law_849 dL_law_850 dL_law_851 dL_law_852 rfl ?_
  refine x_arg C X (q := 858) (j := 2) (by omega) (by decide) dL_law_853 dL_law_854 dL_law_855 dL_law_856 dL_law_857 rfl ?_
  refine x_call C (q := 861) (as := [zi (xs (i + 1)), zi (xs (i + 2))]) (rest := []) hx lk_L_103 (by decide) (by decide) rfl hdx rfl rfl rfl dL_law_858 rfl (fun r σ1 hr => ?_)
  obtain ⟨a, rfl, hkd, dm, Qm, hdm, hm, hq2⟩ := hq r σ1 hr
  refine x_aload C (q := 862) dL_law_861 rfl rfl rfl ?_
  refine x_arg C X (q := 867) (j := 1) (by omega) (by decide) dL_law_862 dL_law_863 dL_law_864 dL_law_865 dL_law_866 rfl ?_
  refine x_arg C X (q := 872) (j := 2) (by omega) (by decide) dL_law_867 dL_law_868 dL_law_869 dL_law_870 dL_law_871 rfl ?_
  refine x_call C (q := 875) (as := [zi (xs (i + 1)), zi (xs (i + 2))]) (rest := [a]) hm lk_L_106 (by decide) (by decide) rfl hdm rfl rfl (zkI hkd) dL_law_872 rfl (fun r2 σ2 hr2 => ?_)
  obtain ⟨rfl, hR⟩ := hq2 r2 σ2 hr2
  obtain ⟨y, rfl⟩ := zk_i hkd
  exact x_icmp_eq C 1294 dL_law_875 rfl rfl (E σ2 hR)
theorem law_22 (C : zC mi_L 9 Q G ad A p l e R s m args below meth c cells slots Z) (X : zSc ad A s L xs) {i : Nat} (hi : i + 6 ≤ L) (E : ∀ τ, RR τ → zX G ad A p l e R s m args below meth c cells slots Z 1294 (lsF i) [] τ) (σ : zSt) (h : RR σ) : zX G ad A p l e R s m args below meth c cells slots Z 880 (lsF i) [] σ := by
  obtain ⟨dx, Qx, hdx, hx, hq⟩ := s_ways σ h (xs (i + 1))
  refine x_aload C (q := 881) dL_law_880 rfl rfl rfl ?_
  refine x_arg C X (q := 886) (j := 1) (by omega) (by decide) dL_law_881 dL_law_882 dL_law_883 dL_law_884 dL_law_885 rfl ?_
  refine x_call C (q := 889) (as := [zi (xs (i + 1))]) (rest := []) hx lk_L_107 (by decide) (by decide) rfl hdx rfl rfl rfl dL_law_886 rfl (fun r σ1 hr => ?_)
  obtain ⟨a, rfl, hkd, dm, Qm, hdm, hm, hq2⟩ := hq r σ1 hr
  refine x_aload C (q := 890) dL_law_889 rfl rfl rfl ?_
  refine x_arg C X (q := 895) (j := 1) (by omega) (by decide) dL_law_890 dL_law_891 dL_law_892 dL_law_893 dL_law_894 rfl ?_
  refine x_call C (q := 898) (as := [zi (xs (i + 1))]) (rest := [a]) hm lk_L_110 (by decide) (by decide) rfl hdm rfl rfl (zkI hkd) dL_law_895 rfl (fun r2 σ2 hr2 => ?_)
  obtain ⟨rfl, hR⟩ := hq2 r2 σ2 hr2
  obtain ⟨y, rfl⟩ := zk_i hkd
  exact x_icmp_eq C 1294 dL_law_898 rfl rfl (E σ2 hR)
theorem law_23 (C : zC mi_L 9 Q G ad A p l e R s m args below meth c cells slots Z) (X : zSc ad A s L xs) {i : Nat} (hi : i + 6 ≤ L) (E : ∀ τ, RR τ → zX G ad A p l e R s m args below meth c cells slots Z 1294 (lsF i) [] τ) (σ : zSt) (h : RR σ) : zX G ad A p l e R s m args below meth c cells slots Z 903 (lsF i) [] σ := by
  obtain ⟨dx, Qx, hdx, hx, hq⟩ := s_sure σ h (xs (i + 1))
  refine x_aload C (q := 904) dL_law_903 rfl rfl rfl ?_
  refine x_arg C X (q := 909) (j := 1) (by omega) (by decide) dL_law_904 dL_law_905 dL_law_906 dL_law_907 dL_law_908 rfl ?_
  refine x_call C (q := 912) (as := [zi (xs (i + 1))]) (rest := []) hx lk_L_111 (by decide) (by decide) rfl hdx rfl rfl rfl dL_law_909 rfl (fun r σ1 hr => ?_)
  obtain ⟨a, rfl, hkd, dm, Qm, hdm, hm, hq2⟩ := hq r σ1 hr
  refine x_aload C (q := 913) dL_law_912 rfl rfl rfl ?_
  refine x_arg C X (q := 918) (j := 1) (by omega) (by decide) dL_law_913 dL_law_914 dL_law_915 dL_law_916 dL_law_917 rfl ?_
  refine x_call C (q := 921) (as := [zi (xs (i + 1))]) (rest := [a]) hm lk_L_114 (by decide) (by decide) rfl hdm rfl rfl (zkI hkd) dL_law_918 rfl (fun r2 σ2 hr2 => ?_)
  obtain ⟨rfl, hR⟩ := hq2 r2 σ2 hr2
  obtain ⟨y, rfl⟩ := zk_i hkd
  exact x_icmp_eq C 1294 dL_law_921 rfl rfl (E σ2 hR)
theorem law_24 (C : zC mi_L 9 Q G ad A p l e R s m args below meth c cells slots Z) (X : zSc ad A s L xs) {i : Nat} (hi : i + 6 ≤ L) (E : ∀ τ, RR τ → zX G ad A p l e R s m args below meth c cells slots Z 1294 (lsF i) [] τ) (σ : zSt) (h : RR σ) : zX G ad A p l e R s m args below meth c cells slots Z 926 (lsF i) [] σ := by
  obtain ⟨dx, Qx, hdx, hx, hq⟩ := s_which σ h (xs (i + 1))
  refine x_aload C (q := 927) dL_law_926 rfl rfl rfl ?_
  refine x_arg C X (q := 932) (j := 1) (by omega) (by decide) dL_law_927 dL_law_928 dL_law_929 dL_law_930 dL_law_931 rfl ?_
  refine x_call C (q := 935) (as := [zi (xs (i + 1))]) (rest := []) hx lk_L_115 (by decide) (by decide) rfl hdx rfl rfl rfl dL_law_932 rfl (fun r σ1 hr => ?_)
  obtain ⟨a, rfl, hkd, dm, Qm, hdm, hm, hq2⟩ := hq r σ1 hr
  refine x_aload C (q := 936) dL_law_935 rfl rfl rfl ?_
  refine x_arg C X (q := 941) (j := 1) (by omega) (by decide) dL_law_936 dL_law_937 dL_law_938 dL_law_939 dL_law_940 rfl ?_
  refine x_call C (q := 944) (as := [zi (xs (i + 1))]) (rest := [a]) hm lk_L_118 (by decide) (by decide) rfl hdm rfl rfl (zkI hkd) dL_law_941 rfl (fun r2 σ2 hr2 => ?_)
  obtain ⟨rfl, hR⟩ := hq2 r2 σ2 hr2
  obtain ⟨y, rfl⟩ := zk_i hkd
  exact x_icmp_eq C 1294 dL_law_944 rfl rfl (E σ2 hR)
theorem law_25 (C : zC mi_L 9 Q G ad A p l e R s m args below meth c cells slots Z) (X : zSc ad A s L xs) {i : Nat} (hi : i + 6 ≤ L) (E : ∀ τ, RR τ → zX G ad A p l e R s m args below meth c cells slots Z 1294 (lsF i) [] τ) (σ : zSt) (h : RR σ) : zX G ad A p l e R s m args below meth c cells slots Z 949 (lsF i) [] σ := by
  obtain ⟨dx, Qx, hdx, hx, hq⟩ := s_kinds σ h (xs (i + 1)) (xs (i + 2))
  refine x_aload C (q := 950) dL_law_949 rfl rfl rfl ?_
  refine x_arg C X (q := 955) (j := 1) (by omega) (by decide) dL_law_950 dL_law_951 dL_law_952 dL_law_953 dL_law_954 rfl ?_
  refine x_arg C X (q := 960) (j := 2) (by omega) (by decide) dL_law_955 dL_law_956 dL_law_957 dL_law_958 dL_law_959 rfl ?_
  refine x_call C (q := 963) (as := [zi (xs (i + 1)), zi (xs (i + 2))]) (rest := []) hx lk_L_119 (by decide) (by decide) rfl hdx rfl rfl rfl dL_law_960 rfl (fun r σ1 hr => ?_)
  obtain ⟨a, rfl, hkd, dm, Qm, hdm, hm, hq2⟩ := hq r σ1 hr
  refine x_aload C (q := 964) dL_law_963 rfl rfl rfl ?_
  refine x_arg C X (q := 969) (j := 1) (by omega) (by decide) dL_law_964 dL_law_965 dL_law_966 dL_law_967 dL_law_968 rfl ?_
  refine x_arg C X (q := 974) (j := 2) (by omega) (by decide) dL_law_969 dL_law_970 dL_law_971 dL_law_972 dL_law_973 rfl ?_
  refine x_call C (q := 977) (as := [zi (xs (i + 1)), zi (xs (i + 2))]) (rest := [a]) hm lk_L_122 (by decide) (by decide) rfl hdm rfl rfl (zkI hkd) dL_law_974 rfl (fun r2 σ2 hr2 => ?_)
  obtain ⟨rfl, hR⟩ := hq2 r2 σ2 hr2
  obtain ⟨y, rfl⟩ := zk_i hkd
  exact x_icmp_eq C 1294 dL_law_977 rfl rfl (E σ2 hR)
theorem law_26 (C : zC mi_L 9 Q G ad A p l e R s m args below meth c cells slots Z) (X : zSc ad A s L xs) {i : Nat} (hi : i + 6 ≤ L) (E : ∀ τ, RR τ → zX G ad A p l e R s m args below meth c cells slots Z 1294 (lsF i) [] τ) (σ : zSt) (h : RR σ) : zX G ad A p l e R s m args below meth c cells slots Z 982 (lsF i) [] σ := by
  obtain ⟨dx, Qx, hdx, hx, hq⟩ := s_next σ h (xs (i + 1)) (xs (i + 2))
  refine x_aload C (q := 983) dL_law_982 rfl rfl rfl ?_
  refine x_arg C X (q := 988) (j := 1) (by omega) (by decide) dL_law_983 dL_law_984 dL_law_985 dL_law_986 dL_law_987 rfl ?_
  refine x_arg C X (q := 993) (j := 2) (by omega) (by decide) dL_law_988 dL_law_989 dL_law_990 dL_law_991 dL_law_992 rfl ?_
  refine x_call C (q := 996) (as := [zi (xs (i + 1)), zi (xs (i + 2))]) (rest := []) hx lk_L_123 (by decide) (by decide) rfl hdx rfl rfl rfl dL_law_993 rfl (fun r σ1 hr => ?_)
  obtain ⟨a, rfl, hkd, dm, Qm, hdm, hm, hq2⟩ := hq r σ1 hr
  refine x_aload C (q := 997) dL_law_996 rfl rfl rfl ?_
  refine x_arg C X (q := 1002) (j := 1) (by omega) (by decide) dL_law_997 dL_law_998 dL_law_999 dL_law_1000 dL_law_1001 rfl ?_
  refine x_arg C X (q := 1007) (j := 2) (by omega) (by decide) dL_law_1002 dL_law_1003 dL_law_1004 dL_law_1005 dL_law_1006 rfl ?_
  refine x_call C (q := 1010) (as := [zi (xs (i + 1)), zi (xs (i + 2))]) (rest := [a]) hm lk_L_126 (by decide) (by decide) rfl hdm rfl rfl (zkI hkd) dL_law_1007 rfl (fun r2 σ2 hr2 => ?_)
  obtain ⟨rfl, hR⟩ := hq2 r2 σ2 hr2
  obtain ⟨y, rfl⟩ := zk_i hkd
  exact x_icmp_eq C 1294 dL_law_1010 rfl rfl (E σ2 hR)
theorem law_27 (C : zC mi_L 9 Q G ad A p l e R s m args below meth c cells slots Z) (X : zSc ad A s L xs) {i : Nat} (hi : i + 6 ≤ L) (E : ∀ τ, RR τ → zX G ad A p l e R s m args below meth c cells slots Z 1294 (lsF i) [] τ) (σ : zSt) (h : RR σ) : zX G ad A p l e R s m args below meth c cells slots Z 1015 (lsF i) [] σ := by
  obtain ⟨dx, Qx, hdx, hx, hq⟩ := s_sums σ h (xs (i + 1))
  refine x_aload C (q := 1016) dL_law_1015 rfl rfl rfl ?_
  refine x_arg C X (q := 1021) (j := 1) (by omega) (by decide) dL_law_1016 dL_law_1017 dL_law_1018 dL_law_1019 dL_law_1020 rfl ?_
  refine x_call C (q := 1024) (as := [zi (xs (i + 1))]) (rest := []) hx lk_L_127 (by decide) (by decide) rfl hdx rfl rfl rfl dL_law_1021 rfl (fun r σ1 hr => ?_)
  obtain ⟨a, rfl, hkd, dm, Qm, hdm, hm, hq2⟩ := hq r σ1 hr
  refine x_aload C (q := 1025) dL_law_1024 rfl rfl rfl ?_
  refine x_arg C X (q := 1030) (j := 1) (by omega) (by decide) dL_law_1025 dL_law_1026 dL_law_1027 dL_law_1028 dL_law_1029 rfl ?_
  refine x_call C (q := 1033) (as := [zi (xs (i + 1))]) (rest := [a]) hm lk_L_130 (by decide) (by decide) rfl hdm rfl rfl (zkI hkd) dL_law_1030 rfl (fun r2 σ2 hr2 => ?_)
  obtain ⟨rfl, hR⟩ := hq2 r2 σ2 hr2
  obtain ⟨y, rfl⟩ := zk_i hkd
  exact x_icmp_eq C 1294 dL_law_1033 rfl rfl (E σ2 hR)
theorem law_28 (C : zC mi_L 9 Q G ad A p l e R s m args below meth c cells slots Z) (X : zSc ad A s L xs) {i : Nat} (hi : i + 6 ≤ L) (E : ∀ τ, RR τ → zX G ad A p l e R s m args below meth c cells slots Z 1294 (lsF i) [] τ) (σ : zSt) (h : RR σ) : zX G ad A p l e R s m args below meth c cells slots Z 1038 (lsF i) [] σ := by
  obtain ⟨dx, Qx, hdx, hx, hq⟩ := s_duel σ h (xs (i + 1)) (xs (i + 2))
  refine x_aload C (q := 1039) dL_law_1038 rfl rfl rfl ?_
  refine x_arg C X (q := 1044) (j := 1) (by omega) (by decide) dL_law_1039 dL_law_1040 dL_law_1041 dL_law_1042 dL_law_1043 rfl ?_
  refine x_arg C X (q := 1049) (j := 2) (by omega) (by decide) dL_law_1044 dL_law_1045 dL_law_1046 dL_law_1047 dL_law_1048 rfl ?_
  refine x_call C (q := 1052) (as := [zi (xs (i + 1)), zi (xs (i + 2))]) (rest := []) hx lk_L_131 (by decide) (by decide) rfl hdx rfl rfl rfl dL_law_1049 rfl (fun r σ1 hr => ?_)
  obtain ⟨a, rfl, hkd, dm, Qm, hdm, hm, hq2⟩ := hq r σ1 hr
  refine x_aload C (q := 1053) dL_law_1052 rfl rfl rfl ?_
  refine x_arg C X (q := 1058) (j := 1) (by omega) (by decide) dL_law_1053 dL_law_1054 dL_law_1055 dL_law_1056 dL_law_1057 rfl ?_
  refine x_arg C X (q := 1063) (j := 2) (by omega) (by decide) dL_law_1058 dL_law_1059 dL_law_1060 dL_law_1061 dL_law_1062 rfl ?_
  refine x_call C (q := 1066) (as := [zi (xs (i + 1)), zi (xs (i + 2))]) (rest := [a]) hm lk_L_134 (by decide) (by decide) rfl hdm rfl rfl (zkI hkd) dL_law_1063 rfl (fun r2 σ2 hr2 => ?_)
  obtain ⟨rfl, hR⟩ := hq2 r2 σ2 hr2
  obtain ⟨y, rfl⟩ := zk_i hkd
  exact x_icmp_eq C 1294 dL_law_1066 rfl rfl (E σ2 hR)
theorem law_29 (C : zC mi_L 9 Q G ad A p l e R s m args below meth c cells slots Z) (X : zSc ad A s L xs) {i : Nat} (hi : i + 6 ≤ L) (E : ∀ τ, RR τ → zX G ad A p l e R s m args below meth c cells slots Z 1294 (lsF i) [] τ) (σ : zSt) (h : RR σ) : zX G ad A p l e R s m args below meth c cells slots Z 1071 (lsF i) [] σ := by
  obtain ⟨dx, Qx, hdx, hx, hq⟩ := s_odds σ h (xs (i + 1)) (xs (i + 2)) (xs (i + 3))
  refine x_aload C (q := 1072) dL_law_1071 rfl rfl rfl ?_
  refine x_arg C X (q := 1077) (j := 1) (by omega) (by decide) dL_law_1072 dL_law_1073 dL_law_1074 dL_law_1075 dL_law_1076 rfl ?_
  refine x_arg C X (q := 1082) (j := 2) (by omega) (by decide) dL_law_1077 dL_law_1078 dL_law_1079 dL_law_1080 dL_law_1081 rfl ?_
  refine x_arg C X (q := 1087) (j := 3) (by omega) (by decide) dL_law_1082 dL_law_1083 dL_law_1084 dL_law_1085 dL_law_1086 rfl ?_
  refine x_call C (q := 1090) (as := [zi (xs (i + 1)), zi (xs (i + 2)), zi (xs (i + 3))]) (rest := []) hx lk_L_135 (by decide) (by decide) rfl hdx rfl rfl rfl dL_law_1087 rfl (fun r σ1 hr => ?_)
  obtain ⟨a, rfl, hkd, dm, Qm, hdm, hm, hq2⟩ := hq r σ1 hr
  refine x_aload C (q := 1091) dL_law_1090 rfl rfl rfl ?_
  refine x_arg C X (q := 1096) (j := 1) (by omega) (by decide) dL_law_1091 dL_law_1092 dL_law_1093 dL_law_1094 dL_law_1095 rfl ?_
  refine x_arg C X (q := 1101) (j := 2) (by omega) (by decide) dL_law_1096 dL_law_1097 dL_law_1098 dL_law_1099 dL_law_1100 rfl ?_
  refine x_arg C X (q := 1106) (j := 3) (by omega) (by decide) dL_law_1101 dL_law_1102 dL_law_1103 dL_law_1104 dL_law_1105 rfl ?_
  refine x_call C (q := 1109) (as := [zi (xs (i + 1)), zi (xs (i + 2)), zi (xs (i + 3))]) (rest := [a]) hm lk_L_138 (by decide) (by decide) rfl hdm rfl rfl (zkI hkd) dL_law_1106 rfl (fun r2 σ2 hr2 => ?_)
  obtain ⟨rfl, hR⟩ := hq2 r2 σ2 hr2
  obtain ⟨y, rfl⟩ := zk_i hkd
  exact x_icmp_eq C 1294 dL_law_1109 rfl rfl (E σ2 hR)
theorem law_30 (C : zC mi_L 9 Q G ad A p l e R s m args below meth c cells slots Z) (X : zSc ad A s L xs) {i : Nat} (hi : i + 6 ≤ L) (E : ∀ τ, RR τ → zX G ad A p l e R s m args below meth c cells slots Z 1294 (lsF i) [] τ) (σ : zSt) (h : RR σ) : zX G ad A p l e R s m args below meth c cells slots Z 1114 (lsF i) [] σ := by
  obtain ⟨dx, Qx, hdx, hx, hq⟩ := s_mid σ h (xs (i + 1)) (xs (i + 2))
  refine x_aload C (q := 1115) dL_law_1114 rfl rfl rfl ?_
  refine x_arg C X (q := 1120) (j := 1) (by omega) (by decide) dL_law_1115 dL_law_1116 dL_law_1117 dL_law_1118 dL_law_1119 rfl ?_
  refine x_arg C X (q := 1125) (j := 2) (by omega) (by decide) dL_law_1120 dL_law_1121 dL_law_1122 dL_law_1123 dL_law_1124 rfl ?_
  refine x_call C (q := 1128) (as := [zi (xs (i + 1)), zi (xs (i + 2))]) (rest := []) hx lk_L_139 (by decide) (by decide) rfl hdx rfl rfl rfl dL_law_1125 rfl (fun r σ1 hr => ?_)
  obtain ⟨a, rfl, hkd, dm, Qm, hdm, hm, hq2⟩ := hq r σ1 hr
  refine x_aload C (q := 1129) dL_law_1128 rfl rfl rfl ?_
  refine x_arg C X (q := 1134) (j := 1) (by omega) (by decide) dL_law_1129 dL_law_1130 dL_law_1131 dL_law_1132 dL_law_1133 rfl ?_
  refine x_arg C X (q := 1139) (j := 2) (by omega) (by decide) dL_law_1134 dL_law_1135 dL_law_1136 dL_law_1137 dL_law_1138 rfl ?_
  refine x_call C (q := 1142) (as := [zi (xs (i + 1)), zi (xs (i + 2))]) (rest := [a]) hm lk_L_142 (by decide) (by decide) rfl hdm rfl rfl (zkI hkd) dL_law_1139 rfl (fun r2 σ2 hr2 => ?_)
  obtain ⟨rfl, hR⟩ := hq2 r2 σ2 hr2
  obtain ⟨y, rfl⟩ := zk_i hkd
  exact x_icmp_eq C 1294 dL_law_1142 rfl rfl (E σ2 hR)
theorem law_31 (C : zC mi_L 9 Q G ad A p l e R s m args below meth c cells slots Z) (X : zSc ad A s L xs) {i : Nat} (hi : i + 6 ≤ L) (E : ∀ τ, RR τ → zX G ad A p l e R s m args below meth c cells slots Z 1294 (lsF i) [] τ) (σ : zSt) (h : RR σ) : zX G ad A p l e R s m args below meth c cells slots Z 1147 (lsF i) [] σ := by
  obtain ⟨dx, Qx, hdx, hx, hq⟩ := s_lots σ h (xs (i + 1)) (xs (i + 2))
  refine x_aload C (q := 1148) dL_law_1147 rfl rfl rfl ?_
  refine x_arg C X (q := 1153) (j := 1) (by omega) (by decide) dL_law_1148 dL_law_1149 dL_law_1150 dL_law_1151 dL_law_1152 rfl ?_
  refine x_arg C X (q := 1158) (j := 2) (by omega) (by decide) dL_law_1153 dL_law_1154 dL_law_1155 dL_law_1156 dL_law_1157 rfl ?_
  refine x_call C (q := 1161) (as := [zi (xs (i + 1)), zi (xs (i + 2))]) (rest := []) hx lk_L_143 (by decide) (by decide) rfl hdx rfl rfl rfl dL_law_1158 rfl (fun r σ1 hr => ?_)
  obtain ⟨a, rfl, hkd, dm, Qm, hdm, hm, hq2⟩ := hq r σ1 hr
  refine x_aload C (q := 1162) dL_law_1161 rfl rfl rfl ?_
  refine x_arg C X (q := 1167) (j := 1) (by omega) (by decide) dL_law_1162 dL_law_1163 dL_law_1164 dL_law_1165 dL_law_1166 rfl ?_
  refine x_arg C X (q := 1172) (j := 2) (by omega) (by decide) dL_law_1167 dL_law_1168 dL_law_1169 dL_law_1170 dL_law_1171 rfl ?_
  refine x_call C (q := 1175) (as := [zi (xs (i + 1)), zi (xs (i + 2))]) (rest := [a]) hm lk_L_146 (by decide) (by decide) rfl hdm rfl rfl (zkI hkd) dL_law_1172 rfl (fun r2 σ2 hr2 => ?_)
  obtain ⟨rfl, hR⟩ := hq2 r2 σ2 hr2
  obtain ⟨y, rfl⟩ := zk_i hkd
  exact x_icmp_eq C 1294 dL_law_1175 rfl rfl (E σ2 hR)
theorem law_32 (C : zC mi_L 9 Q G ad A p l e R s m args below meth c cells slots Z) (X : zSc ad A s L xs) {i : Nat} (hi : i + 6 ≤ L) (E : ∀ τ, RR τ → zX G ad A p l e R s m args below meth c cells slots Z 1294 (lsF i) [] τ) (σ : zSt) (h : RR σ) : zX G ad A p l e R s m args below meth c cells slots Z 1180 (lsF i) [] σ := by
  obtain ⟨dx, Qx, hdx, hx, hq⟩ := s_asked σ h
  refine x_aload C (q := 1181) dL_law_1180 rfl rfl rfl ?_
  refine x_call C (q := 1184) (as := []) (rest := []) hx lk_L_147 (by decide) (by decide) rfl hdx rfl rfl rfl dL_law_1181 rfl (fun r σ1 hr => ?_)
  obtain ⟨a, rfl, hkd, dm, Qm, hdm, hm, hq2⟩ := hq r σ1 hr
  refine x_aload C (q := 1185) dL_law_1184 rfl rfl rfl ?_
  refine x_call C (q := 1188) (as := []) (rest := [a]) hm lk_L_150 (by decide) (by decide) rfl hdm rfl rfl (zkI hkd) dL_law_1185 rfl (fun r2 σ2 hr2 => ?_)
  obtain ⟨rfl, hR⟩ := hq2 r2 σ2 hr2
  obtain ⟨y, rfl⟩ := zk_i hkd
  exact x_icmp_eq C 1294 dL_law_1188 rfl rfl (E σ2 hR)
theorem law_33 (C : zC mi_L 9 Q G ad A p l e R s m args below meth c cells slots Z) (X : zSc ad A s L xs) {i : Nat} (hi : i + 6 ≤ L) (E : ∀ τ, RR τ → zX G ad A p l e R s m args below meth c cells slots Z 1294 (lsF i) [] τ) (σ : zSt) (h : RR σ) : zX G ad A p l e R s m args below meth c cells slots Z 1193 (lsF i) [] σ := by
  obtain ⟨dx, Qx, hdx, hx, hq⟩ := s_upper σ h
  refine x_aload C (q := 1194) dL_law_1193 rfl rfl rfl ?_
  refine x_call C (q := 1197) (as := []) (rest := []) hx lk_L_151 (by decide) (by decide) rfl hdx rfl rfl rfl dL_law_1194 rfl (fun r σ1 hr => ?_)
  obtain ⟨a, rfl, hkd, dm, Qm, hdm, hm, hq2⟩ := hq r σ1 hr
  refine x_aload C (q := 1198) dL_law_1197 rfl rfl rfl ?_
  refine x_call C (q := 1201) (as := []) (rest := [a]) hm lk_L_155 (by decide) (by decide) rfl hdm rfl rfl (zkL hkd) dL_law_1198 rfl (fun r2 σ2 hr2 => ?_)
  obtain ⟨rfl, hR⟩ := hq2 r2 σ2 hr2
  obtain ⟨y, rfl⟩ := zk_l hkd
  refine x_lcmp C (q := 1202) dL_law_1201 rfl ?_
  exact x_if_eq C 1294 dL_law_1202 rfl (zcmp0.mpr rfl) (E σ2 hR)
theorem law_34 (C : zC mi_L 9 Q G ad A p l e R s m args below meth c cells slots Z) (X : zSc ad A s L xs) {i : Nat} (hi : i + 6 ≤ L) (E : ∀ τ, RR τ → zX G ad A p l e R s m args below meth c cells slots Z 1294 (lsF i) [] τ) (σ : zSt) (h : RR σ) : zX G ad A p l e R s m args below meth c cells slots Z 1207 (lsF i) [] σ := by
  obtain ⟨dx, Qx, hdx, hx, hq⟩ := s_lower σ h
  refine x_aload C (q := 1208) dL_law_1207 rfl rfl rfl ?_
  refine x_call C (q := 1211) (as := []) (rest := []) hx lk_L_156 (by decide) (by decide) rfl hdx rfl rfl rfl dL_law_1208 rfl (fun r σ1 hr => ?_)
  obtain ⟨a, rfl, hkd, dm, Qm, hdm, hm, hq2⟩ := hq r σ1 hr
  refine x_aload C (q := 1212) dL_law_1211 rfl rfl rfl ?_
  refine x_call C (q := 1215) (as := []) (rest := [a]) hm lk_L_159 (by decide) (by decide) rfl hdm rfl rfl (zkL hkd) dL_law_1212 rfl (fun r2 σ2 hr2 => ?_)
  obtain ⟨rfl, hR⟩ := hq2 r2 σ2 hr2
  obtain ⟨y, rfl⟩ := zk_l hkd
  refine x_lcmp C (q := 1216) dL_law_1215 rfl ?_
  exact x_if_eq C 1294 dL_law_1216 rfl (zcmp0.mpr rfl) (E σ2 hR)
theorem law_35 (C : zC mi_L 9 Q G ad A p l e R s m args below meth c cells slots Z) (X : zSc ad A s L xs) {i : Nat} (hi : i + 6 ≤ L) (E : ∀ τ, RR τ → zX G ad A p l e R s m args below meth c cells slots Z 1294 (lsF i) [] τ) (σ : zSt) (h : RR σ) : zX G ad A p l e R s m args below meth c cells slots Z 1221 (lsF i) [] σ := by
  obtain ⟨dx, Qx, hdx, hx, hq⟩ := s_count σ h (xs (i + 1))
  refine x_aload C (q := 1222) dL_law_1221 rfl rfl rfl ?_
  refine x_arg C X (q := 1227) (j := 1) (by omega) (by decide) dL_law_1222 dL_law_1223 dL_law_1224 dL_law_1225 dL_law_1226 rfl ?_
  refine x_call C (q := 1230) (as := [zi (xs (i + 1))]) (rest := []) hx lk_L_160 (by decide) (by decide) rfl hdx rfl rfl rfl dL_law_1227 rfl (fun r σ1 hr => ?_)
  obtain ⟨a, rfl, hkd, dm, Qm, hdm, hm, hq2⟩ := hq r σ1 hr
  refine x_aload C (q := 1231) dL_law_1230 rfl rfl rfl ?_
  refine x_arg C X (q := 1236) (j := 1) (by omega) (by decide) dL_law_1231 dL_law_1232 dL_law_1233 dL_law_1234 dL_law_1235 rfl ?_
  refine x_call C (q := 1239) (as := [zi (xs (i + 1))]) (rest := [a]) hm lk_L_163 (by decide) (by decide) rfl hdm rfl rfl (zkI hkd) dL_law_1236 rfl (fun r2 σ2 hr2 => ?_)
  obtain ⟨rfl, hR⟩ := hq2 r2 σ2 hr2
  obtain ⟨y, rfl⟩ := zk_i hkd
  exact x_icmp_eq C 1294 dL_law_1239 rfl rfl (E σ2 hR)
theorem law_36 (C : zC mi_L 9 Q G ad A p l e R s m args below meth c cells slots Z) (X : zSc ad A s L xs) {i : Nat} (hi : i + 6 ≤ L) (E : ∀ τ, RR τ → zX G ad A p l e R s m args below meth c cells slots Z 1294 (lsF i) [] τ) (σ : zSt) (h : RR σ) : zX G ad A p l e R s m args below meth c cells slots Z 1244 (lsF i) [] σ := by
  obtain ⟨dx, Qx, hdx, hx, hq⟩ := s_finding σ h
  refine x_aload C (q := 1245) dL_law_1244 rfl rfl rfl ?_
  refine x_call C (q := 1248) (as := []) (rest := []) hx lk_L_164 (by decide) (by decide) rfl hdx rfl rfl rfl dL_law_1245 rfl (fun r σ1 hr => ?_)
  obtain ⟨a, rfl, hkd, dm, Qm, hdm, hm, hq2⟩ := hq r σ1 hr
  refine x_aload C (q := 1249) dL_law_1248 rfl rfl rfl ?_
  refine x_call C (q := 1252) (as := []) (rest := [a]) hm lk_L_167 (by decide) (by decide) rfl hdm rfl rfl (zkI hkd) dL_law_1249 rfl (fun r2 σ2 hr2 => ?_)
  obtain ⟨rfl, hR⟩ := hq2 r2 σ2 hr2
  obtain ⟨y, rfl⟩ := zk_i hkd
  exact x_icmp_eq C 1294 dL_law_1252 rfl rfl (E σ2 hR)
theorem law_37 (C : zC mi_L 9 Q G ad A p l e R s m args below meth c cells slots Z) (X : zSc ad A s L xs) {i : Nat} (hi : i + 6 ≤ L) (E : ∀ τ, RR τ → zX G ad A p l e R s m args below meth c cells slots Z 1294 (lsF i) [] τ) (σ : zSt) (h : RR σ) : zX G ad A p l e R s m args below meth c cells slots Z 1257 (lsF i) [] σ := by
  obtain ⟨dx, Qx, hdx, hx, hq⟩ := s_findings σ h (xs (i + 1))
  refine x_aload C (q := 1258) dL_law_1257 rfl rfl rfl ?_
  refine x_arg C X (q := 1263) (j := 1) (by omega) (by decide) dL_law_1258 dL_law_1259 dL_law_1260 dL_law_1261 dL_law_1262 rfl ?_
  refine x_call C (q := 1266) (as := [zi (xs (i + 1))]) (rest := []) hx lk_L_168 (by decide) (by decide) rfl hdx rfl rfl rfl dL_law_1263 rfl (fun r σ1 hr => ?_)
  obtain ⟨a, rfl, hkd, dm, Qm, hdm, hm, hq2⟩ := hq r σ1 hr
  refine x_aload C (q := 1267) dL_law_1266 rfl rfl rfl ?_
  refine x_arg C X (q := 1272) (j := 1) (by omega) (by decide) dL_law_1267 dL_law_1268 dL_law_1269 dL_law_1270 dL_law_1271 rfl ?_
  refine x_call C (q := 1275) (as := [zi (xs (i + 1))]) (rest := [a]) hm lk_L_171 (by decide) (by decide) rfl hdm rfl rfl (zkI hkd) dL_law_1272 rfl (fun r2 σ2 hr2 => ?_)
  obtain ⟨rfl, hR⟩ := hq2 r2 σ2 hr2
  obtain ⟨y, rfl⟩ := zk_i hkd
  exact x_icmp_eq C 1294 dL_law_1275 rfl rfl (E σ2 hR)
theorem law_38 (C : zC mi_L 9 Q G ad A p l e R s m args below meth c cells slots Z) (X : zSc ad A s L xs) {i : Nat} (hi : i + 6 ≤ L) (E : ∀ τ, RR τ → zX G ad A p l e R s m args below meth c cells slots Z 1294 (lsF i) [] τ) (σ : zSt) (h : RR σ) : zX G ad A p l e R s m args below meth c cells slots Z 1280 (lsF i) [] σ := by
  obtain ⟨dx, Qx, hdx, hx, hq⟩ := s_digest σ h
  refine x_aload C (q := 1281) dL_law_1280 rfl rfl rfl ?_
  refine x_call C (q := 1284) (as := []) (rest := []) hx lk_L_172 (by decide) (by decide) rfl hdx rfl rfl rfl dL_law_1281 rfl (fun r σ1 hr => ?_)
  obtain ⟨a, rfl, hkd, dm, Qm, hdm, hm, hq2⟩ := hq r σ1 hr
  refine x_aload C (q := 1285) dL_law_1284 rfl rfl rfl ?_
  refine x_call C (q := 1288) (as := []) (rest := [a]) hm lk_L_175 (by decide) (by decide) rfl hdm rfl rfl (zkL hkd) dL_law_1285 rfl (fun r2 σ2 hr2 => ?_)
  obtain ⟨rfl, hR⟩ := hq2 r2 σ2 hr2
  obtain ⟨y, rfl⟩ := zk_l hkd
  refine x_lcmp C (q := 1289) dL_law_1288 rfl ?_
  exact x_if_eq C 1294 dL_law_1289 rfl (zcmp0.mpr rfl) (E σ2 hR)
end

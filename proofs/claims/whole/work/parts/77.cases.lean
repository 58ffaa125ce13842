section M77
variable {L i : Nat} {xs : Nat → Int32} {mu : Mem} {lm : MemL}
/-- the law at pc, at place i of the script -/
def lwM (L : Nat) (xs : Nat → Int32) (i pc : Nat) (mu : Mem) (lm : MemL) : Prop := zk_M 21 RL cL_law 4 ret (some (L, xs)) pc [.ref 99, .ref 0, .ref 46, .int (nI i)] [] mu lm (fun r _ _ => r = some (.int 1))
theorem lc_0 (hL : L ≤ 384) (hi : i + 6 ≤ L) (h : zInv mu lm) (nx : ∀ mu' lm', zInv mu' lm' → lwM L xs i 1513 mu' lm') : lwM L xs i 232 mu lm := by
  unfold lwM
  refine zk_aload_n (pc := 232) 1 dL_law_232 rfl rfl ?_
  refine zk_aload_n (pc := 233) 0 dL_law_233 rfl rfl ?_
  refine zk_iload_n (pc := 234) 3 dL_law_234 rfl rfl ?_
  refine zk_iconst (pc := 235) (v := 1) dL_law_235 (by decide) ?_
  refine zk_iadd (pc := 236) dL_law_236 ?_
  refine zk_sload (pc := 237) (i + 1) dL_law_237 rfl (nI_add i 1) (by omega) (by omega) ?_
  refine zk_aload_n (pc := 238) 0 dL_law_238 rfl rfl ?_
  refine zk_iload_n (pc := 239) 3 dL_law_239 rfl rfl ?_
  refine zk_iconst (pc := 240) (v := 2) dL_law_240 (by decide) ?_
  refine zk_iadd (pc := 241) dL_law_241 ?_
  refine zk_sload (pc := 242) (i + 2) dL_law_242 rfl (nI_add i 2) (by omega) (by omega) ?_
  refine zk_callV (pc := 243) dL_law_243 mtX7_row lkL_13 stX7_row (b := 0) (by rfl) (by rfl) [_, _] _ rfl rfl (Nat.le_of_ble_eq_true rfl) (Nat.le_of_ble_eq_true rfl) (bo_row h _ _) (fun r m1 l1 q => ?_)
  obtain ⟨v, rfl, hm⟩ := q
  refine zk_aload_n (pc := 246) 2 dL_law_246 rfl rfl ?_
  refine zk_aload_n (pc := 247) 0 dL_law_247 rfl rfl ?_
  refine zk_iload_n (pc := 248) 3 dL_law_248 rfl rfl ?_
  refine zk_iconst (pc := 249) (v := 1) dL_law_249 (by decide) ?_
  refine zk_iadd (pc := 250) dL_law_250 ?_
  refine zk_sload (pc := 251) (i + 1) dL_law_251 rfl (nI_add i 1) (by omega) (by omega) ?_
  refine zk_aload_n (pc := 252) 0 dL_law_252 rfl rfl ?_
  refine zk_iload_n (pc := 253) 3 dL_law_253 rfl rfl ?_
  refine zk_iconst (pc := 254) (v := 2) dL_law_254 (by decide) ?_
  refine zk_iadd (pc := 255) dL_law_255 ?_
  refine zk_sload (pc := 256) (i + 2) dL_law_256 rfl (nI_add i 2) (by omega) (by omega) ?_
  refine zk_callV (pc := 257) dL_law_257 mtX8_row lkL_17 stX8_row (b := 46) (by rfl) (by rfl) [_, _] _ rfl rfl (Nat.le_of_ble_eq_true rfl) (Nat.le_of_ble_eq_true rfl) hm (fun r m2 l2 q => ?_)
  obtain ⟨rfl, hq⟩ := q
  exact zk_icmp_eq (pc := 260) 1513 dL_law_260 (by decide) (fun _ => nx _ _ hq) (fun z => absurd rfl z)
theorem lc_1 (hL : L ≤ 384) (hi : i + 6 ≤ L) (h : zInv mu lm) (nx : ∀ mu' lm', zInv mu' lm' → lwM L xs i 1513 mu' lm') : lwM L xs i 265 mu lm := by
  unfold lwM
  refine zk_aload_n (pc := 265) 1 dL_law_265 rfl rfl ?_
  refine zk_aload_n (pc := 266) 0 dL_law_266 rfl rfl ?_
  refine zk_iload_n (pc := 267) 3 dL_law_267 rfl rfl ?_
  refine zk_iconst (pc := 268) (v := 1) dL_law_268 (by decide) ?_
  refine zk_iadd (pc := 269) dL_law_269 ?_
  refine zk_sload (pc := 270) (i + 1) dL_law_270 rfl (nI_add i 1) (by omega) (by omega) ?_
  refine zk_aload_n (pc := 271) 0 dL_law_271 rfl rfl ?_
  refine zk_iload_n (pc := 272) 3 dL_law_272 rfl rfl ?_
  refine zk_iconst (pc := 273) (v := 2) dL_law_273 (by decide) ?_
  refine zk_iadd (pc := 274) dL_law_274 ?_
  refine zk_sload (pc := 275) (i + 2) dL_law_275 rfl (nI_add i 2) (by omega) (by omega) ?_
  refine zk_aload_n (pc := 276) 0 dL_law_276 rfl rfl ?_
  refine zk_iload_n (pc := 277) 3 dL_law_277 rfl rfl ?_
  refine zk_iconst (pc := 278) (v := 3) dL_law_278 (by decide) ?_
  refine zk_iadd (pc := 279) dL_law_279 ?_
  refine zk_sload (pc := 280) (i + 3) dL_law_280 rfl (nI_add i 3) (by omega) (by omega) ?_
  refine zk_callV (pc := 281) dL_law_281 mtX7_lay lkL_18 stX7_lay (b := 0) (by rfl) (by rfl) [_, _, _] _ rfl rfl (Nat.le_of_ble_eq_true rfl) (Nat.le_of_ble_eq_true rfl) (bo_lay h _ _ _) (fun r m1 l1 q => ?_)
  obtain ⟨v, rfl, hm⟩ := q
  refine zk_aload_n (pc := 284) 2 dL_law_284 rfl rfl ?_
  refine zk_aload_n (pc := 285) 0 dL_law_285 rfl rfl ?_
  refine zk_iload_n (pc := 286) 3 dL_law_286 rfl rfl ?_
  refine zk_iconst (pc := 287) (v := 1) dL_law_287 (by decide) ?_
  refine zk_iadd (pc := 288) dL_law_288 ?_
  refine zk_sload (pc := 289) (i + 1) dL_law_289 rfl (nI_add i 1) (by omega) (by omega) ?_
  refine zk_aload_n (pc := 290) 0 dL_law_290 rfl rfl ?_
  refine zk_iload_n (pc := 291) 3 dL_law_291 rfl rfl ?_
  refine zk_iconst (pc := 292) (v := 2) dL_law_292 (by decide) ?_
  refine zk_iadd (pc := 293) dL_law_293 ?_
  refine zk_sload (pc := 294) (i + 2) dL_law_294 rfl (nI_add i 2) (by omega) (by omega) ?_
  refine zk_aload_n (pc := 295) 0 dL_law_295 rfl rfl ?_
  refine zk_iload_n (pc := 296) 3 dL_law_296 rfl rfl ?_
  refine zk_iconst (pc := 297) (v := 3) dL_law_297 (by decide) ?_
  refine zk_iadd (pc := 298) dL_law_298 ?_
  refine zk_sload (pc := 299) (i + 3) dL_law_299 rfl (nI_add i 3) (by omega) (by omega) ?_
  refine zk_callV (pc := 300) dL_law_300 mtX8_lay lkL_22 stX8_lay (b := 46) (by rfl) (by rfl) [_, _, _] _ rfl rfl (Nat.le_of_ble_eq_true rfl) (Nat.le_of_ble_eq_true rfl) hm (fun r m2 l2 q => ?_)
  obtain ⟨rfl, hq⟩ := q
  exact zk_icmp_eq (pc := 303) 1513 dL_law_303 (by decide) (fun _ => nx _ _ hq) (fun z => absurd rfl z)
theorem lc_2 (hL : L ≤ 384) (hi : i + 6 ≤ L) (h : zInv mu lm) (nx : ∀ mu' lm', zInv mu' lm' → lwM L xs i 1513 mu' lm') : lwM L xs i 308 mu lm := by
  unfold lwM
  refine zk_aload_n (pc := 308) 1 dL_law_308 rfl rfl ?_
  refine zk_aload_n (pc := 309) 0 dL_law_309 rfl rfl ?_
  refine zk_iload_n (pc := 310) 3 dL_law_310 rfl rfl ?_
  refine zk_iconst (pc := 311) (v := 1) dL_law_311 (by decide) ?_
  refine zk_iadd (pc := 312) dL_law_312 ?_
  refine zk_sload (pc := 313) (i + 1) dL_law_313 rfl (nI_add i 1) (by omega) (by omega) ?_
  refine zk_aload_n (pc := 314) 0 dL_law_314 rfl rfl ?_
  refine zk_iload_n (pc := 315) 3 dL_law_315 rfl rfl ?_
  refine zk_iconst (pc := 316) (v := 2) dL_law_316 (by decide) ?_
  refine zk_iadd (pc := 317) dL_law_317 ?_
  refine zk_sload (pc := 318) (i + 2) dL_law_318 rfl (nI_add i 2) (by omega) (by omega) ?_
  refine zk_callV (pc := 319) dL_law_319 mtX7_at lkL_23 stX7_at (b := 0) (by rfl) (by rfl) [_, _] _ rfl rfl (Nat.le_of_ble_eq_true rfl) (Nat.le_of_ble_eq_true rfl) (bo_at h _ _) (fun r m1 l1 q => ?_)
  obtain ⟨v, rfl, hm⟩ := q
  refine zk_aload_n (pc := 322) 2 dL_law_322 rfl rfl ?_
  refine zk_aload_n (pc := 323) 0 dL_law_323 rfl rfl ?_
  refine zk_iload_n (pc := 324) 3 dL_law_324 rfl rfl ?_
  refine zk_iconst (pc := 325) (v := 1) dL_law_325 (by decide) ?_
  refine zk_iadd (pc := 326) dL_law_326 ?_
  refine zk_sload (pc := 327) (i + 1) dL_law_327 rfl (nI_add i 1) (by omega) (by omega) ?_
  refine zk_aload_n (pc := 328) 0 dL_law_328 rfl rfl ?_
  refine zk_iload_n (pc := 329) 3 dL_law_329 rfl rfl ?_
  refine zk_iconst (pc := 330) (v := 2) dL_law_330 (by decide) ?_
  refine zk_iadd (pc := 331) dL_law_331 ?_
  refine zk_sload (pc := 332) (i + 2) dL_law_332 rfl (nI_add i 2) (by omega) (by omega) ?_
  refine zk_callV (pc := 333) dL_law_333 mtX8_at lkL_26 stX8_at (b := 46) (by rfl) (by rfl) [_, _] _ rfl rfl (Nat.le_of_ble_eq_true rfl) (Nat.le_of_ble_eq_true rfl) hm (fun r m2 l2 q => ?_)
  obtain ⟨rfl, hq⟩ := q
  exact zk_icmp_eq (pc := 336) 1513 dL_law_336 (by decide) (fun _ => nx _ _ hq) (fun z => absurd rfl z)
theorem lc_3 (hL : L ≤ 384) (hi : i + 6 ≤ L) (h : zInv mu lm) (nx : ∀ mu' lm', zInv mu' lm' → lwM L xs i 1513 mu' lm') : lwM L xs i 341 mu lm := by
  unfold lwM
  refine zk_aload_n (pc := 341) 1 dL_law_341 rfl rfl ?_
  refine zk_aload_n (pc := 342) 0 dL_law_342 rfl rfl ?_
  refine zk_iload_n (pc := 343) 3 dL_law_343 rfl rfl ?_
  refine zk_iconst (pc := 344) (v := 1) dL_law_344 (by decide) ?_
  refine zk_iadd (pc := 345) dL_law_345 ?_
  refine zk_sload (pc := 346) (i + 1) dL_law_346 rfl (nI_add i 1) (by omega) (by omega) ?_
  refine zk_callV (pc := 347) dL_law_347 mtX7_tear lkL_27 stX7_tear (b := 0) (by rfl) (by rfl) [_] _ rfl rfl (Nat.le_of_ble_eq_true rfl) (Nat.le_of_ble_eq_true rfl) (bo_tear h _) (fun r m1 l1 q => ?_)
  obtain ⟨v, rfl, hm⟩ := q
  refine zk_aload_n (pc := 350) 2 dL_law_350 rfl rfl ?_
  refine zk_aload_n (pc := 351) 0 dL_law_351 rfl rfl ?_
  refine zk_iload_n (pc := 352) 3 dL_law_352 rfl rfl ?_
  refine zk_iconst (pc := 353) (v := 1) dL_law_353 (by decide) ?_
  refine zk_iadd (pc := 354) dL_law_354 ?_
  refine zk_sload (pc := 355) (i + 1) dL_law_355 rfl (nI_add i 1) (by omega) (by omega) ?_
  refine zk_callV (pc := 356) dL_law_356 mtX8_tear lkL_31 stX8_tear (b := 46) (by rfl) (by rfl) [_] _ rfl rfl (Nat.le_of_ble_eq_true rfl) (Nat.le_of_ble_eq_true rfl) hm (fun r m2 l2 q => ?_)
  obtain ⟨rfl, hq⟩ := q
  exact zk_icmp_eq (pc := 359) 1513 dL_law_359 (by decide) (fun _ => nx _ _ hq) (fun z => absurd rfl z)
theorem lc_4 (hL : L ≤ 384) (hi : i + 6 ≤ L) (h : zInv mu lm) (nx : ∀ mu' lm', zInv mu' lm' → lwM L xs i 1513 mu' lm') : lwM L xs i 364 mu lm := by
  unfold lwM
  refine zk_aload_n (pc := 364) 1 dL_law_364 rfl rfl ?_
  refine zk_aload_n (pc := 365) 0 dL_law_365 rfl rfl ?_
  refine zk_iload_n (pc := 366) 3 dL_law_366 rfl rfl ?_
  refine zk_iconst (pc := 367) (v := 1) dL_law_367 (by decide) ?_
  refine zk_iadd (pc := 368) dL_law_368 ?_
  refine zk_sload (pc := 369) (i + 1) dL_law_369 rfl (nI_add i 1) (by omega) (by omega) ?_
  refine zk_aload_n (pc := 370) 0 dL_law_370 rfl rfl ?_
  refine zk_iload_n (pc := 371) 3 dL_law_371 rfl rfl ?_
  refine zk_iconst (pc := 372) (v := 2) dL_law_372 (by decide) ?_
  refine zk_iadd (pc := 373) dL_law_373 ?_
  refine zk_sload (pc := 374) (i + 2) dL_law_374 rfl (nI_add i 2) (by omega) (by omega) ?_
  refine zk_aload_n (pc := 375) 0 dL_law_375 rfl rfl ?_
  refine zk_iload_n (pc := 376) 3 dL_law_376 rfl rfl ?_
  refine zk_iconst (pc := 377) (v := 3) dL_law_377 (by decide) ?_
  refine zk_iadd (pc := 378) dL_law_378 ?_
  refine zk_sload (pc := 379) (i + 3) dL_law_379 rfl (nI_add i 3) (by omega) (by omega) ?_
  refine zk_aload_n (pc := 380) 0 dL_law_380 rfl rfl ?_
  refine zk_iload_n (pc := 381) 3 dL_law_381 rfl rfl ?_
  refine zk_iconst (pc := 382) (v := 4) dL_law_382 (by decide) ?_
  refine zk_iadd (pc := 383) dL_law_383 ?_
  refine zk_sload (pc := 384) (i + 4) dL_law_384 rfl (nI_add i 4) (by omega) (by omega) ?_
  refine zk_aload_n (pc := 385) 0 dL_law_385 rfl rfl ?_
  refine zk_iload_n (pc := 386) 3 dL_law_386 rfl rfl ?_
  refine zk_iconst (pc := 387) (v := 5) dL_law_387 (by decide) ?_
  refine zk_iadd (pc := 388) dL_law_388 ?_
  refine zk_sload (pc := 389) (i + 5) dL_law_389 rfl (nI_add i 5) (by omega) (by omega) ?_
  refine zk_callV (pc := 390) dL_law_390 mtX7_copy lkL_32 stX7_copy (b := 0) (by rfl) (by rfl) [_, _, _, _, _] _ rfl rfl (Nat.le_of_ble_eq_true rfl) (Nat.le_of_ble_eq_true rfl) (bo_copy h _ _ _ _ _) (fun r m1 l1 q => ?_)
  obtain ⟨v, rfl, hm⟩ := q
  refine zk_aload_n (pc := 393) 2 dL_law_393 rfl rfl ?_
  refine zk_aload_n (pc := 394) 0 dL_law_394 rfl rfl ?_
  refine zk_iload_n (pc := 395) 3 dL_law_395 rfl rfl ?_
  refine zk_iconst (pc := 396) (v := 1) dL_law_396 (by decide) ?_
  refine zk_iadd (pc := 397) dL_law_397 ?_
  refine zk_sload (pc := 398) (i + 1) dL_law_398 rfl (nI_add i 1) (by omega) (by omega) ?_
  refine zk_aload_n (pc := 399) 0 dL_law_399 rfl rfl ?_
  refine zk_iload_n (pc := 400) 3 dL_law_400 rfl rfl ?_
  refine zk_iconst (pc := 401) (v := 2) dL_law_401 (by decide) ?_
  refine zk_iadd (pc := 402) dL_law_402 ?_
  refine zk_sload (pc := 403) (i + 2) dL_law_403 rfl (nI_add i 2) (by omega) (by omega) ?_
  refine zk_aload_n (pc := 404) 0 dL_law_404 rfl rfl ?_
  refine zk_iload_n (pc := 405) 3 dL_law_405 rfl rfl ?_
  refine zk_iconst (pc := 406) (v := 3) dL_law_406 (by decide) ?_
  refine zk_iadd (pc := 407) dL_law_407 ?_
  refine zk_sload (pc := 408) (i + 3) dL_law_408 rfl (nI_add i 3) (by omega) (by omega) ?_
  refine zk_aload_n (pc := 409) 0 dL_law_409 rfl rfl ?_
  refine zk_iload_n (pc := 410) 3 dL_law_410 rfl rfl ?_
  refine zk_iconst (pc := 411) (v := 4) dL_law_411 (by decide) ?_
  refine zk_iadd (pc := 412) dL_law_412 ?_
  refine zk_sload (pc := 413) (i + 4) dL_law_413 rfl (nI_add i 4) (by omega) (by omega) ?_
  refine zk_aload_n (pc := 414) 0 dL_law_414 rfl rfl ?_
  refine zk_iload_n (pc := 415) 3 dL_law_415 rfl rfl ?_
  refine zk_iconst (pc := 416) (v := 5) dL_law_416 (by decide) ?_
  refine zk_iadd (pc := 417) dL_law_417 ?_
  refine zk_sload (pc := 418) (i + 5) dL_law_418 rfl (nI_add i 5) (by omega) (by omega) ?_
  refine zk_callV (pc := 419) dL_law_419 mtX8_copy lkL_36 stX8_copy (b := 46) (by rfl) (by rfl) [_, _, _, _, _] _ rfl rfl (Nat.le_of_ble_eq_true rfl) (Nat.le_of_ble_eq_true rfl) hm (fun r m2 l2 q => ?_)
  obtain ⟨rfl, hq⟩ := q
  exact zk_icmp_eq (pc := 422) 1513 dL_law_422 (by decide) (fun _ => nx _ _ hq) (fun z => absurd rfl z)
theorem lc_5 (hL : L ≤ 384) (hi : i + 6 ≤ L) (h : zInv mu lm) (nx : ∀ mu' lm', zInv mu' lm' → lwM L xs i 1513 mu' lm') : lwM L xs i 427 mu lm := by
  unfold lwM
  refine zk_aload_n (pc := 427) 1 dL_law_427 rfl rfl ?_
  refine zk_aload_n (pc := 428) 0 dL_law_428 rfl rfl ?_
  refine zk_iload_n (pc := 429) 3 dL_law_429 rfl rfl ?_
  refine zk_iconst (pc := 430) (v := 1) dL_law_430 (by decide) ?_
  refine zk_iadd (pc := 431) dL_law_431 ?_
  refine zk_sload (pc := 432) (i + 1) dL_law_432 rfl (nI_add i 1) (by omega) (by omega) ?_
  refine zk_callV (pc := 433) dL_law_433 mtX7_mean lkL_37 stX7_mean (b := 0) (by rfl) (by rfl) [_] _ rfl rfl (Nat.le_of_ble_eq_true rfl) (Nat.le_of_ble_eq_true rfl) (bo_mean h _) (fun r m1 l1 q => ?_)
  obtain ⟨v, rfl, hm⟩ := q
  refine zk_aload_n (pc := 436) 2 dL_law_436 rfl rfl ?_
  refine zk_aload_n (pc := 437) 0 dL_law_437 rfl rfl ?_
  refine zk_iload_n (pc := 438) 3 dL_law_438 rfl rfl ?_
  refine zk_iconst (pc := 439) (v := 1) dL_law_439 (by decide) ?_
  refine zk_iadd (pc := 440) dL_law_440 ?_
  refine zk_sload (pc := 441) (i + 1) dL_law_441 rfl (nI_add i 1) (by omega) (by omega) ?_
  refine zk_callV (pc := 442) dL_law_442 mtX8_mean lkL_40 stX8_mean (b := 46) (by rfl) (by rfl) [_] _ rfl rfl (Nat.le_of_ble_eq_true rfl) (Nat.le_of_ble_eq_true rfl) hm (fun r m2 l2 q => ?_)
  obtain ⟨rfl, hq⟩ := q
  exact zk_icmp_eq (pc := 445) 1513 dL_law_445 (by decide) (fun _ => nx _ _ hq) (fun z => absurd rfl z)
theorem lc_6 (hL : L ≤ 384) (hi : i + 6 ≤ L) (h : zInv mu lm) (nx : ∀ mu' lm', zInv mu' lm' → lwM L xs i 1513 mu' lm') : lwM L xs i 450 mu lm := by
  unfold lwM
  refine zk_aload_n (pc := 450) 1 dL_law_450 rfl rfl ?_
  refine zk_aload_n (pc := 451) 0 dL_law_451 rfl rfl ?_
  refine zk_iload_n (pc := 452) 3 dL_law_452 rfl rfl ?_
  refine zk_iconst (pc := 453) (v := 1) dL_law_453 (by decide) ?_
  refine zk_iadd (pc := 454) dL_law_454 ?_
  refine zk_sload (pc := 455) (i + 1) dL_law_455 rfl (nI_add i 1) (by omega) (by omega) ?_
  refine zk_aload_n (pc := 456) 0 dL_law_456 rfl rfl ?_
  refine zk_iload_n (pc := 457) 3 dL_law_457 rfl rfl ?_
  refine zk_iconst (pc := 458) (v := 2) dL_law_458 (by decide) ?_
  refine zk_iadd (pc := 459) dL_law_459 ?_
  refine zk_sload (pc := 460) (i + 2) dL_law_460 rfl (nI_add i 2) (by omega) (by omega) ?_
  refine zk_callV (pc := 461) dL_law_461 mtX7_text lkL_41 stX7_text (b := 0) (by rfl) (by rfl) [_, _] _ rfl rfl (Nat.le_of_ble_eq_true rfl) (Nat.le_of_ble_eq_true rfl) (bo_text h _ _) (fun r m1 l1 q => ?_)
  obtain ⟨v, rfl, hm⟩ := q
  refine zk_aload_n (pc := 464) 2 dL_law_464 rfl rfl ?_
  refine zk_aload_n (pc := 465) 0 dL_law_465 rfl rfl ?_
  refine zk_iload_n (pc := 466) 3 dL_law_466 rfl rfl ?_
  refine zk_iconst (pc := 467) (v := 1) dL_law_467 (by decide) ?_
  refine zk_iadd (pc := 468) dL_law_468 ?_
  refine zk_sload (pc := 469) (i + 1) dL_law_469 rfl (nI_add i 1) (by omega) (by omega) ?_
  refine zk_aload_n (pc := 470) 0 dL_law_470 rfl rfl ?_
  refine zk_iload_n (pc := 471) 3 dL_law_471 rfl rfl ?_
  refine zk_iconst (pc := 472) (v := 2) dL_law_472 (by decide) ?_
  refine zk_iadd (pc := 473) dL_law_473 ?_
  refine zk_sload (pc := 474) (i + 2) dL_law_474 rfl (nI_add i 2) (by omega) (by omega) ?_
  refine zk_callV (pc := 475) dL_law_475 mtX8_text lkL_44 stX8_text (b := 46) (by rfl) (by rfl) [_, _] _ rfl rfl (Nat.le_of_ble_eq_true rfl) (Nat.le_of_ble_eq_true rfl) hm (fun r m2 l2 q => ?_)
  obtain ⟨rfl, hq⟩ := q
  exact zk_icmp_eq (pc := 478) 1513 dL_law_478 (by decide) (fun _ => nx _ _ hq) (fun z => absurd rfl z)
theorem lc_7 (hL : L ≤ 384) (hi : i + 6 ≤ L) (h : zInv mu lm) (nx : ∀ mu' lm', zInv mu' lm' → lwM L xs i 1513 mu' lm') : lwM L xs i 483 mu lm := by
  unfold lwM
  refine zk_aload_n (pc := 483) 1 dL_law_483 rfl rfl ?_
  refine zk_aload_n (pc := 484) 0 dL_law_484 rfl rfl ?_
  refine zk_iload_n (pc := 485) 3 dL_law_485 rfl rfl ?_
  refine zk_iconst (pc := 486) (v := 1) dL_law_486 (by decide) ?_
  refine zk_iadd (pc := 487) dL_law_487 ?_
  refine zk_sload (pc := 488) (i + 1) dL_law_488 rfl (nI_add i 1) (by omega) (by omega) ?_
  refine zk_aload_n (pc := 489) 0 dL_law_489 rfl rfl ?_
  refine zk_iload_n (pc := 490) 3 dL_law_490 rfl rfl ?_
  refine zk_iconst (pc := 491) (v := 2) dL_law_491 (by decide) ?_
  refine zk_iadd (pc := 492) dL_law_492 ?_
  refine zk_sload (pc := 493) (i + 2) dL_law_493 rfl (nI_add i 2) (by omega) (by omega) ?_
  refine zk_aload_n (pc := 494) 0 dL_law_494 rfl rfl ?_
  refine zk_iload_n (pc := 495) 3 dL_law_495 rfl rfl ?_
  refine zk_iconst (pc := 496) (v := 3) dL_law_496 (by decide) ?_
  refine zk_iadd (pc := 497) dL_law_497 ?_
  refine zk_sload (pc := 498) (i + 3) dL_law_498 rfl (nI_add i 3) (by omega) (by omega) ?_
  refine zk_callV (pc := 499) dL_law_499 mtX7_put lkL_45 stX7_put (b := 0) (by rfl) (by rfl) [_, _, _] _ rfl rfl (Nat.le_of_ble_eq_true rfl) (Nat.le_of_ble_eq_true rfl) (bo_put h _ _ _) (fun r m1 l1 q => ?_)
  obtain ⟨v, rfl, hm⟩ := q
  refine zk_aload_n (pc := 502) 2 dL_law_502 rfl rfl ?_
  refine zk_aload_n (pc := 503) 0 dL_law_503 rfl rfl ?_
  refine zk_iload_n (pc := 504) 3 dL_law_504 rfl rfl ?_
  refine zk_iconst (pc := 505) (v := 1) dL_law_505 (by decide) ?_
  refine zk_iadd (pc := 506) dL_law_506 ?_
  refine zk_sload (pc := 507) (i + 1) dL_law_507 rfl (nI_add i 1) (by omega) (by omega) ?_
  refine zk_aload_n (pc := 508) 0 dL_law_508 rfl rfl ?_
  refine zk_iload_n (pc := 509) 3 dL_law_509 rfl rfl ?_
  refine zk_iconst (pc := 510) (v := 2) dL_law_510 (by decide) ?_
  refine zk_iadd (pc := 511) dL_law_511 ?_
  refine zk_sload (pc := 512) (i + 2) dL_law_512 rfl (nI_add i 2) (by omega) (by omega) ?_
  refine zk_aload_n (pc := 513) 0 dL_law_513 rfl rfl ?_
  refine zk_iload_n (pc := 514) 3 dL_law_514 rfl rfl ?_
  refine zk_iconst (pc := 515) (v := 3) dL_law_515 (by decide) ?_
  refine zk_iadd (pc := 516) dL_law_516 ?_
  refine zk_sload (pc := 517) (i + 3) dL_law_517 rfl (nI_add i 3) (by omega) (by omega) ?_
  refine zk_callV (pc := 518) dL_law_518 mtX8_put lkL_48 stX8_put (b := 46) (by rfl) (by rfl) [_, _, _] _ rfl rfl (Nat.le_of_ble_eq_true rfl) (Nat.le_of_ble_eq_true rfl) hm (fun r m2 l2 q => ?_)
  obtain ⟨rfl, hq⟩ := q
  exact zk_icmp_eq (pc := 521) 1513 dL_law_521 (by decide) (fun _ => nx _ _ hq) (fun z => absurd rfl z)
theorem lc_8 (hL : L ≤ 384) (hi : i + 6 ≤ L) (h : zInv mu lm) (nx : ∀ mu' lm', zInv mu' lm' → lwM L xs i 1513 mu' lm') : lwM L xs i 526 mu lm := by
  unfold lwM
  refine zk_aload_n (pc := 526) 1 dL_law_526 rfl rfl ?_
  refine zk_aload_n (pc := 527) 0 dL_law_527 rfl rfl ?_
  refine zk_iload_n (pc := 528) 3 dL_law_528 rfl rfl ?_
  refine zk_iconst (pc := 529) (v := 1) dL_law_529 (by decide) ?_
  refine zk_iadd (pc := 530) dL_law_530 ?_
  refine zk_sload (pc := 531) (i + 1) dL_law_531 rfl (nI_add i 1) (by omega) (by omega) ?_
  refine zk_callV (pc := 532) dL_law_532 mtX7_fault lkL_49 stX7_fault (b := 0) (by rfl) (by rfl) [_] _ rfl rfl (Nat.le_of_ble_eq_true rfl) (Nat.le_of_ble_eq_true rfl) (bo_fault h _) (fun r m1 l1 q => ?_)
  obtain ⟨v, rfl, hm⟩ := q
  refine zk_aload_n (pc := 535) 2 dL_law_535 rfl rfl ?_
  refine zk_aload_n (pc := 536) 0 dL_law_536 rfl rfl ?_
  refine zk_iload_n (pc := 537) 3 dL_law_537 rfl rfl ?_
  refine zk_iconst (pc := 538) (v := 1) dL_law_538 (by decide) ?_
  refine zk_iadd (pc := 539) dL_law_539 ?_
  refine zk_sload (pc := 540) (i + 1) dL_law_540 rfl (nI_add i 1) (by omega) (by omega) ?_
  refine zk_callV (pc := 541) dL_law_541 mtX8_fault lkL_52 stX8_fault (b := 46) (by rfl) (by rfl) [_] _ rfl rfl (Nat.le_of_ble_eq_true rfl) (Nat.le_of_ble_eq_true rfl) hm (fun r m2 l2 q => ?_)
  obtain ⟨rfl, hq⟩ := q
  exact zk_icmp_eq (pc := 544) 1513 dL_law_544 (by decide) (fun _ => nx _ _ hq) (fun z => absurd rfl z)
theorem lc_9 (hL : L ≤ 384) (hi : i + 6 ≤ L) (h : zInv mu lm) (nx : ∀ mu' lm', zInv mu' lm' → lwM L xs i 1513 mu' lm') : lwM L xs i 549 mu lm := by
  unfold lwM
  refine zk_aload_n (pc := 549) 1 dL_law_549 rfl rfl ?_
  refine zk_aload_n (pc := 550) 0 dL_law_550 rfl rfl ?_
  refine zk_iload_n (pc := 551) 3 dL_law_551 rfl rfl ?_
  refine zk_iconst (pc := 552) (v := 1) dL_law_552 (by decide) ?_
  refine zk_iadd (pc := 553) dL_law_553 ?_
  refine zk_sload (pc := 554) (i + 1) dL_law_554 rfl (nI_add i 1) (by omega) (by omega) ?_
  refine zk_callV (pc := 555) dL_law_555 mtX7_club lkL_53 stX7_club (b := 0) (by rfl) (by rfl) [_] _ rfl rfl (Nat.le_of_ble_eq_true rfl) (Nat.le_of_ble_eq_true rfl) (bo_club h _) (fun r m1 l1 q => ?_)
  obtain ⟨v, rfl, hm⟩ := q
  refine zk_aload_n (pc := 558) 2 dL_law_558 rfl rfl ?_
  refine zk_aload_n (pc := 559) 0 dL_law_559 rfl rfl ?_
  refine zk_iload_n (pc := 560) 3 dL_law_560 rfl rfl ?_
  refine zk_iconst (pc := 561) (v := 1) dL_law_561 (by decide) ?_
  refine zk_iadd (pc := 562) dL_law_562 ?_
  refine zk_sload (pc := 563) (i + 1) dL_law_563 rfl (nI_add i 1) (by omega) (by omega) ?_
  refine zk_callV (pc := 564) dL_law_564 mtX8_club lkL_56 stX8_club (b := 46) (by rfl) (by rfl) [_] _ rfl rfl (Nat.le_of_ble_eq_true rfl) (Nat.le_of_ble_eq_true rfl) hm (fun r m2 l2 q => ?_)
  obtain ⟨rfl, hq⟩ := q
  exact zk_icmp_eq (pc := 567) 1513 dL_law_567 (by decide) (fun _ => nx _ _ hq) (fun z => absurd rfl z)
theorem lc_10 (hL : L ≤ 384) (hi : i + 6 ≤ L) (h : zInv mu lm) (nx : ∀ mu' lm', zInv mu' lm' → lwM L xs i 1513 mu' lm') : lwM L xs i 572 mu lm := by
  unfold lwM
  refine zk_aload_n (pc := 572) 1 dL_law_572 rfl rfl ?_
  refine zk_aload_n (pc := 573) 0 dL_law_573 rfl rfl ?_
  refine zk_iload_n (pc := 574) 3 dL_law_574 rfl rfl ?_
  refine zk_iconst (pc := 575) (v := 1) dL_law_575 (by decide) ?_
  refine zk_iadd (pc := 576) dL_law_576 ?_
  refine zk_sload (pc := 577) (i + 1) dL_law_577 rfl (nI_add i 1) (by omega) (by omega) ?_
  refine zk_aload_n (pc := 578) 0 dL_law_578 rfl rfl ?_
  refine zk_iload_n (pc := 579) 3 dL_law_579 rfl rfl ?_
  refine zk_iconst (pc := 580) (v := 2) dL_law_580 (by decide) ?_
  refine zk_iadd (pc := 581) dL_law_581 ?_
  refine zk_sload (pc := 582) (i + 2) dL_law_582 rfl (nI_add i 2) (by omega) (by omega) ?_
  refine zk_callV (pc := 583) dL_law_583 mtX7_member lkL_57 stX7_member (b := 0) (by rfl) (by rfl) [_, _] _ rfl rfl (Nat.le_of_ble_eq_true rfl) (Nat.le_of_ble_eq_true rfl) (bo_member h _ _) (fun r m1 l1 q => ?_)
  obtain ⟨v, rfl, hm⟩ := q
  refine zk_aload_n (pc := 586) 2 dL_law_586 rfl rfl ?_
  refine zk_aload_n (pc := 587) 0 dL_law_587 rfl rfl ?_
  refine zk_iload_n (pc := 588) 3 dL_law_588 rfl rfl ?_
  refine zk_iconst (pc := 589) (v := 1) dL_law_589 (by decide) ?_
  refine zk_iadd (pc := 590) dL_law_590 ?_
  refine zk_sload (pc := 591) (i + 1) dL_law_591 rfl (nI_add i 1) (by omega) (by omega) ?_
  refine zk_aload_n (pc := 592) 0 dL_law_592 rfl rfl ?_
  refine zk_iload_n (pc := 593) 3 dL_law_593 rfl rfl ?_
  refine zk_iconst (pc := 594) (v := 2) dL_law_594 (by decide) ?_
  refine zk_iadd (pc := 595) dL_law_595 ?_
  refine zk_sload (pc := 596) (i + 2) dL_law_596 rfl (nI_add i 2) (by omega) (by omega) ?_
  refine zk_callV (pc := 597) dL_law_597 mtX8_member lkL_60 stX8_member (b := 46) (by rfl) (by rfl) [_, _] _ rfl rfl (Nat.le_of_ble_eq_true rfl) (Nat.le_of_ble_eq_true rfl) hm (fun r m2 l2 q => ?_)
  obtain ⟨rfl, hq⟩ := q
  exact zk_icmp_eq (pc := 600) 1513 dL_law_600 (by decide) (fun _ => nx _ _ hq) (fun z => absurd rfl z)
theorem lc_11 (hL : L ≤ 384) (hi : i + 6 ≤ L) (h : zInv mu lm) (nx : ∀ mu' lm', zInv mu' lm' → lwM L xs i 1513 mu' lm') : lwM L xs i 605 mu lm := by
  unfold lwM
  refine zk_aload_n (pc := 605) 1 dL_law_605 rfl rfl ?_
  refine zk_aload_n (pc := 606) 0 dL_law_606 rfl rfl ?_
  refine zk_iload_n (pc := 607) 3 dL_law_607 rfl rfl ?_
  refine zk_iconst (pc := 608) (v := 1) dL_law_608 (by decide) ?_
  refine zk_iadd (pc := 609) dL_law_609 ?_
  refine zk_sload (pc := 610) (i + 1) dL_law_610 rfl (nI_add i 1) (by omega) (by omega) ?_
  refine zk_aload_n (pc := 611) 0 dL_law_611 rfl rfl ?_
  refine zk_iload_n (pc := 612) 3 dL_law_612 rfl rfl ?_
  refine zk_iconst (pc := 613) (v := 2) dL_law_613 (by decide) ?_
  refine zk_iadd (pc := 614) dL_law_614 ?_
  refine zk_sload (pc := 615) (i + 2) dL_law_615 rfl (nI_add i 2) (by omega) (by omega) ?_
  refine zk_callV (pc := 616) dL_law_616 mtX7_mark lkL_61 stX7_mark (b := 0) (by rfl) (by rfl) [_, _] _ rfl rfl (Nat.le_of_ble_eq_true rfl) (Nat.le_of_ble_eq_true rfl) (bo_mark h _ _) (fun r m1 l1 q => ?_)
  obtain ⟨v, rfl, hm⟩ := q
  refine zk_aload_n (pc := 619) 2 dL_law_619 rfl rfl ?_
  refine zk_aload_n (pc := 620) 0 dL_law_620 rfl rfl ?_
  refine zk_iload_n (pc := 621) 3 dL_law_621 rfl rfl ?_
  refine zk_iconst (pc := 622) (v := 1) dL_law_622 (by decide) ?_
  refine zk_iadd (pc := 623) dL_law_623 ?_
  refine zk_sload (pc := 624) (i + 1) dL_law_624 rfl (nI_add i 1) (by omega) (by omega) ?_
  refine zk_aload_n (pc := 625) 0 dL_law_625 rfl rfl ?_
  refine zk_iload_n (pc := 626) 3 dL_law_626 rfl rfl ?_
  refine zk_iconst (pc := 627) (v := 2) dL_law_627 (by decide) ?_
  refine zk_iadd (pc := 628) dL_law_628 ?_
  refine zk_sload (pc := 629) (i + 2) dL_law_629 rfl (nI_add i 2) (by omega) (by omega) ?_
  refine zk_callV (pc := 630) dL_law_630 mtX8_mark lkL_64 stX8_mark (b := 46) (by rfl) (by rfl) [_, _] _ rfl rfl (Nat.le_of_ble_eq_true rfl) (Nat.le_of_ble_eq_true rfl) hm (fun r m2 l2 q => ?_)
  obtain ⟨rfl, hq⟩ := q
  exact zk_icmp_eq (pc := 633) 1513 dL_law_633 (by decide) (fun _ => nx _ _ hq) (fun z => absurd rfl z)
theorem lc_12 (hL : L ≤ 384) (hi : i + 6 ≤ L) (h : zInv mu lm) (nx : ∀ mu' lm', zInv mu' lm' → lwM L xs i 1513 mu' lm') : lwM L xs i 638 mu lm := by
  unfold lwM
  refine zk_aload_n (pc := 638) 1 dL_law_638 rfl rfl ?_
  refine zk_aload_n (pc := 639) 0 dL_law_639 rfl rfl ?_
  refine zk_iload_n (pc := 640) 3 dL_law_640 rfl rfl ?_
  refine zk_iconst (pc := 641) (v := 1) dL_law_641 (by decide) ?_
  refine zk_iadd (pc := 642) dL_law_642 ?_
  refine zk_sload (pc := 643) (i + 1) dL_law_643 rfl (nI_add i 1) (by omega) (by omega) ?_
  refine zk_callV (pc := 644) dL_law_644 mtX7_smoke lkL_65 stX7_smoke (b := 0) (by rfl) (by rfl) [_] _ rfl rfl (Nat.le_of_ble_eq_true rfl) (Nat.le_of_ble_eq_true rfl) (bo_smoke h _) (fun r m1 l1 q => ?_)
  obtain ⟨v, rfl, hm⟩ := q
  refine zk_aload_n (pc := 647) 2 dL_law_647 rfl rfl ?_
  refine zk_aload_n (pc := 648) 0 dL_law_648 rfl rfl ?_
  refine zk_iload_n (pc := 649) 3 dL_law_649 rfl rfl ?_
  refine zk_iconst (pc := 650) (v := 1) dL_law_650 (by decide) ?_
  refine zk_iadd (pc := 651) dL_law_651 ?_
  refine zk_sload (pc := 652) (i + 1) dL_law_652 rfl (nI_add i 1) (by omega) (by omega) ?_
  refine zk_callV (pc := 653) dL_law_653 mtX8_smoke lkL_68 stX8_smoke (b := 46) (by rfl) (by rfl) [_] _ rfl rfl (Nat.le_of_ble_eq_true rfl) (Nat.le_of_ble_eq_true rfl) hm (fun r m2 l2 q => ?_)
  obtain ⟨rfl, hq⟩ := q
  exact zk_icmp_eq (pc := 656) 1513 dL_law_656 (by decide) (fun _ => nx _ _ hq) (fun z => absurd rfl z)
theorem lc_13 (hL : L ≤ 384) (hi : i + 6 ≤ L) (h : zInv mu lm) (nx : ∀ mu' lm', zInv mu' lm' → lwM L xs i 1513 mu' lm') : lwM L xs i 661 mu lm := by
  unfold lwM
  refine zk_aload_n (pc := 661) 1 dL_law_661 rfl rfl ?_
  refine zk_aload_n (pc := 662) 0 dL_law_662 rfl rfl ?_
  refine zk_iload_n (pc := 663) 3 dL_law_663 rfl rfl ?_
  refine zk_iconst (pc := 664) (v := 1) dL_law_664 (by decide) ?_
  refine zk_iadd (pc := 665) dL_law_665 ?_
  refine zk_sload (pc := 666) (i + 1) dL_law_666 rfl (nI_add i 1) (by omega) (by omega) ?_
  refine zk_aload_n (pc := 667) 0 dL_law_667 rfl rfl ?_
  refine zk_iload_n (pc := 668) 3 dL_law_668 rfl rfl ?_
  refine zk_iconst (pc := 669) (v := 2) dL_law_669 (by decide) ?_
  refine zk_iadd (pc := 670) dL_law_670 ?_
  refine zk_sload (pc := 671) (i + 2) dL_law_671 rfl (nI_add i 2) (by omega) (by omega) ?_
  refine zk_callV (pc := 672) dL_law_672 mtX7_talk lkL_69 stX7_talk (b := 0) (by rfl) (by rfl) [_, _] _ rfl rfl (Nat.le_of_ble_eq_true rfl) (Nat.le_of_ble_eq_true rfl) (bo_talk h _ _) (fun r m1 l1 q => ?_)
  obtain ⟨v, rfl, hm⟩ := q
  refine zk_aload_n (pc := 675) 2 dL_law_675 rfl rfl ?_
  refine zk_aload_n (pc := 676) 0 dL_law_676 rfl rfl ?_
  refine zk_iload_n (pc := 677) 3 dL_law_677 rfl rfl ?_
  refine zk_iconst (pc := 678) (v := 1) dL_law_678 (by decide) ?_
  refine zk_iadd (pc := 679) dL_law_679 ?_
  refine zk_sload (pc := 680) (i + 1) dL_law_680 rfl (nI_add i 1) (by omega) (by omega) ?_
  refine zk_aload_n (pc := 681) 0 dL_law_681 rfl rfl ?_
  refine zk_iload_n (pc := 682) 3 dL_law_682 rfl rfl ?_
  refine zk_iconst (pc := 683) (v := 2) dL_law_683 (by decide) ?_
  refine zk_iadd (pc := 684) dL_law_684 ?_
  refine zk_sload (pc := 685) (i + 2) dL_law_685 rfl (nI_add i 2) (by omega) (by omega) ?_
  refine zk_callV (pc := 686) dL_law_686 mtX8_talk lkL_72 stX8_talk (b := 46) (by rfl) (by rfl) [_, _] _ rfl rfl (Nat.le_of_ble_eq_true rfl) (Nat.le_of_ble_eq_true rfl) hm (fun r m2 l2 q => ?_)
  obtain ⟨rfl, hq⟩ := q
  exact zk_icmp_eq (pc := 689) 1513 dL_law_689 (by decide) (fun _ => nx _ _ hq) (fun z => absurd rfl z)
theorem lc_14 (hL : L ≤ 384) (hi : i + 6 ≤ L) (h : zInv mu lm) (nx : ∀ mu' lm', zInv mu' lm' → lwM L xs i 1513 mu' lm') : lwM L xs i 694 mu lm := by
  unfold lwM
  refine zk_aload_n (pc := 694) 1 dL_law_694 rfl rfl ?_
  refine zk_callV (pc := 695) dL_law_695 mtX7_hour lkL_73 stX7_hour (b := 0) (by rfl) (by rfl) [] _ rfl rfl (Nat.le_of_ble_eq_true rfl) (Nat.le_of_ble_eq_true rfl) (bo_hour h) (fun r m1 l1 q => ?_)
  obtain ⟨v, rfl, hm⟩ := q
  refine zk_aload_n (pc := 698) 2 dL_law_698 rfl rfl ?_
  refine zk_callV (pc := 699) dL_law_699 mtX8_hour lkL_77 stX8_hour (b := 46) (by rfl) (by rfl) [] _ rfl rfl (Nat.le_of_ble_eq_true rfl) (Nat.le_of_ble_eq_true rfl) hm (fun r m2 l2 q => ?_)
  obtain ⟨rfl, hq⟩ := q
  exact zk_icmp_eq (pc := 702) 1513 dL_law_702 (by decide) (fun _ => nx _ _ hq) (fun z => absurd rfl z)
theorem lc_15 (hL : L ≤ 384) (hi : i + 6 ≤ L) (h : zInv mu lm) (nx : ∀ mu' lm', zInv mu' lm' → lwM L xs i 1513 mu' lm') : lwM L xs i 707 mu lm := by
  unfold lwM
  refine zk_aload_n (pc := 707) 1 dL_law_707 rfl rfl ?_
  refine zk_aload_n (pc := 708) 0 dL_law_708 rfl rfl ?_
  refine zk_iload_n (pc := 709) 3 dL_law_709 rfl rfl ?_
  refine zk_iconst (pc := 710) (v := 1) dL_law_710 (by decide) ?_
  refine zk_iadd (pc := 711) dL_law_711 ?_
  refine zk_sload (pc := 712) (i + 1) dL_law_712 rfl (nI_add i 1) (by omega) (by omega) ?_
  refine zk_callV (pc := 713) dL_law_713 mtX7_open lkL_78 stX7_open (b := 0) (by rfl) (by rfl) [_] _ rfl rfl (Nat.le_of_ble_eq_true rfl) (Nat.le_of_ble_eq_true rfl) (bo_open h _) (fun r m1 l1 q => ?_)
  obtain ⟨v, rfl, hm⟩ := q
  refine zk_aload_n (pc := 716) 2 dL_law_716 rfl rfl ?_
  refine zk_aload_n (pc := 717) 0 dL_law_717 rfl rfl ?_
  refine zk_iload_n (pc := 718) 3 dL_law_718 rfl rfl ?_
  refine zk_iconst (pc := 719) (v := 1) dL_law_719 (by decide) ?_
  refine zk_iadd (pc := 720) dL_law_720 ?_
  refine zk_sload (pc := 721) (i + 1) dL_law_721 rfl (nI_add i 1) (by omega) (by omega) ?_
  refine zk_callV (pc := 722) dL_law_722 mtX8_open lkL_81 stX8_open (b := 46) (by rfl) (by rfl) [_] _ rfl rfl (Nat.le_of_ble_eq_true rfl) (Nat.le_of_ble_eq_true rfl) hm (fun r m2 l2 q => ?_)
  obtain ⟨rfl, hq⟩ := q
  exact zk_icmp_eq (pc := 725) 1513 dL_law_725 (by decide) (fun _ => nx _ _ hq) (fun z => absurd rfl z)
theorem lc_16 (hL : L ≤ 384) (hi : i + 6 ≤ L) (h : zInv mu lm) (nx : ∀ mu' lm', zInv mu' lm' → lwM L xs i 1513 mu' lm') : lwM L xs i 730 mu lm := by
  unfold lwM
  refine zk_aload_n (pc := 730) 1 dL_law_730 rfl rfl ?_
  refine zk_callV (pc := 731) dL_law_731 mtX7_thunder lkL_82 stX7_thunder (b := 0) (by rfl) (by rfl) [] _ rfl rfl (Nat.le_of_ble_eq_true rfl) (Nat.le_of_ble_eq_true rfl) (bo_thunder h) (fun r m1 l1 q => ?_)
  obtain ⟨v, rfl, hm⟩ := q
  refine zk_aload_n (pc := 734) 2 dL_law_734 rfl rfl ?_
  refine zk_callV (pc := 735) dL_law_735 mtX8_thunder lkL_85 stX8_thunder (b := 46) (by rfl) (by rfl) [] _ rfl rfl (Nat.le_of_ble_eq_true rfl) (Nat.le_of_ble_eq_true rfl) hm (fun r m2 l2 q => ?_)
  obtain ⟨rfl, hq⟩ := q
  exact zk_icmp_eq (pc := 738) 1513 dL_law_738 (by decide) (fun _ => nx _ _ hq) (fun z => absurd rfl z)
theorem lc_17 (hL : L ≤ 384) (hi : i + 6 ≤ L) (h : zInv mu lm) (nx : ∀ mu' lm', zInv mu' lm' → lwM L xs i 1513 mu' lm') : lwM L xs i 743 mu lm := by
  unfold lwM
  refine zk_aload_n (pc := 743) 1 dL_law_743 rfl rfl ?_
  refine zk_aload_n (pc := 744) 0 dL_law_744 rfl rfl ?_
  refine zk_iload_n (pc := 745) 3 dL_law_745 rfl rfl ?_
  refine zk_iconst (pc := 746) (v := 1) dL_law_746 (by decide) ?_
  refine zk_iadd (pc := 747) dL_law_747 ?_
  refine zk_sload (pc := 748) (i + 1) dL_law_748 rfl (nI_add i 1) (by omega) (by omega) ?_
  refine zk_callV (pc := 749) dL_law_749 mtX7_undo lkL_86 stX7_undo (b := 0) (by rfl) (by rfl) [_] _ rfl rfl (Nat.le_of_ble_eq_true rfl) (Nat.le_of_ble_eq_true rfl) (bo_undo h _) (fun r m1 l1 q => ?_)
  obtain ⟨v, rfl, hm⟩ := q
  refine zk_aload_n (pc := 752) 2 dL_law_752 rfl rfl ?_
  refine zk_aload_n (pc := 753) 0 dL_law_753 rfl rfl ?_
  refine zk_iload_n (pc := 754) 3 dL_law_754 rfl rfl ?_
  refine zk_iconst (pc := 755) (v := 1) dL_law_755 (by decide) ?_
  refine zk_iadd (pc := 756) dL_law_756 ?_
  refine zk_sload (pc := 757) (i + 1) dL_law_757 rfl (nI_add i 1) (by omega) (by omega) ?_
  refine zk_callV (pc := 758) dL_law_758 mtX8_undo lkL_89 stX8_undo (b := 46) (by rfl) (by rfl) [_] _ rfl rfl (Nat.le_of_ble_eq_true rfl) (Nat.le_of_ble_eq_true rfl) hm (fun r m2 l2 q => ?_)
  obtain ⟨rfl, hq⟩ := q
  exact zk_icmp_eq (pc := 761) 1513 dL_law_761 (by decide) (fun _ => nx _ _ hq) (fun z => absurd rfl z)
theorem lc_18 (hL : L ≤ 384) (hi : i + 6 ≤ L) (h : zInv mu lm) (nx : ∀ mu' lm', zInv mu' lm' → lwM L xs i 1513 mu' lm') : lwM L xs i 766 mu lm := by
  unfold lwM
  refine zk_aload_n (pc := 766) 1 dL_law_766 rfl rfl ?_
  refine zk_aload_n (pc := 767) 0 dL_law_767 rfl rfl ?_
  refine zk_iload_n (pc := 768) 3 dL_law_768 rfl rfl ?_
  refine zk_iconst (pc := 769) (v := 1) dL_law_769 (by decide) ?_
  refine zk_iadd (pc := 770) dL_law_770 ?_
  refine zk_sload (pc := 771) (i + 1) dL_law_771 rfl (nI_add i 1) (by omega) (by omega) ?_
  refine zk_callV (pc := 772) dL_law_772 mtX7_keep lkL_90 stX7_keep (b := 0) (by rfl) (by rfl) [_] _ rfl rfl (Nat.le_of_ble_eq_true rfl) (Nat.le_of_ble_eq_true rfl) (bo_keep h _) (fun r m1 l1 q => ?_)
  obtain ⟨v, rfl, hm⟩ := q
  refine zk_aload_n (pc := 775) 2 dL_law_775 rfl rfl ?_
  refine zk_aload_n (pc := 776) 0 dL_law_776 rfl rfl ?_
  refine zk_iload_n (pc := 777) 3 dL_law_777 rfl rfl ?_
  refine zk_iconst (pc := 778) (v := 1) dL_law_778 (by decide) ?_
  refine zk_iadd (pc := 779) dL_law_779 ?_
  refine zk_sload (pc := 780) (i + 1) dL_law_780 rfl (nI_add i 1) (by omega) (by omega) ?_
  refine zk_callV (pc := 781) dL_law_781 mtX8_keep lkL_93 stX8_keep (b := 46) (by rfl) (by rfl) [_] _ rfl rfl (Nat.le_of_ble_eq_true rfl) (Nat.le_of_ble_eq_true rfl) hm (fun r m2 l2 q => ?_)
  obtain ⟨rfl, hq⟩ := q
  exact zk_icmp_eq (pc := 784) 1513 dL_law_784 (by decide) (fun _ => nx _ _ hq) (fun z => absurd rfl z)
theorem lc_19 (hL : L ≤ 384) (hi : i + 6 ≤ L) (h : zInv mu lm) (nx : ∀ mu' lm', zInv mu' lm' → lwM L xs i 1513 mu' lm') : lwM L xs i 789 mu lm := by
  unfold lwM
  refine zk_aload_n (pc := 789) 1 dL_law_789 rfl rfl ?_
  refine zk_aload_n (pc := 790) 0 dL_law_790 rfl rfl ?_
  refine zk_iload_n (pc := 791) 3 dL_law_791 rfl rfl ?_
  refine zk_iconst (pc := 792) (v := 1) dL_law_792 (by decide) ?_
  refine zk_iadd (pc := 793) dL_law_793 ?_
  refine zk_sload (pc := 794) (i + 1) dL_law_794 rfl (nI_add i 1) (by omega) (by omega) ?_
  refine zk_callV (pc := 795) dL_law_795 mtX7_on lkL_94 stX7_on (b := 0) (by rfl) (by rfl) [_] _ rfl rfl (Nat.le_of_ble_eq_true rfl) (Nat.le_of_ble_eq_true rfl) (bo_on h _) (fun r m1 l1 q => ?_)
  obtain ⟨v, rfl, hm⟩ := q
  refine zk_aload_n (pc := 798) 2 dL_law_798 rfl rfl ?_
  refine zk_aload_n (pc := 799) 0 dL_law_799 rfl rfl ?_
  refine zk_iload_n (pc := 800) 3 dL_law_800 rfl rfl ?_
  refine zk_iconst (pc := 801) (v := 1) dL_law_801 (by decide) ?_
  refine zk_iadd (pc := 802) dL_law_802 ?_
  refine zk_sload (pc := 803) (i + 1) dL_law_803 rfl (nI_add i 1) (by omega) (by omega) ?_
  refine zk_callV (pc := 804) dL_law_804 mtX8_on lkL_97 stX8_on (b := 46) (by rfl) (by rfl) [_] _ rfl rfl (Nat.le_of_ble_eq_true rfl) (Nat.le_of_ble_eq_true rfl) hm (fun r m2 l2 q => ?_)
  obtain ⟨rfl, hq⟩ := q
  exact zk_icmp_eq (pc := 807) 1513 dL_law_807 (by decide) (fun _ => nx _ _ hq) (fun z => absurd rfl z)
theorem lc_20 (hL : L ≤ 384) (hi : i + 6 ≤ L) (h : zInv mu lm) (nx : ∀ mu' lm', zInv mu' lm' → lwM L xs i 1513 mu' lm') : lwM L xs i 812 mu lm := by
  unfold lwM
  refine zk_aload_n (pc := 812) 1 dL_law_812 rfl rfl ?_
  refine zk_aload_n (pc := 813) 0 dL_law_813 rfl rfl ?_
  refine zk_iload_n (pc := 814) 3 dL_law_814 rfl rfl ?_
  refine zk_iconst (pc := 815) (v := 1) dL_law_815 (by decide) ?_
  refine zk_iadd (pc := 816) dL_law_816 ?_
  refine zk_sload (pc := 817) (i + 1) dL_law_817 rfl (nI_add i 1) (by omega) (by omega) ?_
  refine zk_aload_n (pc := 818) 0 dL_law_818 rfl rfl ?_
  refine zk_iload_n (pc := 819) 3 dL_law_819 rfl rfl ?_
  refine zk_iconst (pc := 820) (v := 2) dL_law_820 (by decide) ?_
  refine zk_iadd (pc := 821) dL_law_821 ?_
  refine zk_sload (pc := 822) (i + 2) dL_law_822 rfl (nI_add i 2) (by omega) (by omega) ?_
  refine zk_callV (pc := 823) dL_law_823 mtX7_says lkL_98 stX7_says (b := 0) (by rfl) (by rfl) [_, _] _ rfl rfl (Nat.le_of_ble_eq_true rfl) (Nat.le_of_ble_eq_true rfl) (bo_says h _ _) (fun r m1 l1 q => ?_)
  obtain ⟨v, rfl, hm⟩ := q
  refine zk_aload_n (pc := 826) 2 dL_law_826 rfl rfl ?_
  refine zk_aload_n (pc := 827) 0 dL_law_827 rfl rfl ?_
  refine zk_iload_n (pc := 828) 3 dL_law_828 rfl rfl ?_
  refine zk_iconst (pc := 829) (v := 1) dL_law_829 (by decide) ?_
  refine zk_iadd (pc := 830) dL_law_830 ?_
  refine zk_sload (pc := 831) (i + 1) dL_law_831 rfl (nI_add i 1) (by omega) (by omega) ?_
  refine zk_aload_n (pc := 832) 0 dL_law_832 rfl rfl ?_
  refine zk_iload_n (pc := 833) 3 dL_law_833 rfl rfl ?_
  refine zk_iconst (pc := 834) (v := 2) dL_law_834 (by decide) ?_
  refine zk_iadd (pc := 835) dL_law_835 ?_
  refine zk_sload (pc := 836) (i + 2) dL_law_836 rfl (nI_add i 2) (by omega) (by omega) ?_
  refine zk_callV (pc := 837) dL_law_837 mtX8_says lkL_101 stX8_says (b := 46) (by rfl) (by rfl) [_, _] _ rfl rfl (Nat.le_of_ble_eq_true rfl) (Nat.le_of_ble_eq_true rfl) hm (fun r m2 l2 q => ?_)
  obtain ⟨rfl, hq⟩ := q
  exact zk_icmp_eq (pc := 840) 1513 dL_law_840 (by decide) (fun _ => nx _ _ hq) (fun z => absurd rfl z)
theorem lc_21 (hL : L ≤ 384) (hi : i + 6 ≤ L) (h : zInv mu lm) (nx : ∀ mu' lm', zInv mu' lm' → lwM L xs i 1513 mu' lm') : lwM L xs i 845 mu lm := by
  unfold lwM
  refine zk_aload_n (pc := 845) 1 dL_law_845 rfl rfl ?_
  refine zk_aload_n (pc := 846) 0 dL_law_846 rfl rfl ?_
  refine zk_iload_n (pc := 847) 3 dL_law_847 rfl rfl ?_
  refine zk_iconst (pc := 848) (v := 1) dL_law_848 (by decide) ?_
  refine zk_iadd (pc := 849) dL_law_849 ?_
  refine zk_sload (pc := 850) (i + 1) dL_law_850 rfl (nI_add i 1) (by omega) (by omega) ?_
  refine zk_aload_n (pc := 851) 0 dL_law_851 rfl rfl ?_
  refine zk_iload_n (pc := 852) 3 dL_law_852 rfl rfl ?_
  refine zk_iconst (pc := 853) (v := 2) dL_law_853 (by decide) ?_
  refine zk_iadd (pc := 854) dL_law_854 ?_
  refine zk_sload (pc := 855) (i + 2) dL_law_855 rfl (nI_add i 2) (by omega) (by omega) ?_
  refine zk_callV (pc := 856) dL_law_856 mtX7_breathes lkL_102 stX7_breathes (b := 0) (by rfl) (by rfl) [_, _] _ rfl rfl (Nat.le_of_ble_eq_true rfl) (Nat.le_of_ble_eq_true rfl) (bo_breathes h _ _) (fun r m1 l1 q => ?_)
  obtain ⟨v, rfl, hm⟩ := q
  refine zk_aload_n (pc := 859) 2 dL_law_859 rfl rfl ?_
  refine zk_aload_n (pc := 860) 0 dL_law_860 rfl rfl ?_
  refine zk_iload_n (pc := 861) 3 dL_law_861 rfl rfl ?_
  refine zk_iconst (pc := 862) (v := 1) dL_law_862 (by decide) ?_
  refine zk_iadd (pc := 863) dL_law_863 ?_
  refine zk_sload (pc := 864) (i + 1) dL_law_864 rfl (nI_add i 1) (by omega) (by omega) ?_
  refine zk_aload_n (pc := 865) 0 dL_law_865 rfl rfl ?_
  refine zk_iload_n (pc := 866) 3 dL_law_866 rfl rfl ?_
  refine zk_iconst (pc := 867) (v := 2) dL_law_867 (by decide) ?_
  refine zk_iadd (pc := 868) dL_law_868 ?_
  refine zk_sload (pc := 869) (i + 2) dL_law_869 rfl (nI_add i 2) (by omega) (by omega) ?_
  refine zk_callV (pc := 870) dL_law_870 mtX8_breathes lkL_105 stX8_breathes (b := 46) (by rfl) (by rfl) [_, _] _ rfl rfl (Nat.le_of_ble_eq_true rfl) (Nat.le_of_ble_eq_true rfl) hm (fun r m2 l2 q => ?_)
  obtain ⟨rfl, hq⟩ := q
  exact zk_icmp_eq (pc := 873) 1513 dL_law_873 (by decide) (fun _ => nx _ _ hq) (fun z => absurd rfl z)
theorem lc_22 (hL : L ≤ 384) (hi : i + 6 ≤ L) (h : zInv mu lm) (nx : ∀ mu' lm', zInv mu' lm' → lwM L xs i 1513 mu' lm') : lwM L xs i 878 mu lm := by
  unfold lwM
  refine zk_aload_n (pc := 878) 1 dL_law_878 rfl rfl ?_
  refine zk_aload_n (pc := 879) 0 dL_law_879 rfl rfl ?_
  refine zk_iload_n (pc := 880) 3 dL_law_880 rfl rfl ?_
  refine zk_iconst (pc := 881) (v := 1) dL_law_881 (by decide) ?_
  refine zk_iadd (pc := 882) dL_law_882 ?_
  refine zk_sload (pc := 883) (i + 1) dL_law_883 rfl (nI_add i 1) (by omega) (by omega) ?_
  refine zk_aload_n (pc := 884) 0 dL_law_884 rfl rfl ?_
  refine zk_iload_n (pc := 885) 3 dL_law_885 rfl rfl ?_
  refine zk_iconst (pc := 886) (v := 2) dL_law_886 (by decide) ?_
  refine zk_iadd (pc := 887) dL_law_887 ?_
  refine zk_sload (pc := 888) (i + 2) dL_law_888 rfl (nI_add i 2) (by omega) (by omega) ?_
  refine zk_callV (pc := 889) dL_law_889 mtX7_means lkL_106 stX7_means (b := 0) (by rfl) (by rfl) [_, _] _ rfl rfl (Nat.le_of_ble_eq_true rfl) (Nat.le_of_ble_eq_true rfl) (bo_means h _ _) (fun r m1 l1 q => ?_)
  obtain ⟨v, rfl, hm⟩ := q
  refine zk_aload_n (pc := 892) 2 dL_law_892 rfl rfl ?_
  refine zk_aload_n (pc := 893) 0 dL_law_893 rfl rfl ?_
  refine zk_iload_n (pc := 894) 3 dL_law_894 rfl rfl ?_
  refine zk_iconst (pc := 895) (v := 1) dL_law_895 (by decide) ?_
  refine zk_iadd (pc := 896) dL_law_896 ?_
  refine zk_sload (pc := 897) (i + 1) dL_law_897 rfl (nI_add i 1) (by omega) (by omega) ?_
  refine zk_aload_n (pc := 898) 0 dL_law_898 rfl rfl ?_
  refine zk_iload_n (pc := 899) 3 dL_law_899 rfl rfl ?_
  refine zk_iconst (pc := 900) (v := 2) dL_law_900 (by decide) ?_
  refine zk_iadd (pc := 901) dL_law_901 ?_
  refine zk_sload (pc := 902) (i + 2) dL_law_902 rfl (nI_add i 2) (by omega) (by omega) ?_
  refine zk_callV (pc := 903) dL_law_903 mtX8_means lkL_109 stX8_means (b := 46) (by rfl) (by rfl) [_, _] _ rfl rfl (Nat.le_of_ble_eq_true rfl) (Nat.le_of_ble_eq_true rfl) hm (fun r m2 l2 q => ?_)
  obtain ⟨rfl, hq⟩ := q
  exact zk_icmp_eq (pc := 906) 1513 dL_law_906 (by decide) (fun _ => nx _ _ hq) (fun z => absurd rfl z)
theorem lc_23 (hL : L ≤ 384) (hi : i + 6 ≤ L) (h : zInv mu lm) (nx : ∀ mu' lm', zInv mu' lm' → lwM L xs i 1513 mu' lm') : lwM L xs i 911 mu lm := by
  unfold lwM
  refine zk_aload_n (pc := 911) 1 dL_law_911 rfl rfl ?_
  refine zk_aload_n (pc := 912) 0 dL_law_912 rfl rfl ?_
  refine zk_iload_n (pc := 913) 3 dL_law_913 rfl rfl ?_
  refine zk_iconst (pc := 914) (v := 1) dL_law_914 (by decide) ?_
  refine zk_iadd (pc := 915) dL_law_915 ?_
  refine zk_sload (pc := 916) (i + 1) dL_law_916 rfl (nI_add i 1) (by omega) (by omega) ?_
  refine zk_aload_n (pc := 917) 0 dL_law_917 rfl rfl ?_
  refine zk_iload_n (pc := 918) 3 dL_law_918 rfl rfl ?_
  refine zk_iconst (pc := 919) (v := 2) dL_law_919 (by decide) ?_
  refine zk_iadd (pc := 920) dL_law_920 ?_
  refine zk_sload (pc := 921) (i + 2) dL_law_921 rfl (nI_add i 2) (by omega) (by omega) ?_
  refine zk_callV (pc := 922) dL_law_922 mtX7_least lkL_110 stX7_least (b := 0) (by rfl) (by rfl) [_, _] _ rfl rfl (Nat.le_of_ble_eq_true rfl) (Nat.le_of_ble_eq_true rfl) (bo_least h _ _) (fun r m1 l1 q => ?_)
  obtain ⟨v, rfl, hm⟩ := q
  refine zk_aload_n (pc := 925) 2 dL_law_925 rfl rfl ?_
  refine zk_aload_n (pc := 926) 0 dL_law_926 rfl rfl ?_
  refine zk_iload_n (pc := 927) 3 dL_law_927 rfl rfl ?_
  refine zk_iconst (pc := 928) (v := 1) dL_law_928 (by decide) ?_
  refine zk_iadd (pc := 929) dL_law_929 ?_
  refine zk_sload (pc := 930) (i + 1) dL_law_930 rfl (nI_add i 1) (by omega) (by omega) ?_
  refine zk_aload_n (pc := 931) 0 dL_law_931 rfl rfl ?_
  refine zk_iload_n (pc := 932) 3 dL_law_932 rfl rfl ?_
  refine zk_iconst (pc := 933) (v := 2) dL_law_933 (by decide) ?_
  refine zk_iadd (pc := 934) dL_law_934 ?_
  refine zk_sload (pc := 935) (i + 2) dL_law_935 rfl (nI_add i 2) (by omega) (by omega) ?_
  refine zk_callV (pc := 936) dL_law_936 mtX8_least lkL_113 stX8_least (b := 46) (by rfl) (by rfl) [_, _] _ rfl rfl (Nat.le_of_ble_eq_true rfl) (Nat.le_of_ble_eq_true rfl) hm (fun r m2 l2 q => ?_)
  obtain ⟨rfl, hq⟩ := q
  exact zk_icmp_eq (pc := 939) 1513 dL_law_939 (by decide) (fun _ => nx _ _ hq) (fun z => absurd rfl z)
theorem lc_24 (hL : L ≤ 384) (hi : i + 6 ≤ L) (h : zInv mu lm) (nx : ∀ mu' lm', zInv mu' lm' → lwM L xs i 1513 mu' lm') : lwM L xs i 944 mu lm := by
  unfold lwM
  refine zk_aload_n (pc := 944) 1 dL_law_944 rfl rfl ?_
  refine zk_aload_n (pc := 945) 0 dL_law_945 rfl rfl ?_
  refine zk_iload_n (pc := 946) 3 dL_law_946 rfl rfl ?_
  refine zk_iconst (pc := 947) (v := 1) dL_law_947 (by decide) ?_
  refine zk_iadd (pc := 948) dL_law_948 ?_
  refine zk_sload (pc := 949) (i + 1) dL_law_949 rfl (nI_add i 1) (by omega) (by omega) ?_
  refine zk_aload_n (pc := 950) 0 dL_law_950 rfl rfl ?_
  refine zk_iload_n (pc := 951) 3 dL_law_951 rfl rfl ?_
  refine zk_iconst (pc := 952) (v := 2) dL_law_952 (by decide) ?_
  refine zk_iadd (pc := 953) dL_law_953 ?_
  refine zk_sload (pc := 954) (i + 2) dL_law_954 rfl (nI_add i 2) (by omega) (by omega) ?_
  refine zk_callV (pc := 955) dL_law_955 mtX7_hangs lkL_114 stX7_hangs (b := 0) (by rfl) (by rfl) [_, _] _ rfl rfl (Nat.le_of_ble_eq_true rfl) (Nat.le_of_ble_eq_true rfl) (bo_hangs h _ _) (fun r m1 l1 q => ?_)
  obtain ⟨v, rfl, hm⟩ := q
  refine zk_aload_n (pc := 958) 2 dL_law_958 rfl rfl ?_
  refine zk_aload_n (pc := 959) 0 dL_law_959 rfl rfl ?_
  refine zk_iload_n (pc := 960) 3 dL_law_960 rfl rfl ?_
  refine zk_iconst (pc := 961) (v := 1) dL_law_961 (by decide) ?_
  refine zk_iadd (pc := 962) dL_law_962 ?_
  refine zk_sload (pc := 963) (i + 1) dL_law_963 rfl (nI_add i 1) (by omega) (by omega) ?_
  refine zk_aload_n (pc := 964) 0 dL_law_964 rfl rfl ?_
  refine zk_iload_n (pc := 965) 3 dL_law_965 rfl rfl ?_
  refine zk_iconst (pc := 966) (v := 2) dL_law_966 (by decide) ?_
  refine zk_iadd (pc := 967) dL_law_967 ?_
  refine zk_sload (pc := 968) (i + 2) dL_law_968 rfl (nI_add i 2) (by omega) (by omega) ?_
  refine zk_callV (pc := 969) dL_law_969 mtX8_hangs lkL_117 stX8_hangs (b := 46) (by rfl) (by rfl) [_, _] _ rfl rfl (Nat.le_of_ble_eq_true rfl) (Nat.le_of_ble_eq_true rfl) hm (fun r m2 l2 q => ?_)
  obtain ⟨rfl, hq⟩ := q
  exact zk_icmp_eq (pc := 972) 1513 dL_law_972 (by decide) (fun _ => nx _ _ hq) (fun z => absurd rfl z)
theorem lc_25 (hL : L ≤ 384) (hi : i + 6 ≤ L) (h : zInv mu lm) (nx : ∀ mu' lm', zInv mu' lm' → lwM L xs i 1513 mu' lm') : lwM L xs i 977 mu lm := by
  unfold lwM
  refine zk_aload_n (pc := 977) 1 dL_law_977 rfl rfl ?_
  refine zk_callV (pc := 978) dL_law_978 mtX7_clear lkL_118 stX7_clear (b := 0) (by rfl) (by rfl) [] _ rfl rfl (Nat.le_of_ble_eq_true rfl) (Nat.le_of_ble_eq_true rfl) (bo_clear h) (fun r m1 l1 q => ?_)
  obtain ⟨v, rfl, hm⟩ := q
  refine zk_aload_n (pc := 981) 2 dL_law_981 rfl rfl ?_
  refine zk_callV (pc := 982) dL_law_982 mtX8_clear lkL_121 stX8_clear (b := 46) (by rfl) (by rfl) [] _ rfl rfl (Nat.le_of_ble_eq_true rfl) (Nat.le_of_ble_eq_true rfl) hm (fun r m2 l2 q => ?_)
  obtain ⟨rfl, hq⟩ := q
  exact zk_icmp_eq (pc := 985) 1513 dL_law_985 (by decide) (fun _ => nx _ _ hq) (fun z => absurd rfl z)
theorem lc_26 (hL : L ≤ 384) (hi : i + 6 ≤ L) (h : zInv mu lm) (nx : ∀ mu' lm', zInv mu' lm' → lwM L xs i 1513 mu' lm') : lwM L xs i 990 mu lm := by
  unfold lwM
  refine zk_aload_n (pc := 990) 1 dL_law_990 rfl rfl ?_
  refine zk_aload_n (pc := 991) 0 dL_law_991 rfl rfl ?_
  refine zk_iload_n (pc := 992) 3 dL_law_992 rfl rfl ?_
  refine zk_iconst (pc := 993) (v := 1) dL_law_993 (by decide) ?_
  refine zk_iadd (pc := 994) dL_law_994 ?_
  refine zk_sload (pc := 995) (i + 1) dL_law_995 rfl (nI_add i 1) (by omega) (by omega) ?_
  refine zk_callV (pc := 996) dL_law_996 mtX7_window lkL_122 stX7_window (b := 0) (by rfl) (by rfl) [_] _ rfl rfl (Nat.le_of_ble_eq_true rfl) (Nat.le_of_ble_eq_true rfl) (bo_window h _) (fun r m1 l1 q => ?_)
  obtain ⟨v, rfl, hm⟩ := q
  refine zk_aload_n (pc := 999) 2 dL_law_999 rfl rfl ?_
  refine zk_aload_n (pc := 1000) 0 dL_law_1000 rfl rfl ?_
  refine zk_iload_n (pc := 1001) 3 dL_law_1001 rfl rfl ?_
  refine zk_iconst (pc := 1002) (v := 1) dL_law_1002 (by decide) ?_
  refine zk_iadd (pc := 1003) dL_law_1003 ?_
  refine zk_sload (pc := 1004) (i + 1) dL_law_1004 rfl (nI_add i 1) (by omega) (by omega) ?_
  refine zk_callV (pc := 1005) dL_law_1005 mtX8_window lkL_125 stX8_window (b := 46) (by rfl) (by rfl) [_] _ rfl rfl (Nat.le_of_ble_eq_true rfl) (Nat.le_of_ble_eq_true rfl) hm (fun r m2 l2 q => ?_)
  obtain ⟨rfl, hq⟩ := q
  exact zk_icmp_eq (pc := 1008) 1513 dL_law_1008 (by decide) (fun _ => nx _ _ hq) (fun z => absurd rfl z)
theorem lc_27 (hL : L ≤ 384) (hi : i + 6 ≤ L) (h : zInv mu lm) (nx : ∀ mu' lm', zInv mu' lm' → lwM L xs i 1513 mu' lm') : lwM L xs i 1013 mu lm := by
  unfold lwM
  refine zk_aload_n (pc := 1013) 1 dL_law_1013 rfl rfl ?_
  refine zk_aload_n (pc := 1014) 0 dL_law_1014 rfl rfl ?_
  refine zk_iload_n (pc := 1015) 3 dL_law_1015 rfl rfl ?_
  refine zk_iconst (pc := 1016) (v := 1) dL_law_1016 (by decide) ?_
  refine zk_iadd (pc := 1017) dL_law_1017 ?_
  refine zk_sload (pc := 1018) (i + 1) dL_law_1018 rfl (nI_add i 1) (by omega) (by omega) ?_
  refine zk_aload_n (pc := 1019) 0 dL_law_1019 rfl rfl ?_
  refine zk_iload_n (pc := 1020) 3 dL_law_1020 rfl rfl ?_
  refine zk_iconst (pc := 1021) (v := 2) dL_law_1021 (by decide) ?_
  refine zk_iadd (pc := 1022) dL_law_1022 ?_
  refine zk_sload (pc := 1023) (i + 2) dL_law_1023 rfl (nI_add i 2) (by omega) (by omega) ?_
  refine zk_aload_n (pc := 1024) 0 dL_law_1024 rfl rfl ?_
  refine zk_iload_n (pc := 1025) 3 dL_law_1025 rfl rfl ?_
  refine zk_iconst (pc := 1026) (v := 3) dL_law_1026 (by decide) ?_
  refine zk_iadd (pc := 1027) dL_law_1027 ?_
  refine zk_sload (pc := 1028) (i + 3) dL_law_1028 rfl (nI_add i 3) (by omega) (by omega) ?_
  refine zk_aload_n (pc := 1029) 0 dL_law_1029 rfl rfl ?_
  refine zk_iload_n (pc := 1030) 3 dL_law_1030 rfl rfl ?_
  refine zk_iconst (pc := 1031) (v := 4) dL_law_1031 (by decide) ?_
  refine zk_iadd (pc := 1032) dL_law_1032 ?_
  refine zk_sload (pc := 1033) (i + 4) dL_law_1033 rfl (nI_add i 4) (by omega) (by omega) ?_
  refine zk_callV (pc := 1034) dL_law_1034 mtX7_talks lkL_126 stX7_talks (b := 0) (by rfl) (by rfl) [_, _, _, _] _ rfl rfl (Nat.le_of_ble_eq_true rfl) (Nat.le_of_ble_eq_true rfl) (bo_talks h _ _ _ _) (fun r m1 l1 q => ?_)
  obtain ⟨v, rfl, hm⟩ := q
  refine zk_aload_n (pc := 1037) 2 dL_law_1037 rfl rfl ?_
  refine zk_aload_n (pc := 1038) 0 dL_law_1038 rfl rfl ?_
  refine zk_iload_n (pc := 1039) 3 dL_law_1039 rfl rfl ?_
  refine zk_iconst (pc := 1040) (v := 1) dL_law_1040 (by decide) ?_
  refine zk_iadd (pc := 1041) dL_law_1041 ?_
  refine zk_sload (pc := 1042) (i + 1) dL_law_1042 rfl (nI_add i 1) (by omega) (by omega) ?_
  refine zk_aload_n (pc := 1043) 0 dL_law_1043 rfl rfl ?_
  refine zk_iload_n (pc := 1044) 3 dL_law_1044 rfl rfl ?_
  refine zk_iconst (pc := 1045) (v := 2) dL_law_1045 (by decide) ?_
  refine zk_iadd (pc := 1046) dL_law_1046 ?_
  refine zk_sload (pc := 1047) (i + 2) dL_law_1047 rfl (nI_add i 2) (by omega) (by omega) ?_
  refine zk_aload_n (pc := 1048) 0 dL_law_1048 rfl rfl ?_
  refine zk_iload_n (pc := 1049) 3 dL_law_1049 rfl rfl ?_
  refine zk_iconst (pc := 1050) (v := 3) dL_law_1050 (by decide) ?_
  refine zk_iadd (pc := 1051) dL_law_1051 ?_
  refine zk_sload (pc := 1052) (i + 3) dL_law_1052 rfl (nI_add i 3) (by omega) (by omega) ?_
  refine zk_aload_n (pc := 1053) 0 dL_law_1053 rfl rfl ?_
  refine zk_iload_n (pc := 1054) 3 dL_law_1054 rfl rfl ?_
  refine zk_iconst (pc := 1055) (v := 4) dL_law_1055 (by decide) ?_
  refine zk_iadd (pc := 1056) dL_law_1056 ?_
  refine zk_sload (pc := 1057) (i + 4) dL_law_1057 rfl (nI_add i 4) (by omega) (by omega) ?_
  refine zk_callV (pc := 1058) dL_law_1058 mtX8_talks lkL_130 stX8_talks (b := 46) (by rfl) (by rfl) [_, _, _, _] _ rfl rfl (Nat.le_of_ble_eq_true rfl) (Nat.le_of_ble_eq_true rfl) hm (fun r m2 l2 q => ?_)
  obtain ⟨rfl, hq⟩ := q
  exact zk_icmp_eq (pc := 1061) 1513 dL_law_1061 (by decide) (fun _ => nx _ _ hq) (fun z => absurd rfl z)
theorem lc_28 (hL : L ≤ 384) (hi : i + 6 ≤ L) (h : zInv mu lm) (nx : ∀ mu' lm', zInv mu' lm' → lwM L xs i 1513 mu' lm') : lwM L xs i 1066 mu lm := by
  unfold lwM
  refine zk_aload_n (pc := 1066) 1 dL_law_1066 rfl rfl ?_
  refine zk_aload_n (pc := 1067) 0 dL_law_1067 rfl rfl ?_
  refine zk_iload_n (pc := 1068) 3 dL_law_1068 rfl rfl ?_
  refine zk_iconst (pc := 1069) (v := 1) dL_law_1069 (by decide) ?_
  refine zk_iadd (pc := 1070) dL_law_1070 ?_
  refine zk_sload (pc := 1071) (i + 1) dL_law_1071 rfl (nI_add i 1) (by omega) (by omega) ?_
  refine zk_aload_n (pc := 1072) 0 dL_law_1072 rfl rfl ?_
  refine zk_iload_n (pc := 1073) 3 dL_law_1073 rfl rfl ?_
  refine zk_iconst (pc := 1074) (v := 2) dL_law_1074 (by decide) ?_
  refine zk_iadd (pc := 1075) dL_law_1075 ?_
  refine zk_sload (pc := 1076) (i + 2) dL_law_1076 rfl (nI_add i 2) (by omega) (by omega) ?_
  refine zk_callV (pc := 1077) dL_law_1077 mtX7_sets lkL_131 stX7_sets (b := 0) (by rfl) (by rfl) [_, _] _ rfl rfl (Nat.le_of_ble_eq_true rfl) (Nat.le_of_ble_eq_true rfl) (bo_sets h _ _) (fun r m1 l1 q => ?_)
  obtain ⟨v, rfl, hm⟩ := q
  refine zk_aload_n (pc := 1080) 2 dL_law_1080 rfl rfl ?_
  refine zk_aload_n (pc := 1081) 0 dL_law_1081 rfl rfl ?_
  refine zk_iload_n (pc := 1082) 3 dL_law_1082 rfl rfl ?_
  refine zk_iconst (pc := 1083) (v := 1) dL_law_1083 (by decide) ?_
  refine zk_iadd (pc := 1084) dL_law_1084 ?_
  refine zk_sload (pc := 1085) (i + 1) dL_law_1085 rfl (nI_add i 1) (by omega) (by omega) ?_
  refine zk_aload_n (pc := 1086) 0 dL_law_1086 rfl rfl ?_
  refine zk_iload_n (pc := 1087) 3 dL_law_1087 rfl rfl ?_
  refine zk_iconst (pc := 1088) (v := 2) dL_law_1088 (by decide) ?_
  refine zk_iadd (pc := 1089) dL_law_1089 ?_
  refine zk_sload (pc := 1090) (i + 2) dL_law_1090 rfl (nI_add i 2) (by omega) (by omega) ?_
  refine zk_callV (pc := 1091) dL_law_1091 mtX8_sets lkL_134 stX8_sets (b := 46) (by rfl) (by rfl) [_, _] _ rfl rfl (Nat.le_of_ble_eq_true rfl) (Nat.le_of_ble_eq_true rfl) hm (fun r m2 l2 q => ?_)
  obtain ⟨rfl, hq⟩ := q
  exact zk_icmp_eq (pc := 1094) 1513 dL_law_1094 (by decide) (fun _ => nx _ _ hq) (fun z => absurd rfl z)
theorem lc_29 (hL : L ≤ 384) (hi : i + 6 ≤ L) (h : zInv mu lm) (nx : ∀ mu' lm', zInv mu' lm' → lwM L xs i 1513 mu' lm') : lwM L xs i 1099 mu lm := by
  unfold lwM
  refine zk_aload_n (pc := 1099) 1 dL_law_1099 rfl rfl ?_
  refine zk_aload_n (pc := 1100) 0 dL_law_1100 rfl rfl ?_
  refine zk_iload_n (pc := 1101) 3 dL_law_1101 rfl rfl ?_
  refine zk_iconst (pc := 1102) (v := 1) dL_law_1102 (by decide) ?_
  refine zk_iadd (pc := 1103) dL_law_1103 ?_
  refine zk_sload (pc := 1104) (i + 1) dL_law_1104 rfl (nI_add i 1) (by omega) (by omega) ?_
  refine zk_aload_n (pc := 1105) 0 dL_law_1105 rfl rfl ?_
  refine zk_iload_n (pc := 1106) 3 dL_law_1106 rfl rfl ?_
  refine zk_iconst (pc := 1107) (v := 2) dL_law_1107 (by decide) ?_
  refine zk_iadd (pc := 1108) dL_law_1108 ?_
  refine zk_sload (pc := 1109) (i + 2) dL_law_1109 rfl (nI_add i 2) (by omega) (by omega) ?_
  refine zk_callV (pc := 1110) dL_law_1110 mtX7_sure lkL_135 stX7_sure (b := 0) (by rfl) (by rfl) [_, _] _ rfl rfl (Nat.le_of_ble_eq_true rfl) (Nat.le_of_ble_eq_true rfl) (bo_sure h _ _) (fun r m1 l1 q => ?_)
  obtain ⟨v, rfl, hm⟩ := q
  refine zk_aload_n (pc := 1113) 2 dL_law_1113 rfl rfl ?_
  refine zk_aload_n (pc := 1114) 0 dL_law_1114 rfl rfl ?_
  refine zk_iload_n (pc := 1115) 3 dL_law_1115 rfl rfl ?_
  refine zk_iconst (pc := 1116) (v := 1) dL_law_1116 (by decide) ?_
  refine zk_iadd (pc := 1117) dL_law_1117 ?_
  refine zk_sload (pc := 1118) (i + 1) dL_law_1118 rfl (nI_add i 1) (by omega) (by omega) ?_
  refine zk_aload_n (pc := 1119) 0 dL_law_1119 rfl rfl ?_
  refine zk_iload_n (pc := 1120) 3 dL_law_1120 rfl rfl ?_
  refine zk_iconst (pc := 1121) (v := 2) dL_law_1121 (by decide) ?_
  refine zk_iadd (pc := 1122) dL_law_1122 ?_
  refine zk_sload (pc := 1123) (i + 2) dL_law_1123 rfl (nI_add i 2) (by omega) (by omega) ?_
  refine zk_callV (pc := 1124) dL_law_1124 mtX8_sure lkL_138 stX8_sure (b := 46) (by rfl) (by rfl) [_, _] _ rfl rfl (Nat.le_of_ble_eq_true rfl) (Nat.le_of_ble_eq_true rfl) hm (fun r m2 l2 q => ?_)
  obtain ⟨rfl, hq⟩ := q
  exact zk_icmp_eq (pc := 1127) 1513 dL_law_1127 (by decide) (fun _ => nx _ _ hq) (fun z => absurd rfl z)
theorem lc_30 (hL : L ≤ 384) (hi : i + 6 ≤ L) (h : zInv mu lm) (nx : ∀ mu' lm', zInv mu' lm' → lwM L xs i 1513 mu' lm') : lwM L xs i 1132 mu lm := by
  unfold lwM
  refine zk_aload_n (pc := 1132) 1 dL_law_1132 rfl rfl ?_
  refine zk_aload_n (pc := 1133) 0 dL_law_1133 rfl rfl ?_
  refine zk_iload_n (pc := 1134) 3 dL_law_1134 rfl rfl ?_
  refine zk_iconst (pc := 1135) (v := 1) dL_law_1135 (by decide) ?_
  refine zk_iadd (pc := 1136) dL_law_1136 ?_
  refine zk_sload (pc := 1137) (i + 1) dL_law_1137 rfl (nI_add i 1) (by omega) (by omega) ?_
  refine zk_aload_n (pc := 1138) 0 dL_law_1138 rfl rfl ?_
  refine zk_iload_n (pc := 1139) 3 dL_law_1139 rfl rfl ?_
  refine zk_iconst (pc := 1140) (v := 2) dL_law_1140 (by decide) ?_
  refine zk_iadd (pc := 1141) dL_law_1141 ?_
  refine zk_sload (pc := 1142) (i + 2) dL_law_1142 rfl (nI_add i 2) (by omega) (by omega) ?_
  refine zk_callV (pc := 1143) dL_law_1143 mtX7_ask lkL_139 stX7_ask (b := 0) (by rfl) (by rfl) [_, _] _ rfl rfl (Nat.le_of_ble_eq_true rfl) (Nat.le_of_ble_eq_true rfl) (bo_ask h _ _) (fun r m1 l1 q => ?_)
  obtain ⟨v, rfl, hm⟩ := q
  refine zk_aload_n (pc := 1146) 2 dL_law_1146 rfl rfl ?_
  refine zk_aload_n (pc := 1147) 0 dL_law_1147 rfl rfl ?_
  refine zk_iload_n (pc := 1148) 3 dL_law_1148 rfl rfl ?_
  refine zk_iconst (pc := 1149) (v := 1) dL_law_1149 (by decide) ?_
  refine zk_iadd (pc := 1150) dL_law_1150 ?_
  refine zk_sload (pc := 1151) (i + 1) dL_law_1151 rfl (nI_add i 1) (by omega) (by omega) ?_
  refine zk_aload_n (pc := 1152) 0 dL_law_1152 rfl rfl ?_
  refine zk_iload_n (pc := 1153) 3 dL_law_1153 rfl rfl ?_
  refine zk_iconst (pc := 1154) (v := 2) dL_law_1154 (by decide) ?_
  refine zk_iadd (pc := 1155) dL_law_1155 ?_
  refine zk_sload (pc := 1156) (i + 2) dL_law_1156 rfl (nI_add i 2) (by omega) (by omega) ?_
  refine zk_callV (pc := 1157) dL_law_1157 mtX8_ask lkL_142 stX8_ask (b := 46) (by rfl) (by rfl) [_, _] _ rfl rfl (Nat.le_of_ble_eq_true rfl) (Nat.le_of_ble_eq_true rfl) hm (fun r m2 l2 q => ?_)
  obtain ⟨rfl, hq⟩ := q
  exact zk_icmp_eq (pc := 1160) 1513 dL_law_1160 (by decide) (fun _ => nx _ _ hq) (fun z => absurd rfl z)
theorem lc_31 (hL : L ≤ 384) (hi : i + 6 ≤ L) (h : zInv mu lm) (nx : ∀ mu' lm', zInv mu' lm' → lwM L xs i 1513 mu' lm') : lwM L xs i 1165 mu lm := by
  unfold lwM
  refine zk_aload_n (pc := 1165) 1 dL_law_1165 rfl rfl ?_
  refine zk_aload_n (pc := 1166) 0 dL_law_1166 rfl rfl ?_
  refine zk_iload_n (pc := 1167) 3 dL_law_1167 rfl rfl ?_
  refine zk_iconst (pc := 1168) (v := 1) dL_law_1168 (by decide) ?_
  refine zk_iadd (pc := 1169) dL_law_1169 ?_
  refine zk_sload (pc := 1170) (i + 1) dL_law_1170 rfl (nI_add i 1) (by omega) (by omega) ?_
  refine zk_callV (pc := 1171) dL_law_1171 mtX7_who lkL_143 stX7_who (b := 0) (by rfl) (by rfl) [_] _ rfl rfl (Nat.le_of_ble_eq_true rfl) (Nat.le_of_ble_eq_true rfl) (bo_who h _) (fun r m1 l1 q => ?_)
  obtain ⟨v, rfl, hm⟩ := q
  refine zk_aload_n (pc := 1174) 2 dL_law_1174 rfl rfl ?_
  refine zk_aload_n (pc := 1175) 0 dL_law_1175 rfl rfl ?_
  refine zk_iload_n (pc := 1176) 3 dL_law_1176 rfl rfl ?_
  refine zk_iconst (pc := 1177) (v := 1) dL_law_1177 (by decide) ?_
  refine zk_iadd (pc := 1178) dL_law_1178 ?_
  refine zk_sload (pc := 1179) (i + 1) dL_law_1179 rfl (nI_add i 1) (by omega) (by omega) ?_
  refine zk_callV (pc := 1180) dL_law_1180 mtX8_who lkL_146 stX8_who (b := 46) (by rfl) (by rfl) [_] _ rfl rfl (Nat.le_of_ble_eq_true rfl) (Nat.le_of_ble_eq_true rfl) hm (fun r m2 l2 q => ?_)
  obtain ⟨rfl, hq⟩ := q
  exact zk_icmp_eq (pc := 1183) 1513 dL_law_1183 (by decide) (fun _ => nx _ _ hq) (fun z => absurd rfl z)
theorem lc_32 (hL : L ≤ 384) (hi : i + 6 ≤ L) (h : zInv mu lm) (nx : ∀ mu' lm', zInv mu' lm' → lwM L xs i 1513 mu' lm') : lwM L xs i 1188 mu lm := by
  unfold lwM
  refine zk_aload_n (pc := 1188) 1 dL_law_1188 rfl rfl ?_
  refine zk_aload_n (pc := 1189) 0 dL_law_1189 rfl rfl ?_
  refine zk_iload_n (pc := 1190) 3 dL_law_1190 rfl rfl ?_
  refine zk_iconst (pc := 1191) (v := 1) dL_law_1191 (by decide) ?_
  refine zk_iadd (pc := 1192) dL_law_1192 ?_
  refine zk_sload (pc := 1193) (i + 1) dL_law_1193 rfl (nI_add i 1) (by omega) (by omega) ?_
  refine zk_callV (pc := 1194) dL_law_1194 mtX7_kinds lkL_147 stX7_kinds (b := 0) (by rfl) (by rfl) [_] _ rfl rfl (Nat.le_of_ble_eq_true rfl) (Nat.le_of_ble_eq_true rfl) (bo_kinds h _) (fun r m1 l1 q => ?_)
  obtain ⟨v, rfl, hm⟩ := q
  refine zk_aload_n (pc := 1197) 2 dL_law_1197 rfl rfl ?_
  refine zk_aload_n (pc := 1198) 0 dL_law_1198 rfl rfl ?_
  refine zk_iload_n (pc := 1199) 3 dL_law_1199 rfl rfl ?_
  refine zk_iconst (pc := 1200) (v := 1) dL_law_1200 (by decide) ?_
  refine zk_iadd (pc := 1201) dL_law_1201 ?_
  refine zk_sload (pc := 1202) (i + 1) dL_law_1202 rfl (nI_add i 1) (by omega) (by omega) ?_
  refine zk_callV (pc := 1203) dL_law_1203 mtX8_kinds lkL_150 stX8_kinds (b := 46) (by rfl) (by rfl) [_] _ rfl rfl (Nat.le_of_ble_eq_true rfl) (Nat.le_of_ble_eq_true rfl) hm (fun r m2 l2 q => ?_)
  obtain ⟨rfl, hq⟩ := q
  exact zk_icmp_eq (pc := 1206) 1513 dL_law_1206 (by decide) (fun _ => nx _ _ hq) (fun z => absurd rfl z)
theorem lc_33 (hL : L ≤ 384) (hi : i + 6 ≤ L) (h : zInv mu lm) (nx : ∀ mu' lm', zInv mu' lm' → lwM L xs i 1513 mu' lm') : lwM L xs i 1211 mu lm := by
  unfold lwM
  refine zk_aload_n (pc := 1211) 1 dL_law_1211 rfl rfl ?_
  refine zk_aload_n (pc := 1212) 0 dL_law_1212 rfl rfl ?_
  refine zk_iload_n (pc := 1213) 3 dL_law_1213 rfl rfl ?_
  refine zk_iconst (pc := 1214) (v := 1) dL_law_1214 (by decide) ?_
  refine zk_iadd (pc := 1215) dL_law_1215 ?_
  refine zk_sload (pc := 1216) (i + 1) dL_law_1216 rfl (nI_add i 1) (by omega) (by omega) ?_
  refine zk_callV (pc := 1217) dL_law_1217 mtX7_test lkL_151 stX7_test (b := 0) (by rfl) (by rfl) [_] _ rfl rfl (Nat.le_of_ble_eq_true rfl) (Nat.le_of_ble_eq_true rfl) (bo_test h _) (fun r m1 l1 q => ?_)
  obtain ⟨v, rfl, hm⟩ := q
  refine zk_aload_n (pc := 1220) 2 dL_law_1220 rfl rfl ?_
  refine zk_aload_n (pc := 1221) 0 dL_law_1221 rfl rfl ?_
  refine zk_iload_n (pc := 1222) 3 dL_law_1222 rfl rfl ?_
  refine zk_iconst (pc := 1223) (v := 1) dL_law_1223 (by decide) ?_
  refine zk_iadd (pc := 1224) dL_law_1224 ?_
  refine zk_sload (pc := 1225) (i + 1) dL_law_1225 rfl (nI_add i 1) (by omega) (by omega) ?_
  refine zk_callV (pc := 1226) dL_law_1226 mtX8_test lkL_154 stX8_test (b := 46) (by rfl) (by rfl) [_] _ rfl rfl (Nat.le_of_ble_eq_true rfl) (Nat.le_of_ble_eq_true rfl) hm (fun r m2 l2 q => ?_)
  obtain ⟨rfl, hq⟩ := q
  exact zk_icmp_eq (pc := 1229) 1513 dL_law_1229 (by decide) (fun _ => nx _ _ hq) (fun z => absurd rfl z)
theorem lc_34 (hL : L ≤ 384) (hi : i + 6 ≤ L) (h : zInv mu lm) (nx : ∀ mu' lm', zInv mu' lm' → lwM L xs i 1513 mu' lm') : lwM L xs i 1234 mu lm := by
  unfold lwM
  refine zk_aload_n (pc := 1234) 1 dL_law_1234 rfl rfl ?_
  refine zk_aload_n (pc := 1235) 0 dL_law_1235 rfl rfl ?_
  refine zk_iload_n (pc := 1236) 3 dL_law_1236 rfl rfl ?_
  refine zk_iconst (pc := 1237) (v := 1) dL_law_1237 (by decide) ?_
  refine zk_iadd (pc := 1238) dL_law_1238 ?_
  refine zk_sload (pc := 1239) (i + 1) dL_law_1239 rfl (nI_add i 1) (by omega) (by omega) ?_
  refine zk_callV (pc := 1240) dL_law_1240 mtX7_leaks lkL_155 stX7_leaks (b := 0) (by rfl) (by rfl) [_] _ rfl rfl (Nat.le_of_ble_eq_true rfl) (Nat.le_of_ble_eq_true rfl) (bo_leaks h _) (fun r m1 l1 q => ?_)
  obtain ⟨v, rfl, hm⟩ := q
  refine zk_aload_n (pc := 1243) 2 dL_law_1243 rfl rfl ?_
  refine zk_aload_n (pc := 1244) 0 dL_law_1244 rfl rfl ?_
  refine zk_iload_n (pc := 1245) 3 dL_law_1245 rfl rfl ?_
  refine zk_iconst (pc := 1246) (v := 1) dL_law_1246 (by decide) ?_
  refine zk_iadd (pc := 1247) dL_law_1247 ?_
  refine zk_sload (pc := 1248) (i + 1) dL_law_1248 rfl (nI_add i 1) (by omega) (by omega) ?_
  refine zk_callV (pc := 1249) dL_law_1249 mtX8_leaks lkL_158 stX8_leaks (b := 46) (by rfl) (by rfl) [_] _ rfl rfl (Nat.le_of_ble_eq_true rfl) (Nat.le_of_ble_eq_true rfl) hm (fun r m2 l2 q => ?_)
  obtain ⟨rfl, hq⟩ := q
  exact zk_icmp_eq (pc := 1252) 1513 dL_law_1252 (by decide) (fun _ => nx _ _ hq) (fun z => absurd rfl z)
theorem lc_35 (hL : L ≤ 384) (hi : i + 6 ≤ L) (h : zInv mu lm) (nx : ∀ mu' lm', zInv mu' lm' → lwM L xs i 1513 mu' lm') : lwM L xs i 1257 mu lm := by
  unfold lwM
  refine zk_aload_n (pc := 1257) 1 dL_law_1257 rfl rfl ?_
  refine zk_aload_n (pc := 1258) 0 dL_law_1258 rfl rfl ?_
  refine zk_iload_n (pc := 1259) 3 dL_law_1259 rfl rfl ?_
  refine zk_iconst (pc := 1260) (v := 1) dL_law_1260 (by decide) ?_
  refine zk_iadd (pc := 1261) dL_law_1261 ?_
  refine zk_sload (pc := 1262) (i + 1) dL_law_1262 rfl (nI_add i 1) (by omega) (by omega) ?_
  refine zk_aload_n (pc := 1263) 0 dL_law_1263 rfl rfl ?_
  refine zk_iload_n (pc := 1264) 3 dL_law_1264 rfl rfl ?_
  refine zk_iconst (pc := 1265) (v := 2) dL_law_1265 (by decide) ?_
  refine zk_iadd (pc := 1266) dL_law_1266 ?_
  refine zk_sload (pc := 1267) (i + 2) dL_law_1267 rfl (nI_add i 2) (by omega) (by omega) ?_
  refine zk_callV (pc := 1268) dL_law_1268 mtX7_evening lkL_159 stX7_evening (b := 0) (by rfl) (by rfl) [_, _] _ rfl rfl (Nat.le_of_ble_eq_true rfl) (Nat.le_of_ble_eq_true rfl) (bo_evening h _ _) (fun r m1 l1 q => ?_)
  obtain ⟨v, rfl, hm⟩ := q
  refine zk_aload_n (pc := 1271) 2 dL_law_1271 rfl rfl ?_
  refine zk_aload_n (pc := 1272) 0 dL_law_1272 rfl rfl ?_
  refine zk_iload_n (pc := 1273) 3 dL_law_1273 rfl rfl ?_
  refine zk_iconst (pc := 1274) (v := 1) dL_law_1274 (by decide) ?_
  refine zk_iadd (pc := 1275) dL_law_1275 ?_
  refine zk_sload (pc := 1276) (i + 1) dL_law_1276 rfl (nI_add i 1) (by omega) (by omega) ?_
  refine zk_aload_n (pc := 1277) 0 dL_law_1277 rfl rfl ?_
  refine zk_iload_n (pc := 1278) 3 dL_law_1278 rfl rfl ?_
  refine zk_iconst (pc := 1279) (v := 2) dL_law_1279 (by decide) ?_
  refine zk_iadd (pc := 1280) dL_law_1280 ?_
  refine zk_sload (pc := 1281) (i + 2) dL_law_1281 rfl (nI_add i 2) (by omega) (by omega) ?_
  refine zk_callV (pc := 1282) dL_law_1282 mtX8_evening lkL_162 stX8_evening (b := 46) (by rfl) (by rfl) [_, _] _ rfl rfl (Nat.le_of_ble_eq_true rfl) (Nat.le_of_ble_eq_true rfl) hm (fun r m2 l2 q => ?_)
  obtain ⟨rfl, hq⟩ := q
  exact zk_icmp_eq (pc := 1285) 1513 dL_law_1285 (by decide) (fun _ => nx _ _ hq) (fun z => absurd rfl z)
theorem lc_36 (hL : L ≤ 384) (hi : i + 6 ≤ L) (h : zInv mu lm) (nx : ∀ mu' lm', zInv mu' lm' → lwM L xs i 1513 mu' lm') : lwM L xs i 1290 mu lm := by
  unfold lwM
  refine zk_aload_n (pc := 1290) 1 dL_law_1290 rfl rfl ?_
  refine zk_aload_n (pc := 1291) 0 dL_law_1291 rfl rfl ?_
  refine zk_iload_n (pc := 1292) 3 dL_law_1292 rfl rfl ?_
  refine zk_iconst (pc := 1293) (v := 1) dL_law_1293 (by decide) ?_
  refine zk_iadd (pc := 1294) dL_law_1294 ?_
  refine zk_sload (pc := 1295) (i + 1) dL_law_1295 rfl (nI_add i 1) (by omega) (by omega) ?_
  refine zk_aload_n (pc := 1296) 0 dL_law_1296 rfl rfl ?_
  refine zk_iload_n (pc := 1297) 3 dL_law_1297 rfl rfl ?_
  refine zk_iconst (pc := 1298) (v := 2) dL_law_1298 (by decide) ?_
  refine zk_iadd (pc := 1299) dL_law_1299 ?_
  refine zk_sload (pc := 1300) (i + 2) dL_law_1300 rfl (nI_add i 2) (by omega) (by omega) ?_
  refine zk_aload_n (pc := 1301) 0 dL_law_1301 rfl rfl ?_
  refine zk_iload_n (pc := 1302) 3 dL_law_1302 rfl rfl ?_
  refine zk_iconst (pc := 1303) (v := 3) dL_law_1303 (by decide) ?_
  refine zk_iadd (pc := 1304) dL_law_1304 ?_
  refine zk_sload (pc := 1305) (i + 3) dL_law_1305 rfl (nI_add i 3) (by omega) (by omega) ?_
  refine zk_callV (pc := 1306) dL_law_1306 mtX7_odds lkL_163 stX7_odds (b := 0) (by rfl) (by rfl) [_, _, _] _ rfl rfl (Nat.le_of_ble_eq_true rfl) (Nat.le_of_ble_eq_true rfl) (bo_odds h _ _ _) (fun r m1 l1 q => ?_)
  obtain ⟨v, rfl, hm⟩ := q
  refine zk_aload_n (pc := 1309) 2 dL_law_1309 rfl rfl ?_
  refine zk_aload_n (pc := 1310) 0 dL_law_1310 rfl rfl ?_
  refine zk_iload_n (pc := 1311) 3 dL_law_1311 rfl rfl ?_
  refine zk_iconst (pc := 1312) (v := 1) dL_law_1312 (by decide) ?_
  refine zk_iadd (pc := 1313) dL_law_1313 ?_
  refine zk_sload (pc := 1314) (i + 1) dL_law_1314 rfl (nI_add i 1) (by omega) (by omega) ?_
  refine zk_aload_n (pc := 1315) 0 dL_law_1315 rfl rfl ?_
  refine zk_iload_n (pc := 1316) 3 dL_law_1316 rfl rfl ?_
  refine zk_iconst (pc := 1317) (v := 2) dL_law_1317 (by decide) ?_
  refine zk_iadd (pc := 1318) dL_law_1318 ?_
  refine zk_sload (pc := 1319) (i + 2) dL_law_1319 rfl (nI_add i 2) (by omega) (by omega) ?_
  refine zk_aload_n (pc := 1320) 0 dL_law_1320 rfl rfl ?_
  refine zk_iload_n (pc := 1321) 3 dL_law_1321 rfl rfl ?_
  refine zk_iconst (pc := 1322) (v := 3) dL_law_1322 (by decide) ?_
  refine zk_iadd (pc := 1323) dL_law_1323 ?_
  refine zk_sload (pc := 1324) (i + 3) dL_law_1324 rfl (nI_add i 3) (by omega) (by omega) ?_
  refine zk_callV (pc := 1325) dL_law_1325 mtX8_odds lkL_166 stX8_odds (b := 46) (by rfl) (by rfl) [_, _, _] _ rfl rfl (Nat.le_of_ble_eq_true rfl) (Nat.le_of_ble_eq_true rfl) hm (fun r m2 l2 q => ?_)
  obtain ⟨rfl, hq⟩ := q
  exact zk_icmp_eq (pc := 1328) 1513 dL_law_1328 (by decide) (fun _ => nx _ _ hq) (fun z => absurd rfl z)
theorem lc_37 (hL : L ≤ 384) (hi : i + 6 ≤ L) (h : zInv mu lm) (nx : ∀ mu' lm', zInv mu' lm' → lwM L xs i 1513 mu' lm') : lwM L xs i 1333 mu lm := by
  unfold lwM
  refine zk_aload_n (pc := 1333) 1 dL_law_1333 rfl rfl ?_
  refine zk_aload_n (pc := 1334) 0 dL_law_1334 rfl rfl ?_
  refine zk_iload_n (pc := 1335) 3 dL_law_1335 rfl rfl ?_
  refine zk_iconst (pc := 1336) (v := 1) dL_law_1336 (by decide) ?_
  refine zk_iadd (pc := 1337) dL_law_1337 ?_
  refine zk_sload (pc := 1338) (i + 1) dL_law_1338 rfl (nI_add i 1) (by omega) (by omega) ?_
  refine zk_aload_n (pc := 1339) 0 dL_law_1339 rfl rfl ?_
  refine zk_iload_n (pc := 1340) 3 dL_law_1340 rfl rfl ?_
  refine zk_iconst (pc := 1341) (v := 2) dL_law_1341 (by decide) ?_
  refine zk_iadd (pc := 1342) dL_law_1342 ?_
  refine zk_sload (pc := 1343) (i + 2) dL_law_1343 rfl (nI_add i 2) (by omega) (by omega) ?_
  refine zk_callV (pc := 1344) dL_law_1344 mtX7_mid lkL_167 stX7_mid (b := 0) (by rfl) (by rfl) [_, _] _ rfl rfl (Nat.le_of_ble_eq_true rfl) (Nat.le_of_ble_eq_true rfl) (bo_mid h _ _) (fun r m1 l1 q => ?_)
  obtain ⟨v, rfl, hm⟩ := q
  refine zk_aload_n (pc := 1347) 2 dL_law_1347 rfl rfl ?_
  refine zk_aload_n (pc := 1348) 0 dL_law_1348 rfl rfl ?_
  refine zk_iload_n (pc := 1349) 3 dL_law_1349 rfl rfl ?_
  refine zk_iconst (pc := 1350) (v := 1) dL_law_1350 (by decide) ?_
  refine zk_iadd (pc := 1351) dL_law_1351 ?_
  refine zk_sload (pc := 1352) (i + 1) dL_law_1352 rfl (nI_add i 1) (by omega) (by omega) ?_
  refine zk_aload_n (pc := 1353) 0 dL_law_1353 rfl rfl ?_
  refine zk_iload_n (pc := 1354) 3 dL_law_1354 rfl rfl ?_
  refine zk_iconst (pc := 1355) (v := 2) dL_law_1355 (by decide) ?_
  refine zk_iadd (pc := 1356) dL_law_1356 ?_
  refine zk_sload (pc := 1357) (i + 2) dL_law_1357 rfl (nI_add i 2) (by omega) (by omega) ?_
  refine zk_callV (pc := 1358) dL_law_1358 mtX8_mid lkL_170 stX8_mid (b := 46) (by rfl) (by rfl) [_, _] _ rfl rfl (Nat.le_of_ble_eq_true rfl) (Nat.le_of_ble_eq_true rfl) hm (fun r m2 l2 q => ?_)
  obtain ⟨rfl, hq⟩ := q
  exact zk_icmp_eq (pc := 1361) 1513 dL_law_1361 (by decide) (fun _ => nx _ _ hq) (fun z => absurd rfl z)
theorem lc_38 (hL : L ≤ 384) (hi : i + 6 ≤ L) (h : zInv mu lm) (nx : ∀ mu' lm', zInv mu' lm' → lwM L xs i 1513 mu' lm') : lwM L xs i 1366 mu lm := by
  unfold lwM
  refine zk_aload_n (pc := 1366) 1 dL_law_1366 rfl rfl ?_
  refine zk_aload_n (pc := 1367) 0 dL_law_1367 rfl rfl ?_
  refine zk_iload_n (pc := 1368) 3 dL_law_1368 rfl rfl ?_
  refine zk_iconst (pc := 1369) (v := 1) dL_law_1369 (by decide) ?_
  refine zk_iadd (pc := 1370) dL_law_1370 ?_
  refine zk_sload (pc := 1371) (i + 1) dL_law_1371 rfl (nI_add i 1) (by omega) (by omega) ?_
  refine zk_aload_n (pc := 1372) 0 dL_law_1372 rfl rfl ?_
  refine zk_iload_n (pc := 1373) 3 dL_law_1373 rfl rfl ?_
  refine zk_iconst (pc := 1374) (v := 2) dL_law_1374 (by decide) ?_
  refine zk_iadd (pc := 1375) dL_law_1375 ?_
  refine zk_sload (pc := 1376) (i + 2) dL_law_1376 rfl (nI_add i 2) (by omega) (by omega) ?_
  refine zk_callV (pc := 1377) dL_law_1377 mtX7_lots lkL_171 stX7_lots (b := 0) (by rfl) (by rfl) [_, _] _ rfl rfl (Nat.le_of_ble_eq_true rfl) (Nat.le_of_ble_eq_true rfl) (bo_lots h _ _) (fun r m1 l1 q => ?_)
  obtain ⟨v, rfl, hm⟩ := q
  refine zk_aload_n (pc := 1380) 2 dL_law_1380 rfl rfl ?_
  refine zk_aload_n (pc := 1381) 0 dL_law_1381 rfl rfl ?_
  refine zk_iload_n (pc := 1382) 3 dL_law_1382 rfl rfl ?_
  refine zk_iconst (pc := 1383) (v := 1) dL_law_1383 (by decide) ?_
  refine zk_iadd (pc := 1384) dL_law_1384 ?_
  refine zk_sload (pc := 1385) (i + 1) dL_law_1385 rfl (nI_add i 1) (by omega) (by omega) ?_
  refine zk_aload_n (pc := 1386) 0 dL_law_1386 rfl rfl ?_
  refine zk_iload_n (pc := 1387) 3 dL_law_1387 rfl rfl ?_
  refine zk_iconst (pc := 1388) (v := 2) dL_law_1388 (by decide) ?_
  refine zk_iadd (pc := 1389) dL_law_1389 ?_
  refine zk_sload (pc := 1390) (i + 2) dL_law_1390 rfl (nI_add i 2) (by omega) (by omega) ?_
  refine zk_callV (pc := 1391) dL_law_1391 mtX8_lots lkL_174 stX8_lots (b := 46) (by rfl) (by rfl) [_, _] _ rfl rfl (Nat.le_of_ble_eq_true rfl) (Nat.le_of_ble_eq_true rfl) hm (fun r m2 l2 q => ?_)
  obtain ⟨rfl, hq⟩ := q
  exact zk_icmp_eq (pc := 1394) 1513 dL_law_1394 (by decide) (fun _ => nx _ _ hq) (fun z => absurd rfl z)
theorem lc_39 (hL : L ≤ 384) (hi : i + 6 ≤ L) (h : zInv mu lm) (nx : ∀ mu' lm', zInv mu' lm' → lwM L xs i 1513 mu' lm') : lwM L xs i 1399 mu lm := by
  unfold lwM
  refine zk_aload_n (pc := 1399) 1 dL_law_1399 rfl rfl ?_
  refine zk_callV (pc := 1400) dL_law_1400 mtX7_asked lkL_175 stX7_asked (b := 0) (by rfl) (by rfl) [] _ rfl rfl (Nat.le_of_ble_eq_true rfl) (Nat.le_of_ble_eq_true rfl) (bo_asked h) (fun r m1 l1 q => ?_)
  obtain ⟨v, rfl, hm⟩ := q
  refine zk_aload_n (pc := 1403) 2 dL_law_1403 rfl rfl ?_
  refine zk_callV (pc := 1404) dL_law_1404 mtX8_asked lkL_178 stX8_asked (b := 46) (by rfl) (by rfl) [] _ rfl rfl (Nat.le_of_ble_eq_true rfl) (Nat.le_of_ble_eq_true rfl) hm (fun r m2 l2 q => ?_)
  obtain ⟨rfl, hq⟩ := q
  exact zk_icmp_eq (pc := 1407) 1513 dL_law_1407 (by decide) (fun _ => nx _ _ hq) (fun z => absurd rfl z)
theorem lc_40 (hL : L ≤ 384) (hi : i + 6 ≤ L) (h : zInv mu lm) (nx : ∀ mu' lm', zInv mu' lm' → lwM L xs i 1513 mu' lm') : lwM L xs i 1412 mu lm := by
  unfold lwM
  refine zk_aload_n (pc := 1412) 1 dL_law_1412 rfl rfl ?_
  refine zk_callV (pc := 1413) dL_law_1413 mtX7_upper lkL_179 stX7_upper (b := 0) (by rfl) (by rfl) [] _ rfl rfl (Nat.le_of_ble_eq_true rfl) (Nat.le_of_ble_eq_true rfl) (bo_upper h) (fun r m1 l1 q => ?_)
  obtain ⟨v, rfl, hm⟩ := q
  refine zk_aload_n (pc := 1416) 2 dL_law_1416 rfl rfl ?_
  refine zk_callV (pc := 1417) dL_law_1417 mtX8_upper lkL_183 stX8_upper (b := 46) (by rfl) (by rfl) [] _ rfl rfl (Nat.le_of_ble_eq_true rfl) (Nat.le_of_ble_eq_true rfl) hm (fun r m2 l2 q => ?_)
  obtain ⟨rfl, hq⟩ := q
  refine zk_lcmp (pc := 1420) dL_law_1420 ?_
  exact zk_if_eq (pc := 1421) 1513 dL_law_1421 (by decide) (fun _ => nx _ _ hq) (fun z => absurd ((lg_cmp_eq v v).mpr rfl) z)
theorem lc_41 (hL : L ≤ 384) (hi : i + 6 ≤ L) (h : zInv mu lm) (nx : ∀ mu' lm', zInv mu' lm' → lwM L xs i 1513 mu' lm') : lwM L xs i 1426 mu lm := by
  unfold lwM
  refine zk_aload_n (pc := 1426) 1 dL_law_1426 rfl rfl ?_
  refine zk_callV (pc := 1427) dL_law_1427 mtX7_lower lkL_184 stX7_lower (b := 0) (by rfl) (by rfl) [] _ rfl rfl (Nat.le_of_ble_eq_true rfl) (Nat.le_of_ble_eq_true rfl) (bo_lower h) (fun r m1 l1 q => ?_)
  obtain ⟨v, rfl, hm⟩ := q
  refine zk_aload_n (pc := 1430) 2 dL_law_1430 rfl rfl ?_
  refine zk_callV (pc := 1431) dL_law_1431 mtX8_lower lkL_187 stX8_lower (b := 46) (by rfl) (by rfl) [] _ rfl rfl (Nat.le_of_ble_eq_true rfl) (Nat.le_of_ble_eq_true rfl) hm (fun r m2 l2 q => ?_)
  obtain ⟨rfl, hq⟩ := q
  refine zk_lcmp (pc := 1434) dL_law_1434 ?_
  exact zk_if_eq (pc := 1435) 1513 dL_law_1435 (by decide) (fun _ => nx _ _ hq) (fun z => absurd ((lg_cmp_eq v v).mpr rfl) z)
theorem lc_42 (hL : L ≤ 384) (hi : i + 6 ≤ L) (h : zInv mu lm) (nx : ∀ mu' lm', zInv mu' lm' → lwM L xs i 1513 mu' lm') : lwM L xs i 1440 mu lm := by
  unfold lwM
  refine zk_aload_n (pc := 1440) 1 dL_law_1440 rfl rfl ?_
  refine zk_aload_n (pc := 1441) 0 dL_law_1441 rfl rfl ?_
  refine zk_iload_n (pc := 1442) 3 dL_law_1442 rfl rfl ?_
  refine zk_iconst (pc := 1443) (v := 1) dL_law_1443 (by decide) ?_
  refine zk_iadd (pc := 1444) dL_law_1444 ?_
  refine zk_sload (pc := 1445) (i + 1) dL_law_1445 rfl (nI_add i 1) (by omega) (by omega) ?_
  refine zk_callV (pc := 1446) dL_law_1446 mtX7_count lkL_188 stX7_count (b := 0) (by rfl) (by rfl) [_] _ rfl rfl (Nat.le_of_ble_eq_true rfl) (Nat.le_of_ble_eq_true rfl) (bo_count h _) (fun r m1 l1 q => ?_)
  obtain ⟨v, rfl, hm⟩ := q
  refine zk_aload_n (pc := 1449) 2 dL_law_1449 rfl rfl ?_
  refine zk_aload_n (pc := 1450) 0 dL_law_1450 rfl rfl ?_
  refine zk_iload_n (pc := 1451) 3 dL_law_1451 rfl rfl ?_
  refine zk_iconst (pc := 1452) (v := 1) dL_law_1452 (by decide) ?_
  refine zk_iadd (pc := 1453) dL_law_1453 ?_
  refine zk_sload (pc := 1454) (i + 1) dL_law_1454 rfl (nI_add i 1) (by omega) (by omega) ?_
  refine zk_callV (pc := 1455) dL_law_1455 mtX8_count lkL_191 stX8_count (b := 46) (by rfl) (by rfl) [_] _ rfl rfl (Nat.le_of_ble_eq_true rfl) (Nat.le_of_ble_eq_true rfl) hm (fun r m2 l2 q => ?_)
  obtain ⟨rfl, hq⟩ := q
  exact zk_icmp_eq (pc := 1458) 1513 dL_law_1458 (by decide) (fun _ => nx _ _ hq) (fun z => absurd rfl z)
theorem lc_43 (hL : L ≤ 384) (hi : i + 6 ≤ L) (h : zInv mu lm) (nx : ∀ mu' lm', zInv mu' lm' → lwM L xs i 1513 mu' lm') : lwM L xs i 1463 mu lm := by
  unfold lwM
  refine zk_aload_n (pc := 1463) 1 dL_law_1463 rfl rfl ?_
  refine zk_callV (pc := 1464) dL_law_1464 mtX7_finding lkL_192 stX7_finding (b := 0) (by rfl) (by rfl) [] _ rfl rfl (Nat.le_of_ble_eq_true rfl) (Nat.le_of_ble_eq_true rfl) (bo_finding h) (fun r m1 l1 q => ?_)
  obtain ⟨v, rfl, hm⟩ := q
  refine zk_aload_n (pc := 1467) 2 dL_law_1467 rfl rfl ?_
  refine zk_callV (pc := 1468) dL_law_1468 mtX8_finding lkL_195 stX8_finding (b := 46) (by rfl) (by rfl) [] _ rfl rfl (Nat.le_of_ble_eq_true rfl) (Nat.le_of_ble_eq_true rfl) hm (fun r m2 l2 q => ?_)
  obtain ⟨rfl, hq⟩ := q
  exact zk_icmp_eq (pc := 1471) 1513 dL_law_1471 (by decide) (fun _ => nx _ _ hq) (fun z => absurd rfl z)
theorem lc_44 (hL : L ≤ 384) (hi : i + 6 ≤ L) (h : zInv mu lm) (nx : ∀ mu' lm', zInv mu' lm' → lwM L xs i 1513 mu' lm') : lwM L xs i 1476 mu lm := by
  unfold lwM
  refine zk_aload_n (pc := 1476) 1 dL_law_1476 rfl rfl ?_
  refine zk_aload_n (pc := 1477) 0 dL_law_1477 rfl rfl ?_
  refine zk_iload_n (pc := 1478) 3 dL_law_1478 rfl rfl ?_
  refine zk_iconst (pc := 1479) (v := 1) dL_law_1479 (by decide) ?_
  refine zk_iadd (pc := 1480) dL_law_1480 ?_
  refine zk_sload (pc := 1481) (i + 1) dL_law_1481 rfl (nI_add i 1) (by omega) (by omega) ?_
  refine zk_callV (pc := 1482) dL_law_1482 mtX7_findings lkL_196 stX7_findings (b := 0) (by rfl) (by rfl) [_] _ rfl rfl (Nat.le_of_ble_eq_true rfl) (Nat.le_of_ble_eq_true rfl) (bo_findings h _) (fun r m1 l1 q => ?_)
  obtain ⟨v, rfl, hm⟩ := q
  refine zk_aload_n (pc := 1485) 2 dL_law_1485 rfl rfl ?_
  refine zk_aload_n (pc := 1486) 0 dL_law_1486 rfl rfl ?_
  refine zk_iload_n (pc := 1487) 3 dL_law_1487 rfl rfl ?_
  refine zk_iconst (pc := 1488) (v := 1) dL_law_1488 (by decide) ?_
  refine zk_iadd (pc := 1489) dL_law_1489 ?_
  refine zk_sload (pc := 1490) (i + 1) dL_law_1490 rfl (nI_add i 1) (by omega) (by omega) ?_
  refine zk_callV (pc := 1491) dL_law_1491 mtX8_findings lkL_199 stX8_findings (b := 46) (by rfl) (by rfl) [_] _ rfl rfl (Nat.le_of_ble_eq_true rfl) (Nat.le_of_ble_eq_true rfl) hm (fun r m2 l2 q => ?_)
  obtain ⟨rfl, hq⟩ := q
  exact zk_icmp_eq (pc := 1494) 1513 dL_law_1494 (by decide) (fun _ => nx _ _ hq) (fun z => absurd rfl z)
theorem lc_45 (hL : L ≤ 384) (hi : i + 6 ≤ L) (h : zInv mu lm) (nx : ∀ mu' lm', zInv mu' lm' → lwM L xs i 1513 mu' lm') : lwM L xs i 1499 mu lm := by
  unfold lwM
  refine zk_aload_n (pc := 1499) 1 dL_law_1499 rfl rfl ?_
  refine zk_callV (pc := 1500) dL_law_1500 mtX7_digest lkL_200 stX7_digest (b := 0) (by rfl) (by rfl) [] _ rfl rfl (Nat.le_of_ble_eq_true rfl) (Nat.le_of_ble_eq_true rfl) (bo_digest h) (fun r m1 l1 q => ?_)
  obtain ⟨v, rfl, hm⟩ := q
  refine zk_aload_n (pc := 1503) 2 dL_law_1503 rfl rfl ?_
  refine zk_callV (pc := 1504) dL_law_1504 mtX8_digest lkL_203 stX8_digest (b := 46) (by rfl) (by rfl) [] _ rfl rfl (Nat.le_of_ble_eq_true rfl) (Nat.le_of_ble_eq_true rfl) hm (fun r m2 l2 q => ?_)
  obtain ⟨rfl, hq⟩ := q
  refine zk_lcmp (pc := 1507) dL_law_1507 ?_
  exact zk_if_eq (pc := 1508) 1513 dL_law_1508 (by decide) (fun _ => nx _ _ hq) (fun z => absurd ((lg_cmp_eq v v).mpr rfl) z)
theorem law_sw (hL : L ≤ 384) (hi : i + 6 ≤ L) (h : zInv mu lm) (nx : ∀ mu' lm', zInv mu' lm' → lwM L xs i 1513 mu' lm') {K : Nat} (hK : K ≤ 45) : zk_M 21 RL cL_law 4 ret (some (L, xs)) 33 [.ref 99, .ref 0, .ref 46, .int (nI i)] [.int (nI K)] mu lm (fun r _ _ => r = some (.int 1)) := by
  by_cases h0 : K = 0
  · subst h0; exact zk_tabIn (pc := 33) (off := 199) 232 dL_law_33 (by decide +kernel) (by decide +kernel) (by decide +kernel) (by decide) (lc_0 hL hi h nx)
  by_cases h1 : K = 1
  · subst h1; exact zk_tabIn (pc := 33) (off := 232) 265 dL_law_33 (by decide +kernel) (by decide +kernel) (by decide +kernel) (by decide) (lc_1 hL hi h nx)
  by_cases h2 : K = 2
  · subst h2; exact zk_tabIn (pc := 33) (off := 275) 308 dL_law_33 (by decide +kernel) (by decide +kernel) (by decide +kernel) (by decide) (lc_2 hL hi h nx)
  by_cases h3 : K = 3
  · subst h3; exact zk_tabIn (pc := 33) (off := 308) 341 dL_law_33 (by decide +kernel) (by decide +kernel) (by decide +kernel) (by decide) (lc_3 hL hi h nx)
  by_cases h4 : K = 4
  · subst h4; exact zk_tabIn (pc := 33) (off := 331) 364 dL_law_33 (by decide +kernel) (by decide +kernel) (by decide +kernel) (by decide) (lc_4 hL hi h nx)
  by_cases h5 : K = 5
  · subst h5; exact zk_tabIn (pc := 33) (off := 394) 427 dL_law_33 (by decide +kernel) (by decide +kernel) (by decide +kernel) (by decide) (lc_5 hL hi h nx)
  by_cases h6 : K = 6
  · subst h6; exact zk_tabIn (pc := 33) (off := 417) 450 dL_law_33 (by decide +kernel) (by decide +kernel) (by decide +kernel) (by decide) (lc_6 hL hi h nx)
  by_cases h7 : K = 7
  · subst h7; exact zk_tabIn (pc := 33) (off := 450) 483 dL_law_33 (by decide +kernel) (by decide +kernel) (by decide +kernel) (by decide) (lc_7 hL hi h nx)
  by_cases h8 : K = 8
  · subst h8; exact zk_tabIn (pc := 33) (off := 493) 526 dL_law_33 (by decide +kernel) (by decide +kernel) (by decide +kernel) (by decide) (lc_8 hL hi h nx)
  by_cases h9 : K = 9
  · subst h9; exact zk_tabIn (pc := 33) (off := 516) 549 dL_law_33 (by decide +kernel) (by decide +kernel) (by decide +kernel) (by decide) (lc_9 hL hi h nx)
  by_cases h10 : K = 10
  · subst h10; exact zk_tabIn (pc := 33) (off := 539) 572 dL_law_33 (by decide +kernel) (by decide +kernel) (by decide +kernel) (by decide) (lc_10 hL hi h nx)
  by_cases h11 : K = 11
  · subst h11; exact zk_tabIn (pc := 33) (off := 572) 605 dL_law_33 (by decide +kernel) (by decide +kernel) (by decide +kernel) (by decide) (lc_11 hL hi h nx)
  by_cases h12 : K = 12
  · subst h12; exact zk_tabIn (pc := 33) (off := 605) 638 dL_law_33 (by decide +kernel) (by decide +kernel) (by decide +kernel) (by decide) (lc_12 hL hi h nx)
  by_cases h13 : K = 13
  · subst h13; exact zk_tabIn (pc := 33) (off := 628) 661 dL_law_33 (by decide +kernel) (by decide +kernel) (by decide +kernel) (by decide) (lc_13 hL hi h nx)
  by_cases h14 : K = 14
  · subst h14; exact zk_tabIn (pc := 33) (off := 661) 694 dL_law_33 (by decide +kernel) (by decide +kernel) (by decide +kernel) (by decide) (lc_14 hL hi h nx)
  by_cases h15 : K = 15
  · subst h15; exact zk_tabIn (pc := 33) (off := 674) 707 dL_law_33 (by decide +kernel) (by decide +kernel) (by decide +kernel) (by decide) (lc_15 hL hi h nx)
  by_cases h16 : K = 16
  · subst h16; exact zk_tabIn (pc := 33) (off := 697) 730 dL_law_33 (by decide +kernel) (by decide +kernel) (by decide +kernel) (by decide) (lc_16 hL hi h nx)
  by_cases h17 : K = 17
  · subst h17; exact zk_tabIn (pc := 33) (off := 710) 743 dL_law_33 (by decide +kernel) (by decide +kernel) (by decide +kernel) (by decide) (lc_17 hL hi h nx)
  by_cases h18 : K = 18
  · subst h18; exact zk_tabIn (pc := 33) (off := 733) 766 dL_law_33 (by decide +kernel) (by decide +kernel) (by decide +kernel) (by decide) (lc_18 hL hi h nx)
  by_cases h19 : K = 19
  · subst h19; exact zk_tabIn (pc := 33) (off := 756) 789 dL_law_33 (by decide +kernel) (by decide +kernel) (by decide +kernel) (by decide) (lc_19 hL hi h nx)
  by_cases h20 : K = 20
  · subst h20; exact zk_tabIn (pc := 33) (off := 779) 812 dL_law_33 (by decide +kernel) (by decide +kernel) (by decide +kernel) (by decide) (lc_20 hL hi h nx)
  by_cases h21 : K = 21
  · subst h21; exact zk_tabIn (pc := 33) (off := 812) 845 dL_law_33 (by decide +kernel) (by decide +kernel) (by decide +kernel) (by decide) (lc_21 hL hi h nx)
  by_cases h22 : K = 22
  · subst h22; exact zk_tabIn (pc := 33) (off := 845) 878 dL_law_33 (by decide +kernel) (by decide +kernel) (by decide +kernel) (by decide) (lc_22 hL hi h nx)
  by_cases h23 : K = 23
  · subst h23; exact zk_tabIn (pc := 33) (off := 878) 911 dL_law_33 (by decide +kernel) (by decide +kernel) (by decide +kernel) (by decide) (lc_23 hL hi h nx)
  by_cases h24 : K = 24
  · subst h24; exact zk_tabIn (pc := 33) (off := 911) 944 dL_law_33 (by decide +kernel) (by decide +kernel) (by decide +kernel) (by decide) (lc_24 hL hi h nx)
  by_cases h25 : K = 25
  · subst h25; exact zk_tabIn (pc := 33) (off := 944) 977 dL_law_33 (by decide +kernel) (by decide +kernel) (by decide +kernel) (by decide) (lc_25 hL hi h nx)
  by_cases h26 : K = 26
  · subst h26; exact zk_tabIn (pc := 33) (off := 957) 990 dL_law_33 (by decide +kernel) (by decide +kernel) (by decide +kernel) (by decide) (lc_26 hL hi h nx)
  by_cases h27 : K = 27
  · subst h27; exact zk_tabIn (pc := 33) (off := 980) 1013 dL_law_33 (by decide +kernel) (by decide +kernel) (by decide +kernel) (by decide) (lc_27 hL hi h nx)
  by_cases h28 : K = 28
  · subst h28; exact zk_tabIn (pc := 33) (off := 1033) 1066 dL_law_33 (by decide +kernel) (by decide +kernel) (by decide +kernel) (by decide) (lc_28 hL hi h nx)
  by_cases h29 : K = 29
  · subst h29; exact zk_tabIn (pc := 33) (off := 1066) 1099 dL_law_33 (by decide +kernel) (by decide +kernel) (by decide +kernel) (by decide) (lc_29 hL hi h nx)
  by_cases h30 : K = 30
  · subst h30; exact zk_tabIn (pc := 33) (off := 1099) 1132 dL_law_33 (by decide +kernel) (by decide +kernel) (by decide +kernel) (by decide) (lc_30 hL hi h nx)
  by_cases h31 : K = 31
  · subst h31; exact zk_tabIn (pc := 33) (off := 1132) 1165 dL_law_33 (by decide +kernel) (by decide +kernel) (by decide +kernel) (by decide) (lc_31 hL hi h nx)
  by_cases h32 : K = 32
  · subst h32; exact zk_tabIn (pc := 33) (off := 1155) 1188 dL_law_33 (by decide +kernel) (by decide +kernel) (by decide +kernel) (by decide) (lc_32 hL hi h nx)
  by_cases h33 : K = 33
  · subst h33; exact zk_tabIn (pc := 33) (off := 1178) 1211 dL_law_33 (by decide +kernel) (by decide +kernel) (by decide +kernel) (by decide) (lc_33 hL hi h nx)
  by_cases h34 : K = 34
  · subst h34; exact zk_tabIn (pc := 33) (off := 1201) 1234 dL_law_33 (by decide +kernel) (by decide +kernel) (by decide +kernel) (by decide) (lc_34 hL hi h nx)
  by_cases h35 : K = 35
  · subst h35; exact zk_tabIn (pc := 33) (off := 1224) 1257 dL_law_33 (by decide +kernel) (by decide +kernel) (by decide +kernel) (by decide) (lc_35 hL hi h nx)
  by_cases h36 : K = 36
  · subst h36; exact zk_tabIn (pc := 33) (off := 1257) 1290 dL_law_33 (by decide +kernel) (by decide +kernel) (by decide +kernel) (by decide) (lc_36 hL hi h nx)
  by_cases h37 : K = 37
  · subst h37; exact zk_tabIn (pc := 33) (off := 1300) 1333 dL_law_33 (by decide +kernel) (by decide +kernel) (by decide +kernel) (by decide) (lc_37 hL hi h nx)
  by_cases h38 : K = 38
  · subst h38; exact zk_tabIn (pc := 33) (off := 1333) 1366 dL_law_33 (by decide +kernel) (by decide +kernel) (by decide +kernel) (by decide) (lc_38 hL hi h nx)
  by_cases h39 : K = 39
  · subst h39; exact zk_tabIn (pc := 33) (off := 1366) 1399 dL_law_33 (by decide +kernel) (by decide +kernel) (by decide +kernel) (by decide) (lc_39 hL hi h nx)
  by_cases h40 : K = 40
  · subst h40; exact zk_tabIn (pc := 33) (off := 1379) 1412 dL_law_33 (by decide +kernel) (by decide +kernel) (by decide +kernel) (by decide) (lc_40 hL hi h nx)
  by_cases h41 : K = 41
  · subst h41; exact zk_tabIn (pc := 33) (off := 1393) 1426 dL_law_33 (by decide +kernel) (by decide +kernel) (by decide +kernel) (by decide) (lc_41 hL hi h nx)
  by_cases h42 : K = 42
  · subst h42; exact zk_tabIn (pc := 33) (off := 1407) 1440 dL_law_33 (by decide +kernel) (by decide +kernel) (by decide +kernel) (by decide) (lc_42 hL hi h nx)
  by_cases h43 : K = 43
  · subst h43; exact zk_tabIn (pc := 33) (off := 1430) 1463 dL_law_33 (by decide +kernel) (by decide +kernel) (by decide +kernel) (by decide) (lc_43 hL hi h nx)
  by_cases h44 : K = 44
  · subst h44; exact zk_tabIn (pc := 33) (off := 1443) 1476 dL_law_33 (by decide +kernel) (by decide +kernel) (by decide +kernel) (by decide) (lc_44 hL hi h nx)
  by_cases h45 : K = 45
  · subst h45; exact zk_tabIn (pc := 33) (off := 1466) 1499 dL_law_33 (by decide +kernel) (by decide +kernel) (by decide +kernel) (by decide) (lc_45 hL hi h nx)
  omega
theorem law_neg : ∀ L, L < 6 → (nI L - 6).toInt < 0 := by decide +kernel
theorem law_lp (hL : L ≤ 384) : ∀ (n i : Nat) (mu : Mem) (lm : MemL), i ≤ L + 6 → L + 7 ≤ i + n → zInv mu lm → lwM L xs i 18 mu lm
  | 0, i, mu, lm, hi, hn, h => by omega
  | n + 1, i, mu, lm, hi, hn, h => by
    unfold lwM
    refine zk_iload_n (pc := 18) 3 dL_law_18 rfl rfl ?_
    refine zk_aload_n (pc := 19) 0 dL_law_19 rfl rfl ?_
    refine zk_slen (pc := 20) dL_law_20 rfl ?_
    refine zk_bipush (pc := 21) (v := 6) dL_law_21 (by decide) ?_
    refine zk_isub (pc := 23) dL_law_23 ?_
    refine zk_icmp_gt (pc := 24) 1519 dL_law_24 (by decide) (fun h24 => ?_) (fun h24 => ?_)
    · refine zk_iconst (pc := 1519) (v := 1) dL_law_1519 (by decide) ?_
      exact zk_ireturn (pc := 1520) dL_law_1520 (Or.inr ⟨rfl, Or.inr rfl⟩) rfl
    · have hi6 : i + 6 ≤ L := by
        rcases Nat.lt_or_ge L 6 with z | z
        · exfalso
          apply h24
          have z1 := law_neg L z
          have z2 := nI_pos' (n := i) (by omega)
          have e0 : (0 : Int32).toInt = 0 := by decide
          simp only [zlt, zle] at *
          omega
        · rw [show (6 : Int32) = nI 6 from rfl, nI_sub z, nIlt (by omega) (by omega)] at h24
          omega
      have nx : ∀ mu' lm', zInv mu' lm' → lwM L xs i 1513 mu' lm' := fun mu' lm' h' => by
        unfold lwM
        refine zs_iinc (pc := 1513) (ls' := [_, _, _, _]) dL_law_1513 rfl (nI_add i 6) (by decide) rfl ?_
        refine zk_goto (pc := 1516) 18 dL_law_1516 (by decide) ?_
        exact law_lp hL n (i + 6) mu' lm' (by omega) (by omega) h'
      refine zk_aload_n (pc := 27) 0 dL_law_27 rfl rfl ?_
      refine zk_iload_n (pc := 28) 3 dL_law_28 rfl rfl ?_
      refine zk_sload (pc := 29) i dL_law_29 rfl rfl (by omega) (by omega) ?_
      refine zk_bipush (pc := 30) (v := 63) dL_law_30 (by decide) ?_
      refine zk_iand (pc := 32) dL_law_32 ?_
      generalize xs i &&& 63 = y
      by_cases hy : 0 ≤ y ∧ y ≤ 45
      · obtain ⟨K, hK, rfl⟩ := zgetl (M := 45) hy (by decide)
        exact law_sw hL hi6 h nx hK
      · refine zk_tabOut (pc := 33) 1513 dL_law_33 ?_ (by decide) (nx mu lm h)
        have e0 : (0 : Int32).toInt = 0 := by decide
        have e5 : (45 : Int32).toInt = 45 := by decide
        simp only [zle] at hy
        omega
end M77

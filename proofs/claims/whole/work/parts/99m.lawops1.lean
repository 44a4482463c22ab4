section LAWOPS
variable {G : zG} {Γ : zT}
theorem lw_op_row {b L : Nat} {xs : Nat → Int32} {i k n : Nat} (hX : va_X b L xs Γ.2.2.1.1 Γ.2.2.1.1.heap) (hb : b < Γ.2.2.1.1.heap.size) (hL : L ≤ 3584) (hi : i + 7 ≤ L) (hk : Lk k n) (h : lwS G Γ b i (k + 162) (n + 810) 1376) : lwS G Γ b i k n 188 := by
  intro P a a' q N R Q D E O T U V F M hA
  obtain ⟨hp1, hp2, hv, hA2⟩ := op_row hA (xs (i + 1)) (xs (i + 2)) (xs (i + 3))
  refine z_aload_n dL_188 rfl ?_
  refine L_arg hX hb hL hi 1 (by decide) (by decide) rfl rfl dL_189 dL_190 dL_191 dL_192 dL_193 ?_
  refine L_arg hX hb hL hi 2 (by decide) (by decide) rfl rfl dL_194 dL_195 dL_196 dL_197 dL_198 ?_
  refine L_arg hX hb hL hi 3 (by decide) (by decide) rfl rfl dL_199 dL_200 dL_201 dL_202 dL_203 ?_
  refine L_xw (fun sz => c_X6_row G P a sz N F _ _ _ hp1) (pm_nf _ _ _ _ _ _ _ _ _ _ _) rfl rfl zc_X6_row zv_X6_row tw_m_RL_13 (L_room rfl hk) rfl (Nat.zero_le _) dL_204 (L_k1 hk rfl) (L_k2 hk rfl) ?_
  refine L_perm (pm_nf _ _ _ _ _ _ _ _ _ _ _).symm ?_
  refine z_aload_n dL_207 rfl ?_
  refine L_arg hX hb hL hi 1 (by decide) (by decide) rfl rfl dL_208 dL_209 dL_210 dL_211 dL_212 ?_
  refine L_arg hX hb hL hi 2 (by decide) (by decide) rfl rfl dL_213 dL_214 dL_215 dL_216 dL_217 ?_
  refine L_arg hX hb hL hi 3 (by decide) (by decide) rfl rfl dL_218 dL_219 dL_220 dL_221 dL_222 ?_
  refine L_xw (fun sz => c_X7_row G a' (gX_ok G P) sz M _ _ _ hp2) (pm_m _ _ _ _ _ _ _ _ _ _ _) rfl rfl zc_X7_row zv_X7_row tw_m_RL_17 (L_room7 rfl hk) rfl (Nat.le_of_ble_eq_true rfl) dL_223 (Nat.le_refl _) (Nat.le_refl _) ?_
  refine L_perm (pm_m _ _ _ _ _ _ _ _ _ _ _).symm ?_
  refine z_icmp_eq dL_226 (tgt := 1376) (by decide) (fun _ => ?_) (fun hne => absurd hv hne)
  exact h _ _ _ _ _ _ _ _ _ _ _ _ _ _ _ hA2
theorem lw_op_set {b L : Nat} {xs : Nat → Int32} {i k n : Nat} (hX : va_X b L xs Γ.2.2.1.1 Γ.2.2.1.1.heap) (hb : b < Γ.2.2.1.1.heap.size) (hL : L ≤ 3584) (hi : i + 7 ≤ L) (hk : Lk k n) (h : lwS G Γ b i (k + 162) (n + 810) 1376) : lwS G Γ b i k n 231 := by
  intro P a a' q N R Q D E O T U V F M hA
  obtain ⟨hp1, hp2, hv, hA2⟩ := op_set hA (xs (i + 1)) (xs (i + 2)) ((xs (i + 3)).toInt64 <<< (Int32.toInt64 32 &&& 63) ||| (xs (i + 4)).toInt64 &&& 4294967295)
  refine z_aload_n dL_231 rfl ?_
  refine L_arg hX hb hL hi 1 (by decide) (by decide) rfl rfl dL_232 dL_233 dL_234 dL_235 dL_236 ?_
  refine L_arg hX hb hL hi 2 (by decide) (by decide) rfl rfl dL_237 dL_238 dL_239 dL_240 dL_241 ?_
  refine L_arg hX hb hL hi 3 (by decide) (by decide) rfl rfl dL_242 dL_243 dL_244 dL_245 dL_246 ?_
  refine z_i2l dL_247 ?_
  refine z_bipush (v := 32) dL_248 rfl ?_
  refine z_lshl dL_250 ?_
  refine L_arg hX hb hL hi 4 (by decide) (by decide) rfl rfl dL_251 dL_252 dL_253 dL_254 dL_255 ?_
  refine z_i2l dL_256 ?_
  refine z_ldc2 tw_l_RL_18 dL_257 ?_
  refine z_land dL_260 ?_
  refine z_lor dL_261 ?_
  refine L_xw (fun sz => c_X6_set G P a sz N F _ _ _ hp1) (pm_nf _ _ _ _ _ _ _ _ _ _ _) rfl rfl zc_X6_set zv_X6_set tw_m_RL_20 (L_room rfl hk) rfl (Nat.zero_le _) dL_262 (L_k1 hk rfl) (L_k2 hk rfl) ?_
  refine L_perm (pm_nf _ _ _ _ _ _ _ _ _ _ _).symm ?_
  refine z_aload_n dL_265 rfl ?_
  refine L_arg hX hb hL hi 1 (by decide) (by decide) rfl rfl dL_266 dL_267 dL_268 dL_269 dL_270 ?_
  refine L_arg hX hb hL hi 2 (by decide) (by decide) rfl rfl dL_271 dL_272 dL_273 dL_274 dL_275 ?_
  refine L_arg hX hb hL hi 3 (by decide) (by decide) rfl rfl dL_276 dL_277 dL_278 dL_279 dL_280 ?_
  refine z_i2l dL_281 ?_
  refine z_bipush (v := 32) dL_282 rfl ?_
  refine z_lshl dL_284 ?_
  refine L_arg hX hb hL hi 4 (by decide) (by decide) rfl rfl dL_285 dL_286 dL_287 dL_288 dL_289 ?_
  refine z_i2l dL_290 ?_
  refine z_ldc2 tw_l_RL_18 dL_291 ?_
  refine z_land dL_294 ?_
  refine z_lor dL_295 ?_
  refine L_xw (fun sz => c_X7_set G a' (gX_ok G P) sz M _ _ _ hp2) (pm_m _ _ _ _ _ _ _ _ _ _ _) rfl rfl zc_X7_set zv_X7_set tw_m_RL_24 (L_room7 rfl hk) rfl (Nat.le_of_ble_eq_true rfl) dL_296 (Nat.le_refl _) (Nat.le_refl _) ?_
  refine L_perm (pm_m _ _ _ _ _ _ _ _ _ _ _).symm ?_
  refine z_icmp_eq dL_299 (tgt := 1376) (by decide) (fun _ => ?_) (fun hne => absurd hv hne)
  exact h _ _ _ _ _ _ _ _ _ _ _ _ _ _ _ hA2
theorem lw_op_copy {b L : Nat} {xs : Nat → Int32} {i k n : Nat} (hX : va_X b L xs Γ.2.2.1.1 Γ.2.2.1.1.heap) (hb : b < Γ.2.2.1.1.heap.size) (hL : L ≤ 3584) (hi : i + 7 ≤ L) (hk : Lk k n) (h : lwS G Γ b i (k + 162) (n + 810) 1376) : lwS G Γ b i k n 304 := by
  intro P a a' q N R Q D E O T U V F M hA
  obtain ⟨hp1, hp2, hv, hA2⟩ := op_copy hA (xs (i + 1)) (xs (i + 2)) (xs (i + 3)) (xs (i + 4)) (xs (i + 5))
  refine z_aload_n dL_304 rfl ?_
  refine L_arg hX hb hL hi 1 (by decide) (by decide) rfl rfl dL_305 dL_306 dL_307 dL_308 dL_309 ?_
  refine L_arg hX hb hL hi 2 (by decide) (by decide) rfl rfl dL_310 dL_311 dL_312 dL_313 dL_314 ?_
  refine L_arg hX hb hL hi 3 (by decide) (by decide) rfl rfl dL_315 dL_316 dL_317 dL_318 dL_319 ?_
  refine L_arg hX hb hL hi 4 (by decide) (by decide) rfl rfl dL_320 dL_321 dL_322 dL_323 dL_324 ?_
  refine L_arg hX hb hL hi 5 (by decide) (by decide) rfl rfl dL_325 dL_326 dL_327 dL_328 dL_329 ?_
  refine L_xw (fun sz => c_X6_copy G P a sz N F _ _ _ _ _ hp1) (pm_nf _ _ _ _ _ _ _ _ _ _ _) rfl rfl zc_X6_copy zv_X6_copy tw_m_RL_25 (L_room rfl hk) rfl (Nat.zero_le _) dL_330 (L_k1 hk rfl) (L_k2 hk rfl) ?_
  refine L_perm (pm_nf _ _ _ _ _ _ _ _ _ _ _).symm ?_
  refine z_aload_n dL_333 rfl ?_
  refine L_arg hX hb hL hi 1 (by decide) (by decide) rfl rfl dL_334 dL_335 dL_336 dL_337 dL_338 ?_
  refine L_arg hX hb hL hi 2 (by decide) (by decide) rfl rfl dL_339 dL_340 dL_341 dL_342 dL_343 ?_
  refine L_arg hX hb hL hi 3 (by decide) (by decide) rfl rfl dL_344 dL_345 dL_346 dL_347 dL_348 ?_
  refine L_arg hX hb hL hi 4 (by decide) (by decide) rfl rfl dL_349 dL_350 dL_351 dL_352 dL_353 ?_
  refine L_arg hX hb hL hi 5 (by decide) (by decide) rfl rfl dL_354 dL_355 dL_356 dL_357 dL_358 ?_
  refine L_xw (fun sz => c_X7_copy G a' (gX_ok G P) sz M _ _ _ _ _ hp2) (pm_m _ _ _ _ _ _ _ _ _ _ _) rfl rfl zc_X7_copy zv_X7_copy tw_m_RL_29 (L_room7 rfl hk) rfl (Nat.le_of_ble_eq_true rfl) dL_359 (Nat.le_refl _) (Nat.le_refl _) ?_
  refine L_perm (pm_m _ _ _ _ _ _ _ _ _ _ _).symm ?_
  refine z_icmp_eq dL_362 (tgt := 1376) (by decide) (fun _ => ?_) (fun hne => absurd hv hne)
  exact h _ _ _ _ _ _ _ _ _ _ _ _ _ _ _ hA2
theorem lw_op_element {b L : Nat} {xs : Nat → Int32} {i k n : Nat} (hX : va_X b L xs Γ.2.2.1.1 Γ.2.2.1.1.heap) (hb : b < Γ.2.2.1.1.heap.size) (hL : L ≤ 3584) (hi : i + 7 ≤ L) (hk : Lk k n) (h : lwS G Γ b i (k + 162) (n + 810) 1376) : lwS G Γ b i k n 367 := by
  intro P a a' q N R Q D E O T U V F M hA
  obtain ⟨hp1, hp2, hv⟩ := op_element hA (xs (i + 1)) (xs (i + 2))
  have hA2 := hA
  refine z_aload_n dL_367 rfl ?_
  refine L_arg hX hb hL hi 1 (by decide) (by decide) rfl rfl dL_368 dL_369 dL_370 dL_371 dL_372 ?_
  refine L_arg hX hb hL hi 2 (by decide) (by decide) rfl rfl dL_373 dL_374 dL_375 dL_376 dL_377 ?_
  refine L_xrl (c_X6_element G P a N F _ _ hp1) (pm_nf _ _ _ _ _ _ _ _ _ _ _) rfl rfl zc_X6_element zv_X6_element tw_m_RL_30 (L_room rfl hk) rfl (Nat.zero_le _) dL_378 (Nat.le_add_right k 162) (Nat.le_add_right n 810) ?_
  refine z_aload_n dL_381 rfl ?_
  refine L_arg hX hb hL hi 1 (by decide) (by decide) rfl rfl dL_382 dL_383 dL_384 dL_385 dL_386 ?_
  refine L_arg hX hb hL hi 2 (by decide) (by decide) rfl rfl dL_387 dL_388 dL_389 dL_390 dL_391 ?_
  refine L_mrl (c_X7_element G a' M _ _ hp2) (pm_m _ _ _ _ _ _ _ _ _ _ _) rfl rfl zc_X7_element zv_X7_element tw_m_RL_34 (L_room7 rfl hk) rfl (Nat.le_of_ble_eq_true rfl) dL_392 (Nat.le_refl _) (Nat.le_refl _) ?_
  refine z_lcmp dL_395 ?_
  refine z_if_eq dL_396 (tgt := 1376) (by decide) (fun _ => ?_) (fun hne => absurd (lcmp_eq hv) hne)
  exact h _ _ _ _ _ _ _ _ _ _ _ _ _ _ _ hA2
theorem lw_op_show {b L : Nat} {xs : Nat → Int32} {i k n : Nat} (hX : va_X b L xs Γ.2.2.1.1 Γ.2.2.1.1.heap) (hb : b < Γ.2.2.1.1.heap.size) (hL : L ≤ 3584) (hi : i + 7 ≤ L) (hk : Lk k n) (h : lwS G Γ b i (k + 162) (n + 810) 1376) : lwS G Γ b i k n 401 := by
  intro P a a' q N R Q D E O T U V F M hA
  obtain ⟨hp1, hp2, hv, hA2⟩ := op_show hA (xs (i + 1)) (xs (i + 2))
  refine z_aload_n dL_401 rfl ?_
  refine L_arg hX hb hL hi 1 (by decide) (by decide) rfl rfl dL_402 dL_403 dL_404 dL_405 dL_406 ?_
  refine L_arg hX hb hL hi 2 (by decide) (by decide) rfl rfl dL_407 dL_408 dL_409 dL_410 dL_411 ?_
  refine L_xw (fun sz => c_X6_show G P a sz N R F _ _ hp1) (pm_nrf _ _ _ _ _ _ _ _ _ _ _) rfl rfl zc_X6_show zv_X6_show tw_m_RL_35 (L_room rfl hk) rfl (Nat.zero_le _) dL_412 (L_k1 hk rfl) (L_k2 hk rfl) ?_
  refine L_perm (pm_nrf _ _ _ _ _ _ _ _ _ _ _).symm ?_
  refine z_aload_n dL_415 rfl ?_
  refine L_arg hX hb hL hi 1 (by decide) (by decide) rfl rfl dL_416 dL_417 dL_418 dL_419 dL_420 ?_
  refine L_arg hX hb hL hi 2 (by decide) (by decide) rfl rfl dL_421 dL_422 dL_423 dL_424 dL_425 ?_
  refine L_xw (fun sz => c_X7_show G a' (gX_ok G P) sz M _ _ hp2) (pm_m _ _ _ _ _ _ _ _ _ _ _) rfl rfl zc_X7_show zv_X7_show tw_m_RL_39 (L_room7 rfl hk) rfl (Nat.le_of_ble_eq_true rfl) dL_426 (Nat.le_refl _) (Nat.le_refl _) ?_
  refine L_perm (pm_m _ _ _ _ _ _ _ _ _ _ _).symm ?_
  refine z_icmp_eq dL_429 (tgt := 1376) (by decide) (fun _ => ?_) (fun hne => absurd hv hne)
  exact h _ _ _ _ _ _ _ _ _ _ _ _ _ _ _ hA2
theorem lw_op_holds {b L : Nat} {xs : Nat → Int32} {i k n : Nat} (hX : va_X b L xs Γ.2.2.1.1 Γ.2.2.1.1.heap) (hb : b < Γ.2.2.1.1.heap.size) (hL : L ≤ 3584) (hi : i + 7 ≤ L) (hk : Lk k n) (h : lwS G Γ b i (k + 162) (n + 810) 1376) : lwS G Γ b i k n 434 := by
  intro P a a' q N R Q D E O T U V F M hA
  obtain ⟨hp1, hp2, hv⟩ := op_holds hA (xs (i + 1))
  have hA2 := hA
  refine z_aload_n dL_434 rfl ?_
  refine L_arg hX hb hL hi 1 (by decide) (by decide) rfl rfl dL_435 dL_436 dL_437 dL_438 dL_439 ?_
  refine L_xri (c_X6_holds G P a N F _ hp1) (pm_nf _ _ _ _ _ _ _ _ _ _ _) rfl rfl zc_X6_holds zv_X6_holds tw_m_RL_40 (L_room rfl hk) rfl (Nat.zero_le _) dL_440 (Nat.le_add_right k 162) (Nat.le_add_right n 810) ?_
  refine z_aload_n dL_443 rfl ?_
  refine L_arg hX hb hL hi 1 (by decide) (by decide) rfl rfl dL_444 dL_445 dL_446 dL_447 dL_448 ?_
  refine L_mri (c_X7_holds G a' M _ hp2) (pm_m _ _ _ _ _ _ _ _ _ _ _) rfl rfl zc_X7_holds zv_X7_holds tw_m_RL_44 (L_room7 rfl hk) rfl (Nat.le_of_ble_eq_true rfl) dL_449 (Nat.le_refl _) (Nat.le_refl _) ?_
  refine z_icmp_eq dL_452 (tgt := 1376) (by decide) (fun _ => ?_) (fun hne => absurd hv hne)
  exact h _ _ _ _ _ _ _ _ _ _ _ _ _ _ _ hA2
theorem lw_op_says {b L : Nat} {xs : Nat → Int32} {i k n : Nat} (hX : va_X b L xs Γ.2.2.1.1 Γ.2.2.1.1.heap) (hb : b < Γ.2.2.1.1.heap.size) (hL : L ≤ 3584) (hi : i + 7 ≤ L) (hk : Lk k n) (h : lwS G Γ b i (k + 162) (n + 810) 1376) : lwS G Γ b i k n 457 := by
  intro P a a' q N R Q D E O T U V F M hA
  obtain ⟨hp1, hp2, hv, hA2⟩ := op_says hA (xs (i + 1)) (xs (i + 2))
  refine z_aload_n dL_457 rfl ?_
  refine L_arg hX hb hL hi 1 (by decide) (by decide) rfl rfl dL_458 dL_459 dL_460 dL_461 dL_462 ?_
  refine L_arg hX hb hL hi 2 (by decide) (by decide) rfl rfl dL_463 dL_464 dL_465 dL_466 dL_467 ?_
  refine L_xw (fun sz => c_X6_says G P a sz N R F _ _ hp1) (pm_nrf _ _ _ _ _ _ _ _ _ _ _) rfl rfl zc_X6_says zv_X6_says tw_m_RL_45 (L_room rfl hk) rfl (Nat.zero_le _) dL_468 (L_k1 hk rfl) (L_k2 hk rfl) ?_
  refine L_perm (pm_nrf _ _ _ _ _ _ _ _ _ _ _).symm ?_
  refine z_aload_n dL_471 rfl ?_
  refine L_arg hX hb hL hi 1 (by decide) (by decide) rfl rfl dL_472 dL_473 dL_474 dL_475 dL_476 ?_
  refine L_arg hX hb hL hi 2 (by decide) (by decide) rfl rfl dL_477 dL_478 dL_479 dL_480 dL_481 ?_
  refine L_xw (fun sz => c_X7_says G a' (gX_ok G P) sz M _ _ hp2) (pm_m _ _ _ _ _ _ _ _ _ _ _) rfl rfl zc_X7_says zv_X7_says tw_m_RL_48 (L_room7 rfl hk) rfl (Nat.le_of_ble_eq_true rfl) dL_482 (Nat.le_refl _) (Nat.le_refl _) ?_
  refine L_perm (pm_m _ _ _ _ _ _ _ _ _ _ _).symm ?_
  refine z_icmp_eq dL_485 (tgt := 1376) (by decide) (fun _ => ?_) (fun hne => absurd hv hne)
  exact h _ _ _ _ _ _ _ _ _ _ _ _ _ _ _ hA2
theorem lw_op_comer {b L : Nat} {xs : Nat → Int32} {i k n : Nat} (hX : va_X b L xs Γ.2.2.1.1 Γ.2.2.1.1.heap) (hb : b < Γ.2.2.1.1.heap.size) (hL : L ≤ 3584) (hi : i + 7 ≤ L) (hk : Lk k n) (h : lwS G Γ b i (k + 162) (n + 810) 1376) : lwS G Γ b i k n 490 := by
  intro P a a' q N R Q D E O T U V F M hA
  obtain ⟨hp1, hp2, hres⟩ := op_comer hA (xs (i + 1)) (xs (i + 2)) (xs (i + 3)) (xs (i + 4)) (xs (i + 5)) (xs (i + 6))
  refine z_aload_n dL_490 rfl ?_
  refine L_arg hX hb hL hi 1 (by decide) (by decide) rfl rfl dL_491 dL_492 dL_493 dL_494 dL_495 ?_
  refine L_arg hX hb hL hi 2 (by decide) (by decide) rfl rfl dL_496 dL_497 dL_498 dL_499 dL_500 ?_
  refine L_arg hX hb hL hi 3 (by decide) (by decide) rfl rfl dL_501 dL_502 dL_503 dL_504 dL_505 ?_
  refine L_arg hX hb hL hi 4 (by decide) (by decide) rfl rfl dL_506 dL_507 dL_508 dL_509 dL_510 ?_
  refine L_arg hX hb hL hi 5 (by decide) (by decide) rfl rfl dL_511 dL_512 dL_513 dL_514 dL_515 ?_
  refine L_arg2 hX hb hL hi 6 (by decide) (by decide) rfl rfl dL_516 dL_517 dL_518 dL_520 dL_521 ?_
  refine L_xg (gg := fun res : Int32 × nT × rT × LL => g_X6_comer N R (xs (i + 1)) (xs (i + 2)) (xs (i + 3)) (xs (i + 4)) (xs (i + 5)) (xs (i + 6)) res) (pr := fun res => res.1) (pw := fun res => maW G a res.2.1 ++ rdW G (sh a 10) res.2.2.1) (pl := fun res => res.2.2.2) (fun sz => c_X6_comer G P a sz N R _ _ _ _ _ _ hp1) (pm_nr _ _ _ _ _ _ _ _ _ _ _) rfl rfl zc_X6_comer zv_X6_comer tw_m_RL_49 (L_room rfl hk) rfl (Nat.zero_le _) dL_522 (L_k1 hk rfl) (L_k2 hk rfl) (fun res hg hf => ?_)
  refine L_perm (pm_nr _ _ _ _ _ _ _ _ _ _ _).symm ?_
  obtain ⟨hv, hA2⟩ := hres res hg hf
  refine z_aload_n dL_525 rfl ?_
  refine L_arg hX hb hL hi 1 (by decide) (by decide) rfl rfl dL_526 dL_527 dL_528 dL_529 dL_530 ?_
  refine L_arg hX hb hL hi 2 (by decide) (by decide) rfl rfl dL_531 dL_532 dL_533 dL_534 dL_535 ?_
  refine L_arg hX hb hL hi 3 (by decide) (by decide) rfl rfl dL_536 dL_537 dL_538 dL_539 dL_540 ?_
  refine L_arg hX hb hL hi 4 (by decide) (by decide) rfl rfl dL_541 dL_542 dL_543 dL_544 dL_545 ?_
  refine L_arg hX hb hL hi 5 (by decide) (by decide) rfl rfl dL_546 dL_547 dL_548 dL_549 dL_550 ?_
  refine L_arg2 hX hb hL hi 6 (by decide) (by decide) rfl rfl dL_551 dL_552 dL_553 dL_555 dL_556 ?_
  refine L_xw (fun sz => c_X7_comer G a' (gX_ok G (pAdd P (res.2.2.2))) sz M _ _ _ _ _ _ hp2) (pm_m _ _ _ _ _ _ _ _ _ _ _) rfl rfl zc_X7_comer zv_X7_comer tw_m_RL_53 (L_room7 rfl hk) rfl (Nat.le_of_ble_eq_true rfl) dL_557 (Nat.le_refl _) (Nat.le_refl _) ?_
  refine L_perm (pm_m _ _ _ _ _ _ _ _ _ _ _).symm ?_
  refine z_icmp_eq dL_560 (tgt := 1376) (by decide) (fun _ => ?_) (fun hne => absurd hv hne)
  exact h _ _ _ _ _ _ _ _ _ _ _ _ _ _ _ hA2
theorem lw_op_ask {b L : Nat} {xs : Nat → Int32} {i k n : Nat} (hX : va_X b L xs Γ.2.2.1.1 Γ.2.2.1.1.heap) (hb : b < Γ.2.2.1.1.heap.size) (hL : L ≤ 3584) (hi : i + 7 ≤ L) (hk : Lk k n) (h : lwS G Γ b i (k + 162) (n + 810) 1376) : lwS G Γ b i k n 565 := by
  intro P a a' q N R Q D E O T U V F M hA
  obtain ⟨hp1, hp2, hv, hA2⟩ := op_ask hA (xs (i + 1)) (xs (i + 2))
  refine z_aload_n dL_565 rfl ?_
  refine L_arg hX hb hL hi 1 (by decide) (by decide) rfl rfl dL_566 dL_567 dL_568 dL_569 dL_570 ?_
  refine L_arg hX hb hL hi 2 (by decide) (by decide) rfl rfl dL_571 dL_572 dL_573 dL_574 dL_575 ?_
  refine L_xw (fun sz => c_X6_ask G P a sz N R _ _ hp1) (pm_nr _ _ _ _ _ _ _ _ _ _ _) rfl rfl zc_X6_ask zv_X6_ask tw_m_RL_54 (L_room rfl hk) rfl (Nat.zero_le _) dL_576 (L_k1 hk rfl) (L_k2 hk rfl) ?_
  refine L_perm (pm_nr _ _ _ _ _ _ _ _ _ _ _).symm ?_
  refine z_aload_n dL_579 rfl ?_
  refine L_arg hX hb hL hi 1 (by decide) (by decide) rfl rfl dL_580 dL_581 dL_582 dL_583 dL_584 ?_
  refine L_arg hX hb hL hi 2 (by decide) (by decide) rfl rfl dL_585 dL_586 dL_587 dL_588 dL_589 ?_
  refine L_xw (fun sz => c_X7_ask G a' (gX_ok G P) sz M _ _ hp2) (pm_m _ _ _ _ _ _ _ _ _ _ _) rfl rfl zc_X7_ask zv_X7_ask tw_m_RL_57 (L_room7 rfl hk) rfl (Nat.le_of_ble_eq_true rfl) dL_590 (Nat.le_refl _) (Nat.le_refl _) ?_
  refine L_perm (pm_m _ _ _ _ _ _ _ _ _ _ _).symm ?_
  refine z_icmp_eq dL_593 (tgt := 1376) (by decide) (fun _ => ?_) (fun hne => absurd hv hne)
  exact h _ _ _ _ _ _ _ _ _ _ _ _ _ _ _ hA2
end LAWOPS

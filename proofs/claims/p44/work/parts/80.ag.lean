set_option linter.all false
/-! contracts (written by gen95.py) -/
theorem x6_337 : f60c xTc xTys xm_337 = true := by decide +kernel
theorem x6_320 : f60c xTc xTys xm_320 = true := by decide +kernel
theorem x6_406 : f60c xTc xTys xm_406 = true := by decide +kernel
theorem x6_389 : f60c xTc xTys xm_389 = true := by decide +kernel
theorem x6_372 : f60c xTc xTys xm_372 = true := by decide +kernel
theorem x6_355 : f60c xTc xTys xm_355 = true := by decide +kernel
theorem x6_338 : f60c xTc xTys xm_338 = true := by decide +kernel
theorem x6_321 : f60c xTc xTys xm_321 = true := by decide +kernel
theorem x6_407 : f60c xTc xTys xm_407 = true := by decide +kernel
theorem x6_390 : f60c xTc xTys xm_390 = true := by decide +kernel
theorem x6_373 : f60c xTc xTys xm_373 = true := by decide +kernel
theorem x6_356 : f60c xTc xTys xm_356 = true := by decide +kernel
theorem x6_339 : f60c xTc xTys xm_339 = true := by decide +kernel
theorem x6_322 : f60c xTc xTys xm_322 = true := by decide +kernel
theorem x6_408 : f60c xTc xTys xm_408 = true := by decide +kernel
theorem x6_391 : f60c xTc xTys xm_391 = true := by decide +kernel
theorem x6_374 : f60c xTc xTys xm_374 = true := by decide +kernel
theorem x6_357 : f60c xTc xTys xm_357 = true := by decide +kernel
theorem x6_340 : f60c xTc xTys xm_340 = true := by decide +kernel
theorem x6_323 : f60c xTc xTys xm_323 = true := by decide +kernel
theorem x6_409 : f60c xTc xTys xm_409 = true := by decide +kernel
theorem x6_392 : f60c xTc xTys xm_392 = true := by decide +kernel
theorem x6_375 : f60c xTc xTys xm_375 = true := by decide +kernel
theorem x6_358 : f60c xTc xTys xm_358 = true := by decide +kernel
theorem x6_341 : f60c xTc xTys xm_341 = true := by decide +kernel
theorem x6_324 : f60c xTc xTys xm_324 = true := by decide +kernel
theorem x6_410 : f60c xTc xTys xm_410 = true := by decide +kernel
theorem x6_393 : f60c xTc xTys xm_393 = true := by decide +kernel
theorem x6_376 : f60c xTc xTys xm_376 = true := by decide +kernel
theorem x6_359 : f60c xTc xTys xm_359 = true := by decide +kernel
theorem x6_342 : f60c xTc xTys xm_342 = true := by decide +kernel
theorem x6_325 : f60c xTc xTys xm_325 = true := by decide +kernel
theorem x6_411 : f60c xTc xTys xm_411 = true := by decide +kernel
theorem x6_394 : f60c xTc xTys xm_394 = true := by decide +kernel
theorem x6_377 : f60c xTc xTys xm_377 = true := by decide +kernel
theorem x6_360 : f60c xTc xTys xm_360 = true := by decide +kernel
theorem x6_343 : f60c xTc xTys xm_343 = true := by decide +kernel
theorem x6_326 : f60c xTc xTys xm_326 = true := by decide +kernel
theorem x6_412 : f60c xTc xTys xm_412 = true := by decide +kernel
theorem x6_395 : f60c xTc xTys xm_395 = true := by decide +kernel
theorem x6_378 : f60c xTc xTys xm_378 = true := by decide +kernel
theorem x6_361 : f60c xTc xTys xm_361 = true := by decide +kernel
theorem x6_344 : f60c xTc xTys xm_344 = true := by decide +kernel
theorem x6_327 : f60c xTc xTys xm_327 = true := by decide +kernel
theorem x6_413 : f60c xTc xTys xm_413 = true := by decide +kernel
theorem x6_396 : f60c xTc xTys xm_396 = true := by decide +kernel
theorem x6_379 : f60c xTc xTys xm_379 = true := by decide +kernel
theorem x6_362 : f60c xTc xTys xm_362 = true := by decide +kernel
theorem x6_345 : f60c xTc xTys xm_345 = true := by decide +kernel
theorem x6_328 : f60c xTc xTys xm_328 = true := by decide +kernel
theorem x6_414 : f60c xTc xTys xm_414 = true := by decide +kernel
theorem x6_397 : f60c xTc xTys xm_397 = true := by decide +kernel
theorem x6_380 : f60c xTc xTys xm_380 = true := by decide +kernel
theorem x6_363 : f60c xTc xTys xm_363 = true := by decide +kernel
theorem x6_346 : f60c xTc xTys xm_346 = true := by decide +kernel
theorem x6_329 : f60c xTc xTys xm_329 = true := by decide +kernel
theorem x6_415 : f60c xTc xTys xm_415 = true := by decide +kernel
theorem x6_398 : f60c xTc xTys xm_398 = true := by decide +kernel
theorem x6_381 : f60c xTc xTys xm_381 = true := by decide +kernel
theorem x6_364 : f60c xTc xTys xm_364 = true := by decide +kernel
theorem x6_347 : f60c xTc xTys xm_347 = true := by decide +kernel
theorem x6_330 : f60c xTc xTys xm_330 = true := by decide +kernel
theorem x6_416 : f60c xTc xTys xm_416 = true := by decide +kernel
theorem x6_399 : f60c xTc xTys xm_399 = true := by decide +kernel
theorem x6_382 : f60c xTc xTys xm_382 = true := by decide +kernel
theorem x6_365 : f60c xTc xTys xm_365 = true := by decide +kernel
theorem x6_348 : f60c xTc xTys xm_348 = true := by decide +kernel
theorem x6_331 : f60c xTc xTys xm_331 = true := by decide +kernel
theorem x6_417 : f60c xTc xTys xm_417 = true := by decide +kernel
theorem x6_400 : f60c xTc xTys xm_400 = true := by decide +kernel
theorem x6_383 : f60c xTc xTys xm_383 = true := by decide +kernel
theorem x6_366 : f60c xTc xTys xm_366 = true := by decide +kernel
theorem x6_349 : f60c xTc xTys xm_349 = true := by decide +kernel
theorem x6_332 : f60c xTc xTys xm_332 = true := by decide +kernel
theorem x6_418 : f60c xTc xTys xm_418 = true := by decide +kernel
theorem x6_401 : f60c xTc xTys xm_401 = true := by decide +kernel
theorem x6_384 : f60c xTc xTys xm_384 = true := by decide +kernel
theorem x6_367 : f60c xTc xTys xm_367 = true := by decide +kernel
theorem x6_350 : f60c xTc xTys xm_350 = true := by decide +kernel
theorem x6_333 : f60c xTc xTys xm_333 = true := by decide +kernel
theorem x6_419 : f60c xTc xTys xm_419 = true := by decide +kernel
theorem x6_402 : f60c xTc xTys xm_402 = true := by decide +kernel
theorem x6_385 : f60c xTc xTys xm_385 = true := by decide +kernel
theorem x6_368 : f60c xTc xTys xm_368 = true := by decide +kernel
theorem x6_351 : f60c xTc xTys xm_351 = true := by decide +kernel
theorem x6_334 : f60c xTc xTys xm_334 = true := by decide +kernel
theorem x6_420 : f60c xTc xTys xm_420 = true := by decide +kernel
theorem x6_403 : f60c xTc xTys xm_403 = true := by decide +kernel
theorem x6_386 : f60c xTc xTys xm_386 = true := by decide +kernel
theorem x6_369 : f60c xTc xTys xm_369 = true := by decide +kernel
theorem x6_352 : f60c xTc xTys xm_352 = true := by decide +kernel
theorem x6_335 : f60c xTc xTys xm_335 = true := by decide +kernel
theorem x6_318 : f60c xTc xTys xm_318 = true := by decide +kernel
theorem x6_317 : f60c xTc xTys xm_317 = true := by decide +kernel
abbrev wz_d066b : List Nat := [12208, 12209, 12210, 12211, 12212, 12213, 12214, 12215, 12216, 12217, 12218, 20605, 20840]
theorem x6_313 : f60c xTc xTys xm_313 = true := by decide +kernel
abbrev wz_c5e7d : List Nat := [12208, 12209, 12210, 12211, 12212, 12213, 12214, 12215, 12216, 12217, 12218, 20009, 20600, 20601, 20602, 20603, 20604, 20605, 20840]
theorem x6_312 : f60c xTc xTys xm_312 = true := by decide +kernel
theorem rS_741_741_1210_3410_200_0 : frS gJ bsJ znJ [20600] 100 ((741, 741), (1210, 3410), (200, 0), ((-2147483648), 2147483647)) := frS_of (by decide +kernel)
theorem rS_741_741_1211_3411_200_0 : frS gJ bsJ znJ [20601] 100 ((741, 741), (1211, 3411), (200, 0), ((-2147483648), 2147483647)) := frS_of (by decide +kernel)
theorem rS_741_741_1212_3412_200_0 : frS gJ bsJ znJ [20602] 100 ((741, 741), (1212, 3412), (200, 0), ((-2147483648), 2147483647)) := frS_of (by decide +kernel)
theorem rS_741_741_1213_3413_200_0 : frS gJ bsJ znJ [20603] 100 ((741, 741), (1213, 3413), (200, 0), ((-2147483648), 2147483647)) := frS_of (by decide +kernel)
theorem rS_741_741_1214_3414_200_0 : frS gJ bsJ znJ [20604] 100 ((741, 741), (1214, 3414), (200, 0), ((-2147483648), 2147483647)) := frS_of (by decide +kernel)
theorem rS_741_741_9_9_1_0 : frS gJ bsJ znJ [20009] 100 ((741, 741), (9, 9), (1, 0), (0, 12)) := frS_of (by decide +kernel)
theorem x6_133 : f60c xTc xTys xm_133 = true := by decide +kernel
theorem x6_132 : f60c xTc xTys xm_132 = true := by decide +kernel
theorem rL_191_191_0_11_1_0 : frL gJ bsJ 100 ((191, 191), (0, 11), (1, 0), ((-2147483648), 2147483647)) := frL_hull (by decide) (by decide +kernel)
theorem x6_425 : f60c xTc xTys xm_425 = true := by decide +kernel
theorem x6_424 : f60c xTc xTys xm_424 = true := by decide +kernel
theorem rL_741_741_1210_3413_200_3 : frL gJ bsJ 100 ((741, 741), (1210, 3413), (200, 3), ((-2147483648), 2147483647)) := frL_hull (by decide) (by decide +kernel)
abbrev wz_60872 : List Nat := [206]
theorem rS_206_206_0_23_1_0 : frS gJ bsJ znJ [206] 100 ((206, 206), (0, 23), (1, 0), ((-2147483648), 2147483647)) := frS_dflt (by decide) (by decide +kernel)
abbrev wz_0f088 : List Nat := [206, 10507, 10508]
theorem x6_135 : f60c xTc xTys xm_135 = true := by decide +kernel
theorem fb_187_7 : bsJ 187 7 = ((-2147483648), 2147483647) := by decide +kernel
theorem fb_187_8 : bsJ 187 8 = (0, 1) := by decide +kernel
theorem x6_134 : f60c xTc xTys xm_134 = true := by decide +kernel
abbrev wz_8c264 : List Nat := [20014, 20015, 20016, 20404]
theorem x6_426 : f60c xTc xTys xm_426 = true := by decide +kernel
theorem rL_741_741_14_14_1_0 : frL gJ bsJ 100 ((741, 741), (14, 14), (1, 0), ((-1), 11)) := frL_of (by decide +kernel)
theorem rS_741_741_14_14_1_0 : frS gJ bsJ znJ [20014] 100 ((741, 741), (14, 14), (1, 0), ((-1), 11)) := frS_of (by decide +kernel)
theorem rS_741_741_15_15_1_0 : frS gJ bsJ znJ [20015] 100 ((741, 741), (15, 15), (1, 0), ((-2147483648), 2147483647)) := frS_of (by decide +kernel)
theorem rS_741_741_16_16_1_0 : frS gJ bsJ znJ [20016] 100 ((741, 741), (16, 16), (1, 0), ((-2147483648), 2147483647)) := frS_of (by decide +kernel)
theorem x6_138 : f60c xTc xTys xm_138 = true := by decide +kernel
theorem rL_206_206_0_23_1_0 : frL gJ bsJ 100 ((206, 206), (0, 23), (1, 0), ((-2147483648), 2147483647)) := frL_hull (by decide) (by decide +kernel)
theorem x6_137 : f60c xTc xTys xm_137 = true := by decide +kernel
abbrev wz_60f7b : List Nat := [206, 207, 208]
theorem x6_136 : f60c xTc xTys xm_136 = true := by decide +kernel
theorem x6_428 : f60c xTc xTys xm_428 = true := by decide +kernel
abbrev wz_d8820 : List Nat := [748, 749, 20015, 20016, 20404]
theorem x6_427 : f60c xTc xTys xm_427 = true := by decide +kernel
theorem rL_741_741_874_1012_6_0 : frL gJ bsJ 100 ((741, 741), (874, 1012), (6, 0), ((-2147483648), 2147483647)) := frL_hull (by decide) (by decide +kernel)
theorem rL_741_741_15_16_1_0 : frL gJ bsJ 100 ((741, 741), (15, 16), (1, 0), ((-2147483648), 2147483647)) := frL_hull (by decide) (by decide +kernel)
theorem rS_741_741_15_16_1_0 : frS gJ bsJ znJ [20015, 20016] 100 ((741, 741), (15, 16), (1, 0), ((-2147483648), 2147483647)) := frS_of (by decide +kernel)
theorem rL_741_741_16_16_1_0 : frL gJ bsJ 100 ((741, 741), (16, 16), (1, 0), ((-2147483648), 2147483647)) := frL_hull (by decide) (by decide +kernel)
theorem rL_741_741_15_15_1_0 : frL gJ bsJ 100 ((741, 741), (15, 15), (1, 0), ((-2147483648), 2147483647)) := frL_hull (by decide) (by decide +kernel)
abbrev wz_9fced : List Nat := [189, 190, 10507]
theorem x6_142 : f60c xTc xTys xm_142 = true := by decide +kernel
theorem x6_141 : f60c xTc xTys xm_141 = true := by decide +kernel
theorem x6_140 : f60c xTc xTys xm_140 = true := by decide +kernel
abbrev wz_e2fc1 : List Nat := [189, 190, 207, 208, 10507]
theorem x6_139 : f60c xTc xTys xm_139 = true := by decide +kernel
section CT
variable {ρ : Nat → Int32} {base n : Nat} {F : Nat → Prop} {D : va_G} {dA : Nat → ClassId} {la : Launch}
abbrev jc_M_both_f2598_10 (I0 : fH) : Nat → fL → List fV → fH → Prop := fun m lv st I => ∃ (y1 : Int), lv = [(0, .inr (.inr (some 740))), (1, .inl y1)] ∧ st = [] ∧ ((((-1) ≤ y1 ∧ y1 ≤ 5) ∧ (I0 740 9 ≤ I 740 9) ∧ (I 740 9 ≤ I 740 10) ∧ (I 740 10 ≤ I 740 8) ∧ (I 740 11 = 0 ∨ I 740 9 < I 740 10) ∧ (I0 740 16 ≤ I 740 16) ∧ (I 740 16 - I0 740 16 ≤ I 740 9 - I0 740 9) ∧ (I 740 14 = I0 740 14) ∧ (I 740 15 = I0 740 15)) ∧ (sBe I0 I (I0 740 17) (I0 740 16)) ∧ (sOne I (I0 740 17) (I0 740 16) (I 740 16))) ∧ m = (1 + 1 * (96 - I 740 9) : Int).toNat
noncomputable abbrev gM_both (gn0 : Nat) (rm : Room) : xM := (⟨"AcidCityModel", "both", "(I)Z"⟩, prog_14_method_80_code, 2, (some .boolean), [(0, 3, 0, 1, []), (1, 3, 1, 0, []), (2, 33, 2, gn0, [13, 1, 17629, 0, 17631, 6155, 17632, 9230]), (5, 20, 1, 10, []), (8, 0, 0, 0, []), (9, 35, 3, 0, []), (10, 3, 0, 1, []), (11, 0, 38, 0, []), (13, 33, 2, 423, [13, 1, 18436, 0, 18438, 7168, 18439, 9230]), (16, 20, 0, 43, []), (19, 3, 0, 1, []), (20, 33, 1, 314, [13, 1, 17597, 0, 17599, 6148, 17600, 9230]), (23, 3, 0, 1, []), (24, 3, 1, 0, []), (25, 33, 2, gn0, [13, 1, 17629, 0, 17631, 6155, 17632, 9230]), (28, 20, 1, 33, []), (31, 0, 0, 0, []), (32, 35, 3, 0, []), (33, 3, 0, 1, []), (34, 0, 2, 0, []), (35, 0, 38, 0, []), (37, 33, 3, 421, [13, 1, 17645, 0, 17647, 6159, 18432, 9230]), (40, 22, 0, 10, []), (43, 0, 1, 0, []), (44, 35, 3, 0, [])], rm)
set_option maxRecDepth 8000 in
theorem cg_M_both {d : Int} {rm : Room} {gm0 : xM} {gn0 : Nat} (ge0 : xMs[gn0]? = some gm0) (gk0 : Nat.ble 2 gm0.2.2.1 = true ∧ (xR gm0).cells = 0 ∧ (xR gm0).slots = 0) (gc0 : ∀ {I : fH} {x1 : Int} (h0 : fB bsJ I) (ha1 : ((-1) ≤ x1 ∧ x1 ≤ 5)) (hp0 : I 740 9 ≤ I 740 10 ∧ I 740 10 ≤ I 740 8 ∧ (I 740 11 = 0 ∨ I 740 9 < I 740 10)) (hp1 : 0 ≤ I 740 16 ∧ I 740 16 ≤ I 740 9) (hp2 : d ≤ I 740 14 + I 740 15) (hp3 : (1215 ≤ I 740 17 ∧ I 740 17 ≤ 3415 ∧ (I 740 17 - 1215) % 200 = 0) ∨ I 740 17 = 4700), fC ρ base n F xTc vwCl xTys D dA la gJ (fbz bsJ znJ (fKc wz_2212a) I) gm0 [.inr (.inr (some 740)), .inl x1] I (fun I' r => ∃ z, r = some (.inl z) ∧ ((0 ≤ z ∧ z ≤ 1) ∧ (I 740 9 ≤ I' 740 9 ∧ I' 740 9 ≤ I' 740 10 ∧ I' 740 10 ≤ I' 740 8 ∧ (I' 740 11 = 0 ∨ I' 740 9 < I' 740 10) ∧ (z = 1 → I 740 16 ≤ I' 740 16 ∧ I' 740 16 - I 740 16 ≤ I' 740 9 - I 740 9 ∧ I' 740 14 = I 740 14 ∧ I' 740 15 = I 740 15))) ∧ (sBe I I' (I 740 17) (I 740 16)) ∧ (z = 1 → sOne I' (I 740 17) (I 740 16) (I' 740 16)))) (hin : (gM_both gn0 rm) ∈ xMs) (hx6 : f60c xTc xTys (gM_both gn0 rm) = true) {I : fH} {x1 : Int} (h0 : fB bsJ I) (ha1 : ((-1) ≤ x1 ∧ x1 ≤ 5)) (hp0 : I 740 9 ≤ I 740 10 ∧ I 740 10 ≤ I 740 8 ∧ (I 740 11 = 0 ∨ I 740 9 < I 740 10)) (hp1 : 0 ≤ I 740 16 ∧ I 740 16 ≤ I 740 9) (hp2 : d ≤ I 740 14 + I 740 15) (hp3 : (1215 ≤ I 740 17 ∧ I 740 17 ≤ 3415 ∧ (I 740 17 - 1215) % 200 = 0) ∨ I 740 17 = 4700) : fC ρ base n F xTc vwCl xTys D dA la gJ (fbz bsJ znJ (fKc wz_2212a) I) (gM_both gn0 rm) [.inr (.inr (some 740)), .inl x1] I (fun I' r => ∃ z, r = some (.inl z) ∧ ((0 ≤ z ∧ z ≤ 1) ∧ (I 740 9 ≤ I' 740 9 ∧ I' 740 9 ≤ I' 740 10 ∧ I' 740 10 ≤ I' 740 8 ∧ (I' 740 11 = 0 ∨ I' 740 9 < I' 740 10) ∧ (z = 1 → I 740 16 ≤ I' 740 16 ∧ I' 740 16 - I 740 16 ≤ I' 740 9 - I 740 9 ∧ I' 740 14 = I 740 14 ∧ I' 740 15 = I 740 15))) ∧ (sBe I I' (I 740 17) (I 740 16)) ∧ (z = 1 → sOne I' (I 740 17) (I 740 16) (I' 740 16))) := by
  have hW : fzs wz_2212a (fKc wz_2212a) := fKc_ok _
  refine f_meth (rb := rbJ) (J := [(10, (jc_M_both_f2598_10 I))]) 98 400 xG hin hx6 okJ (fB_self h0) ?_ ?_
  · refine List.forall_mem_cons.mpr ⟨?_, fun q h => absurd h List.not_mem_nil⟩
    · rintro m _ _ I1 hB1 ⟨y1, rfl, rfl, ⟨hb, hx0, hx1⟩, hm⟩
      have k1 := fBz_eq hB1 (a := 740) (j := 8) (by decide +kernel)
      have k2 := fBz_eq hB1 (a := 740) (j := 17) (by decide +kernel)
      have b3 := fBd fb_740_8 (fBz h0 hB1)
      have b4 := fBd fb_740_14 (fBz h0 hB1)
      have b5 := fBd fb_740_15 (fBz h0 hB1)
      refine Exists.intro xm_423 (And.intro mi_423 (And.intro ⟨rfl, rfl, rfl, rfl⟩ (And.intro rfl ?_)))
      refine fcallp hB1 (ct_M_isSign_90da9 (fBz h0 hB1) (by first | exact ⟨by decide, by decide⟩ | omega)) ?_
      rintro _ ⟨z6, rfl, hz6⟩
      refine And.intro (by omega) (And.intro ?_ ?_)
      · intro c7
        refine And.intro (⟨by decide, by decide⟩) ?_
        exact ⟨_, rfl, by omega, hx0, (fun _ => hx1)⟩
      · intro c8
        refine Exists.intro xm_314 (And.intro mi_314 (And.intro ⟨rfl, rfl, rfl, rfl⟩ (And.intro rfl ?_)))
        refine fcall _ h0 (fzs_sub (by decide +kernel) hW) hB1 (ct_M_next_c8003 (fBz h0 hB1) (by omega)) ?_
        rintro IhB10 _ hB10 fhB10 ⟨rfl, hz9⟩
        have t11 := fhB10 740 14 (by decide +kernel)
        have t12 := fhB10 740 15 (by decide +kernel)
        have t13 := fhB10 740 16 (by decide +kernel)
        have k14 := fBz_eq hB10 (a := 740) (j := 8) (by decide +kernel)
        have k15 := fBz_eq hB10 (a := 740) (j := 17) (by decide +kernel)
        refine Exists.intro gm0 (And.intro ge0 (And.intro ⟨rfl, gk0.1, gk0.2.1, gk0.2.2⟩ (And.intro rfl ?_)))
        refine fcall _ h0 (fzs_sub (by decide +kernel) hW) hB10 (gc0 (fBz h0 hB10) (by first | exact ⟨hb.1.1, hb.1.2⟩ | omega) (by omega) (by omega) (by omega) (by omega)) ?_
        rintro IhB17 _ hB17 fhB17 ⟨z16, rfl, hz16, g0z16, g1z16⟩
        have k18 := fBz_eq hB17 (a := 740) (j := 8) (by decide +kernel)
        have k19 := fBz_eq hB17 (a := 740) (j := 17) (by decide +kernel)
        refine And.intro (by omega) (And.intro ?_ ?_)
        · intro c20
          refine Exists.intro xm_421 (And.intro mi_421 (And.intro ⟨rfl, rfl, rfl, rfl⟩ (And.intro rfl ?_)))
          refine fcall _ h0 (fzs_sub (by decide +kernel) hW) hB17 (ct_M_step_2c704 (fBz h0 hB17) (by first | exact ⟨by decide, by decide⟩ | omega) (by first | exact ⟨by decide, by decide⟩ | omega) (by omega) (by omega)) ?_
          rintro IhB22 _ hB22 fhB22 ⟨rfl, hz21, g0z21⟩
          have t23 := fhB22 740 9 (by decide +kernel)
          have t24 := fhB22 740 10 (by decide +kernel)
          have t25 := fhB22 740 11 (by decide +kernel)
          have t26 := fhB22 740 13 (by decide +kernel)
          have t27 := fhB22 740 14 (by decide +kernel)
          have t28 := fhB22 740 15 (by decide +kernel)
          have k29 := fBz_eq hB22 (a := 740) (j := 8) (by decide +kernel)
          have k30 := fBz_eq hB22 (a := 740) (j := 17) (by decide +kernel)
          exact fcutJ (I := IhB22) (j := (jc_M_both_f2598_10 I)) (lv' := [(0, .inr (.inr (some 740))), (1, .inl _)]) (And.intro rfl (And.intro rfl True.intro)) ⟨_, rfl, rfl, ⟨by omega, (par_be hx0 (fFr_S fhB10 (by decide +kernel)) g0z16 g0z21 (by omega) (by omega) (by omega) (by omega)), (par_one (by omega) hx1 (fFr_S fhB10 (by decide +kernel)) g0z16 (g1z16 (by omega)) g0z21 (by omega) (by omega) (by omega) (by omega) (by omega) (by omega))⟩, rfl⟩ (by omega)
        · intro c31
          refine And.intro (⟨by decide, by decide⟩) ?_
          exact ⟨_, rfl, by omega, (par_bel hx0 (fFr_S fhB10 (by decide +kernel)) g0z16 (by omega) (by omega)), (fun q => absurd q (by omega))⟩
  · have hB0 := fB_self (zn := znJ) (K := fKc wz_2212a) h0
    have b32 := fBd fb_740_8 (fBz h0 hB0)
    have b33 := fBd fb_740_14 (fBz h0 hB0)
    have b34 := fBd fb_740_15 (fBz h0 hB0)
    refine Exists.intro gm0 (And.intro ge0 (And.intro ⟨rfl, gk0.1, gk0.2.1, gk0.2.2⟩ (And.intro rfl ?_)))
    refine fcall _ h0 (fzs_sub (by decide +kernel) hW) hB0 (gc0 (fBz h0 hB0) (by first | exact ⟨ha1.1, ha1.2⟩ | omega) (by omega) (by omega) (by omega) (by omega)) ?_
    rintro IhB36 _ hB36 fhB36 ⟨z35, rfl, hz35, g0z35, g1z35⟩
    have k37 := fBz_eq hB36 (a := 740) (j := 8) (by decide +kernel)
    have k38 := fBz_eq hB36 (a := 740) (j := 17) (by decide +kernel)
    refine And.intro (by omega) (And.intro ?_ ?_)
    · intro c39
      exact fcutJ (I := IhB36) (j := (jc_M_both_f2598_10 I)) (lv' := [(0, .inr (.inr (some 740))), (1, .inl _)]) (And.intro rfl (And.intro rfl True.intro)) ⟨_, rfl, rfl, ⟨by omega, g0z35, (g1z35 (by omega))⟩, rfl⟩ (by omega)
    · intro c40
      refine And.intro (⟨by decide, by decide⟩) ?_
      exact ⟨_, rfl, by omega, g0z35, (fun q => absurd q (by omega))⟩
theorem ct_M_both_f2598 {I : fH} {x1 : Int} (h0 : fB bsJ I) (ha1 : ((-1) ≤ x1 ∧ x1 ≤ 5)) (hp0 : I 740 9 ≤ I 740 10 ∧ I 740 10 ≤ I 740 8 ∧ (I 740 11 = 0 ∨ I 740 9 < I 740 10)) (hp1 : 0 ≤ I 740 16 ∧ I 740 16 ≤ I 740 9) (hp2 : 15 ≤ I 740 14 + I 740 15) (hp3 : (1215 ≤ I 740 17 ∧ I 740 17 ≤ 3415 ∧ (I 740 17 - 1215) % 200 = 0) ∨ I 740 17 = 4700) : fC ρ base n F xTc vwCl xTys D dA la gJ (fbz bsJ znJ (fKc wz_2212a) I) xm_337 [.inr (.inr (some 740)), .inl x1] I (fun I' r => ∃ z, r = some (.inl z) ∧ ((0 ≤ z ∧ z ≤ 1) ∧ (I 740 9 ≤ I' 740 9 ∧ I' 740 9 ≤ I' 740 10 ∧ I' 740 10 ≤ I' 740 8 ∧ (I' 740 11 = 0 ∨ I' 740 9 < I' 740 10) ∧ (z = 1 → I 740 16 ≤ I' 740 16 ∧ I' 740 16 - I 740 16 ≤ I' 740 9 - I 740 9 ∧ I' 740 14 = I 740 14 ∧ I' 740 15 = I 740 15))) ∧ (sBe I I' (I 740 17) (I 740 16)) ∧ (z = 1 → sOne I' (I 740 17) (I 740 16) (I' 740 16))) := cg_M_both (d := 15) mi_354 ⟨rfl, rfl, rfl⟩ (fun h0 ha1 hp0 hp1 hp2 hp3 => ct_M_test_0612d h0 ha1 hp0 hp1 (by omega) hp3) xin_337 x6_337 h0 ha1 hp0 hp1 hp2 hp3
abbrev jc_M_either_94715_10 (I0 : fH) : Nat → fL → List fV → fH → Prop := fun m lv st I => ∃ (y1 : Int), lv = [(0, .inr (.inr (some 740))), (1, .inl y1)] ∧ st = [] ∧ ((((-1) ≤ y1 ∧ y1 ≤ 5) ∧ (I0 740 9 ≤ I 740 9) ∧ (I 740 9 ≤ I 740 10) ∧ (I 740 10 ≤ I 740 8) ∧ (I 740 11 = 0 ∨ I 740 9 < I 740 10) ∧ (I0 740 16 ≤ I 740 16) ∧ (I 740 16 - I0 740 16 ≤ I 740 9 - I0 740 9) ∧ (I 740 14 = I0 740 14) ∧ (I 740 15 = I0 740 15)) ∧ (sBe I0 I (I0 740 17) (I0 740 16)) ∧ (sOne I (I0 740 17) (I0 740 16) (I 740 16))) ∧ m = (1 + 1 * (96 - I 740 9) : Int).toNat
noncomputable abbrev gM_either (gn0 : Nat) (rm : Room) : xM := (⟨"AcidCityModel", "either", "(I)Z"⟩, prog_14_method_79_code, 2, (some .boolean), [(0, 3, 0, 1, []), (1, 3, 1, 0, []), (2, 33, 2, gn0, [13, 1, 17625, 0, 17627, 6154, 17628, 9230]), (5, 20, 1, 10, []), (8, 0, 0, 0, []), (9, 35, 3, 0, []), (10, 3, 0, 1, []), (11, 0, 124, 0, []), (13, 33, 2, 423, [13, 1, 18436, 0, 18438, 7168, 18439, 9230]), (16, 20, 0, 43, []), (19, 3, 0, 1, []), (20, 33, 1, 314, [13, 1, 17597, 0, 17599, 6148, 17600, 9230]), (23, 3, 0, 1, []), (24, 3, 1, 0, []), (25, 33, 2, gn0, [13, 1, 17625, 0, 17627, 6154, 17628, 9230]), (28, 20, 1, 33, []), (31, 0, 0, 0, []), (32, 35, 3, 0, []), (33, 3, 0, 1, []), (34, 0, 2, 0, []), (35, 0, 124, 0, []), (37, 33, 3, 421, [13, 1, 17645, 0, 17647, 6159, 18432, 9230]), (40, 22, 0, 10, []), (43, 0, 1, 0, []), (44, 35, 3, 0, [])], rm)
set_option maxRecDepth 8000 in
theorem cg_M_either {d : Int} {rm : Room} {gm0 : xM} {gn0 : Nat} (ge0 : xMs[gn0]? = some gm0) (gk0 : Nat.ble 2 gm0.2.2.1 = true ∧ (xR gm0).cells = 0 ∧ (xR gm0).slots = 0) (gc0 : ∀ {I : fH} {x1 : Int} (h0 : fB bsJ I) (ha1 : ((-1) ≤ x1 ∧ x1 ≤ 5)) (hp0 : I 740 9 ≤ I 740 10 ∧ I 740 10 ≤ I 740 8 ∧ (I 740 11 = 0 ∨ I 740 9 < I 740 10)) (hp1 : 0 ≤ I 740 16 ∧ I 740 16 ≤ I 740 9) (hp2 : d ≤ I 740 14 + I 740 15) (hp3 : (1215 ≤ I 740 17 ∧ I 740 17 ≤ 3415 ∧ (I 740 17 - 1215) % 200 = 0) ∨ I 740 17 = 4700), fC ρ base n F xTc vwCl xTys D dA la gJ (fbz bsJ znJ (fKc wz_2212a) I) gm0 [.inr (.inr (some 740)), .inl x1] I (fun I' r => ∃ z, r = some (.inl z) ∧ ((0 ≤ z ∧ z ≤ 1) ∧ (I 740 9 ≤ I' 740 9 ∧ I' 740 9 ≤ I' 740 10 ∧ I' 740 10 ≤ I' 740 8 ∧ (I' 740 11 = 0 ∨ I' 740 9 < I' 740 10) ∧ (z = 1 → I 740 16 ≤ I' 740 16 ∧ I' 740 16 - I 740 16 ≤ I' 740 9 - I 740 9 ∧ I' 740 14 = I 740 14 ∧ I' 740 15 = I 740 15))) ∧ (sBe I I' (I 740 17) (I 740 16)) ∧ (z = 1 → sOne I' (I 740 17) (I 740 16) (I' 740 16)))) (hin : (gM_either gn0 rm) ∈ xMs) (hx6 : f60c xTc xTys (gM_either gn0 rm) = true) {I : fH} {x1 : Int} (h0 : fB bsJ I) (ha1 : ((-1) ≤ x1 ∧ x1 ≤ 5)) (hp0 : I 740 9 ≤ I 740 10 ∧ I 740 10 ≤ I 740 8 ∧ (I 740 11 = 0 ∨ I 740 9 < I 740 10)) (hp1 : 0 ≤ I 740 16 ∧ I 740 16 ≤ I 740 9) (hp2 : d ≤ I 740 14 + I 740 15) (hp3 : (1215 ≤ I 740 17 ∧ I 740 17 ≤ 3415 ∧ (I 740 17 - 1215) % 200 = 0) ∨ I 740 17 = 4700) : fC ρ base n F xTc vwCl xTys D dA la gJ (fbz bsJ znJ (fKc wz_2212a) I) (gM_either gn0 rm) [.inr (.inr (some 740)), .inl x1] I (fun I' r => ∃ z, r = some (.inl z) ∧ ((0 ≤ z ∧ z ≤ 1) ∧ (I 740 9 ≤ I' 740 9 ∧ I' 740 9 ≤ I' 740 10 ∧ I' 740 10 ≤ I' 740 8 ∧ (I' 740 11 = 0 ∨ I' 740 9 < I' 740 10) ∧ (z = 1 → I 740 16 ≤ I' 740 16 ∧ I' 740 16 - I 740 16 ≤ I' 740 9 - I 740 9 ∧ I' 740 14 = I 740 14 ∧ I' 740 15 = I 740 15))) ∧ (sBe I I' (I 740 17) (I 740 16)) ∧ (z = 1 → sOne I' (I 740 17) (I 740 16) (I' 740 16))) := by
  have hW : fzs wz_2212a (fKc wz_2212a) := fKc_ok _
  refine f_meth (rb := rbJ) (J := [(10, (jc_M_either_94715_10 I))]) 98 400 xG hin hx6 okJ (fB_self h0) ?_ ?_
  · refine List.forall_mem_cons.mpr ⟨?_, fun q h => absurd h List.not_mem_nil⟩
    · rintro m _ _ I1 hB1 ⟨y1, rfl, rfl, ⟨hb, hx0, hx1⟩, hm⟩
      have k1 := fBz_eq hB1 (a := 740) (j := 8) (by decide +kernel)
      have k2 := fBz_eq hB1 (a := 740) (j := 17) (by decide +kernel)
      have b3 := fBd fb_740_8 (fBz h0 hB1)
      have b4 := fBd fb_740_14 (fBz h0 hB1)
      have b5 := fBd fb_740_15 (fBz h0 hB1)
      refine Exists.intro xm_423 (And.intro mi_423 (And.intro ⟨rfl, rfl, rfl, rfl⟩ (And.intro rfl ?_)))
      refine fcallp hB1 (ct_M_isSign_90da9 (fBz h0 hB1) (by first | exact ⟨by decide, by decide⟩ | omega)) ?_
      rintro _ ⟨z6, rfl, hz6⟩
      refine And.intro (by omega) (And.intro ?_ ?_)
      · intro c7
        refine And.intro (⟨by decide, by decide⟩) ?_
        exact ⟨_, rfl, by omega, hx0, (fun _ => hx1)⟩
      · intro c8
        refine Exists.intro xm_314 (And.intro mi_314 (And.intro ⟨rfl, rfl, rfl, rfl⟩ (And.intro rfl ?_)))
        refine fcall _ h0 (fzs_sub (by decide +kernel) hW) hB1 (ct_M_next_c8003 (fBz h0 hB1) (by omega)) ?_
        rintro IhB10 _ hB10 fhB10 ⟨rfl, hz9⟩
        have t11 := fhB10 740 14 (by decide +kernel)
        have t12 := fhB10 740 15 (by decide +kernel)
        have t13 := fhB10 740 16 (by decide +kernel)
        have k14 := fBz_eq hB10 (a := 740) (j := 8) (by decide +kernel)
        have k15 := fBz_eq hB10 (a := 740) (j := 17) (by decide +kernel)
        refine Exists.intro gm0 (And.intro ge0 (And.intro ⟨rfl, gk0.1, gk0.2.1, gk0.2.2⟩ (And.intro rfl ?_)))
        refine fcall _ h0 (fzs_sub (by decide +kernel) hW) hB10 (gc0 (fBz h0 hB10) (by first | exact ⟨hb.1.1, hb.1.2⟩ | omega) (by omega) (by omega) (by omega) (by omega)) ?_
        rintro IhB17 _ hB17 fhB17 ⟨z16, rfl, hz16, g0z16, g1z16⟩
        have k18 := fBz_eq hB17 (a := 740) (j := 8) (by decide +kernel)
        have k19 := fBz_eq hB17 (a := 740) (j := 17) (by decide +kernel)
        refine And.intro (by omega) (And.intro ?_ ?_)
        · intro c20
          refine Exists.intro xm_421 (And.intro mi_421 (And.intro ⟨rfl, rfl, rfl, rfl⟩ (And.intro rfl ?_)))
          refine fcall _ h0 (fzs_sub (by decide +kernel) hW) hB17 (ct_M_step_2c704 (fBz h0 hB17) (by first | exact ⟨by decide, by decide⟩ | omega) (by first | exact ⟨by decide, by decide⟩ | omega) (by omega) (by omega)) ?_
          rintro IhB22 _ hB22 fhB22 ⟨rfl, hz21, g0z21⟩
          have t23 := fhB22 740 9 (by decide +kernel)
          have t24 := fhB22 740 10 (by decide +kernel)
          have t25 := fhB22 740 11 (by decide +kernel)
          have t26 := fhB22 740 13 (by decide +kernel)
          have t27 := fhB22 740 14 (by decide +kernel)
          have t28 := fhB22 740 15 (by decide +kernel)
          have k29 := fBz_eq hB22 (a := 740) (j := 8) (by decide +kernel)
          have k30 := fBz_eq hB22 (a := 740) (j := 17) (by decide +kernel)
          exact fcutJ (I := IhB22) (j := (jc_M_either_94715_10 I)) (lv' := [(0, .inr (.inr (some 740))), (1, .inl _)]) (And.intro rfl (And.intro rfl True.intro)) ⟨_, rfl, rfl, ⟨by omega, (par_be hx0 (fFr_S fhB10 (by decide +kernel)) g0z16 g0z21 (by omega) (by omega) (by omega) (by omega)), (par_one (by omega) hx1 (fFr_S fhB10 (by decide +kernel)) g0z16 (g1z16 (by omega)) g0z21 (by omega) (by omega) (by omega) (by omega) (by omega) (by omega))⟩, rfl⟩ (by omega)
        · intro c31
          refine And.intro (⟨by decide, by decide⟩) ?_
          exact ⟨_, rfl, by omega, (par_bel hx0 (fFr_S fhB10 (by decide +kernel)) g0z16 (by omega) (by omega)), (fun q => absurd q (by omega))⟩
  · have hB0 := fB_self (zn := znJ) (K := fKc wz_2212a) h0
    have b32 := fBd fb_740_8 (fBz h0 hB0)
    have b33 := fBd fb_740_14 (fBz h0 hB0)
    have b34 := fBd fb_740_15 (fBz h0 hB0)
    refine Exists.intro gm0 (And.intro ge0 (And.intro ⟨rfl, gk0.1, gk0.2.1, gk0.2.2⟩ (And.intro rfl ?_)))
    refine fcall _ h0 (fzs_sub (by decide +kernel) hW) hB0 (gc0 (fBz h0 hB0) (by first | exact ⟨ha1.1, ha1.2⟩ | omega) (by omega) (by omega) (by omega) (by omega)) ?_
    rintro IhB36 _ hB36 fhB36 ⟨z35, rfl, hz35, g0z35, g1z35⟩
    have k37 := fBz_eq hB36 (a := 740) (j := 8) (by decide +kernel)
    have k38 := fBz_eq hB36 (a := 740) (j := 17) (by decide +kernel)
    refine And.intro (by omega) (And.intro ?_ ?_)
    · intro c39
      exact fcutJ (I := IhB36) (j := (jc_M_either_94715_10 I)) (lv' := [(0, .inr (.inr (some 740))), (1, .inl _)]) (And.intro rfl (And.intro rfl True.intro)) ⟨_, rfl, rfl, ⟨by omega, g0z35, (g1z35 (by omega))⟩, rfl⟩ (by omega)
    · intro c40
      refine And.intro (⟨by decide, by decide⟩) ?_
      exact ⟨_, rfl, by omega, g0z35, (fun q => absurd q (by omega))⟩
theorem ct_M_either_94715 {I : fH} {x1 : Int} (h0 : fB bsJ I) (ha1 : ((-1) ≤ x1 ∧ x1 ≤ 5)) (hp0 : I 740 9 ≤ I 740 10 ∧ I 740 10 ≤ I 740 8 ∧ (I 740 11 = 0 ∨ I 740 9 < I 740 10)) (hp1 : 0 ≤ I 740 16 ∧ I 740 16 ≤ I 740 9) (hp2 : 15 ≤ I 740 14 + I 740 15) (hp3 : (1215 ≤ I 740 17 ∧ I 740 17 ≤ 3415 ∧ (I 740 17 - 1215) % 200 = 0) ∨ I 740 17 = 4700) : fC ρ base n F xTc vwCl xTys D dA la gJ (fbz bsJ znJ (fKc wz_2212a) I) xm_320 [.inr (.inr (some 740)), .inl x1] I (fun I' r => ∃ z, r = some (.inl z) ∧ ((0 ≤ z ∧ z ≤ 1) ∧ (I 740 9 ≤ I' 740 9 ∧ I' 740 9 ≤ I' 740 10 ∧ I' 740 10 ≤ I' 740 8 ∧ (I' 740 11 = 0 ∨ I' 740 9 < I' 740 10) ∧ (z = 1 → I 740 16 ≤ I' 740 16 ∧ I' 740 16 - I 740 16 ≤ I' 740 9 - I 740 9 ∧ I' 740 14 = I 740 14 ∧ I' 740 15 = I 740 15))) ∧ (sBe I I' (I 740 17) (I 740 16)) ∧ (z = 1 → sOne I' (I 740 17) (I 740 16) (I' 740 16))) := cg_M_either (d := 15) mi_337 ⟨rfl, rfl, rfl⟩ (fun h0 ha1 hp0 hp1 hp2 hp3 => ct_M_both_f2598 h0 ha1 hp0 hp1 (by omega) hp3) xin_320 x6_320 h0 ha1 hp0 hp1 hp2 hp3
theorem ct_M_part0_08c48 {I : fH} {x1 : Int} (h0 : fB bsJ I) (ha1 : ((-1) ≤ x1 ∧ x1 ≤ 5)) (hp0 : I 740 9 ≤ I 740 10 ∧ I 740 10 ≤ I 740 8 ∧ (I 740 11 = 0 ∨ I 740 9 < I 740 10)) (hp1 : 0 ≤ I 740 16 ∧ I 740 16 ≤ I 740 9) (hp2 : 14 ≤ I 740 14 + I 740 15) (hp3 : (1215 ≤ I 740 17 ∧ I 740 17 ≤ 3415 ∧ (I 740 17 - 1215) % 200 = 0) ∨ I 740 17 = 4700) : fC ρ base n F xTc vwCl xTys D dA la gJ (fbz bsJ znJ (fKc wz_2212a) I) xm_406 [.inr (.inr (some 740)), .inl x1] I (fun I' r => ∃ z, r = some (.inl z) ∧ ((0 ≤ z ∧ z ≤ 1) ∧ (I 740 9 ≤ I' 740 9 ∧ I' 740 9 ≤ I' 740 10 ∧ I' 740 10 ≤ I' 740 8 ∧ (I' 740 11 = 0 ∨ I' 740 9 < I' 740 10) ∧ (z = 1 → I 740 16 ≤ I' 740 16 ∧ I' 740 16 - I 740 16 ≤ I' 740 9 - I 740 9 ∧ I' 740 14 = I 740 14 ∧ I' 740 15 = I 740 15))) ∧ (sBe I I' (I 740 17) (I 740 16)) ∧ (z = 1 → sOne I' (I 740 17) (I 740 16) (I' 740 16))) := cg_M_part0 (d := 14) mi_320 ⟨rfl, rfl, rfl⟩ (fun h0 ha1 hp0 hp1 hp2 hp3 => ct_M_either_94715 h0 ha1 hp0 hp1 (by omega) hp3) mi_405 ⟨rfl, rfl, rfl⟩ (fun h0 ha1 hp0 hp1 hp2 hp3 => ct_M_part0_18b69 h0 ha1 hp0 hp1 (by omega) hp3) xin_406 x6_406 h0 ha1 hp0 hp1 hp2 hp3
theorem ct_M_term_59905 {I : fH} {x1 : Int} (h0 : fB bsJ I) (ha1 : ((-1) ≤ x1 ∧ x1 ≤ 5)) (hp0 : I 740 9 ≤ I 740 10 ∧ I 740 10 ≤ I 740 8 ∧ (I 740 11 = 0 ∨ I 740 9 < I 740 10)) (hp1 : 0 ≤ I 740 16 ∧ I 740 16 ≤ I 740 9) (hp2 : 14 ≤ I 740 14 + I 740 15) (hp3 : (1215 ≤ I 740 17 ∧ I 740 17 ≤ 3415 ∧ (I 740 17 - 1215) % 200 = 0) ∨ I 740 17 = 4700) : fC ρ base n F xTc vwCl xTys D dA la gJ (fbz bsJ znJ (fKc wz_2212a) I) xm_389 [.inr (.inr (some 740)), .inl x1] I (fun I' r => ∃ z, r = some (.inl z) ∧ ((0 ≤ z ∧ z ≤ 1) ∧ (I 740 9 ≤ I' 740 9 ∧ I' 740 9 ≤ I' 740 10 ∧ I' 740 10 ≤ I' 740 8 ∧ (I' 740 11 = 0 ∨ I' 740 9 < I' 740 10) ∧ (z = 1 → I 740 16 ≤ I' 740 16 ∧ I' 740 16 - I 740 16 ≤ I' 740 9 - I 740 9 ∧ I' 740 14 = I 740 14 ∧ I' 740 15 = I 740 15))) ∧ (sBe I I' (I 740 17) (I 740 16)) ∧ (z = 1 → sOne I' (I 740 17) (I 740 16) (I' 740 16))) := cg_M_term (d := 14) mi_406 ⟨rfl, rfl, rfl⟩ (fun h0 ha1 hp0 hp1 hp2 hp3 => ct_M_part0_08c48 h0 ha1 hp0 hp1 (by omega) hp3) xin_389 x6_389 h0 ha1 hp0 hp1 hp2 hp3
theorem ct_M_sum_a9d56 {I : fH} {x1 : Int} (h0 : fB bsJ I) (ha1 : ((-1) ≤ x1 ∧ x1 ≤ 5)) (hp0 : I 740 9 ≤ I 740 10 ∧ I 740 10 ≤ I 740 8 ∧ (I 740 11 = 0 ∨ I 740 9 < I 740 10)) (hp1 : 0 ≤ I 740 16 ∧ I 740 16 ≤ I 740 9) (hp2 : 14 ≤ I 740 14 + I 740 15) (hp3 : (1215 ≤ I 740 17 ∧ I 740 17 ≤ 3415 ∧ (I 740 17 - 1215) % 200 = 0) ∨ I 740 17 = 4700) : fC ρ base n F xTc vwCl xTys D dA la gJ (fbz bsJ znJ (fKc wz_2212a) I) xm_372 [.inr (.inr (some 740)), .inl x1] I (fun I' r => ∃ z, r = some (.inl z) ∧ ((0 ≤ z ∧ z ≤ 1) ∧ (I 740 9 ≤ I' 740 9 ∧ I' 740 9 ≤ I' 740 10 ∧ I' 740 10 ≤ I' 740 8 ∧ (I' 740 11 = 0 ∨ I' 740 9 < I' 740 10) ∧ (z = 1 → I 740 16 ≤ I' 740 16 ∧ I' 740 16 - I 740 16 ≤ I' 740 9 - I 740 9 ∧ I' 740 14 = I 740 14 ∧ I' 740 15 = I 740 15))) ∧ (sBe I I' (I 740 17) (I 740 16)) ∧ (z = 1 → sOne I' (I 740 17) (I 740 16) (I' 740 16))) := cg_M_sum (d := 14) mi_389 ⟨rfl, rfl, rfl⟩ (fun h0 ha1 hp0 hp1 hp2 hp3 => ct_M_term_59905 h0 ha1 hp0 hp1 (by omega) hp3) xin_372 x6_372 h0 ha1 hp0 hp1 hp2 hp3
theorem ct_M_test_64940 {I : fH} {x1 : Int} (h0 : fB bsJ I) (ha1 : ((-1) ≤ x1 ∧ x1 ≤ 5)) (hp0 : I 740 9 ≤ I 740 10 ∧ I 740 10 ≤ I 740 8 ∧ (I 740 11 = 0 ∨ I 740 9 < I 740 10)) (hp1 : 0 ≤ I 740 16 ∧ I 740 16 ≤ I 740 9) (hp2 : 14 ≤ I 740 14 + I 740 15) (hp3 : (1215 ≤ I 740 17 ∧ I 740 17 ≤ 3415 ∧ (I 740 17 - 1215) % 200 = 0) ∨ I 740 17 = 4700) : fC ρ base n F xTc vwCl xTys D dA la gJ (fbz bsJ znJ (fKc wz_2212a) I) xm_355 [.inr (.inr (some 740)), .inl x1] I (fun I' r => ∃ z, r = some (.inl z) ∧ ((0 ≤ z ∧ z ≤ 1) ∧ (I 740 9 ≤ I' 740 9 ∧ I' 740 9 ≤ I' 740 10 ∧ I' 740 10 ≤ I' 740 8 ∧ (I' 740 11 = 0 ∨ I' 740 9 < I' 740 10) ∧ (z = 1 → I 740 16 ≤ I' 740 16 ∧ I' 740 16 - I 740 16 ≤ I' 740 9 - I 740 9 ∧ I' 740 14 = I 740 14 ∧ I' 740 15 = I 740 15))) ∧ (sBe I I' (I 740 17) (I 740 16)) ∧ (z = 1 → sOne I' (I 740 17) (I 740 16) (I' 740 16))) := cg_M_test (d := 14) mi_372 ⟨rfl, rfl, rfl⟩ (fun h0 ha1 hp0 hp1 hp2 hp3 => ct_M_sum_a9d56 h0 ha1 hp0 hp1 (by omega) hp3) xin_355 x6_355 h0 ha1 hp0 hp1 hp2 hp3
theorem ct_M_both_86858 {I : fH} {x1 : Int} (h0 : fB bsJ I) (ha1 : ((-1) ≤ x1 ∧ x1 ≤ 5)) (hp0 : I 740 9 ≤ I 740 10 ∧ I 740 10 ≤ I 740 8 ∧ (I 740 11 = 0 ∨ I 740 9 < I 740 10)) (hp1 : 0 ≤ I 740 16 ∧ I 740 16 ≤ I 740 9) (hp2 : 14 ≤ I 740 14 + I 740 15) (hp3 : (1215 ≤ I 740 17 ∧ I 740 17 ≤ 3415 ∧ (I 740 17 - 1215) % 200 = 0) ∨ I 740 17 = 4700) : fC ρ base n F xTc vwCl xTys D dA la gJ (fbz bsJ znJ (fKc wz_2212a) I) xm_338 [.inr (.inr (some 740)), .inl x1] I (fun I' r => ∃ z, r = some (.inl z) ∧ ((0 ≤ z ∧ z ≤ 1) ∧ (I 740 9 ≤ I' 740 9 ∧ I' 740 9 ≤ I' 740 10 ∧ I' 740 10 ≤ I' 740 8 ∧ (I' 740 11 = 0 ∨ I' 740 9 < I' 740 10) ∧ (z = 1 → I 740 16 ≤ I' 740 16 ∧ I' 740 16 - I 740 16 ≤ I' 740 9 - I 740 9 ∧ I' 740 14 = I 740 14 ∧ I' 740 15 = I 740 15))) ∧ (sBe I I' (I 740 17) (I 740 16)) ∧ (z = 1 → sOne I' (I 740 17) (I 740 16) (I' 740 16))) := cg_M_both (d := 14) mi_355 ⟨rfl, rfl, rfl⟩ (fun h0 ha1 hp0 hp1 hp2 hp3 => ct_M_test_64940 h0 ha1 hp0 hp1 (by omega) hp3) xin_338 x6_338 h0 ha1 hp0 hp1 hp2 hp3
theorem ct_M_either_49787 {I : fH} {x1 : Int} (h0 : fB bsJ I) (ha1 : ((-1) ≤ x1 ∧ x1 ≤ 5)) (hp0 : I 740 9 ≤ I 740 10 ∧ I 740 10 ≤ I 740 8 ∧ (I 740 11 = 0 ∨ I 740 9 < I 740 10)) (hp1 : 0 ≤ I 740 16 ∧ I 740 16 ≤ I 740 9) (hp2 : 14 ≤ I 740 14 + I 740 15) (hp3 : (1215 ≤ I 740 17 ∧ I 740 17 ≤ 3415 ∧ (I 740 17 - 1215) % 200 = 0) ∨ I 740 17 = 4700) : fC ρ base n F xTc vwCl xTys D dA la gJ (fbz bsJ znJ (fKc wz_2212a) I) xm_321 [.inr (.inr (some 740)), .inl x1] I (fun I' r => ∃ z, r = some (.inl z) ∧ ((0 ≤ z ∧ z ≤ 1) ∧ (I 740 9 ≤ I' 740 9 ∧ I' 740 9 ≤ I' 740 10 ∧ I' 740 10 ≤ I' 740 8 ∧ (I' 740 11 = 0 ∨ I' 740 9 < I' 740 10) ∧ (z = 1 → I 740 16 ≤ I' 740 16 ∧ I' 740 16 - I 740 16 ≤ I' 740 9 - I 740 9 ∧ I' 740 14 = I 740 14 ∧ I' 740 15 = I 740 15))) ∧ (sBe I I' (I 740 17) (I 740 16)) ∧ (z = 1 → sOne I' (I 740 17) (I 740 16) (I' 740 16))) := cg_M_either (d := 14) mi_338 ⟨rfl, rfl, rfl⟩ (fun h0 ha1 hp0 hp1 hp2 hp3 => ct_M_both_86858 h0 ha1 hp0 hp1 (by omega) hp3) xin_321 x6_321 h0 ha1 hp0 hp1 hp2 hp3
theorem ct_M_part0_ded0c {I : fH} {x1 : Int} (h0 : fB bsJ I) (ha1 : ((-1) ≤ x1 ∧ x1 ≤ 5)) (hp0 : I 740 9 ≤ I 740 10 ∧ I 740 10 ≤ I 740 8 ∧ (I 740 11 = 0 ∨ I 740 9 < I 740 10)) (hp1 : 0 ≤ I 740 16 ∧ I 740 16 ≤ I 740 9) (hp2 : 13 ≤ I 740 14 + I 740 15) (hp3 : (1215 ≤ I 740 17 ∧ I 740 17 ≤ 3415 ∧ (I 740 17 - 1215) % 200 = 0) ∨ I 740 17 = 4700) : fC ρ base n F xTc vwCl xTys D dA la gJ (fbz bsJ znJ (fKc wz_2212a) I) xm_407 [.inr (.inr (some 740)), .inl x1] I (fun I' r => ∃ z, r = some (.inl z) ∧ ((0 ≤ z ∧ z ≤ 1) ∧ (I 740 9 ≤ I' 740 9 ∧ I' 740 9 ≤ I' 740 10 ∧ I' 740 10 ≤ I' 740 8 ∧ (I' 740 11 = 0 ∨ I' 740 9 < I' 740 10) ∧ (z = 1 → I 740 16 ≤ I' 740 16 ∧ I' 740 16 - I 740 16 ≤ I' 740 9 - I 740 9 ∧ I' 740 14 = I 740 14 ∧ I' 740 15 = I 740 15))) ∧ (sBe I I' (I 740 17) (I 740 16)) ∧ (z = 1 → sOne I' (I 740 17) (I 740 16) (I' 740 16))) := cg_M_part0 (d := 13) mi_321 ⟨rfl, rfl, rfl⟩ (fun h0 ha1 hp0 hp1 hp2 hp3 => ct_M_either_49787 h0 ha1 hp0 hp1 (by omega) hp3) mi_406 ⟨rfl, rfl, rfl⟩ (fun h0 ha1 hp0 hp1 hp2 hp3 => ct_M_part0_08c48 h0 ha1 hp0 hp1 (by omega) hp3) xin_407 x6_407 h0 ha1 hp0 hp1 hp2 hp3
theorem ct_M_term_9fe76 {I : fH} {x1 : Int} (h0 : fB bsJ I) (ha1 : ((-1) ≤ x1 ∧ x1 ≤ 5)) (hp0 : I 740 9 ≤ I 740 10 ∧ I 740 10 ≤ I 740 8 ∧ (I 740 11 = 0 ∨ I 740 9 < I 740 10)) (hp1 : 0 ≤ I 740 16 ∧ I 740 16 ≤ I 740 9) (hp2 : 13 ≤ I 740 14 + I 740 15) (hp3 : (1215 ≤ I 740 17 ∧ I 740 17 ≤ 3415 ∧ (I 740 17 - 1215) % 200 = 0) ∨ I 740 17 = 4700) : fC ρ base n F xTc vwCl xTys D dA la gJ (fbz bsJ znJ (fKc wz_2212a) I) xm_390 [.inr (.inr (some 740)), .inl x1] I (fun I' r => ∃ z, r = some (.inl z) ∧ ((0 ≤ z ∧ z ≤ 1) ∧ (I 740 9 ≤ I' 740 9 ∧ I' 740 9 ≤ I' 740 10 ∧ I' 740 10 ≤ I' 740 8 ∧ (I' 740 11 = 0 ∨ I' 740 9 < I' 740 10) ∧ (z = 1 → I 740 16 ≤ I' 740 16 ∧ I' 740 16 - I 740 16 ≤ I' 740 9 - I 740 9 ∧ I' 740 14 = I 740 14 ∧ I' 740 15 = I 740 15))) ∧ (sBe I I' (I 740 17) (I 740 16)) ∧ (z = 1 → sOne I' (I 740 17) (I 740 16) (I' 740 16))) := cg_M_term (d := 13) mi_407 ⟨rfl, rfl, rfl⟩ (fun h0 ha1 hp0 hp1 hp2 hp3 => ct_M_part0_ded0c h0 ha1 hp0 hp1 (by omega) hp3) xin_390 x6_390 h0 ha1 hp0 hp1 hp2 hp3
theorem ct_M_sum_81519 {I : fH} {x1 : Int} (h0 : fB bsJ I) (ha1 : ((-1) ≤ x1 ∧ x1 ≤ 5)) (hp0 : I 740 9 ≤ I 740 10 ∧ I 740 10 ≤ I 740 8 ∧ (I 740 11 = 0 ∨ I 740 9 < I 740 10)) (hp1 : 0 ≤ I 740 16 ∧ I 740 16 ≤ I 740 9) (hp2 : 13 ≤ I 740 14 + I 740 15) (hp3 : (1215 ≤ I 740 17 ∧ I 740 17 ≤ 3415 ∧ (I 740 17 - 1215) % 200 = 0) ∨ I 740 17 = 4700) : fC ρ base n F xTc vwCl xTys D dA la gJ (fbz bsJ znJ (fKc wz_2212a) I) xm_373 [.inr (.inr (some 740)), .inl x1] I (fun I' r => ∃ z, r = some (.inl z) ∧ ((0 ≤ z ∧ z ≤ 1) ∧ (I 740 9 ≤ I' 740 9 ∧ I' 740 9 ≤ I' 740 10 ∧ I' 740 10 ≤ I' 740 8 ∧ (I' 740 11 = 0 ∨ I' 740 9 < I' 740 10) ∧ (z = 1 → I 740 16 ≤ I' 740 16 ∧ I' 740 16 - I 740 16 ≤ I' 740 9 - I 740 9 ∧ I' 740 14 = I 740 14 ∧ I' 740 15 = I 740 15))) ∧ (sBe I I' (I 740 17) (I 740 16)) ∧ (z = 1 → sOne I' (I 740 17) (I 740 16) (I' 740 16))) := cg_M_sum (d := 13) mi_390 ⟨rfl, rfl, rfl⟩ (fun h0 ha1 hp0 hp1 hp2 hp3 => ct_M_term_9fe76 h0 ha1 hp0 hp1 (by omega) hp3) xin_373 x6_373 h0 ha1 hp0 hp1 hp2 hp3
theorem ct_M_test_35c6b {I : fH} {x1 : Int} (h0 : fB bsJ I) (ha1 : ((-1) ≤ x1 ∧ x1 ≤ 5)) (hp0 : I 740 9 ≤ I 740 10 ∧ I 740 10 ≤ I 740 8 ∧ (I 740 11 = 0 ∨ I 740 9 < I 740 10)) (hp1 : 0 ≤ I 740 16 ∧ I 740 16 ≤ I 740 9) (hp2 : 13 ≤ I 740 14 + I 740 15) (hp3 : (1215 ≤ I 740 17 ∧ I 740 17 ≤ 3415 ∧ (I 740 17 - 1215) % 200 = 0) ∨ I 740 17 = 4700) : fC ρ base n F xTc vwCl xTys D dA la gJ (fbz bsJ znJ (fKc wz_2212a) I) xm_356 [.inr (.inr (some 740)), .inl x1] I (fun I' r => ∃ z, r = some (.inl z) ∧ ((0 ≤ z ∧ z ≤ 1) ∧ (I 740 9 ≤ I' 740 9 ∧ I' 740 9 ≤ I' 740 10 ∧ I' 740 10 ≤ I' 740 8 ∧ (I' 740 11 = 0 ∨ I' 740 9 < I' 740 10) ∧ (z = 1 → I 740 16 ≤ I' 740 16 ∧ I' 740 16 - I 740 16 ≤ I' 740 9 - I 740 9 ∧ I' 740 14 = I 740 14 ∧ I' 740 15 = I 740 15))) ∧ (sBe I I' (I 740 17) (I 740 16)) ∧ (z = 1 → sOne I' (I 740 17) (I 740 16) (I' 740 16))) := cg_M_test (d := 13) mi_373 ⟨rfl, rfl, rfl⟩ (fun h0 ha1 hp0 hp1 hp2 hp3 => ct_M_sum_81519 h0 ha1 hp0 hp1 (by omega) hp3) xin_356 x6_356 h0 ha1 hp0 hp1 hp2 hp3
theorem ct_M_both_630a5 {I : fH} {x1 : Int} (h0 : fB bsJ I) (ha1 : ((-1) ≤ x1 ∧ x1 ≤ 5)) (hp0 : I 740 9 ≤ I 740 10 ∧ I 740 10 ≤ I 740 8 ∧ (I 740 11 = 0 ∨ I 740 9 < I 740 10)) (hp1 : 0 ≤ I 740 16 ∧ I 740 16 ≤ I 740 9) (hp2 : 13 ≤ I 740 14 + I 740 15) (hp3 : (1215 ≤ I 740 17 ∧ I 740 17 ≤ 3415 ∧ (I 740 17 - 1215) % 200 = 0) ∨ I 740 17 = 4700) : fC ρ base n F xTc vwCl xTys D dA la gJ (fbz bsJ znJ (fKc wz_2212a) I) xm_339 [.inr (.inr (some 740)), .inl x1] I (fun I' r => ∃ z, r = some (.inl z) ∧ ((0 ≤ z ∧ z ≤ 1) ∧ (I 740 9 ≤ I' 740 9 ∧ I' 740 9 ≤ I' 740 10 ∧ I' 740 10 ≤ I' 740 8 ∧ (I' 740 11 = 0 ∨ I' 740 9 < I' 740 10) ∧ (z = 1 → I 740 16 ≤ I' 740 16 ∧ I' 740 16 - I 740 16 ≤ I' 740 9 - I 740 9 ∧ I' 740 14 = I 740 14 ∧ I' 740 15 = I 740 15))) ∧ (sBe I I' (I 740 17) (I 740 16)) ∧ (z = 1 → sOne I' (I 740 17) (I 740 16) (I' 740 16))) := cg_M_both (d := 13) mi_356 ⟨rfl, rfl, rfl⟩ (fun h0 ha1 hp0 hp1 hp2 hp3 => ct_M_test_35c6b h0 ha1 hp0 hp1 (by omega) hp3) xin_339 x6_339 h0 ha1 hp0 hp1 hp2 hp3
theorem ct_M_either_9440d {I : fH} {x1 : Int} (h0 : fB bsJ I) (ha1 : ((-1) ≤ x1 ∧ x1 ≤ 5)) (hp0 : I 740 9 ≤ I 740 10 ∧ I 740 10 ≤ I 740 8 ∧ (I 740 11 = 0 ∨ I 740 9 < I 740 10)) (hp1 : 0 ≤ I 740 16 ∧ I 740 16 ≤ I 740 9) (hp2 : 13 ≤ I 740 14 + I 740 15) (hp3 : (1215 ≤ I 740 17 ∧ I 740 17 ≤ 3415 ∧ (I 740 17 - 1215) % 200 = 0) ∨ I 740 17 = 4700) : fC ρ base n F xTc vwCl xTys D dA la gJ (fbz bsJ znJ (fKc wz_2212a) I) xm_322 [.inr (.inr (some 740)), .inl x1] I (fun I' r => ∃ z, r = some (.inl z) ∧ ((0 ≤ z ∧ z ≤ 1) ∧ (I 740 9 ≤ I' 740 9 ∧ I' 740 9 ≤ I' 740 10 ∧ I' 740 10 ≤ I' 740 8 ∧ (I' 740 11 = 0 ∨ I' 740 9 < I' 740 10) ∧ (z = 1 → I 740 16 ≤ I' 740 16 ∧ I' 740 16 - I 740 16 ≤ I' 740 9 - I 740 9 ∧ I' 740 14 = I 740 14 ∧ I' 740 15 = I 740 15))) ∧ (sBe I I' (I 740 17) (I 740 16)) ∧ (z = 1 → sOne I' (I 740 17) (I 740 16) (I' 740 16))) := cg_M_either (d := 13) mi_339 ⟨rfl, rfl, rfl⟩ (fun h0 ha1 hp0 hp1 hp2 hp3 => ct_M_both_630a5 h0 ha1 hp0 hp1 (by omega) hp3) xin_322 x6_322 h0 ha1 hp0 hp1 hp2 hp3
theorem ct_M_part0_30850 {I : fH} {x1 : Int} (h0 : fB bsJ I) (ha1 : ((-1) ≤ x1 ∧ x1 ≤ 5)) (hp0 : I 740 9 ≤ I 740 10 ∧ I 740 10 ≤ I 740 8 ∧ (I 740 11 = 0 ∨ I 740 9 < I 740 10)) (hp1 : 0 ≤ I 740 16 ∧ I 740 16 ≤ I 740 9) (hp2 : 12 ≤ I 740 14 + I 740 15) (hp3 : (1215 ≤ I 740 17 ∧ I 740 17 ≤ 3415 ∧ (I 740 17 - 1215) % 200 = 0) ∨ I 740 17 = 4700) : fC ρ base n F xTc vwCl xTys D dA la gJ (fbz bsJ znJ (fKc wz_2212a) I) xm_408 [.inr (.inr (some 740)), .inl x1] I (fun I' r => ∃ z, r = some (.inl z) ∧ ((0 ≤ z ∧ z ≤ 1) ∧ (I 740 9 ≤ I' 740 9 ∧ I' 740 9 ≤ I' 740 10 ∧ I' 740 10 ≤ I' 740 8 ∧ (I' 740 11 = 0 ∨ I' 740 9 < I' 740 10) ∧ (z = 1 → I 740 16 ≤ I' 740 16 ∧ I' 740 16 - I 740 16 ≤ I' 740 9 - I 740 9 ∧ I' 740 14 = I 740 14 ∧ I' 740 15 = I 740 15))) ∧ (sBe I I' (I 740 17) (I 740 16)) ∧ (z = 1 → sOne I' (I 740 17) (I 740 16) (I' 740 16))) := cg_M_part0 (d := 12) mi_322 ⟨rfl, rfl, rfl⟩ (fun h0 ha1 hp0 hp1 hp2 hp3 => ct_M_either_9440d h0 ha1 hp0 hp1 (by omega) hp3) mi_407 ⟨rfl, rfl, rfl⟩ (fun h0 ha1 hp0 hp1 hp2 hp3 => ct_M_part0_ded0c h0 ha1 hp0 hp1 (by omega) hp3) xin_408 x6_408 h0 ha1 hp0 hp1 hp2 hp3
theorem ct_M_term_7e0ad {I : fH} {x1 : Int} (h0 : fB bsJ I) (ha1 : ((-1) ≤ x1 ∧ x1 ≤ 5)) (hp0 : I 740 9 ≤ I 740 10 ∧ I 740 10 ≤ I 740 8 ∧ (I 740 11 = 0 ∨ I 740 9 < I 740 10)) (hp1 : 0 ≤ I 740 16 ∧ I 740 16 ≤ I 740 9) (hp2 : 12 ≤ I 740 14 + I 740 15) (hp3 : (1215 ≤ I 740 17 ∧ I 740 17 ≤ 3415 ∧ (I 740 17 - 1215) % 200 = 0) ∨ I 740 17 = 4700) : fC ρ base n F xTc vwCl xTys D dA la gJ (fbz bsJ znJ (fKc wz_2212a) I) xm_391 [.inr (.inr (some 740)), .inl x1] I (fun I' r => ∃ z, r = some (.inl z) ∧ ((0 ≤ z ∧ z ≤ 1) ∧ (I 740 9 ≤ I' 740 9 ∧ I' 740 9 ≤ I' 740 10 ∧ I' 740 10 ≤ I' 740 8 ∧ (I' 740 11 = 0 ∨ I' 740 9 < I' 740 10) ∧ (z = 1 → I 740 16 ≤ I' 740 16 ∧ I' 740 16 - I 740 16 ≤ I' 740 9 - I 740 9 ∧ I' 740 14 = I 740 14 ∧ I' 740 15 = I 740 15))) ∧ (sBe I I' (I 740 17) (I 740 16)) ∧ (z = 1 → sOne I' (I 740 17) (I 740 16) (I' 740 16))) := cg_M_term (d := 12) mi_408 ⟨rfl, rfl, rfl⟩ (fun h0 ha1 hp0 hp1 hp2 hp3 => ct_M_part0_30850 h0 ha1 hp0 hp1 (by omega) hp3) xin_391 x6_391 h0 ha1 hp0 hp1 hp2 hp3
theorem ct_M_sum_de2dd {I : fH} {x1 : Int} (h0 : fB bsJ I) (ha1 : ((-1) ≤ x1 ∧ x1 ≤ 5)) (hp0 : I 740 9 ≤ I 740 10 ∧ I 740 10 ≤ I 740 8 ∧ (I 740 11 = 0 ∨ I 740 9 < I 740 10)) (hp1 : 0 ≤ I 740 16 ∧ I 740 16 ≤ I 740 9) (hp2 : 12 ≤ I 740 14 + I 740 15) (hp3 : (1215 ≤ I 740 17 ∧ I 740 17 ≤ 3415 ∧ (I 740 17 - 1215) % 200 = 0) ∨ I 740 17 = 4700) : fC ρ base n F xTc vwCl xTys D dA la gJ (fbz bsJ znJ (fKc wz_2212a) I) xm_374 [.inr (.inr (some 740)), .inl x1] I (fun I' r => ∃ z, r = some (.inl z) ∧ ((0 ≤ z ∧ z ≤ 1) ∧ (I 740 9 ≤ I' 740 9 ∧ I' 740 9 ≤ I' 740 10 ∧ I' 740 10 ≤ I' 740 8 ∧ (I' 740 11 = 0 ∨ I' 740 9 < I' 740 10) ∧ (z = 1 → I 740 16 ≤ I' 740 16 ∧ I' 740 16 - I 740 16 ≤ I' 740 9 - I 740 9 ∧ I' 740 14 = I 740 14 ∧ I' 740 15 = I 740 15))) ∧ (sBe I I' (I 740 17) (I 740 16)) ∧ (z = 1 → sOne I' (I 740 17) (I 740 16) (I' 740 16))) := cg_M_sum (d := 12) mi_391 ⟨rfl, rfl, rfl⟩ (fun h0 ha1 hp0 hp1 hp2 hp3 => ct_M_term_7e0ad h0 ha1 hp0 hp1 (by omega) hp3) xin_374 x6_374 h0 ha1 hp0 hp1 hp2 hp3
theorem ct_M_test_95df3 {I : fH} {x1 : Int} (h0 : fB bsJ I) (ha1 : ((-1) ≤ x1 ∧ x1 ≤ 5)) (hp0 : I 740 9 ≤ I 740 10 ∧ I 740 10 ≤ I 740 8 ∧ (I 740 11 = 0 ∨ I 740 9 < I 740 10)) (hp1 : 0 ≤ I 740 16 ∧ I 740 16 ≤ I 740 9) (hp2 : 12 ≤ I 740 14 + I 740 15) (hp3 : (1215 ≤ I 740 17 ∧ I 740 17 ≤ 3415 ∧ (I 740 17 - 1215) % 200 = 0) ∨ I 740 17 = 4700) : fC ρ base n F xTc vwCl xTys D dA la gJ (fbz bsJ znJ (fKc wz_2212a) I) xm_357 [.inr (.inr (some 740)), .inl x1] I (fun I' r => ∃ z, r = some (.inl z) ∧ ((0 ≤ z ∧ z ≤ 1) ∧ (I 740 9 ≤ I' 740 9 ∧ I' 740 9 ≤ I' 740 10 ∧ I' 740 10 ≤ I' 740 8 ∧ (I' 740 11 = 0 ∨ I' 740 9 < I' 740 10) ∧ (z = 1 → I 740 16 ≤ I' 740 16 ∧ I' 740 16 - I 740 16 ≤ I' 740 9 - I 740 9 ∧ I' 740 14 = I 740 14 ∧ I' 740 15 = I 740 15))) ∧ (sBe I I' (I 740 17) (I 740 16)) ∧ (z = 1 → sOne I' (I 740 17) (I 740 16) (I' 740 16))) := cg_M_test (d := 12) mi_374 ⟨rfl, rfl, rfl⟩ (fun h0 ha1 hp0 hp1 hp2 hp3 => ct_M_sum_de2dd h0 ha1 hp0 hp1 (by omega) hp3) xin_357 x6_357 h0 ha1 hp0 hp1 hp2 hp3
theorem ct_M_both_9476d {I : fH} {x1 : Int} (h0 : fB bsJ I) (ha1 : ((-1) ≤ x1 ∧ x1 ≤ 5)) (hp0 : I 740 9 ≤ I 740 10 ∧ I 740 10 ≤ I 740 8 ∧ (I 740 11 = 0 ∨ I 740 9 < I 740 10)) (hp1 : 0 ≤ I 740 16 ∧ I 740 16 ≤ I 740 9) (hp2 : 12 ≤ I 740 14 + I 740 15) (hp3 : (1215 ≤ I 740 17 ∧ I 740 17 ≤ 3415 ∧ (I 740 17 - 1215) % 200 = 0) ∨ I 740 17 = 4700) : fC ρ base n F xTc vwCl xTys D dA la gJ (fbz bsJ znJ (fKc wz_2212a) I) xm_340 [.inr (.inr (some 740)), .inl x1] I (fun I' r => ∃ z, r = some (.inl z) ∧ ((0 ≤ z ∧ z ≤ 1) ∧ (I 740 9 ≤ I' 740 9 ∧ I' 740 9 ≤ I' 740 10 ∧ I' 740 10 ≤ I' 740 8 ∧ (I' 740 11 = 0 ∨ I' 740 9 < I' 740 10) ∧ (z = 1 → I 740 16 ≤ I' 740 16 ∧ I' 740 16 - I 740 16 ≤ I' 740 9 - I 740 9 ∧ I' 740 14 = I 740 14 ∧ I' 740 15 = I 740 15))) ∧ (sBe I I' (I 740 17) (I 740 16)) ∧ (z = 1 → sOne I' (I 740 17) (I 740 16) (I' 740 16))) := cg_M_both (d := 12) mi_357 ⟨rfl, rfl, rfl⟩ (fun h0 ha1 hp0 hp1 hp2 hp3 => ct_M_test_95df3 h0 ha1 hp0 hp1 (by omega) hp3) xin_340 x6_340 h0 ha1 hp0 hp1 hp2 hp3
theorem ct_M_either_00619 {I : fH} {x1 : Int} (h0 : fB bsJ I) (ha1 : ((-1) ≤ x1 ∧ x1 ≤ 5)) (hp0 : I 740 9 ≤ I 740 10 ∧ I 740 10 ≤ I 740 8 ∧ (I 740 11 = 0 ∨ I 740 9 < I 740 10)) (hp1 : 0 ≤ I 740 16 ∧ I 740 16 ≤ I 740 9) (hp2 : 12 ≤ I 740 14 + I 740 15) (hp3 : (1215 ≤ I 740 17 ∧ I 740 17 ≤ 3415 ∧ (I 740 17 - 1215) % 200 = 0) ∨ I 740 17 = 4700) : fC ρ base n F xTc vwCl xTys D dA la gJ (fbz bsJ znJ (fKc wz_2212a) I) xm_323 [.inr (.inr (some 740)), .inl x1] I (fun I' r => ∃ z, r = some (.inl z) ∧ ((0 ≤ z ∧ z ≤ 1) ∧ (I 740 9 ≤ I' 740 9 ∧ I' 740 9 ≤ I' 740 10 ∧ I' 740 10 ≤ I' 740 8 ∧ (I' 740 11 = 0 ∨ I' 740 9 < I' 740 10) ∧ (z = 1 → I 740 16 ≤ I' 740 16 ∧ I' 740 16 - I 740 16 ≤ I' 740 9 - I 740 9 ∧ I' 740 14 = I 740 14 ∧ I' 740 15 = I 740 15))) ∧ (sBe I I' (I 740 17) (I 740 16)) ∧ (z = 1 → sOne I' (I 740 17) (I 740 16) (I' 740 16))) := cg_M_either (d := 12) mi_340 ⟨rfl, rfl, rfl⟩ (fun h0 ha1 hp0 hp1 hp2 hp3 => ct_M_both_9476d h0 ha1 hp0 hp1 (by omega) hp3) xin_323 x6_323 h0 ha1 hp0 hp1 hp2 hp3
theorem ct_M_part0_a2998 {I : fH} {x1 : Int} (h0 : fB bsJ I) (ha1 : ((-1) ≤ x1 ∧ x1 ≤ 5)) (hp0 : I 740 9 ≤ I 740 10 ∧ I 740 10 ≤ I 740 8 ∧ (I 740 11 = 0 ∨ I 740 9 < I 740 10)) (hp1 : 0 ≤ I 740 16 ∧ I 740 16 ≤ I 740 9) (hp2 : 11 ≤ I 740 14 + I 740 15) (hp3 : (1215 ≤ I 740 17 ∧ I 740 17 ≤ 3415 ∧ (I 740 17 - 1215) % 200 = 0) ∨ I 740 17 = 4700) : fC ρ base n F xTc vwCl xTys D dA la gJ (fbz bsJ znJ (fKc wz_2212a) I) xm_409 [.inr (.inr (some 740)), .inl x1] I (fun I' r => ∃ z, r = some (.inl z) ∧ ((0 ≤ z ∧ z ≤ 1) ∧ (I 740 9 ≤ I' 740 9 ∧ I' 740 9 ≤ I' 740 10 ∧ I' 740 10 ≤ I' 740 8 ∧ (I' 740 11 = 0 ∨ I' 740 9 < I' 740 10) ∧ (z = 1 → I 740 16 ≤ I' 740 16 ∧ I' 740 16 - I 740 16 ≤ I' 740 9 - I 740 9 ∧ I' 740 14 = I 740 14 ∧ I' 740 15 = I 740 15))) ∧ (sBe I I' (I 740 17) (I 740 16)) ∧ (z = 1 → sOne I' (I 740 17) (I 740 16) (I' 740 16))) := cg_M_part0 (d := 11) mi_323 ⟨rfl, rfl, rfl⟩ (fun h0 ha1 hp0 hp1 hp2 hp3 => ct_M_either_00619 h0 ha1 hp0 hp1 (by omega) hp3) mi_408 ⟨rfl, rfl, rfl⟩ (fun h0 ha1 hp0 hp1 hp2 hp3 => ct_M_part0_30850 h0 ha1 hp0 hp1 (by omega) hp3) xin_409 x6_409 h0 ha1 hp0 hp1 hp2 hp3
theorem ct_M_term_c323b {I : fH} {x1 : Int} (h0 : fB bsJ I) (ha1 : ((-1) ≤ x1 ∧ x1 ≤ 5)) (hp0 : I 740 9 ≤ I 740 10 ∧ I 740 10 ≤ I 740 8 ∧ (I 740 11 = 0 ∨ I 740 9 < I 740 10)) (hp1 : 0 ≤ I 740 16 ∧ I 740 16 ≤ I 740 9) (hp2 : 11 ≤ I 740 14 + I 740 15) (hp3 : (1215 ≤ I 740 17 ∧ I 740 17 ≤ 3415 ∧ (I 740 17 - 1215) % 200 = 0) ∨ I 740 17 = 4700) : fC ρ base n F xTc vwCl xTys D dA la gJ (fbz bsJ znJ (fKc wz_2212a) I) xm_392 [.inr (.inr (some 740)), .inl x1] I (fun I' r => ∃ z, r = some (.inl z) ∧ ((0 ≤ z ∧ z ≤ 1) ∧ (I 740 9 ≤ I' 740 9 ∧ I' 740 9 ≤ I' 740 10 ∧ I' 740 10 ≤ I' 740 8 ∧ (I' 740 11 = 0 ∨ I' 740 9 < I' 740 10) ∧ (z = 1 → I 740 16 ≤ I' 740 16 ∧ I' 740 16 - I 740 16 ≤ I' 740 9 - I 740 9 ∧ I' 740 14 = I 740 14 ∧ I' 740 15 = I 740 15))) ∧ (sBe I I' (I 740 17) (I 740 16)) ∧ (z = 1 → sOne I' (I 740 17) (I 740 16) (I' 740 16))) := cg_M_term (d := 11) mi_409 ⟨rfl, rfl, rfl⟩ (fun h0 ha1 hp0 hp1 hp2 hp3 => ct_M_part0_a2998 h0 ha1 hp0 hp1 (by omega) hp3) xin_392 x6_392 h0 ha1 hp0 hp1 hp2 hp3
theorem ct_M_sum_1a911 {I : fH} {x1 : Int} (h0 : fB bsJ I) (ha1 : ((-1) ≤ x1 ∧ x1 ≤ 5)) (hp0 : I 740 9 ≤ I 740 10 ∧ I 740 10 ≤ I 740 8 ∧ (I 740 11 = 0 ∨ I 740 9 < I 740 10)) (hp1 : 0 ≤ I 740 16 ∧ I 740 16 ≤ I 740 9) (hp2 : 11 ≤ I 740 14 + I 740 15) (hp3 : (1215 ≤ I 740 17 ∧ I 740 17 ≤ 3415 ∧ (I 740 17 - 1215) % 200 = 0) ∨ I 740 17 = 4700) : fC ρ base n F xTc vwCl xTys D dA la gJ (fbz bsJ znJ (fKc wz_2212a) I) xm_375 [.inr (.inr (some 740)), .inl x1] I (fun I' r => ∃ z, r = some (.inl z) ∧ ((0 ≤ z ∧ z ≤ 1) ∧ (I 740 9 ≤ I' 740 9 ∧ I' 740 9 ≤ I' 740 10 ∧ I' 740 10 ≤ I' 740 8 ∧ (I' 740 11 = 0 ∨ I' 740 9 < I' 740 10) ∧ (z = 1 → I 740 16 ≤ I' 740 16 ∧ I' 740 16 - I 740 16 ≤ I' 740 9 - I 740 9 ∧ I' 740 14 = I 740 14 ∧ I' 740 15 = I 740 15))) ∧ (sBe I I' (I 740 17) (I 740 16)) ∧ (z = 1 → sOne I' (I 740 17) (I 740 16) (I' 740 16))) := cg_M_sum (d := 11) mi_392 ⟨rfl, rfl, rfl⟩ (fun h0 ha1 hp0 hp1 hp2 hp3 => ct_M_term_c323b h0 ha1 hp0 hp1 (by omega) hp3) xin_375 x6_375 h0 ha1 hp0 hp1 hp2 hp3
theorem ct_M_test_fce72 {I : fH} {x1 : Int} (h0 : fB bsJ I) (ha1 : ((-1) ≤ x1 ∧ x1 ≤ 5)) (hp0 : I 740 9 ≤ I 740 10 ∧ I 740 10 ≤ I 740 8 ∧ (I 740 11 = 0 ∨ I 740 9 < I 740 10)) (hp1 : 0 ≤ I 740 16 ∧ I 740 16 ≤ I 740 9) (hp2 : 11 ≤ I 740 14 + I 740 15) (hp3 : (1215 ≤ I 740 17 ∧ I 740 17 ≤ 3415 ∧ (I 740 17 - 1215) % 200 = 0) ∨ I 740 17 = 4700) : fC ρ base n F xTc vwCl xTys D dA la gJ (fbz bsJ znJ (fKc wz_2212a) I) xm_358 [.inr (.inr (some 740)), .inl x1] I (fun I' r => ∃ z, r = some (.inl z) ∧ ((0 ≤ z ∧ z ≤ 1) ∧ (I 740 9 ≤ I' 740 9 ∧ I' 740 9 ≤ I' 740 10 ∧ I' 740 10 ≤ I' 740 8 ∧ (I' 740 11 = 0 ∨ I' 740 9 < I' 740 10) ∧ (z = 1 → I 740 16 ≤ I' 740 16 ∧ I' 740 16 - I 740 16 ≤ I' 740 9 - I 740 9 ∧ I' 740 14 = I 740 14 ∧ I' 740 15 = I 740 15))) ∧ (sBe I I' (I 740 17) (I 740 16)) ∧ (z = 1 → sOne I' (I 740 17) (I 740 16) (I' 740 16))) := cg_M_test (d := 11) mi_375 ⟨rfl, rfl, rfl⟩ (fun h0 ha1 hp0 hp1 hp2 hp3 => ct_M_sum_1a911 h0 ha1 hp0 hp1 (by omega) hp3) xin_358 x6_358 h0 ha1 hp0 hp1 hp2 hp3
theorem ct_M_both_5eefc {I : fH} {x1 : Int} (h0 : fB bsJ I) (ha1 : ((-1) ≤ x1 ∧ x1 ≤ 5)) (hp0 : I 740 9 ≤ I 740 10 ∧ I 740 10 ≤ I 740 8 ∧ (I 740 11 = 0 ∨ I 740 9 < I 740 10)) (hp1 : 0 ≤ I 740 16 ∧ I 740 16 ≤ I 740 9) (hp2 : 11 ≤ I 740 14 + I 740 15) (hp3 : (1215 ≤ I 740 17 ∧ I 740 17 ≤ 3415 ∧ (I 740 17 - 1215) % 200 = 0) ∨ I 740 17 = 4700) : fC ρ base n F xTc vwCl xTys D dA la gJ (fbz bsJ znJ (fKc wz_2212a) I) xm_341 [.inr (.inr (some 740)), .inl x1] I (fun I' r => ∃ z, r = some (.inl z) ∧ ((0 ≤ z ∧ z ≤ 1) ∧ (I 740 9 ≤ I' 740 9 ∧ I' 740 9 ≤ I' 740 10 ∧ I' 740 10 ≤ I' 740 8 ∧ (I' 740 11 = 0 ∨ I' 740 9 < I' 740 10) ∧ (z = 1 → I 740 16 ≤ I' 740 16 ∧ I' 740 16 - I 740 16 ≤ I' 740 9 - I 740 9 ∧ I' 740 14 = I 740 14 ∧ I' 740 15 = I 740 15))) ∧ (sBe I I' (I 740 17) (I 740 16)) ∧ (z = 1 → sOne I' (I 740 17) (I 740 16) (I' 740 16))) := cg_M_both (d := 11) mi_358 ⟨rfl, rfl, rfl⟩ (fun h0 ha1 hp0 hp1 hp2 hp3 => ct_M_test_fce72 h0 ha1 hp0 hp1 (by omega) hp3) xin_341 x6_341 h0 ha1 hp0 hp1 hp2 hp3
theorem ct_M_either_dc56f {I : fH} {x1 : Int} (h0 : fB bsJ I) (ha1 : ((-1) ≤ x1 ∧ x1 ≤ 5)) (hp0 : I 740 9 ≤ I 740 10 ∧ I 740 10 ≤ I 740 8 ∧ (I 740 11 = 0 ∨ I 740 9 < I 740 10)) (hp1 : 0 ≤ I 740 16 ∧ I 740 16 ≤ I 740 9) (hp2 : 11 ≤ I 740 14 + I 740 15) (hp3 : (1215 ≤ I 740 17 ∧ I 740 17 ≤ 3415 ∧ (I 740 17 - 1215) % 200 = 0) ∨ I 740 17 = 4700) : fC ρ base n F xTc vwCl xTys D dA la gJ (fbz bsJ znJ (fKc wz_2212a) I) xm_324 [.inr (.inr (some 740)), .inl x1] I (fun I' r => ∃ z, r = some (.inl z) ∧ ((0 ≤ z ∧ z ≤ 1) ∧ (I 740 9 ≤ I' 740 9 ∧ I' 740 9 ≤ I' 740 10 ∧ I' 740 10 ≤ I' 740 8 ∧ (I' 740 11 = 0 ∨ I' 740 9 < I' 740 10) ∧ (z = 1 → I 740 16 ≤ I' 740 16 ∧ I' 740 16 - I 740 16 ≤ I' 740 9 - I 740 9 ∧ I' 740 14 = I 740 14 ∧ I' 740 15 = I 740 15))) ∧ (sBe I I' (I 740 17) (I 740 16)) ∧ (z = 1 → sOne I' (I 740 17) (I 740 16) (I' 740 16))) := cg_M_either (d := 11) mi_341 ⟨rfl, rfl, rfl⟩ (fun h0 ha1 hp0 hp1 hp2 hp3 => ct_M_both_5eefc h0 ha1 hp0 hp1 (by omega) hp3) xin_324 x6_324 h0 ha1 hp0 hp1 hp2 hp3
theorem ct_M_part0_f79eb {I : fH} {x1 : Int} (h0 : fB bsJ I) (ha1 : ((-1) ≤ x1 ∧ x1 ≤ 5)) (hp0 : I 740 9 ≤ I 740 10 ∧ I 740 10 ≤ I 740 8 ∧ (I 740 11 = 0 ∨ I 740 9 < I 740 10)) (hp1 : 0 ≤ I 740 16 ∧ I 740 16 ≤ I 740 9) (hp2 : 10 ≤ I 740 14 + I 740 15) (hp3 : (1215 ≤ I 740 17 ∧ I 740 17 ≤ 3415 ∧ (I 740 17 - 1215) % 200 = 0) ∨ I 740 17 = 4700) : fC ρ base n F xTc vwCl xTys D dA la gJ (fbz bsJ znJ (fKc wz_2212a) I) xm_410 [.inr (.inr (some 740)), .inl x1] I (fun I' r => ∃ z, r = some (.inl z) ∧ ((0 ≤ z ∧ z ≤ 1) ∧ (I 740 9 ≤ I' 740 9 ∧ I' 740 9 ≤ I' 740 10 ∧ I' 740 10 ≤ I' 740 8 ∧ (I' 740 11 = 0 ∨ I' 740 9 < I' 740 10) ∧ (z = 1 → I 740 16 ≤ I' 740 16 ∧ I' 740 16 - I 740 16 ≤ I' 740 9 - I 740 9 ∧ I' 740 14 = I 740 14 ∧ I' 740 15 = I 740 15))) ∧ (sBe I I' (I 740 17) (I 740 16)) ∧ (z = 1 → sOne I' (I 740 17) (I 740 16) (I' 740 16))) := cg_M_part0 (d := 10) mi_324 ⟨rfl, rfl, rfl⟩ (fun h0 ha1 hp0 hp1 hp2 hp3 => ct_M_either_dc56f h0 ha1 hp0 hp1 (by omega) hp3) mi_409 ⟨rfl, rfl, rfl⟩ (fun h0 ha1 hp0 hp1 hp2 hp3 => ct_M_part0_a2998 h0 ha1 hp0 hp1 (by omega) hp3) xin_410 x6_410 h0 ha1 hp0 hp1 hp2 hp3
theorem ct_M_term_68617 {I : fH} {x1 : Int} (h0 : fB bsJ I) (ha1 : ((-1) ≤ x1 ∧ x1 ≤ 5)) (hp0 : I 740 9 ≤ I 740 10 ∧ I 740 10 ≤ I 740 8 ∧ (I 740 11 = 0 ∨ I 740 9 < I 740 10)) (hp1 : 0 ≤ I 740 16 ∧ I 740 16 ≤ I 740 9) (hp2 : 10 ≤ I 740 14 + I 740 15) (hp3 : (1215 ≤ I 740 17 ∧ I 740 17 ≤ 3415 ∧ (I 740 17 - 1215) % 200 = 0) ∨ I 740 17 = 4700) : fC ρ base n F xTc vwCl xTys D dA la gJ (fbz bsJ znJ (fKc wz_2212a) I) xm_393 [.inr (.inr (some 740)), .inl x1] I (fun I' r => ∃ z, r = some (.inl z) ∧ ((0 ≤ z ∧ z ≤ 1) ∧ (I 740 9 ≤ I' 740 9 ∧ I' 740 9 ≤ I' 740 10 ∧ I' 740 10 ≤ I' 740 8 ∧ (I' 740 11 = 0 ∨ I' 740 9 < I' 740 10) ∧ (z = 1 → I 740 16 ≤ I' 740 16 ∧ I' 740 16 - I 740 16 ≤ I' 740 9 - I 740 9 ∧ I' 740 14 = I 740 14 ∧ I' 740 15 = I 740 15))) ∧ (sBe I I' (I 740 17) (I 740 16)) ∧ (z = 1 → sOne I' (I 740 17) (I 740 16) (I' 740 16))) := cg_M_term (d := 10) mi_410 ⟨rfl, rfl, rfl⟩ (fun h0 ha1 hp0 hp1 hp2 hp3 => ct_M_part0_f79eb h0 ha1 hp0 hp1 (by omega) hp3) xin_393 x6_393 h0 ha1 hp0 hp1 hp2 hp3
theorem ct_M_sum_0df1b {I : fH} {x1 : Int} (h0 : fB bsJ I) (ha1 : ((-1) ≤ x1 ∧ x1 ≤ 5)) (hp0 : I 740 9 ≤ I 740 10 ∧ I 740 10 ≤ I 740 8 ∧ (I 740 11 = 0 ∨ I 740 9 < I 740 10)) (hp1 : 0 ≤ I 740 16 ∧ I 740 16 ≤ I 740 9) (hp2 : 10 ≤ I 740 14 + I 740 15) (hp3 : (1215 ≤ I 740 17 ∧ I 740 17 ≤ 3415 ∧ (I 740 17 - 1215) % 200 = 0) ∨ I 740 17 = 4700) : fC ρ base n F xTc vwCl xTys D dA la gJ (fbz bsJ znJ (fKc wz_2212a) I) xm_376 [.inr (.inr (some 740)), .inl x1] I (fun I' r => ∃ z, r = some (.inl z) ∧ ((0 ≤ z ∧ z ≤ 1) ∧ (I 740 9 ≤ I' 740 9 ∧ I' 740 9 ≤ I' 740 10 ∧ I' 740 10 ≤ I' 740 8 ∧ (I' 740 11 = 0 ∨ I' 740 9 < I' 740 10) ∧ (z = 1 → I 740 16 ≤ I' 740 16 ∧ I' 740 16 - I 740 16 ≤ I' 740 9 - I 740 9 ∧ I' 740 14 = I 740 14 ∧ I' 740 15 = I 740 15))) ∧ (sBe I I' (I 740 17) (I 740 16)) ∧ (z = 1 → sOne I' (I 740 17) (I 740 16) (I' 740 16))) := cg_M_sum (d := 10) mi_393 ⟨rfl, rfl, rfl⟩ (fun h0 ha1 hp0 hp1 hp2 hp3 => ct_M_term_68617 h0 ha1 hp0 hp1 (by omega) hp3) xin_376 x6_376 h0 ha1 hp0 hp1 hp2 hp3
theorem ct_M_test_9bc7b {I : fH} {x1 : Int} (h0 : fB bsJ I) (ha1 : ((-1) ≤ x1 ∧ x1 ≤ 5)) (hp0 : I 740 9 ≤ I 740 10 ∧ I 740 10 ≤ I 740 8 ∧ (I 740 11 = 0 ∨ I 740 9 < I 740 10)) (hp1 : 0 ≤ I 740 16 ∧ I 740 16 ≤ I 740 9) (hp2 : 10 ≤ I 740 14 + I 740 15) (hp3 : (1215 ≤ I 740 17 ∧ I 740 17 ≤ 3415 ∧ (I 740 17 - 1215) % 200 = 0) ∨ I 740 17 = 4700) : fC ρ base n F xTc vwCl xTys D dA la gJ (fbz bsJ znJ (fKc wz_2212a) I) xm_359 [.inr (.inr (some 740)), .inl x1] I (fun I' r => ∃ z, r = some (.inl z) ∧ ((0 ≤ z ∧ z ≤ 1) ∧ (I 740 9 ≤ I' 740 9 ∧ I' 740 9 ≤ I' 740 10 ∧ I' 740 10 ≤ I' 740 8 ∧ (I' 740 11 = 0 ∨ I' 740 9 < I' 740 10) ∧ (z = 1 → I 740 16 ≤ I' 740 16 ∧ I' 740 16 - I 740 16 ≤ I' 740 9 - I 740 9 ∧ I' 740 14 = I 740 14 ∧ I' 740 15 = I 740 15))) ∧ (sBe I I' (I 740 17) (I 740 16)) ∧ (z = 1 → sOne I' (I 740 17) (I 740 16) (I' 740 16))) := cg_M_test (d := 10) mi_376 ⟨rfl, rfl, rfl⟩ (fun h0 ha1 hp0 hp1 hp2 hp3 => ct_M_sum_0df1b h0 ha1 hp0 hp1 (by omega) hp3) xin_359 x6_359 h0 ha1 hp0 hp1 hp2 hp3
theorem ct_M_both_039fd {I : fH} {x1 : Int} (h0 : fB bsJ I) (ha1 : ((-1) ≤ x1 ∧ x1 ≤ 5)) (hp0 : I 740 9 ≤ I 740 10 ∧ I 740 10 ≤ I 740 8 ∧ (I 740 11 = 0 ∨ I 740 9 < I 740 10)) (hp1 : 0 ≤ I 740 16 ∧ I 740 16 ≤ I 740 9) (hp2 : 10 ≤ I 740 14 + I 740 15) (hp3 : (1215 ≤ I 740 17 ∧ I 740 17 ≤ 3415 ∧ (I 740 17 - 1215) % 200 = 0) ∨ I 740 17 = 4700) : fC ρ base n F xTc vwCl xTys D dA la gJ (fbz bsJ znJ (fKc wz_2212a) I) xm_342 [.inr (.inr (some 740)), .inl x1] I (fun I' r => ∃ z, r = some (.inl z) ∧ ((0 ≤ z ∧ z ≤ 1) ∧ (I 740 9 ≤ I' 740 9 ∧ I' 740 9 ≤ I' 740 10 ∧ I' 740 10 ≤ I' 740 8 ∧ (I' 740 11 = 0 ∨ I' 740 9 < I' 740 10) ∧ (z = 1 → I 740 16 ≤ I' 740 16 ∧ I' 740 16 - I 740 16 ≤ I' 740 9 - I 740 9 ∧ I' 740 14 = I 740 14 ∧ I' 740 15 = I 740 15))) ∧ (sBe I I' (I 740 17) (I 740 16)) ∧ (z = 1 → sOne I' (I 740 17) (I 740 16) (I' 740 16))) := cg_M_both (d := 10) mi_359 ⟨rfl, rfl, rfl⟩ (fun h0 ha1 hp0 hp1 hp2 hp3 => ct_M_test_9bc7b h0 ha1 hp0 hp1 (by omega) hp3) xin_342 x6_342 h0 ha1 hp0 hp1 hp2 hp3
theorem ct_M_either_d26fe {I : fH} {x1 : Int} (h0 : fB bsJ I) (ha1 : ((-1) ≤ x1 ∧ x1 ≤ 5)) (hp0 : I 740 9 ≤ I 740 10 ∧ I 740 10 ≤ I 740 8 ∧ (I 740 11 = 0 ∨ I 740 9 < I 740 10)) (hp1 : 0 ≤ I 740 16 ∧ I 740 16 ≤ I 740 9) (hp2 : 10 ≤ I 740 14 + I 740 15) (hp3 : (1215 ≤ I 740 17 ∧ I 740 17 ≤ 3415 ∧ (I 740 17 - 1215) % 200 = 0) ∨ I 740 17 = 4700) : fC ρ base n F xTc vwCl xTys D dA la gJ (fbz bsJ znJ (fKc wz_2212a) I) xm_325 [.inr (.inr (some 740)), .inl x1] I (fun I' r => ∃ z, r = some (.inl z) ∧ ((0 ≤ z ∧ z ≤ 1) ∧ (I 740 9 ≤ I' 740 9 ∧ I' 740 9 ≤ I' 740 10 ∧ I' 740 10 ≤ I' 740 8 ∧ (I' 740 11 = 0 ∨ I' 740 9 < I' 740 10) ∧ (z = 1 → I 740 16 ≤ I' 740 16 ∧ I' 740 16 - I 740 16 ≤ I' 740 9 - I 740 9 ∧ I' 740 14 = I 740 14 ∧ I' 740 15 = I 740 15))) ∧ (sBe I I' (I 740 17) (I 740 16)) ∧ (z = 1 → sOne I' (I 740 17) (I 740 16) (I' 740 16))) := cg_M_either (d := 10) mi_342 ⟨rfl, rfl, rfl⟩ (fun h0 ha1 hp0 hp1 hp2 hp3 => ct_M_both_039fd h0 ha1 hp0 hp1 (by omega) hp3) xin_325 x6_325 h0 ha1 hp0 hp1 hp2 hp3
theorem ct_M_part0_2878d {I : fH} {x1 : Int} (h0 : fB bsJ I) (ha1 : ((-1) ≤ x1 ∧ x1 ≤ 5)) (hp0 : I 740 9 ≤ I 740 10 ∧ I 740 10 ≤ I 740 8 ∧ (I 740 11 = 0 ∨ I 740 9 < I 740 10)) (hp1 : 0 ≤ I 740 16 ∧ I 740 16 ≤ I 740 9) (hp2 : 9 ≤ I 740 14 + I 740 15) (hp3 : (1215 ≤ I 740 17 ∧ I 740 17 ≤ 3415 ∧ (I 740 17 - 1215) % 200 = 0) ∨ I 740 17 = 4700) : fC ρ base n F xTc vwCl xTys D dA la gJ (fbz bsJ znJ (fKc wz_2212a) I) xm_411 [.inr (.inr (some 740)), .inl x1] I (fun I' r => ∃ z, r = some (.inl z) ∧ ((0 ≤ z ∧ z ≤ 1) ∧ (I 740 9 ≤ I' 740 9 ∧ I' 740 9 ≤ I' 740 10 ∧ I' 740 10 ≤ I' 740 8 ∧ (I' 740 11 = 0 ∨ I' 740 9 < I' 740 10) ∧ (z = 1 → I 740 16 ≤ I' 740 16 ∧ I' 740 16 - I 740 16 ≤ I' 740 9 - I 740 9 ∧ I' 740 14 = I 740 14 ∧ I' 740 15 = I 740 15))) ∧ (sBe I I' (I 740 17) (I 740 16)) ∧ (z = 1 → sOne I' (I 740 17) (I 740 16) (I' 740 16))) := cg_M_part0 (d := 9) mi_325 ⟨rfl, rfl, rfl⟩ (fun h0 ha1 hp0 hp1 hp2 hp3 => ct_M_either_d26fe h0 ha1 hp0 hp1 (by omega) hp3) mi_410 ⟨rfl, rfl, rfl⟩ (fun h0 ha1 hp0 hp1 hp2 hp3 => ct_M_part0_f79eb h0 ha1 hp0 hp1 (by omega) hp3) xin_411 x6_411 h0 ha1 hp0 hp1 hp2 hp3
theorem ct_M_term_adc17 {I : fH} {x1 : Int} (h0 : fB bsJ I) (ha1 : ((-1) ≤ x1 ∧ x1 ≤ 5)) (hp0 : I 740 9 ≤ I 740 10 ∧ I 740 10 ≤ I 740 8 ∧ (I 740 11 = 0 ∨ I 740 9 < I 740 10)) (hp1 : 0 ≤ I 740 16 ∧ I 740 16 ≤ I 740 9) (hp2 : 9 ≤ I 740 14 + I 740 15) (hp3 : (1215 ≤ I 740 17 ∧ I 740 17 ≤ 3415 ∧ (I 740 17 - 1215) % 200 = 0) ∨ I 740 17 = 4700) : fC ρ base n F xTc vwCl xTys D dA la gJ (fbz bsJ znJ (fKc wz_2212a) I) xm_394 [.inr (.inr (some 740)), .inl x1] I (fun I' r => ∃ z, r = some (.inl z) ∧ ((0 ≤ z ∧ z ≤ 1) ∧ (I 740 9 ≤ I' 740 9 ∧ I' 740 9 ≤ I' 740 10 ∧ I' 740 10 ≤ I' 740 8 ∧ (I' 740 11 = 0 ∨ I' 740 9 < I' 740 10) ∧ (z = 1 → I 740 16 ≤ I' 740 16 ∧ I' 740 16 - I 740 16 ≤ I' 740 9 - I 740 9 ∧ I' 740 14 = I 740 14 ∧ I' 740 15 = I 740 15))) ∧ (sBe I I' (I 740 17) (I 740 16)) ∧ (z = 1 → sOne I' (I 740 17) (I 740 16) (I' 740 16))) := cg_M_term (d := 9) mi_411 ⟨rfl, rfl, rfl⟩ (fun h0 ha1 hp0 hp1 hp2 hp3 => ct_M_part0_2878d h0 ha1 hp0 hp1 (by omega) hp3) xin_394 x6_394 h0 ha1 hp0 hp1 hp2 hp3
theorem ct_M_sum_fc47a {I : fH} {x1 : Int} (h0 : fB bsJ I) (ha1 : ((-1) ≤ x1 ∧ x1 ≤ 5)) (hp0 : I 740 9 ≤ I 740 10 ∧ I 740 10 ≤ I 740 8 ∧ (I 740 11 = 0 ∨ I 740 9 < I 740 10)) (hp1 : 0 ≤ I 740 16 ∧ I 740 16 ≤ I 740 9) (hp2 : 9 ≤ I 740 14 + I 740 15) (hp3 : (1215 ≤ I 740 17 ∧ I 740 17 ≤ 3415 ∧ (I 740 17 - 1215) % 200 = 0) ∨ I 740 17 = 4700) : fC ρ base n F xTc vwCl xTys D dA la gJ (fbz bsJ znJ (fKc wz_2212a) I) xm_377 [.inr (.inr (some 740)), .inl x1] I (fun I' r => ∃ z, r = some (.inl z) ∧ ((0 ≤ z ∧ z ≤ 1) ∧ (I 740 9 ≤ I' 740 9 ∧ I' 740 9 ≤ I' 740 10 ∧ I' 740 10 ≤ I' 740 8 ∧ (I' 740 11 = 0 ∨ I' 740 9 < I' 740 10) ∧ (z = 1 → I 740 16 ≤ I' 740 16 ∧ I' 740 16 - I 740 16 ≤ I' 740 9 - I 740 9 ∧ I' 740 14 = I 740 14 ∧ I' 740 15 = I 740 15))) ∧ (sBe I I' (I 740 17) (I 740 16)) ∧ (z = 1 → sOne I' (I 740 17) (I 740 16) (I' 740 16))) := cg_M_sum (d := 9) mi_394 ⟨rfl, rfl, rfl⟩ (fun h0 ha1 hp0 hp1 hp2 hp3 => ct_M_term_adc17 h0 ha1 hp0 hp1 (by omega) hp3) xin_377 x6_377 h0 ha1 hp0 hp1 hp2 hp3
theorem ct_M_test_4103f {I : fH} {x1 : Int} (h0 : fB bsJ I) (ha1 : ((-1) ≤ x1 ∧ x1 ≤ 5)) (hp0 : I 740 9 ≤ I 740 10 ∧ I 740 10 ≤ I 740 8 ∧ (I 740 11 = 0 ∨ I 740 9 < I 740 10)) (hp1 : 0 ≤ I 740 16 ∧ I 740 16 ≤ I 740 9) (hp2 : 9 ≤ I 740 14 + I 740 15) (hp3 : (1215 ≤ I 740 17 ∧ I 740 17 ≤ 3415 ∧ (I 740 17 - 1215) % 200 = 0) ∨ I 740 17 = 4700) : fC ρ base n F xTc vwCl xTys D dA la gJ (fbz bsJ znJ (fKc wz_2212a) I) xm_360 [.inr (.inr (some 740)), .inl x1] I (fun I' r => ∃ z, r = some (.inl z) ∧ ((0 ≤ z ∧ z ≤ 1) ∧ (I 740 9 ≤ I' 740 9 ∧ I' 740 9 ≤ I' 740 10 ∧ I' 740 10 ≤ I' 740 8 ∧ (I' 740 11 = 0 ∨ I' 740 9 < I' 740 10) ∧ (z = 1 → I 740 16 ≤ I' 740 16 ∧ I' 740 16 - I 740 16 ≤ I' 740 9 - I 740 9 ∧ I' 740 14 = I 740 14 ∧ I' 740 15 = I 740 15))) ∧ (sBe I I' (I 740 17) (I 740 16)) ∧ (z = 1 → sOne I' (I 740 17) (I 740 16) (I' 740 16))) := cg_M_test (d := 9) mi_377 ⟨rfl, rfl, rfl⟩ (fun h0 ha1 hp0 hp1 hp2 hp3 => ct_M_sum_fc47a h0 ha1 hp0 hp1 (by omega) hp3) xin_360 x6_360 h0 ha1 hp0 hp1 hp2 hp3
theorem ct_M_both_c9955 {I : fH} {x1 : Int} (h0 : fB bsJ I) (ha1 : ((-1) ≤ x1 ∧ x1 ≤ 5)) (hp0 : I 740 9 ≤ I 740 10 ∧ I 740 10 ≤ I 740 8 ∧ (I 740 11 = 0 ∨ I 740 9 < I 740 10)) (hp1 : 0 ≤ I 740 16 ∧ I 740 16 ≤ I 740 9) (hp2 : 9 ≤ I 740 14 + I 740 15) (hp3 : (1215 ≤ I 740 17 ∧ I 740 17 ≤ 3415 ∧ (I 740 17 - 1215) % 200 = 0) ∨ I 740 17 = 4700) : fC ρ base n F xTc vwCl xTys D dA la gJ (fbz bsJ znJ (fKc wz_2212a) I) xm_343 [.inr (.inr (some 740)), .inl x1] I (fun I' r => ∃ z, r = some (.inl z) ∧ ((0 ≤ z ∧ z ≤ 1) ∧ (I 740 9 ≤ I' 740 9 ∧ I' 740 9 ≤ I' 740 10 ∧ I' 740 10 ≤ I' 740 8 ∧ (I' 740 11 = 0 ∨ I' 740 9 < I' 740 10) ∧ (z = 1 → I 740 16 ≤ I' 740 16 ∧ I' 740 16 - I 740 16 ≤ I' 740 9 - I 740 9 ∧ I' 740 14 = I 740 14 ∧ I' 740 15 = I 740 15))) ∧ (sBe I I' (I 740 17) (I 740 16)) ∧ (z = 1 → sOne I' (I 740 17) (I 740 16) (I' 740 16))) := cg_M_both (d := 9) mi_360 ⟨rfl, rfl, rfl⟩ (fun h0 ha1 hp0 hp1 hp2 hp3 => ct_M_test_4103f h0 ha1 hp0 hp1 (by omega) hp3) xin_343 x6_343 h0 ha1 hp0 hp1 hp2 hp3
theorem ct_M_either_6888d {I : fH} {x1 : Int} (h0 : fB bsJ I) (ha1 : ((-1) ≤ x1 ∧ x1 ≤ 5)) (hp0 : I 740 9 ≤ I 740 10 ∧ I 740 10 ≤ I 740 8 ∧ (I 740 11 = 0 ∨ I 740 9 < I 740 10)) (hp1 : 0 ≤ I 740 16 ∧ I 740 16 ≤ I 740 9) (hp2 : 9 ≤ I 740 14 + I 740 15) (hp3 : (1215 ≤ I 740 17 ∧ I 740 17 ≤ 3415 ∧ (I 740 17 - 1215) % 200 = 0) ∨ I 740 17 = 4700) : fC ρ base n F xTc vwCl xTys D dA la gJ (fbz bsJ znJ (fKc wz_2212a) I) xm_326 [.inr (.inr (some 740)), .inl x1] I (fun I' r => ∃ z, r = some (.inl z) ∧ ((0 ≤ z ∧ z ≤ 1) ∧ (I 740 9 ≤ I' 740 9 ∧ I' 740 9 ≤ I' 740 10 ∧ I' 740 10 ≤ I' 740 8 ∧ (I' 740 11 = 0 ∨ I' 740 9 < I' 740 10) ∧ (z = 1 → I 740 16 ≤ I' 740 16 ∧ I' 740 16 - I 740 16 ≤ I' 740 9 - I 740 9 ∧ I' 740 14 = I 740 14 ∧ I' 740 15 = I 740 15))) ∧ (sBe I I' (I 740 17) (I 740 16)) ∧ (z = 1 → sOne I' (I 740 17) (I 740 16) (I' 740 16))) := cg_M_either (d := 9) mi_343 ⟨rfl, rfl, rfl⟩ (fun h0 ha1 hp0 hp1 hp2 hp3 => ct_M_both_c9955 h0 ha1 hp0 hp1 (by omega) hp3) xin_326 x6_326 h0 ha1 hp0 hp1 hp2 hp3
theorem ct_M_part0_58701 {I : fH} {x1 : Int} (h0 : fB bsJ I) (ha1 : ((-1) ≤ x1 ∧ x1 ≤ 5)) (hp0 : I 740 9 ≤ I 740 10 ∧ I 740 10 ≤ I 740 8 ∧ (I 740 11 = 0 ∨ I 740 9 < I 740 10)) (hp1 : 0 ≤ I 740 16 ∧ I 740 16 ≤ I 740 9) (hp2 : 8 ≤ I 740 14 + I 740 15) (hp3 : (1215 ≤ I 740 17 ∧ I 740 17 ≤ 3415 ∧ (I 740 17 - 1215) % 200 = 0) ∨ I 740 17 = 4700) : fC ρ base n F xTc vwCl xTys D dA la gJ (fbz bsJ znJ (fKc wz_2212a) I) xm_412 [.inr (.inr (some 740)), .inl x1] I (fun I' r => ∃ z, r = some (.inl z) ∧ ((0 ≤ z ∧ z ≤ 1) ∧ (I 740 9 ≤ I' 740 9 ∧ I' 740 9 ≤ I' 740 10 ∧ I' 740 10 ≤ I' 740 8 ∧ (I' 740 11 = 0 ∨ I' 740 9 < I' 740 10) ∧ (z = 1 → I 740 16 ≤ I' 740 16 ∧ I' 740 16 - I 740 16 ≤ I' 740 9 - I 740 9 ∧ I' 740 14 = I 740 14 ∧ I' 740 15 = I 740 15))) ∧ (sBe I I' (I 740 17) (I 740 16)) ∧ (z = 1 → sOne I' (I 740 17) (I 740 16) (I' 740 16))) := cg_M_part0 (d := 8) mi_326 ⟨rfl, rfl, rfl⟩ (fun h0 ha1 hp0 hp1 hp2 hp3 => ct_M_either_6888d h0 ha1 hp0 hp1 (by omega) hp3) mi_411 ⟨rfl, rfl, rfl⟩ (fun h0 ha1 hp0 hp1 hp2 hp3 => ct_M_part0_2878d h0 ha1 hp0 hp1 (by omega) hp3) xin_412 x6_412 h0 ha1 hp0 hp1 hp2 hp3
theorem ct_M_term_a7e5a {I : fH} {x1 : Int} (h0 : fB bsJ I) (ha1 : ((-1) ≤ x1 ∧ x1 ≤ 5)) (hp0 : I 740 9 ≤ I 740 10 ∧ I 740 10 ≤ I 740 8 ∧ (I 740 11 = 0 ∨ I 740 9 < I 740 10)) (hp1 : 0 ≤ I 740 16 ∧ I 740 16 ≤ I 740 9) (hp2 : 8 ≤ I 740 14 + I 740 15) (hp3 : (1215 ≤ I 740 17 ∧ I 740 17 ≤ 3415 ∧ (I 740 17 - 1215) % 200 = 0) ∨ I 740 17 = 4700) : fC ρ base n F xTc vwCl xTys D dA la gJ (fbz bsJ znJ (fKc wz_2212a) I) xm_395 [.inr (.inr (some 740)), .inl x1] I (fun I' r => ∃ z, r = some (.inl z) ∧ ((0 ≤ z ∧ z ≤ 1) ∧ (I 740 9 ≤ I' 740 9 ∧ I' 740 9 ≤ I' 740 10 ∧ I' 740 10 ≤ I' 740 8 ∧ (I' 740 11 = 0 ∨ I' 740 9 < I' 740 10) ∧ (z = 1 → I 740 16 ≤ I' 740 16 ∧ I' 740 16 - I 740 16 ≤ I' 740 9 - I 740 9 ∧ I' 740 14 = I 740 14 ∧ I' 740 15 = I 740 15))) ∧ (sBe I I' (I 740 17) (I 740 16)) ∧ (z = 1 → sOne I' (I 740 17) (I 740 16) (I' 740 16))) := cg_M_term (d := 8) mi_412 ⟨rfl, rfl, rfl⟩ (fun h0 ha1 hp0 hp1 hp2 hp3 => ct_M_part0_58701 h0 ha1 hp0 hp1 (by omega) hp3) xin_395 x6_395 h0 ha1 hp0 hp1 hp2 hp3
theorem ct_M_sum_7e6e4 {I : fH} {x1 : Int} (h0 : fB bsJ I) (ha1 : ((-1) ≤ x1 ∧ x1 ≤ 5)) (hp0 : I 740 9 ≤ I 740 10 ∧ I 740 10 ≤ I 740 8 ∧ (I 740 11 = 0 ∨ I 740 9 < I 740 10)) (hp1 : 0 ≤ I 740 16 ∧ I 740 16 ≤ I 740 9) (hp2 : 8 ≤ I 740 14 + I 740 15) (hp3 : (1215 ≤ I 740 17 ∧ I 740 17 ≤ 3415 ∧ (I 740 17 - 1215) % 200 = 0) ∨ I 740 17 = 4700) : fC ρ base n F xTc vwCl xTys D dA la gJ (fbz bsJ znJ (fKc wz_2212a) I) xm_378 [.inr (.inr (some 740)), .inl x1] I (fun I' r => ∃ z, r = some (.inl z) ∧ ((0 ≤ z ∧ z ≤ 1) ∧ (I 740 9 ≤ I' 740 9 ∧ I' 740 9 ≤ I' 740 10 ∧ I' 740 10 ≤ I' 740 8 ∧ (I' 740 11 = 0 ∨ I' 740 9 < I' 740 10) ∧ (z = 1 → I 740 16 ≤ I' 740 16 ∧ I' 740 16 - I 740 16 ≤ I' 740 9 - I 740 9 ∧ I' 740 14 = I 740 14 ∧ I' 740 15 = I 740 15))) ∧ (sBe I I' (I 740 17) (I 740 16)) ∧ (z = 1 → sOne I' (I 740 17) (I 740 16) (I' 740 16))) := cg_M_sum (d := 8) mi_395 ⟨rfl, rfl, rfl⟩ (fun h0 ha1 hp0 hp1 hp2 hp3 => ct_M_term_a7e5a h0 ha1 hp0 hp1 (by omega) hp3) xin_378 x6_378 h0 ha1 hp0 hp1 hp2 hp3
theorem ct_M_test_d1582 {I : fH} {x1 : Int} (h0 : fB bsJ I) (ha1 : ((-1) ≤ x1 ∧ x1 ≤ 5)) (hp0 : I 740 9 ≤ I 740 10 ∧ I 740 10 ≤ I 740 8 ∧ (I 740 11 = 0 ∨ I 740 9 < I 740 10)) (hp1 : 0 ≤ I 740 16 ∧ I 740 16 ≤ I 740 9) (hp2 : 8 ≤ I 740 14 + I 740 15) (hp3 : (1215 ≤ I 740 17 ∧ I 740 17 ≤ 3415 ∧ (I 740 17 - 1215) % 200 = 0) ∨ I 740 17 = 4700) : fC ρ base n F xTc vwCl xTys D dA la gJ (fbz bsJ znJ (fKc wz_2212a) I) xm_361 [.inr (.inr (some 740)), .inl x1] I (fun I' r => ∃ z, r = some (.inl z) ∧ ((0 ≤ z ∧ z ≤ 1) ∧ (I 740 9 ≤ I' 740 9 ∧ I' 740 9 ≤ I' 740 10 ∧ I' 740 10 ≤ I' 740 8 ∧ (I' 740 11 = 0 ∨ I' 740 9 < I' 740 10) ∧ (z = 1 → I 740 16 ≤ I' 740 16 ∧ I' 740 16 - I 740 16 ≤ I' 740 9 - I 740 9 ∧ I' 740 14 = I 740 14 ∧ I' 740 15 = I 740 15))) ∧ (sBe I I' (I 740 17) (I 740 16)) ∧ (z = 1 → sOne I' (I 740 17) (I 740 16) (I' 740 16))) := cg_M_test (d := 8) mi_378 ⟨rfl, rfl, rfl⟩ (fun h0 ha1 hp0 hp1 hp2 hp3 => ct_M_sum_7e6e4 h0 ha1 hp0 hp1 (by omega) hp3) xin_361 x6_361 h0 ha1 hp0 hp1 hp2 hp3
theorem ct_M_both_ee042 {I : fH} {x1 : Int} (h0 : fB bsJ I) (ha1 : ((-1) ≤ x1 ∧ x1 ≤ 5)) (hp0 : I 740 9 ≤ I 740 10 ∧ I 740 10 ≤ I 740 8 ∧ (I 740 11 = 0 ∨ I 740 9 < I 740 10)) (hp1 : 0 ≤ I 740 16 ∧ I 740 16 ≤ I 740 9) (hp2 : 8 ≤ I 740 14 + I 740 15) (hp3 : (1215 ≤ I 740 17 ∧ I 740 17 ≤ 3415 ∧ (I 740 17 - 1215) % 200 = 0) ∨ I 740 17 = 4700) : fC ρ base n F xTc vwCl xTys D dA la gJ (fbz bsJ znJ (fKc wz_2212a) I) xm_344 [.inr (.inr (some 740)), .inl x1] I (fun I' r => ∃ z, r = some (.inl z) ∧ ((0 ≤ z ∧ z ≤ 1) ∧ (I 740 9 ≤ I' 740 9 ∧ I' 740 9 ≤ I' 740 10 ∧ I' 740 10 ≤ I' 740 8 ∧ (I' 740 11 = 0 ∨ I' 740 9 < I' 740 10) ∧ (z = 1 → I 740 16 ≤ I' 740 16 ∧ I' 740 16 - I 740 16 ≤ I' 740 9 - I 740 9 ∧ I' 740 14 = I 740 14 ∧ I' 740 15 = I 740 15))) ∧ (sBe I I' (I 740 17) (I 740 16)) ∧ (z = 1 → sOne I' (I 740 17) (I 740 16) (I' 740 16))) := cg_M_both (d := 8) mi_361 ⟨rfl, rfl, rfl⟩ (fun h0 ha1 hp0 hp1 hp2 hp3 => ct_M_test_d1582 h0 ha1 hp0 hp1 (by omega) hp3) xin_344 x6_344 h0 ha1 hp0 hp1 hp2 hp3
theorem ct_M_either_98821 {I : fH} {x1 : Int} (h0 : fB bsJ I) (ha1 : ((-1) ≤ x1 ∧ x1 ≤ 5)) (hp0 : I 740 9 ≤ I 740 10 ∧ I 740 10 ≤ I 740 8 ∧ (I 740 11 = 0 ∨ I 740 9 < I 740 10)) (hp1 : 0 ≤ I 740 16 ∧ I 740 16 ≤ I 740 9) (hp2 : 8 ≤ I 740 14 + I 740 15) (hp3 : (1215 ≤ I 740 17 ∧ I 740 17 ≤ 3415 ∧ (I 740 17 - 1215) % 200 = 0) ∨ I 740 17 = 4700) : fC ρ base n F xTc vwCl xTys D dA la gJ (fbz bsJ znJ (fKc wz_2212a) I) xm_327 [.inr (.inr (some 740)), .inl x1] I (fun I' r => ∃ z, r = some (.inl z) ∧ ((0 ≤ z ∧ z ≤ 1) ∧ (I 740 9 ≤ I' 740 9 ∧ I' 740 9 ≤ I' 740 10 ∧ I' 740 10 ≤ I' 740 8 ∧ (I' 740 11 = 0 ∨ I' 740 9 < I' 740 10) ∧ (z = 1 → I 740 16 ≤ I' 740 16 ∧ I' 740 16 - I 740 16 ≤ I' 740 9 - I 740 9 ∧ I' 740 14 = I 740 14 ∧ I' 740 15 = I 740 15))) ∧ (sBe I I' (I 740 17) (I 740 16)) ∧ (z = 1 → sOne I' (I 740 17) (I 740 16) (I' 740 16))) := cg_M_either (d := 8) mi_344 ⟨rfl, rfl, rfl⟩ (fun h0 ha1 hp0 hp1 hp2 hp3 => ct_M_both_ee042 h0 ha1 hp0 hp1 (by omega) hp3) xin_327 x6_327 h0 ha1 hp0 hp1 hp2 hp3
theorem ct_M_part0_00d6a {I : fH} {x1 : Int} (h0 : fB bsJ I) (ha1 : ((-1) ≤ x1 ∧ x1 ≤ 5)) (hp0 : I 740 9 ≤ I 740 10 ∧ I 740 10 ≤ I 740 8 ∧ (I 740 11 = 0 ∨ I 740 9 < I 740 10)) (hp1 : 0 ≤ I 740 16 ∧ I 740 16 ≤ I 740 9) (hp2 : 7 ≤ I 740 14 + I 740 15) (hp3 : (1215 ≤ I 740 17 ∧ I 740 17 ≤ 3415 ∧ (I 740 17 - 1215) % 200 = 0) ∨ I 740 17 = 4700) : fC ρ base n F xTc vwCl xTys D dA la gJ (fbz bsJ znJ (fKc wz_2212a) I) xm_413 [.inr (.inr (some 740)), .inl x1] I (fun I' r => ∃ z, r = some (.inl z) ∧ ((0 ≤ z ∧ z ≤ 1) ∧ (I 740 9 ≤ I' 740 9 ∧ I' 740 9 ≤ I' 740 10 ∧ I' 740 10 ≤ I' 740 8 ∧ (I' 740 11 = 0 ∨ I' 740 9 < I' 740 10) ∧ (z = 1 → I 740 16 ≤ I' 740 16 ∧ I' 740 16 - I 740 16 ≤ I' 740 9 - I 740 9 ∧ I' 740 14 = I 740 14 ∧ I' 740 15 = I 740 15))) ∧ (sBe I I' (I 740 17) (I 740 16)) ∧ (z = 1 → sOne I' (I 740 17) (I 740 16) (I' 740 16))) := cg_M_part0 (d := 7) mi_327 ⟨rfl, rfl, rfl⟩ (fun h0 ha1 hp0 hp1 hp2 hp3 => ct_M_either_98821 h0 ha1 hp0 hp1 (by omega) hp3) mi_412 ⟨rfl, rfl, rfl⟩ (fun h0 ha1 hp0 hp1 hp2 hp3 => ct_M_part0_58701 h0 ha1 hp0 hp1 (by omega) hp3) xin_413 x6_413 h0 ha1 hp0 hp1 hp2 hp3
theorem ct_M_term_8b375 {I : fH} {x1 : Int} (h0 : fB bsJ I) (ha1 : ((-1) ≤ x1 ∧ x1 ≤ 5)) (hp0 : I 740 9 ≤ I 740 10 ∧ I 740 10 ≤ I 740 8 ∧ (I 740 11 = 0 ∨ I 740 9 < I 740 10)) (hp1 : 0 ≤ I 740 16 ∧ I 740 16 ≤ I 740 9) (hp2 : 7 ≤ I 740 14 + I 740 15) (hp3 : (1215 ≤ I 740 17 ∧ I 740 17 ≤ 3415 ∧ (I 740 17 - 1215) % 200 = 0) ∨ I 740 17 = 4700) : fC ρ base n F xTc vwCl xTys D dA la gJ (fbz bsJ znJ (fKc wz_2212a) I) xm_396 [.inr (.inr (some 740)), .inl x1] I (fun I' r => ∃ z, r = some (.inl z) ∧ ((0 ≤ z ∧ z ≤ 1) ∧ (I 740 9 ≤ I' 740 9 ∧ I' 740 9 ≤ I' 740 10 ∧ I' 740 10 ≤ I' 740 8 ∧ (I' 740 11 = 0 ∨ I' 740 9 < I' 740 10) ∧ (z = 1 → I 740 16 ≤ I' 740 16 ∧ I' 740 16 - I 740 16 ≤ I' 740 9 - I 740 9 ∧ I' 740 14 = I 740 14 ∧ I' 740 15 = I 740 15))) ∧ (sBe I I' (I 740 17) (I 740 16)) ∧ (z = 1 → sOne I' (I 740 17) (I 740 16) (I' 740 16))) := cg_M_term (d := 7) mi_413 ⟨rfl, rfl, rfl⟩ (fun h0 ha1 hp0 hp1 hp2 hp3 => ct_M_part0_00d6a h0 ha1 hp0 hp1 (by omega) hp3) xin_396 x6_396 h0 ha1 hp0 hp1 hp2 hp3
theorem ct_M_sum_7b22c {I : fH} {x1 : Int} (h0 : fB bsJ I) (ha1 : ((-1) ≤ x1 ∧ x1 ≤ 5)) (hp0 : I 740 9 ≤ I 740 10 ∧ I 740 10 ≤ I 740 8 ∧ (I 740 11 = 0 ∨ I 740 9 < I 740 10)) (hp1 : 0 ≤ I 740 16 ∧ I 740 16 ≤ I 740 9) (hp2 : 7 ≤ I 740 14 + I 740 15) (hp3 : (1215 ≤ I 740 17 ∧ I 740 17 ≤ 3415 ∧ (I 740 17 - 1215) % 200 = 0) ∨ I 740 17 = 4700) : fC ρ base n F xTc vwCl xTys D dA la gJ (fbz bsJ znJ (fKc wz_2212a) I) xm_379 [.inr (.inr (some 740)), .inl x1] I (fun I' r => ∃ z, r = some (.inl z) ∧ ((0 ≤ z ∧ z ≤ 1) ∧ (I 740 9 ≤ I' 740 9 ∧ I' 740 9 ≤ I' 740 10 ∧ I' 740 10 ≤ I' 740 8 ∧ (I' 740 11 = 0 ∨ I' 740 9 < I' 740 10) ∧ (z = 1 → I 740 16 ≤ I' 740 16 ∧ I' 740 16 - I 740 16 ≤ I' 740 9 - I 740 9 ∧ I' 740 14 = I 740 14 ∧ I' 740 15 = I 740 15))) ∧ (sBe I I' (I 740 17) (I 740 16)) ∧ (z = 1 → sOne I' (I 740 17) (I 740 16) (I' 740 16))) := cg_M_sum (d := 7) mi_396 ⟨rfl, rfl, rfl⟩ (fun h0 ha1 hp0 hp1 hp2 hp3 => ct_M_term_8b375 h0 ha1 hp0 hp1 (by omega) hp3) xin_379 x6_379 h0 ha1 hp0 hp1 hp2 hp3
theorem ct_M_test_8a25b {I : fH} {x1 : Int} (h0 : fB bsJ I) (ha1 : ((-1) ≤ x1 ∧ x1 ≤ 5)) (hp0 : I 740 9 ≤ I 740 10 ∧ I 740 10 ≤ I 740 8 ∧ (I 740 11 = 0 ∨ I 740 9 < I 740 10)) (hp1 : 0 ≤ I 740 16 ∧ I 740 16 ≤ I 740 9) (hp2 : 7 ≤ I 740 14 + I 740 15) (hp3 : (1215 ≤ I 740 17 ∧ I 740 17 ≤ 3415 ∧ (I 740 17 - 1215) % 200 = 0) ∨ I 740 17 = 4700) : fC ρ base n F xTc vwCl xTys D dA la gJ (fbz bsJ znJ (fKc wz_2212a) I) xm_362 [.inr (.inr (some 740)), .inl x1] I (fun I' r => ∃ z, r = some (.inl z) ∧ ((0 ≤ z ∧ z ≤ 1) ∧ (I 740 9 ≤ I' 740 9 ∧ I' 740 9 ≤ I' 740 10 ∧ I' 740 10 ≤ I' 740 8 ∧ (I' 740 11 = 0 ∨ I' 740 9 < I' 740 10) ∧ (z = 1 → I 740 16 ≤ I' 740 16 ∧ I' 740 16 - I 740 16 ≤ I' 740 9 - I 740 9 ∧ I' 740 14 = I 740 14 ∧ I' 740 15 = I 740 15))) ∧ (sBe I I' (I 740 17) (I 740 16)) ∧ (z = 1 → sOne I' (I 740 17) (I 740 16) (I' 740 16))) := cg_M_test (d := 7) mi_379 ⟨rfl, rfl, rfl⟩ (fun h0 ha1 hp0 hp1 hp2 hp3 => ct_M_sum_7b22c h0 ha1 hp0 hp1 (by omega) hp3) xin_362 x6_362 h0 ha1 hp0 hp1 hp2 hp3
theorem ct_M_both_2c4c2 {I : fH} {x1 : Int} (h0 : fB bsJ I) (ha1 : ((-1) ≤ x1 ∧ x1 ≤ 5)) (hp0 : I 740 9 ≤ I 740 10 ∧ I 740 10 ≤ I 740 8 ∧ (I 740 11 = 0 ∨ I 740 9 < I 740 10)) (hp1 : 0 ≤ I 740 16 ∧ I 740 16 ≤ I 740 9) (hp2 : 7 ≤ I 740 14 + I 740 15) (hp3 : (1215 ≤ I 740 17 ∧ I 740 17 ≤ 3415 ∧ (I 740 17 - 1215) % 200 = 0) ∨ I 740 17 = 4700) : fC ρ base n F xTc vwCl xTys D dA la gJ (fbz bsJ znJ (fKc wz_2212a) I) xm_345 [.inr (.inr (some 740)), .inl x1] I (fun I' r => ∃ z, r = some (.inl z) ∧ ((0 ≤ z ∧ z ≤ 1) ∧ (I 740 9 ≤ I' 740 9 ∧ I' 740 9 ≤ I' 740 10 ∧ I' 740 10 ≤ I' 740 8 ∧ (I' 740 11 = 0 ∨ I' 740 9 < I' 740 10) ∧ (z = 1 → I 740 16 ≤ I' 740 16 ∧ I' 740 16 - I 740 16 ≤ I' 740 9 - I 740 9 ∧ I' 740 14 = I 740 14 ∧ I' 740 15 = I 740 15))) ∧ (sBe I I' (I 740 17) (I 740 16)) ∧ (z = 1 → sOne I' (I 740 17) (I 740 16) (I' 740 16))) := cg_M_both (d := 7) mi_362 ⟨rfl, rfl, rfl⟩ (fun h0 ha1 hp0 hp1 hp2 hp3 => ct_M_test_8a25b h0 ha1 hp0 hp1 (by omega) hp3) xin_345 x6_345 h0 ha1 hp0 hp1 hp2 hp3
theorem ct_M_either_23253 {I : fH} {x1 : Int} (h0 : fB bsJ I) (ha1 : ((-1) ≤ x1 ∧ x1 ≤ 5)) (hp0 : I 740 9 ≤ I 740 10 ∧ I 740 10 ≤ I 740 8 ∧ (I 740 11 = 0 ∨ I 740 9 < I 740 10)) (hp1 : 0 ≤ I 740 16 ∧ I 740 16 ≤ I 740 9) (hp2 : 7 ≤ I 740 14 + I 740 15) (hp3 : (1215 ≤ I 740 17 ∧ I 740 17 ≤ 3415 ∧ (I 740 17 - 1215) % 200 = 0) ∨ I 740 17 = 4700) : fC ρ base n F xTc vwCl xTys D dA la gJ (fbz bsJ znJ (fKc wz_2212a) I) xm_328 [.inr (.inr (some 740)), .inl x1] I (fun I' r => ∃ z, r = some (.inl z) ∧ ((0 ≤ z ∧ z ≤ 1) ∧ (I 740 9 ≤ I' 740 9 ∧ I' 740 9 ≤ I' 740 10 ∧ I' 740 10 ≤ I' 740 8 ∧ (I' 740 11 = 0 ∨ I' 740 9 < I' 740 10) ∧ (z = 1 → I 740 16 ≤ I' 740 16 ∧ I' 740 16 - I 740 16 ≤ I' 740 9 - I 740 9 ∧ I' 740 14 = I 740 14 ∧ I' 740 15 = I 740 15))) ∧ (sBe I I' (I 740 17) (I 740 16)) ∧ (z = 1 → sOne I' (I 740 17) (I 740 16) (I' 740 16))) := cg_M_either (d := 7) mi_345 ⟨rfl, rfl, rfl⟩ (fun h0 ha1 hp0 hp1 hp2 hp3 => ct_M_both_2c4c2 h0 ha1 hp0 hp1 (by omega) hp3) xin_328 x6_328 h0 ha1 hp0 hp1 hp2 hp3
theorem ct_M_part0_f40af {I : fH} {x1 : Int} (h0 : fB bsJ I) (ha1 : ((-1) ≤ x1 ∧ x1 ≤ 5)) (hp0 : I 740 9 ≤ I 740 10 ∧ I 740 10 ≤ I 740 8 ∧ (I 740 11 = 0 ∨ I 740 9 < I 740 10)) (hp1 : 0 ≤ I 740 16 ∧ I 740 16 ≤ I 740 9) (hp2 : 6 ≤ I 740 14 + I 740 15) (hp3 : (1215 ≤ I 740 17 ∧ I 740 17 ≤ 3415 ∧ (I 740 17 - 1215) % 200 = 0) ∨ I 740 17 = 4700) : fC ρ base n F xTc vwCl xTys D dA la gJ (fbz bsJ znJ (fKc wz_2212a) I) xm_414 [.inr (.inr (some 740)), .inl x1] I (fun I' r => ∃ z, r = some (.inl z) ∧ ((0 ≤ z ∧ z ≤ 1) ∧ (I 740 9 ≤ I' 740 9 ∧ I' 740 9 ≤ I' 740 10 ∧ I' 740 10 ≤ I' 740 8 ∧ (I' 740 11 = 0 ∨ I' 740 9 < I' 740 10) ∧ (z = 1 → I 740 16 ≤ I' 740 16 ∧ I' 740 16 - I 740 16 ≤ I' 740 9 - I 740 9 ∧ I' 740 14 = I 740 14 ∧ I' 740 15 = I 740 15))) ∧ (sBe I I' (I 740 17) (I 740 16)) ∧ (z = 1 → sOne I' (I 740 17) (I 740 16) (I' 740 16))) := cg_M_part0 (d := 6) mi_328 ⟨rfl, rfl, rfl⟩ (fun h0 ha1 hp0 hp1 hp2 hp3 => ct_M_either_23253 h0 ha1 hp0 hp1 (by omega) hp3) mi_413 ⟨rfl, rfl, rfl⟩ (fun h0 ha1 hp0 hp1 hp2 hp3 => ct_M_part0_00d6a h0 ha1 hp0 hp1 (by omega) hp3) xin_414 x6_414 h0 ha1 hp0 hp1 hp2 hp3
theorem ct_M_term_fcb74 {I : fH} {x1 : Int} (h0 : fB bsJ I) (ha1 : ((-1) ≤ x1 ∧ x1 ≤ 5)) (hp0 : I 740 9 ≤ I 740 10 ∧ I 740 10 ≤ I 740 8 ∧ (I 740 11 = 0 ∨ I 740 9 < I 740 10)) (hp1 : 0 ≤ I 740 16 ∧ I 740 16 ≤ I 740 9) (hp2 : 6 ≤ I 740 14 + I 740 15) (hp3 : (1215 ≤ I 740 17 ∧ I 740 17 ≤ 3415 ∧ (I 740 17 - 1215) % 200 = 0) ∨ I 740 17 = 4700) : fC ρ base n F xTc vwCl xTys D dA la gJ (fbz bsJ znJ (fKc wz_2212a) I) xm_397 [.inr (.inr (some 740)), .inl x1] I (fun I' r => ∃ z, r = some (.inl z) ∧ ((0 ≤ z ∧ z ≤ 1) ∧ (I 740 9 ≤ I' 740 9 ∧ I' 740 9 ≤ I' 740 10 ∧ I' 740 10 ≤ I' 740 8 ∧ (I' 740 11 = 0 ∨ I' 740 9 < I' 740 10) ∧ (z = 1 → I 740 16 ≤ I' 740 16 ∧ I' 740 16 - I 740 16 ≤ I' 740 9 - I 740 9 ∧ I' 740 14 = I 740 14 ∧ I' 740 15 = I 740 15))) ∧ (sBe I I' (I 740 17) (I 740 16)) ∧ (z = 1 → sOne I' (I 740 17) (I 740 16) (I' 740 16))) := cg_M_term (d := 6) mi_414 ⟨rfl, rfl, rfl⟩ (fun h0 ha1 hp0 hp1 hp2 hp3 => ct_M_part0_f40af h0 ha1 hp0 hp1 (by omega) hp3) xin_397 x6_397 h0 ha1 hp0 hp1 hp2 hp3
theorem ct_M_sum_9a68c {I : fH} {x1 : Int} (h0 : fB bsJ I) (ha1 : ((-1) ≤ x1 ∧ x1 ≤ 5)) (hp0 : I 740 9 ≤ I 740 10 ∧ I 740 10 ≤ I 740 8 ∧ (I 740 11 = 0 ∨ I 740 9 < I 740 10)) (hp1 : 0 ≤ I 740 16 ∧ I 740 16 ≤ I 740 9) (hp2 : 6 ≤ I 740 14 + I 740 15) (hp3 : (1215 ≤ I 740 17 ∧ I 740 17 ≤ 3415 ∧ (I 740 17 - 1215) % 200 = 0) ∨ I 740 17 = 4700) : fC ρ base n F xTc vwCl xTys D dA la gJ (fbz bsJ znJ (fKc wz_2212a) I) xm_380 [.inr (.inr (some 740)), .inl x1] I (fun I' r => ∃ z, r = some (.inl z) ∧ ((0 ≤ z ∧ z ≤ 1) ∧ (I 740 9 ≤ I' 740 9 ∧ I' 740 9 ≤ I' 740 10 ∧ I' 740 10 ≤ I' 740 8 ∧ (I' 740 11 = 0 ∨ I' 740 9 < I' 740 10) ∧ (z = 1 → I 740 16 ≤ I' 740 16 ∧ I' 740 16 - I 740 16 ≤ I' 740 9 - I 740 9 ∧ I' 740 14 = I 740 14 ∧ I' 740 15 = I 740 15))) ∧ (sBe I I' (I 740 17) (I 740 16)) ∧ (z = 1 → sOne I' (I 740 17) (I 740 16) (I' 740 16))) := cg_M_sum (d := 6) mi_397 ⟨rfl, rfl, rfl⟩ (fun h0 ha1 hp0 hp1 hp2 hp3 => ct_M_term_fcb74 h0 ha1 hp0 hp1 (by omega) hp3) xin_380 x6_380 h0 ha1 hp0 hp1 hp2 hp3
theorem ct_M_test_2f0c5 {I : fH} {x1 : Int} (h0 : fB bsJ I) (ha1 : ((-1) ≤ x1 ∧ x1 ≤ 5)) (hp0 : I 740 9 ≤ I 740 10 ∧ I 740 10 ≤ I 740 8 ∧ (I 740 11 = 0 ∨ I 740 9 < I 740 10)) (hp1 : 0 ≤ I 740 16 ∧ I 740 16 ≤ I 740 9) (hp2 : 6 ≤ I 740 14 + I 740 15) (hp3 : (1215 ≤ I 740 17 ∧ I 740 17 ≤ 3415 ∧ (I 740 17 - 1215) % 200 = 0) ∨ I 740 17 = 4700) : fC ρ base n F xTc vwCl xTys D dA la gJ (fbz bsJ znJ (fKc wz_2212a) I) xm_363 [.inr (.inr (some 740)), .inl x1] I (fun I' r => ∃ z, r = some (.inl z) ∧ ((0 ≤ z ∧ z ≤ 1) ∧ (I 740 9 ≤ I' 740 9 ∧ I' 740 9 ≤ I' 740 10 ∧ I' 740 10 ≤ I' 740 8 ∧ (I' 740 11 = 0 ∨ I' 740 9 < I' 740 10) ∧ (z = 1 → I 740 16 ≤ I' 740 16 ∧ I' 740 16 - I 740 16 ≤ I' 740 9 - I 740 9 ∧ I' 740 14 = I 740 14 ∧ I' 740 15 = I 740 15))) ∧ (sBe I I' (I 740 17) (I 740 16)) ∧ (z = 1 → sOne I' (I 740 17) (I 740 16) (I' 740 16))) := cg_M_test (d := 6) mi_380 ⟨rfl, rfl, rfl⟩ (fun h0 ha1 hp0 hp1 hp2 hp3 => ct_M_sum_9a68c h0 ha1 hp0 hp1 (by omega) hp3) xin_363 x6_363 h0 ha1 hp0 hp1 hp2 hp3
theorem ct_M_both_8337f {I : fH} {x1 : Int} (h0 : fB bsJ I) (ha1 : ((-1) ≤ x1 ∧ x1 ≤ 5)) (hp0 : I 740 9 ≤ I 740 10 ∧ I 740 10 ≤ I 740 8 ∧ (I 740 11 = 0 ∨ I 740 9 < I 740 10)) (hp1 : 0 ≤ I 740 16 ∧ I 740 16 ≤ I 740 9) (hp2 : 6 ≤ I 740 14 + I 740 15) (hp3 : (1215 ≤ I 740 17 ∧ I 740 17 ≤ 3415 ∧ (I 740 17 - 1215) % 200 = 0) ∨ I 740 17 = 4700) : fC ρ base n F xTc vwCl xTys D dA la gJ (fbz bsJ znJ (fKc wz_2212a) I) xm_346 [.inr (.inr (some 740)), .inl x1] I (fun I' r => ∃ z, r = some (.inl z) ∧ ((0 ≤ z ∧ z ≤ 1) ∧ (I 740 9 ≤ I' 740 9 ∧ I' 740 9 ≤ I' 740 10 ∧ I' 740 10 ≤ I' 740 8 ∧ (I' 740 11 = 0 ∨ I' 740 9 < I' 740 10) ∧ (z = 1 → I 740 16 ≤ I' 740 16 ∧ I' 740 16 - I 740 16 ≤ I' 740 9 - I 740 9 ∧ I' 740 14 = I 740 14 ∧ I' 740 15 = I 740 15))) ∧ (sBe I I' (I 740 17) (I 740 16)) ∧ (z = 1 → sOne I' (I 740 17) (I 740 16) (I' 740 16))) := cg_M_both (d := 6) mi_363 ⟨rfl, rfl, rfl⟩ (fun h0 ha1 hp0 hp1 hp2 hp3 => ct_M_test_2f0c5 h0 ha1 hp0 hp1 (by omega) hp3) xin_346 x6_346 h0 ha1 hp0 hp1 hp2 hp3
theorem ct_M_either_78820 {I : fH} {x1 : Int} (h0 : fB bsJ I) (ha1 : ((-1) ≤ x1 ∧ x1 ≤ 5)) (hp0 : I 740 9 ≤ I 740 10 ∧ I 740 10 ≤ I 740 8 ∧ (I 740 11 = 0 ∨ I 740 9 < I 740 10)) (hp1 : 0 ≤ I 740 16 ∧ I 740 16 ≤ I 740 9) (hp2 : 6 ≤ I 740 14 + I 740 15) (hp3 : (1215 ≤ I 740 17 ∧ I 740 17 ≤ 3415 ∧ (I 740 17 - 1215) % 200 = 0) ∨ I 740 17 = 4700) : fC ρ base n F xTc vwCl xTys D dA la gJ (fbz bsJ znJ (fKc wz_2212a) I) xm_329 [.inr (.inr (some 740)), .inl x1] I (fun I' r => ∃ z, r = some (.inl z) ∧ ((0 ≤ z ∧ z ≤ 1) ∧ (I 740 9 ≤ I' 740 9 ∧ I' 740 9 ≤ I' 740 10 ∧ I' 740 10 ≤ I' 740 8 ∧ (I' 740 11 = 0 ∨ I' 740 9 < I' 740 10) ∧ (z = 1 → I 740 16 ≤ I' 740 16 ∧ I' 740 16 - I 740 16 ≤ I' 740 9 - I 740 9 ∧ I' 740 14 = I 740 14 ∧ I' 740 15 = I 740 15))) ∧ (sBe I I' (I 740 17) (I 740 16)) ∧ (z = 1 → sOne I' (I 740 17) (I 740 16) (I' 740 16))) := cg_M_either (d := 6) mi_346 ⟨rfl, rfl, rfl⟩ (fun h0 ha1 hp0 hp1 hp2 hp3 => ct_M_both_8337f h0 ha1 hp0 hp1 (by omega) hp3) xin_329 x6_329 h0 ha1 hp0 hp1 hp2 hp3
theorem ct_M_part0_283cb {I : fH} {x1 : Int} (h0 : fB bsJ I) (ha1 : ((-1) ≤ x1 ∧ x1 ≤ 5)) (hp0 : I 740 9 ≤ I 740 10 ∧ I 740 10 ≤ I 740 8 ∧ (I 740 11 = 0 ∨ I 740 9 < I 740 10)) (hp1 : 0 ≤ I 740 16 ∧ I 740 16 ≤ I 740 9) (hp2 : 5 ≤ I 740 14 + I 740 15) (hp3 : (1215 ≤ I 740 17 ∧ I 740 17 ≤ 3415 ∧ (I 740 17 - 1215) % 200 = 0) ∨ I 740 17 = 4700) : fC ρ base n F xTc vwCl xTys D dA la gJ (fbz bsJ znJ (fKc wz_2212a) I) xm_415 [.inr (.inr (some 740)), .inl x1] I (fun I' r => ∃ z, r = some (.inl z) ∧ ((0 ≤ z ∧ z ≤ 1) ∧ (I 740 9 ≤ I' 740 9 ∧ I' 740 9 ≤ I' 740 10 ∧ I' 740 10 ≤ I' 740 8 ∧ (I' 740 11 = 0 ∨ I' 740 9 < I' 740 10) ∧ (z = 1 → I 740 16 ≤ I' 740 16 ∧ I' 740 16 - I 740 16 ≤ I' 740 9 - I 740 9 ∧ I' 740 14 = I 740 14 ∧ I' 740 15 = I 740 15))) ∧ (sBe I I' (I 740 17) (I 740 16)) ∧ (z = 1 → sOne I' (I 740 17) (I 740 16) (I' 740 16))) := cg_M_part0 (d := 5) mi_329 ⟨rfl, rfl, rfl⟩ (fun h0 ha1 hp0 hp1 hp2 hp3 => ct_M_either_78820 h0 ha1 hp0 hp1 (by omega) hp3) mi_414 ⟨rfl, rfl, rfl⟩ (fun h0 ha1 hp0 hp1 hp2 hp3 => ct_M_part0_f40af h0 ha1 hp0 hp1 (by omega) hp3) xin_415 x6_415 h0 ha1 hp0 hp1 hp2 hp3
theorem ct_M_term_ed399 {I : fH} {x1 : Int} (h0 : fB bsJ I) (ha1 : ((-1) ≤ x1 ∧ x1 ≤ 5)) (hp0 : I 740 9 ≤ I 740 10 ∧ I 740 10 ≤ I 740 8 ∧ (I 740 11 = 0 ∨ I 740 9 < I 740 10)) (hp1 : 0 ≤ I 740 16 ∧ I 740 16 ≤ I 740 9) (hp2 : 5 ≤ I 740 14 + I 740 15) (hp3 : (1215 ≤ I 740 17 ∧ I 740 17 ≤ 3415 ∧ (I 740 17 - 1215) % 200 = 0) ∨ I 740 17 = 4700) : fC ρ base n F xTc vwCl xTys D dA la gJ (fbz bsJ znJ (fKc wz_2212a) I) xm_398 [.inr (.inr (some 740)), .inl x1] I (fun I' r => ∃ z, r = some (.inl z) ∧ ((0 ≤ z ∧ z ≤ 1) ∧ (I 740 9 ≤ I' 740 9 ∧ I' 740 9 ≤ I' 740 10 ∧ I' 740 10 ≤ I' 740 8 ∧ (I' 740 11 = 0 ∨ I' 740 9 < I' 740 10) ∧ (z = 1 → I 740 16 ≤ I' 740 16 ∧ I' 740 16 - I 740 16 ≤ I' 740 9 - I 740 9 ∧ I' 740 14 = I 740 14 ∧ I' 740 15 = I 740 15))) ∧ (sBe I I' (I 740 17) (I 740 16)) ∧ (z = 1 → sOne I' (I 740 17) (I 740 16) (I' 740 16))) := cg_M_term (d := 5) mi_415 ⟨rfl, rfl, rfl⟩ (fun h0 ha1 hp0 hp1 hp2 hp3 => ct_M_part0_283cb h0 ha1 hp0 hp1 (by omega) hp3) xin_398 x6_398 h0 ha1 hp0 hp1 hp2 hp3
theorem ct_M_sum_26326 {I : fH} {x1 : Int} (h0 : fB bsJ I) (ha1 : ((-1) ≤ x1 ∧ x1 ≤ 5)) (hp0 : I 740 9 ≤ I 740 10 ∧ I 740 10 ≤ I 740 8 ∧ (I 740 11 = 0 ∨ I 740 9 < I 740 10)) (hp1 : 0 ≤ I 740 16 ∧ I 740 16 ≤ I 740 9) (hp2 : 5 ≤ I 740 14 + I 740 15) (hp3 : (1215 ≤ I 740 17 ∧ I 740 17 ≤ 3415 ∧ (I 740 17 - 1215) % 200 = 0) ∨ I 740 17 = 4700) : fC ρ base n F xTc vwCl xTys D dA la gJ (fbz bsJ znJ (fKc wz_2212a) I) xm_381 [.inr (.inr (some 740)), .inl x1] I (fun I' r => ∃ z, r = some (.inl z) ∧ ((0 ≤ z ∧ z ≤ 1) ∧ (I 740 9 ≤ I' 740 9 ∧ I' 740 9 ≤ I' 740 10 ∧ I' 740 10 ≤ I' 740 8 ∧ (I' 740 11 = 0 ∨ I' 740 9 < I' 740 10) ∧ (z = 1 → I 740 16 ≤ I' 740 16 ∧ I' 740 16 - I 740 16 ≤ I' 740 9 - I 740 9 ∧ I' 740 14 = I 740 14 ∧ I' 740 15 = I 740 15))) ∧ (sBe I I' (I 740 17) (I 740 16)) ∧ (z = 1 → sOne I' (I 740 17) (I 740 16) (I' 740 16))) := cg_M_sum (d := 5) mi_398 ⟨rfl, rfl, rfl⟩ (fun h0 ha1 hp0 hp1 hp2 hp3 => ct_M_term_ed399 h0 ha1 hp0 hp1 (by omega) hp3) xin_381 x6_381 h0 ha1 hp0 hp1 hp2 hp3
theorem ct_M_test_f1b75 {I : fH} {x1 : Int} (h0 : fB bsJ I) (ha1 : ((-1) ≤ x1 ∧ x1 ≤ 5)) (hp0 : I 740 9 ≤ I 740 10 ∧ I 740 10 ≤ I 740 8 ∧ (I 740 11 = 0 ∨ I 740 9 < I 740 10)) (hp1 : 0 ≤ I 740 16 ∧ I 740 16 ≤ I 740 9) (hp2 : 5 ≤ I 740 14 + I 740 15) (hp3 : (1215 ≤ I 740 17 ∧ I 740 17 ≤ 3415 ∧ (I 740 17 - 1215) % 200 = 0) ∨ I 740 17 = 4700) : fC ρ base n F xTc vwCl xTys D dA la gJ (fbz bsJ znJ (fKc wz_2212a) I) xm_364 [.inr (.inr (some 740)), .inl x1] I (fun I' r => ∃ z, r = some (.inl z) ∧ ((0 ≤ z ∧ z ≤ 1) ∧ (I 740 9 ≤ I' 740 9 ∧ I' 740 9 ≤ I' 740 10 ∧ I' 740 10 ≤ I' 740 8 ∧ (I' 740 11 = 0 ∨ I' 740 9 < I' 740 10) ∧ (z = 1 → I 740 16 ≤ I' 740 16 ∧ I' 740 16 - I 740 16 ≤ I' 740 9 - I 740 9 ∧ I' 740 14 = I 740 14 ∧ I' 740 15 = I 740 15))) ∧ (sBe I I' (I 740 17) (I 740 16)) ∧ (z = 1 → sOne I' (I 740 17) (I 740 16) (I' 740 16))) := cg_M_test (d := 5) mi_381 ⟨rfl, rfl, rfl⟩ (fun h0 ha1 hp0 hp1 hp2 hp3 => ct_M_sum_26326 h0 ha1 hp0 hp1 (by omega) hp3) xin_364 x6_364 h0 ha1 hp0 hp1 hp2 hp3
theorem ct_M_both_b081a {I : fH} {x1 : Int} (h0 : fB bsJ I) (ha1 : ((-1) ≤ x1 ∧ x1 ≤ 5)) (hp0 : I 740 9 ≤ I 740 10 ∧ I 740 10 ≤ I 740 8 ∧ (I 740 11 = 0 ∨ I 740 9 < I 740 10)) (hp1 : 0 ≤ I 740 16 ∧ I 740 16 ≤ I 740 9) (hp2 : 5 ≤ I 740 14 + I 740 15) (hp3 : (1215 ≤ I 740 17 ∧ I 740 17 ≤ 3415 ∧ (I 740 17 - 1215) % 200 = 0) ∨ I 740 17 = 4700) : fC ρ base n F xTc vwCl xTys D dA la gJ (fbz bsJ znJ (fKc wz_2212a) I) xm_347 [.inr (.inr (some 740)), .inl x1] I (fun I' r => ∃ z, r = some (.inl z) ∧ ((0 ≤ z ∧ z ≤ 1) ∧ (I 740 9 ≤ I' 740 9 ∧ I' 740 9 ≤ I' 740 10 ∧ I' 740 10 ≤ I' 740 8 ∧ (I' 740 11 = 0 ∨ I' 740 9 < I' 740 10) ∧ (z = 1 → I 740 16 ≤ I' 740 16 ∧ I' 740 16 - I 740 16 ≤ I' 740 9 - I 740 9 ∧ I' 740 14 = I 740 14 ∧ I' 740 15 = I 740 15))) ∧ (sBe I I' (I 740 17) (I 740 16)) ∧ (z = 1 → sOne I' (I 740 17) (I 740 16) (I' 740 16))) := cg_M_both (d := 5) mi_364 ⟨rfl, rfl, rfl⟩ (fun h0 ha1 hp0 hp1 hp2 hp3 => ct_M_test_f1b75 h0 ha1 hp0 hp1 (by omega) hp3) xin_347 x6_347 h0 ha1 hp0 hp1 hp2 hp3
theorem ct_M_either_42d13 {I : fH} {x1 : Int} (h0 : fB bsJ I) (ha1 : ((-1) ≤ x1 ∧ x1 ≤ 5)) (hp0 : I 740 9 ≤ I 740 10 ∧ I 740 10 ≤ I 740 8 ∧ (I 740 11 = 0 ∨ I 740 9 < I 740 10)) (hp1 : 0 ≤ I 740 16 ∧ I 740 16 ≤ I 740 9) (hp2 : 5 ≤ I 740 14 + I 740 15) (hp3 : (1215 ≤ I 740 17 ∧ I 740 17 ≤ 3415 ∧ (I 740 17 - 1215) % 200 = 0) ∨ I 740 17 = 4700) : fC ρ base n F xTc vwCl xTys D dA la gJ (fbz bsJ znJ (fKc wz_2212a) I) xm_330 [.inr (.inr (some 740)), .inl x1] I (fun I' r => ∃ z, r = some (.inl z) ∧ ((0 ≤ z ∧ z ≤ 1) ∧ (I 740 9 ≤ I' 740 9 ∧ I' 740 9 ≤ I' 740 10 ∧ I' 740 10 ≤ I' 740 8 ∧ (I' 740 11 = 0 ∨ I' 740 9 < I' 740 10) ∧ (z = 1 → I 740 16 ≤ I' 740 16 ∧ I' 740 16 - I 740 16 ≤ I' 740 9 - I 740 9 ∧ I' 740 14 = I 740 14 ∧ I' 740 15 = I 740 15))) ∧ (sBe I I' (I 740 17) (I 740 16)) ∧ (z = 1 → sOne I' (I 740 17) (I 740 16) (I' 740 16))) := cg_M_either (d := 5) mi_347 ⟨rfl, rfl, rfl⟩ (fun h0 ha1 hp0 hp1 hp2 hp3 => ct_M_both_b081a h0 ha1 hp0 hp1 (by omega) hp3) xin_330 x6_330 h0 ha1 hp0 hp1 hp2 hp3
theorem ct_M_part0_9ea9f {I : fH} {x1 : Int} (h0 : fB bsJ I) (ha1 : ((-1) ≤ x1 ∧ x1 ≤ 5)) (hp0 : I 740 9 ≤ I 740 10 ∧ I 740 10 ≤ I 740 8 ∧ (I 740 11 = 0 ∨ I 740 9 < I 740 10)) (hp1 : 0 ≤ I 740 16 ∧ I 740 16 ≤ I 740 9) (hp2 : 4 ≤ I 740 14 + I 740 15) (hp3 : (1215 ≤ I 740 17 ∧ I 740 17 ≤ 3415 ∧ (I 740 17 - 1215) % 200 = 0) ∨ I 740 17 = 4700) : fC ρ base n F xTc vwCl xTys D dA la gJ (fbz bsJ znJ (fKc wz_2212a) I) xm_416 [.inr (.inr (some 740)), .inl x1] I (fun I' r => ∃ z, r = some (.inl z) ∧ ((0 ≤ z ∧ z ≤ 1) ∧ (I 740 9 ≤ I' 740 9 ∧ I' 740 9 ≤ I' 740 10 ∧ I' 740 10 ≤ I' 740 8 ∧ (I' 740 11 = 0 ∨ I' 740 9 < I' 740 10) ∧ (z = 1 → I 740 16 ≤ I' 740 16 ∧ I' 740 16 - I 740 16 ≤ I' 740 9 - I 740 9 ∧ I' 740 14 = I 740 14 ∧ I' 740 15 = I 740 15))) ∧ (sBe I I' (I 740 17) (I 740 16)) ∧ (z = 1 → sOne I' (I 740 17) (I 740 16) (I' 740 16))) := cg_M_part0 (d := 4) mi_330 ⟨rfl, rfl, rfl⟩ (fun h0 ha1 hp0 hp1 hp2 hp3 => ct_M_either_42d13 h0 ha1 hp0 hp1 (by omega) hp3) mi_415 ⟨rfl, rfl, rfl⟩ (fun h0 ha1 hp0 hp1 hp2 hp3 => ct_M_part0_283cb h0 ha1 hp0 hp1 (by omega) hp3) xin_416 x6_416 h0 ha1 hp0 hp1 hp2 hp3
theorem ct_M_term_7185f {I : fH} {x1 : Int} (h0 : fB bsJ I) (ha1 : ((-1) ≤ x1 ∧ x1 ≤ 5)) (hp0 : I 740 9 ≤ I 740 10 ∧ I 740 10 ≤ I 740 8 ∧ (I 740 11 = 0 ∨ I 740 9 < I 740 10)) (hp1 : 0 ≤ I 740 16 ∧ I 740 16 ≤ I 740 9) (hp2 : 4 ≤ I 740 14 + I 740 15) (hp3 : (1215 ≤ I 740 17 ∧ I 740 17 ≤ 3415 ∧ (I 740 17 - 1215) % 200 = 0) ∨ I 740 17 = 4700) : fC ρ base n F xTc vwCl xTys D dA la gJ (fbz bsJ znJ (fKc wz_2212a) I) xm_399 [.inr (.inr (some 740)), .inl x1] I (fun I' r => ∃ z, r = some (.inl z) ∧ ((0 ≤ z ∧ z ≤ 1) ∧ (I 740 9 ≤ I' 740 9 ∧ I' 740 9 ≤ I' 740 10 ∧ I' 740 10 ≤ I' 740 8 ∧ (I' 740 11 = 0 ∨ I' 740 9 < I' 740 10) ∧ (z = 1 → I 740 16 ≤ I' 740 16 ∧ I' 740 16 - I 740 16 ≤ I' 740 9 - I 740 9 ∧ I' 740 14 = I 740 14 ∧ I' 740 15 = I 740 15))) ∧ (sBe I I' (I 740 17) (I 740 16)) ∧ (z = 1 → sOne I' (I 740 17) (I 740 16) (I' 740 16))) := cg_M_term (d := 4) mi_416 ⟨rfl, rfl, rfl⟩ (fun h0 ha1 hp0 hp1 hp2 hp3 => ct_M_part0_9ea9f h0 ha1 hp0 hp1 (by omega) hp3) xin_399 x6_399 h0 ha1 hp0 hp1 hp2 hp3
theorem ct_M_sum_e90b0 {I : fH} {x1 : Int} (h0 : fB bsJ I) (ha1 : ((-1) ≤ x1 ∧ x1 ≤ 5)) (hp0 : I 740 9 ≤ I 740 10 ∧ I 740 10 ≤ I 740 8 ∧ (I 740 11 = 0 ∨ I 740 9 < I 740 10)) (hp1 : 0 ≤ I 740 16 ∧ I 740 16 ≤ I 740 9) (hp2 : 4 ≤ I 740 14 + I 740 15) (hp3 : (1215 ≤ I 740 17 ∧ I 740 17 ≤ 3415 ∧ (I 740 17 - 1215) % 200 = 0) ∨ I 740 17 = 4700) : fC ρ base n F xTc vwCl xTys D dA la gJ (fbz bsJ znJ (fKc wz_2212a) I) xm_382 [.inr (.inr (some 740)), .inl x1] I (fun I' r => ∃ z, r = some (.inl z) ∧ ((0 ≤ z ∧ z ≤ 1) ∧ (I 740 9 ≤ I' 740 9 ∧ I' 740 9 ≤ I' 740 10 ∧ I' 740 10 ≤ I' 740 8 ∧ (I' 740 11 = 0 ∨ I' 740 9 < I' 740 10) ∧ (z = 1 → I 740 16 ≤ I' 740 16 ∧ I' 740 16 - I 740 16 ≤ I' 740 9 - I 740 9 ∧ I' 740 14 = I 740 14 ∧ I' 740 15 = I 740 15))) ∧ (sBe I I' (I 740 17) (I 740 16)) ∧ (z = 1 → sOne I' (I 740 17) (I 740 16) (I' 740 16))) := cg_M_sum (d := 4) mi_399 ⟨rfl, rfl, rfl⟩ (fun h0 ha1 hp0 hp1 hp2 hp3 => ct_M_term_7185f h0 ha1 hp0 hp1 (by omega) hp3) xin_382 x6_382 h0 ha1 hp0 hp1 hp2 hp3
theorem ct_M_test_a2d79 {I : fH} {x1 : Int} (h0 : fB bsJ I) (ha1 : ((-1) ≤ x1 ∧ x1 ≤ 5)) (hp0 : I 740 9 ≤ I 740 10 ∧ I 740 10 ≤ I 740 8 ∧ (I 740 11 = 0 ∨ I 740 9 < I 740 10)) (hp1 : 0 ≤ I 740 16 ∧ I 740 16 ≤ I 740 9) (hp2 : 4 ≤ I 740 14 + I 740 15) (hp3 : (1215 ≤ I 740 17 ∧ I 740 17 ≤ 3415 ∧ (I 740 17 - 1215) % 200 = 0) ∨ I 740 17 = 4700) : fC ρ base n F xTc vwCl xTys D dA la gJ (fbz bsJ znJ (fKc wz_2212a) I) xm_365 [.inr (.inr (some 740)), .inl x1] I (fun I' r => ∃ z, r = some (.inl z) ∧ ((0 ≤ z ∧ z ≤ 1) ∧ (I 740 9 ≤ I' 740 9 ∧ I' 740 9 ≤ I' 740 10 ∧ I' 740 10 ≤ I' 740 8 ∧ (I' 740 11 = 0 ∨ I' 740 9 < I' 740 10) ∧ (z = 1 → I 740 16 ≤ I' 740 16 ∧ I' 740 16 - I 740 16 ≤ I' 740 9 - I 740 9 ∧ I' 740 14 = I 740 14 ∧ I' 740 15 = I 740 15))) ∧ (sBe I I' (I 740 17) (I 740 16)) ∧ (z = 1 → sOne I' (I 740 17) (I 740 16) (I' 740 16))) := cg_M_test (d := 4) mi_382 ⟨rfl, rfl, rfl⟩ (fun h0 ha1 hp0 hp1 hp2 hp3 => ct_M_sum_e90b0 h0 ha1 hp0 hp1 (by omega) hp3) xin_365 x6_365 h0 ha1 hp0 hp1 hp2 hp3
theorem ct_M_both_d4d0f {I : fH} {x1 : Int} (h0 : fB bsJ I) (ha1 : ((-1) ≤ x1 ∧ x1 ≤ 5)) (hp0 : I 740 9 ≤ I 740 10 ∧ I 740 10 ≤ I 740 8 ∧ (I 740 11 = 0 ∨ I 740 9 < I 740 10)) (hp1 : 0 ≤ I 740 16 ∧ I 740 16 ≤ I 740 9) (hp2 : 4 ≤ I 740 14 + I 740 15) (hp3 : (1215 ≤ I 740 17 ∧ I 740 17 ≤ 3415 ∧ (I 740 17 - 1215) % 200 = 0) ∨ I 740 17 = 4700) : fC ρ base n F xTc vwCl xTys D dA la gJ (fbz bsJ znJ (fKc wz_2212a) I) xm_348 [.inr (.inr (some 740)), .inl x1] I (fun I' r => ∃ z, r = some (.inl z) ∧ ((0 ≤ z ∧ z ≤ 1) ∧ (I 740 9 ≤ I' 740 9 ∧ I' 740 9 ≤ I' 740 10 ∧ I' 740 10 ≤ I' 740 8 ∧ (I' 740 11 = 0 ∨ I' 740 9 < I' 740 10) ∧ (z = 1 → I 740 16 ≤ I' 740 16 ∧ I' 740 16 - I 740 16 ≤ I' 740 9 - I 740 9 ∧ I' 740 14 = I 740 14 ∧ I' 740 15 = I 740 15))) ∧ (sBe I I' (I 740 17) (I 740 16)) ∧ (z = 1 → sOne I' (I 740 17) (I 740 16) (I' 740 16))) := cg_M_both (d := 4) mi_365 ⟨rfl, rfl, rfl⟩ (fun h0 ha1 hp0 hp1 hp2 hp3 => ct_M_test_a2d79 h0 ha1 hp0 hp1 (by omega) hp3) xin_348 x6_348 h0 ha1 hp0 hp1 hp2 hp3
theorem ct_M_either_3429b {I : fH} {x1 : Int} (h0 : fB bsJ I) (ha1 : ((-1) ≤ x1 ∧ x1 ≤ 5)) (hp0 : I 740 9 ≤ I 740 10 ∧ I 740 10 ≤ I 740 8 ∧ (I 740 11 = 0 ∨ I 740 9 < I 740 10)) (hp1 : 0 ≤ I 740 16 ∧ I 740 16 ≤ I 740 9) (hp2 : 4 ≤ I 740 14 + I 740 15) (hp3 : (1215 ≤ I 740 17 ∧ I 740 17 ≤ 3415 ∧ (I 740 17 - 1215) % 200 = 0) ∨ I 740 17 = 4700) : fC ρ base n F xTc vwCl xTys D dA la gJ (fbz bsJ znJ (fKc wz_2212a) I) xm_331 [.inr (.inr (some 740)), .inl x1] I (fun I' r => ∃ z, r = some (.inl z) ∧ ((0 ≤ z ∧ z ≤ 1) ∧ (I 740 9 ≤ I' 740 9 ∧ I' 740 9 ≤ I' 740 10 ∧ I' 740 10 ≤ I' 740 8 ∧ (I' 740 11 = 0 ∨ I' 740 9 < I' 740 10) ∧ (z = 1 → I 740 16 ≤ I' 740 16 ∧ I' 740 16 - I 740 16 ≤ I' 740 9 - I 740 9 ∧ I' 740 14 = I 740 14 ∧ I' 740 15 = I 740 15))) ∧ (sBe I I' (I 740 17) (I 740 16)) ∧ (z = 1 → sOne I' (I 740 17) (I 740 16) (I' 740 16))) := cg_M_either (d := 4) mi_348 ⟨rfl, rfl, rfl⟩ (fun h0 ha1 hp0 hp1 hp2 hp3 => ct_M_both_d4d0f h0 ha1 hp0 hp1 (by omega) hp3) xin_331 x6_331 h0 ha1 hp0 hp1 hp2 hp3
theorem ct_M_part0_136e6 {I : fH} {x1 : Int} (h0 : fB bsJ I) (ha1 : ((-1) ≤ x1 ∧ x1 ≤ 5)) (hp0 : I 740 9 ≤ I 740 10 ∧ I 740 10 ≤ I 740 8 ∧ (I 740 11 = 0 ∨ I 740 9 < I 740 10)) (hp1 : 0 ≤ I 740 16 ∧ I 740 16 ≤ I 740 9) (hp2 : 3 ≤ I 740 14 + I 740 15) (hp3 : (1215 ≤ I 740 17 ∧ I 740 17 ≤ 3415 ∧ (I 740 17 - 1215) % 200 = 0) ∨ I 740 17 = 4700) : fC ρ base n F xTc vwCl xTys D dA la gJ (fbz bsJ znJ (fKc wz_2212a) I) xm_417 [.inr (.inr (some 740)), .inl x1] I (fun I' r => ∃ z, r = some (.inl z) ∧ ((0 ≤ z ∧ z ≤ 1) ∧ (I 740 9 ≤ I' 740 9 ∧ I' 740 9 ≤ I' 740 10 ∧ I' 740 10 ≤ I' 740 8 ∧ (I' 740 11 = 0 ∨ I' 740 9 < I' 740 10) ∧ (z = 1 → I 740 16 ≤ I' 740 16 ∧ I' 740 16 - I 740 16 ≤ I' 740 9 - I 740 9 ∧ I' 740 14 = I 740 14 ∧ I' 740 15 = I 740 15))) ∧ (sBe I I' (I 740 17) (I 740 16)) ∧ (z = 1 → sOne I' (I 740 17) (I 740 16) (I' 740 16))) := cg_M_part0 (d := 3) mi_331 ⟨rfl, rfl, rfl⟩ (fun h0 ha1 hp0 hp1 hp2 hp3 => ct_M_either_3429b h0 ha1 hp0 hp1 (by omega) hp3) mi_416 ⟨rfl, rfl, rfl⟩ (fun h0 ha1 hp0 hp1 hp2 hp3 => ct_M_part0_9ea9f h0 ha1 hp0 hp1 (by omega) hp3) xin_417 x6_417 h0 ha1 hp0 hp1 hp2 hp3
theorem ct_M_term_1d3bf {I : fH} {x1 : Int} (h0 : fB bsJ I) (ha1 : ((-1) ≤ x1 ∧ x1 ≤ 5)) (hp0 : I 740 9 ≤ I 740 10 ∧ I 740 10 ≤ I 740 8 ∧ (I 740 11 = 0 ∨ I 740 9 < I 740 10)) (hp1 : 0 ≤ I 740 16 ∧ I 740 16 ≤ I 740 9) (hp2 : 3 ≤ I 740 14 + I 740 15) (hp3 : (1215 ≤ I 740 17 ∧ I 740 17 ≤ 3415 ∧ (I 740 17 - 1215) % 200 = 0) ∨ I 740 17 = 4700) : fC ρ base n F xTc vwCl xTys D dA la gJ (fbz bsJ znJ (fKc wz_2212a) I) xm_400 [.inr (.inr (some 740)), .inl x1] I (fun I' r => ∃ z, r = some (.inl z) ∧ ((0 ≤ z ∧ z ≤ 1) ∧ (I 740 9 ≤ I' 740 9 ∧ I' 740 9 ≤ I' 740 10 ∧ I' 740 10 ≤ I' 740 8 ∧ (I' 740 11 = 0 ∨ I' 740 9 < I' 740 10) ∧ (z = 1 → I 740 16 ≤ I' 740 16 ∧ I' 740 16 - I 740 16 ≤ I' 740 9 - I 740 9 ∧ I' 740 14 = I 740 14 ∧ I' 740 15 = I 740 15))) ∧ (sBe I I' (I 740 17) (I 740 16)) ∧ (z = 1 → sOne I' (I 740 17) (I 740 16) (I' 740 16))) := cg_M_term (d := 3) mi_417 ⟨rfl, rfl, rfl⟩ (fun h0 ha1 hp0 hp1 hp2 hp3 => ct_M_part0_136e6 h0 ha1 hp0 hp1 (by omega) hp3) xin_400 x6_400 h0 ha1 hp0 hp1 hp2 hp3
theorem ct_M_sum_75f99 {I : fH} {x1 : Int} (h0 : fB bsJ I) (ha1 : ((-1) ≤ x1 ∧ x1 ≤ 5)) (hp0 : I 740 9 ≤ I 740 10 ∧ I 740 10 ≤ I 740 8 ∧ (I 740 11 = 0 ∨ I 740 9 < I 740 10)) (hp1 : 0 ≤ I 740 16 ∧ I 740 16 ≤ I 740 9) (hp2 : 3 ≤ I 740 14 + I 740 15) (hp3 : (1215 ≤ I 740 17 ∧ I 740 17 ≤ 3415 ∧ (I 740 17 - 1215) % 200 = 0) ∨ I 740 17 = 4700) : fC ρ base n F xTc vwCl xTys D dA la gJ (fbz bsJ znJ (fKc wz_2212a) I) xm_383 [.inr (.inr (some 740)), .inl x1] I (fun I' r => ∃ z, r = some (.inl z) ∧ ((0 ≤ z ∧ z ≤ 1) ∧ (I 740 9 ≤ I' 740 9 ∧ I' 740 9 ≤ I' 740 10 ∧ I' 740 10 ≤ I' 740 8 ∧ (I' 740 11 = 0 ∨ I' 740 9 < I' 740 10) ∧ (z = 1 → I 740 16 ≤ I' 740 16 ∧ I' 740 16 - I 740 16 ≤ I' 740 9 - I 740 9 ∧ I' 740 14 = I 740 14 ∧ I' 740 15 = I 740 15))) ∧ (sBe I I' (I 740 17) (I 740 16)) ∧ (z = 1 → sOne I' (I 740 17) (I 740 16) (I' 740 16))) := cg_M_sum (d := 3) mi_400 ⟨rfl, rfl, rfl⟩ (fun h0 ha1 hp0 hp1 hp2 hp3 => ct_M_term_1d3bf h0 ha1 hp0 hp1 (by omega) hp3) xin_383 x6_383 h0 ha1 hp0 hp1 hp2 hp3
theorem ct_M_test_e4d89 {I : fH} {x1 : Int} (h0 : fB bsJ I) (ha1 : ((-1) ≤ x1 ∧ x1 ≤ 5)) (hp0 : I 740 9 ≤ I 740 10 ∧ I 740 10 ≤ I 740 8 ∧ (I 740 11 = 0 ∨ I 740 9 < I 740 10)) (hp1 : 0 ≤ I 740 16 ∧ I 740 16 ≤ I 740 9) (hp2 : 3 ≤ I 740 14 + I 740 15) (hp3 : (1215 ≤ I 740 17 ∧ I 740 17 ≤ 3415 ∧ (I 740 17 - 1215) % 200 = 0) ∨ I 740 17 = 4700) : fC ρ base n F xTc vwCl xTys D dA la gJ (fbz bsJ znJ (fKc wz_2212a) I) xm_366 [.inr (.inr (some 740)), .inl x1] I (fun I' r => ∃ z, r = some (.inl z) ∧ ((0 ≤ z ∧ z ≤ 1) ∧ (I 740 9 ≤ I' 740 9 ∧ I' 740 9 ≤ I' 740 10 ∧ I' 740 10 ≤ I' 740 8 ∧ (I' 740 11 = 0 ∨ I' 740 9 < I' 740 10) ∧ (z = 1 → I 740 16 ≤ I' 740 16 ∧ I' 740 16 - I 740 16 ≤ I' 740 9 - I 740 9 ∧ I' 740 14 = I 740 14 ∧ I' 740 15 = I 740 15))) ∧ (sBe I I' (I 740 17) (I 740 16)) ∧ (z = 1 → sOne I' (I 740 17) (I 740 16) (I' 740 16))) := cg_M_test (d := 3) mi_383 ⟨rfl, rfl, rfl⟩ (fun h0 ha1 hp0 hp1 hp2 hp3 => ct_M_sum_75f99 h0 ha1 hp0 hp1 (by omega) hp3) xin_366 x6_366 h0 ha1 hp0 hp1 hp2 hp3
theorem ct_M_both_519a3 {I : fH} {x1 : Int} (h0 : fB bsJ I) (ha1 : ((-1) ≤ x1 ∧ x1 ≤ 5)) (hp0 : I 740 9 ≤ I 740 10 ∧ I 740 10 ≤ I 740 8 ∧ (I 740 11 = 0 ∨ I 740 9 < I 740 10)) (hp1 : 0 ≤ I 740 16 ∧ I 740 16 ≤ I 740 9) (hp2 : 3 ≤ I 740 14 + I 740 15) (hp3 : (1215 ≤ I 740 17 ∧ I 740 17 ≤ 3415 ∧ (I 740 17 - 1215) % 200 = 0) ∨ I 740 17 = 4700) : fC ρ base n F xTc vwCl xTys D dA la gJ (fbz bsJ znJ (fKc wz_2212a) I) xm_349 [.inr (.inr (some 740)), .inl x1] I (fun I' r => ∃ z, r = some (.inl z) ∧ ((0 ≤ z ∧ z ≤ 1) ∧ (I 740 9 ≤ I' 740 9 ∧ I' 740 9 ≤ I' 740 10 ∧ I' 740 10 ≤ I' 740 8 ∧ (I' 740 11 = 0 ∨ I' 740 9 < I' 740 10) ∧ (z = 1 → I 740 16 ≤ I' 740 16 ∧ I' 740 16 - I 740 16 ≤ I' 740 9 - I 740 9 ∧ I' 740 14 = I 740 14 ∧ I' 740 15 = I 740 15))) ∧ (sBe I I' (I 740 17) (I 740 16)) ∧ (z = 1 → sOne I' (I 740 17) (I 740 16) (I' 740 16))) := cg_M_both (d := 3) mi_366 ⟨rfl, rfl, rfl⟩ (fun h0 ha1 hp0 hp1 hp2 hp3 => ct_M_test_e4d89 h0 ha1 hp0 hp1 (by omega) hp3) xin_349 x6_349 h0 ha1 hp0 hp1 hp2 hp3
theorem ct_M_either_26828 {I : fH} {x1 : Int} (h0 : fB bsJ I) (ha1 : ((-1) ≤ x1 ∧ x1 ≤ 5)) (hp0 : I 740 9 ≤ I 740 10 ∧ I 740 10 ≤ I 740 8 ∧ (I 740 11 = 0 ∨ I 740 9 < I 740 10)) (hp1 : 0 ≤ I 740 16 ∧ I 740 16 ≤ I 740 9) (hp2 : 3 ≤ I 740 14 + I 740 15) (hp3 : (1215 ≤ I 740 17 ∧ I 740 17 ≤ 3415 ∧ (I 740 17 - 1215) % 200 = 0) ∨ I 740 17 = 4700) : fC ρ base n F xTc vwCl xTys D dA la gJ (fbz bsJ znJ (fKc wz_2212a) I) xm_332 [.inr (.inr (some 740)), .inl x1] I (fun I' r => ∃ z, r = some (.inl z) ∧ ((0 ≤ z ∧ z ≤ 1) ∧ (I 740 9 ≤ I' 740 9 ∧ I' 740 9 ≤ I' 740 10 ∧ I' 740 10 ≤ I' 740 8 ∧ (I' 740 11 = 0 ∨ I' 740 9 < I' 740 10) ∧ (z = 1 → I 740 16 ≤ I' 740 16 ∧ I' 740 16 - I 740 16 ≤ I' 740 9 - I 740 9 ∧ I' 740 14 = I 740 14 ∧ I' 740 15 = I 740 15))) ∧ (sBe I I' (I 740 17) (I 740 16)) ∧ (z = 1 → sOne I' (I 740 17) (I 740 16) (I' 740 16))) := cg_M_either (d := 3) mi_349 ⟨rfl, rfl, rfl⟩ (fun h0 ha1 hp0 hp1 hp2 hp3 => ct_M_both_519a3 h0 ha1 hp0 hp1 (by omega) hp3) xin_332 x6_332 h0 ha1 hp0 hp1 hp2 hp3
theorem ct_M_part0_2bc24 {I : fH} {x1 : Int} (h0 : fB bsJ I) (ha1 : ((-1) ≤ x1 ∧ x1 ≤ 5)) (hp0 : I 740 9 ≤ I 740 10 ∧ I 740 10 ≤ I 740 8 ∧ (I 740 11 = 0 ∨ I 740 9 < I 740 10)) (hp1 : 0 ≤ I 740 16 ∧ I 740 16 ≤ I 740 9) (hp2 : 2 ≤ I 740 14 + I 740 15) (hp3 : (1215 ≤ I 740 17 ∧ I 740 17 ≤ 3415 ∧ (I 740 17 - 1215) % 200 = 0) ∨ I 740 17 = 4700) : fC ρ base n F xTc vwCl xTys D dA la gJ (fbz bsJ znJ (fKc wz_2212a) I) xm_418 [.inr (.inr (some 740)), .inl x1] I (fun I' r => ∃ z, r = some (.inl z) ∧ ((0 ≤ z ∧ z ≤ 1) ∧ (I 740 9 ≤ I' 740 9 ∧ I' 740 9 ≤ I' 740 10 ∧ I' 740 10 ≤ I' 740 8 ∧ (I' 740 11 = 0 ∨ I' 740 9 < I' 740 10) ∧ (z = 1 → I 740 16 ≤ I' 740 16 ∧ I' 740 16 - I 740 16 ≤ I' 740 9 - I 740 9 ∧ I' 740 14 = I 740 14 ∧ I' 740 15 = I 740 15))) ∧ (sBe I I' (I 740 17) (I 740 16)) ∧ (z = 1 → sOne I' (I 740 17) (I 740 16) (I' 740 16))) := cg_M_part0 (d := 2) mi_332 ⟨rfl, rfl, rfl⟩ (fun h0 ha1 hp0 hp1 hp2 hp3 => ct_M_either_26828 h0 ha1 hp0 hp1 (by omega) hp3) mi_417 ⟨rfl, rfl, rfl⟩ (fun h0 ha1 hp0 hp1 hp2 hp3 => ct_M_part0_136e6 h0 ha1 hp0 hp1 (by omega) hp3) xin_418 x6_418 h0 ha1 hp0 hp1 hp2 hp3
theorem ct_M_term_44a55 {I : fH} {x1 : Int} (h0 : fB bsJ I) (ha1 : ((-1) ≤ x1 ∧ x1 ≤ 5)) (hp0 : I 740 9 ≤ I 740 10 ∧ I 740 10 ≤ I 740 8 ∧ (I 740 11 = 0 ∨ I 740 9 < I 740 10)) (hp1 : 0 ≤ I 740 16 ∧ I 740 16 ≤ I 740 9) (hp2 : 2 ≤ I 740 14 + I 740 15) (hp3 : (1215 ≤ I 740 17 ∧ I 740 17 ≤ 3415 ∧ (I 740 17 - 1215) % 200 = 0) ∨ I 740 17 = 4700) : fC ρ base n F xTc vwCl xTys D dA la gJ (fbz bsJ znJ (fKc wz_2212a) I) xm_401 [.inr (.inr (some 740)), .inl x1] I (fun I' r => ∃ z, r = some (.inl z) ∧ ((0 ≤ z ∧ z ≤ 1) ∧ (I 740 9 ≤ I' 740 9 ∧ I' 740 9 ≤ I' 740 10 ∧ I' 740 10 ≤ I' 740 8 ∧ (I' 740 11 = 0 ∨ I' 740 9 < I' 740 10) ∧ (z = 1 → I 740 16 ≤ I' 740 16 ∧ I' 740 16 - I 740 16 ≤ I' 740 9 - I 740 9 ∧ I' 740 14 = I 740 14 ∧ I' 740 15 = I 740 15))) ∧ (sBe I I' (I 740 17) (I 740 16)) ∧ (z = 1 → sOne I' (I 740 17) (I 740 16) (I' 740 16))) := cg_M_term (d := 2) mi_418 ⟨rfl, rfl, rfl⟩ (fun h0 ha1 hp0 hp1 hp2 hp3 => ct_M_part0_2bc24 h0 ha1 hp0 hp1 (by omega) hp3) xin_401 x6_401 h0 ha1 hp0 hp1 hp2 hp3
theorem ct_M_sum_b6b16 {I : fH} {x1 : Int} (h0 : fB bsJ I) (ha1 : ((-1) ≤ x1 ∧ x1 ≤ 5)) (hp0 : I 740 9 ≤ I 740 10 ∧ I 740 10 ≤ I 740 8 ∧ (I 740 11 = 0 ∨ I 740 9 < I 740 10)) (hp1 : 0 ≤ I 740 16 ∧ I 740 16 ≤ I 740 9) (hp2 : 2 ≤ I 740 14 + I 740 15) (hp3 : (1215 ≤ I 740 17 ∧ I 740 17 ≤ 3415 ∧ (I 740 17 - 1215) % 200 = 0) ∨ I 740 17 = 4700) : fC ρ base n F xTc vwCl xTys D dA la gJ (fbz bsJ znJ (fKc wz_2212a) I) xm_384 [.inr (.inr (some 740)), .inl x1] I (fun I' r => ∃ z, r = some (.inl z) ∧ ((0 ≤ z ∧ z ≤ 1) ∧ (I 740 9 ≤ I' 740 9 ∧ I' 740 9 ≤ I' 740 10 ∧ I' 740 10 ≤ I' 740 8 ∧ (I' 740 11 = 0 ∨ I' 740 9 < I' 740 10) ∧ (z = 1 → I 740 16 ≤ I' 740 16 ∧ I' 740 16 - I 740 16 ≤ I' 740 9 - I 740 9 ∧ I' 740 14 = I 740 14 ∧ I' 740 15 = I 740 15))) ∧ (sBe I I' (I 740 17) (I 740 16)) ∧ (z = 1 → sOne I' (I 740 17) (I 740 16) (I' 740 16))) := cg_M_sum (d := 2) mi_401 ⟨rfl, rfl, rfl⟩ (fun h0 ha1 hp0 hp1 hp2 hp3 => ct_M_term_44a55 h0 ha1 hp0 hp1 (by omega) hp3) xin_384 x6_384 h0 ha1 hp0 hp1 hp2 hp3
theorem ct_M_test_aa09e {I : fH} {x1 : Int} (h0 : fB bsJ I) (ha1 : ((-1) ≤ x1 ∧ x1 ≤ 5)) (hp0 : I 740 9 ≤ I 740 10 ∧ I 740 10 ≤ I 740 8 ∧ (I 740 11 = 0 ∨ I 740 9 < I 740 10)) (hp1 : 0 ≤ I 740 16 ∧ I 740 16 ≤ I 740 9) (hp2 : 2 ≤ I 740 14 + I 740 15) (hp3 : (1215 ≤ I 740 17 ∧ I 740 17 ≤ 3415 ∧ (I 740 17 - 1215) % 200 = 0) ∨ I 740 17 = 4700) : fC ρ base n F xTc vwCl xTys D dA la gJ (fbz bsJ znJ (fKc wz_2212a) I) xm_367 [.inr (.inr (some 740)), .inl x1] I (fun I' r => ∃ z, r = some (.inl z) ∧ ((0 ≤ z ∧ z ≤ 1) ∧ (I 740 9 ≤ I' 740 9 ∧ I' 740 9 ≤ I' 740 10 ∧ I' 740 10 ≤ I' 740 8 ∧ (I' 740 11 = 0 ∨ I' 740 9 < I' 740 10) ∧ (z = 1 → I 740 16 ≤ I' 740 16 ∧ I' 740 16 - I 740 16 ≤ I' 740 9 - I 740 9 ∧ I' 740 14 = I 740 14 ∧ I' 740 15 = I 740 15))) ∧ (sBe I I' (I 740 17) (I 740 16)) ∧ (z = 1 → sOne I' (I 740 17) (I 740 16) (I' 740 16))) := cg_M_test (d := 2) mi_384 ⟨rfl, rfl, rfl⟩ (fun h0 ha1 hp0 hp1 hp2 hp3 => ct_M_sum_b6b16 h0 ha1 hp0 hp1 (by omega) hp3) xin_367 x6_367 h0 ha1 hp0 hp1 hp2 hp3
theorem ct_M_both_56bfd {I : fH} {x1 : Int} (h0 : fB bsJ I) (ha1 : ((-1) ≤ x1 ∧ x1 ≤ 5)) (hp0 : I 740 9 ≤ I 740 10 ∧ I 740 10 ≤ I 740 8 ∧ (I 740 11 = 0 ∨ I 740 9 < I 740 10)) (hp1 : 0 ≤ I 740 16 ∧ I 740 16 ≤ I 740 9) (hp2 : 2 ≤ I 740 14 + I 740 15) (hp3 : (1215 ≤ I 740 17 ∧ I 740 17 ≤ 3415 ∧ (I 740 17 - 1215) % 200 = 0) ∨ I 740 17 = 4700) : fC ρ base n F xTc vwCl xTys D dA la gJ (fbz bsJ znJ (fKc wz_2212a) I) xm_350 [.inr (.inr (some 740)), .inl x1] I (fun I' r => ∃ z, r = some (.inl z) ∧ ((0 ≤ z ∧ z ≤ 1) ∧ (I 740 9 ≤ I' 740 9 ∧ I' 740 9 ≤ I' 740 10 ∧ I' 740 10 ≤ I' 740 8 ∧ (I' 740 11 = 0 ∨ I' 740 9 < I' 740 10) ∧ (z = 1 → I 740 16 ≤ I' 740 16 ∧ I' 740 16 - I 740 16 ≤ I' 740 9 - I 740 9 ∧ I' 740 14 = I 740 14 ∧ I' 740 15 = I 740 15))) ∧ (sBe I I' (I 740 17) (I 740 16)) ∧ (z = 1 → sOne I' (I 740 17) (I 740 16) (I' 740 16))) := cg_M_both (d := 2) mi_367 ⟨rfl, rfl, rfl⟩ (fun h0 ha1 hp0 hp1 hp2 hp3 => ct_M_test_aa09e h0 ha1 hp0 hp1 (by omega) hp3) xin_350 x6_350 h0 ha1 hp0 hp1 hp2 hp3
theorem ct_M_either_833ee {I : fH} {x1 : Int} (h0 : fB bsJ I) (ha1 : ((-1) ≤ x1 ∧ x1 ≤ 5)) (hp0 : I 740 9 ≤ I 740 10 ∧ I 740 10 ≤ I 740 8 ∧ (I 740 11 = 0 ∨ I 740 9 < I 740 10)) (hp1 : 0 ≤ I 740 16 ∧ I 740 16 ≤ I 740 9) (hp2 : 2 ≤ I 740 14 + I 740 15) (hp3 : (1215 ≤ I 740 17 ∧ I 740 17 ≤ 3415 ∧ (I 740 17 - 1215) % 200 = 0) ∨ I 740 17 = 4700) : fC ρ base n F xTc vwCl xTys D dA la gJ (fbz bsJ znJ (fKc wz_2212a) I) xm_333 [.inr (.inr (some 740)), .inl x1] I (fun I' r => ∃ z, r = some (.inl z) ∧ ((0 ≤ z ∧ z ≤ 1) ∧ (I 740 9 ≤ I' 740 9 ∧ I' 740 9 ≤ I' 740 10 ∧ I' 740 10 ≤ I' 740 8 ∧ (I' 740 11 = 0 ∨ I' 740 9 < I' 740 10) ∧ (z = 1 → I 740 16 ≤ I' 740 16 ∧ I' 740 16 - I 740 16 ≤ I' 740 9 - I 740 9 ∧ I' 740 14 = I 740 14 ∧ I' 740 15 = I 740 15))) ∧ (sBe I I' (I 740 17) (I 740 16)) ∧ (z = 1 → sOne I' (I 740 17) (I 740 16) (I' 740 16))) := cg_M_either (d := 2) mi_350 ⟨rfl, rfl, rfl⟩ (fun h0 ha1 hp0 hp1 hp2 hp3 => ct_M_both_56bfd h0 ha1 hp0 hp1 (by omega) hp3) xin_333 x6_333 h0 ha1 hp0 hp1 hp2 hp3
theorem ct_M_part0_f397b {I : fH} {x1 : Int} (h0 : fB bsJ I) (ha1 : ((-1) ≤ x1 ∧ x1 ≤ 5)) (hp0 : I 740 9 ≤ I 740 10 ∧ I 740 10 ≤ I 740 8 ∧ (I 740 11 = 0 ∨ I 740 9 < I 740 10)) (hp1 : 0 ≤ I 740 16 ∧ I 740 16 ≤ I 740 9) (hp2 : 1 ≤ I 740 14 + I 740 15) (hp3 : (1215 ≤ I 740 17 ∧ I 740 17 ≤ 3415 ∧ (I 740 17 - 1215) % 200 = 0) ∨ I 740 17 = 4700) : fC ρ base n F xTc vwCl xTys D dA la gJ (fbz bsJ znJ (fKc wz_2212a) I) xm_419 [.inr (.inr (some 740)), .inl x1] I (fun I' r => ∃ z, r = some (.inl z) ∧ ((0 ≤ z ∧ z ≤ 1) ∧ (I 740 9 ≤ I' 740 9 ∧ I' 740 9 ≤ I' 740 10 ∧ I' 740 10 ≤ I' 740 8 ∧ (I' 740 11 = 0 ∨ I' 740 9 < I' 740 10) ∧ (z = 1 → I 740 16 ≤ I' 740 16 ∧ I' 740 16 - I 740 16 ≤ I' 740 9 - I 740 9 ∧ I' 740 14 = I 740 14 ∧ I' 740 15 = I 740 15))) ∧ (sBe I I' (I 740 17) (I 740 16)) ∧ (z = 1 → sOne I' (I 740 17) (I 740 16) (I' 740 16))) := cg_M_part0 (d := 1) mi_333 ⟨rfl, rfl, rfl⟩ (fun h0 ha1 hp0 hp1 hp2 hp3 => ct_M_either_833ee h0 ha1 hp0 hp1 (by omega) hp3) mi_418 ⟨rfl, rfl, rfl⟩ (fun h0 ha1 hp0 hp1 hp2 hp3 => ct_M_part0_2bc24 h0 ha1 hp0 hp1 (by omega) hp3) xin_419 x6_419 h0 ha1 hp0 hp1 hp2 hp3
theorem ct_M_term_3d895 {I : fH} {x1 : Int} (h0 : fB bsJ I) (ha1 : ((-1) ≤ x1 ∧ x1 ≤ 5)) (hp0 : I 740 9 ≤ I 740 10 ∧ I 740 10 ≤ I 740 8 ∧ (I 740 11 = 0 ∨ I 740 9 < I 740 10)) (hp1 : 0 ≤ I 740 16 ∧ I 740 16 ≤ I 740 9) (hp2 : 1 ≤ I 740 14 + I 740 15) (hp3 : (1215 ≤ I 740 17 ∧ I 740 17 ≤ 3415 ∧ (I 740 17 - 1215) % 200 = 0) ∨ I 740 17 = 4700) : fC ρ base n F xTc vwCl xTys D dA la gJ (fbz bsJ znJ (fKc wz_2212a) I) xm_402 [.inr (.inr (some 740)), .inl x1] I (fun I' r => ∃ z, r = some (.inl z) ∧ ((0 ≤ z ∧ z ≤ 1) ∧ (I 740 9 ≤ I' 740 9 ∧ I' 740 9 ≤ I' 740 10 ∧ I' 740 10 ≤ I' 740 8 ∧ (I' 740 11 = 0 ∨ I' 740 9 < I' 740 10) ∧ (z = 1 → I 740 16 ≤ I' 740 16 ∧ I' 740 16 - I 740 16 ≤ I' 740 9 - I 740 9 ∧ I' 740 14 = I 740 14 ∧ I' 740 15 = I 740 15))) ∧ (sBe I I' (I 740 17) (I 740 16)) ∧ (z = 1 → sOne I' (I 740 17) (I 740 16) (I' 740 16))) := cg_M_term (d := 1) mi_419 ⟨rfl, rfl, rfl⟩ (fun h0 ha1 hp0 hp1 hp2 hp3 => ct_M_part0_f397b h0 ha1 hp0 hp1 (by omega) hp3) xin_402 x6_402 h0 ha1 hp0 hp1 hp2 hp3
theorem ct_M_sum_dd3dc {I : fH} {x1 : Int} (h0 : fB bsJ I) (ha1 : ((-1) ≤ x1 ∧ x1 ≤ 5)) (hp0 : I 740 9 ≤ I 740 10 ∧ I 740 10 ≤ I 740 8 ∧ (I 740 11 = 0 ∨ I 740 9 < I 740 10)) (hp1 : 0 ≤ I 740 16 ∧ I 740 16 ≤ I 740 9) (hp2 : 1 ≤ I 740 14 + I 740 15) (hp3 : (1215 ≤ I 740 17 ∧ I 740 17 ≤ 3415 ∧ (I 740 17 - 1215) % 200 = 0) ∨ I 740 17 = 4700) : fC ρ base n F xTc vwCl xTys D dA la gJ (fbz bsJ znJ (fKc wz_2212a) I) xm_385 [.inr (.inr (some 740)), .inl x1] I (fun I' r => ∃ z, r = some (.inl z) ∧ ((0 ≤ z ∧ z ≤ 1) ∧ (I 740 9 ≤ I' 740 9 ∧ I' 740 9 ≤ I' 740 10 ∧ I' 740 10 ≤ I' 740 8 ∧ (I' 740 11 = 0 ∨ I' 740 9 < I' 740 10) ∧ (z = 1 → I 740 16 ≤ I' 740 16 ∧ I' 740 16 - I 740 16 ≤ I' 740 9 - I 740 9 ∧ I' 740 14 = I 740 14 ∧ I' 740 15 = I 740 15))) ∧ (sBe I I' (I 740 17) (I 740 16)) ∧ (z = 1 → sOne I' (I 740 17) (I 740 16) (I' 740 16))) := cg_M_sum (d := 1) mi_402 ⟨rfl, rfl, rfl⟩ (fun h0 ha1 hp0 hp1 hp2 hp3 => ct_M_term_3d895 h0 ha1 hp0 hp1 (by omega) hp3) xin_385 x6_385 h0 ha1 hp0 hp1 hp2 hp3
theorem ct_M_test_fd36d {I : fH} {x1 : Int} (h0 : fB bsJ I) (ha1 : ((-1) ≤ x1 ∧ x1 ≤ 5)) (hp0 : I 740 9 ≤ I 740 10 ∧ I 740 10 ≤ I 740 8 ∧ (I 740 11 = 0 ∨ I 740 9 < I 740 10)) (hp1 : 0 ≤ I 740 16 ∧ I 740 16 ≤ I 740 9) (hp2 : 1 ≤ I 740 14 + I 740 15) (hp3 : (1215 ≤ I 740 17 ∧ I 740 17 ≤ 3415 ∧ (I 740 17 - 1215) % 200 = 0) ∨ I 740 17 = 4700) : fC ρ base n F xTc vwCl xTys D dA la gJ (fbz bsJ znJ (fKc wz_2212a) I) xm_368 [.inr (.inr (some 740)), .inl x1] I (fun I' r => ∃ z, r = some (.inl z) ∧ ((0 ≤ z ∧ z ≤ 1) ∧ (I 740 9 ≤ I' 740 9 ∧ I' 740 9 ≤ I' 740 10 ∧ I' 740 10 ≤ I' 740 8 ∧ (I' 740 11 = 0 ∨ I' 740 9 < I' 740 10) ∧ (z = 1 → I 740 16 ≤ I' 740 16 ∧ I' 740 16 - I 740 16 ≤ I' 740 9 - I 740 9 ∧ I' 740 14 = I 740 14 ∧ I' 740 15 = I 740 15))) ∧ (sBe I I' (I 740 17) (I 740 16)) ∧ (z = 1 → sOne I' (I 740 17) (I 740 16) (I' 740 16))) := cg_M_test (d := 1) mi_385 ⟨rfl, rfl, rfl⟩ (fun h0 ha1 hp0 hp1 hp2 hp3 => ct_M_sum_dd3dc h0 ha1 hp0 hp1 (by omega) hp3) xin_368 x6_368 h0 ha1 hp0 hp1 hp2 hp3
theorem ct_M_both_5e4b8 {I : fH} {x1 : Int} (h0 : fB bsJ I) (ha1 : ((-1) ≤ x1 ∧ x1 ≤ 5)) (hp0 : I 740 9 ≤ I 740 10 ∧ I 740 10 ≤ I 740 8 ∧ (I 740 11 = 0 ∨ I 740 9 < I 740 10)) (hp1 : 0 ≤ I 740 16 ∧ I 740 16 ≤ I 740 9) (hp2 : 1 ≤ I 740 14 + I 740 15) (hp3 : (1215 ≤ I 740 17 ∧ I 740 17 ≤ 3415 ∧ (I 740 17 - 1215) % 200 = 0) ∨ I 740 17 = 4700) : fC ρ base n F xTc vwCl xTys D dA la gJ (fbz bsJ znJ (fKc wz_2212a) I) xm_351 [.inr (.inr (some 740)), .inl x1] I (fun I' r => ∃ z, r = some (.inl z) ∧ ((0 ≤ z ∧ z ≤ 1) ∧ (I 740 9 ≤ I' 740 9 ∧ I' 740 9 ≤ I' 740 10 ∧ I' 740 10 ≤ I' 740 8 ∧ (I' 740 11 = 0 ∨ I' 740 9 < I' 740 10) ∧ (z = 1 → I 740 16 ≤ I' 740 16 ∧ I' 740 16 - I 740 16 ≤ I' 740 9 - I 740 9 ∧ I' 740 14 = I 740 14 ∧ I' 740 15 = I 740 15))) ∧ (sBe I I' (I 740 17) (I 740 16)) ∧ (z = 1 → sOne I' (I 740 17) (I 740 16) (I' 740 16))) := cg_M_both (d := 1) mi_368 ⟨rfl, rfl, rfl⟩ (fun h0 ha1 hp0 hp1 hp2 hp3 => ct_M_test_fd36d h0 ha1 hp0 hp1 (by omega) hp3) xin_351 x6_351 h0 ha1 hp0 hp1 hp2 hp3
theorem ct_M_either_caa15 {I : fH} {x1 : Int} (h0 : fB bsJ I) (ha1 : ((-1) ≤ x1 ∧ x1 ≤ 5)) (hp0 : I 740 9 ≤ I 740 10 ∧ I 740 10 ≤ I 740 8 ∧ (I 740 11 = 0 ∨ I 740 9 < I 740 10)) (hp1 : 0 ≤ I 740 16 ∧ I 740 16 ≤ I 740 9) (hp2 : 1 ≤ I 740 14 + I 740 15) (hp3 : (1215 ≤ I 740 17 ∧ I 740 17 ≤ 3415 ∧ (I 740 17 - 1215) % 200 = 0) ∨ I 740 17 = 4700) : fC ρ base n F xTc vwCl xTys D dA la gJ (fbz bsJ znJ (fKc wz_2212a) I) xm_334 [.inr (.inr (some 740)), .inl x1] I (fun I' r => ∃ z, r = some (.inl z) ∧ ((0 ≤ z ∧ z ≤ 1) ∧ (I 740 9 ≤ I' 740 9 ∧ I' 740 9 ≤ I' 740 10 ∧ I' 740 10 ≤ I' 740 8 ∧ (I' 740 11 = 0 ∨ I' 740 9 < I' 740 10) ∧ (z = 1 → I 740 16 ≤ I' 740 16 ∧ I' 740 16 - I 740 16 ≤ I' 740 9 - I 740 9 ∧ I' 740 14 = I 740 14 ∧ I' 740 15 = I 740 15))) ∧ (sBe I I' (I 740 17) (I 740 16)) ∧ (z = 1 → sOne I' (I 740 17) (I 740 16) (I' 740 16))) := cg_M_either (d := 1) mi_351 ⟨rfl, rfl, rfl⟩ (fun h0 ha1 hp0 hp1 hp2 hp3 => ct_M_both_5e4b8 h0 ha1 hp0 hp1 (by omega) hp3) xin_334 x6_334 h0 ha1 hp0 hp1 hp2 hp3
theorem ct_M_part0_e39c0 {I : fH} {x1 : Int} (h0 : fB bsJ I) (ha1 : ((-1) ≤ x1 ∧ x1 ≤ 5)) (hp0 : I 740 9 ≤ I 740 10 ∧ I 740 10 ≤ I 740 8 ∧ (I 740 11 = 0 ∨ I 740 9 < I 740 10)) (hp1 : 0 ≤ I 740 16 ∧ I 740 16 ≤ I 740 9) (hp2 : 0 ≤ I 740 14 + I 740 15) (hp3 : (1215 ≤ I 740 17 ∧ I 740 17 ≤ 3415 ∧ (I 740 17 - 1215) % 200 = 0) ∨ I 740 17 = 4700) : fC ρ base n F xTc vwCl xTys D dA la gJ (fbz bsJ znJ (fKc wz_2212a) I) xm_420 [.inr (.inr (some 740)), .inl x1] I (fun I' r => ∃ z, r = some (.inl z) ∧ ((0 ≤ z ∧ z ≤ 1) ∧ (I 740 9 ≤ I' 740 9 ∧ I' 740 9 ≤ I' 740 10 ∧ I' 740 10 ≤ I' 740 8 ∧ (I' 740 11 = 0 ∨ I' 740 9 < I' 740 10) ∧ (z = 1 → I 740 16 ≤ I' 740 16 ∧ I' 740 16 - I 740 16 ≤ I' 740 9 - I 740 9 ∧ I' 740 14 = I 740 14 ∧ I' 740 15 = I 740 15))) ∧ (sBe I I' (I 740 17) (I 740 16)) ∧ (z = 1 → sOne I' (I 740 17) (I 740 16) (I' 740 16))) := cg_M_part0 (d := 0) mi_334 ⟨rfl, rfl, rfl⟩ (fun h0 ha1 hp0 hp1 hp2 hp3 => ct_M_either_caa15 h0 ha1 hp0 hp1 (by omega) hp3) mi_419 ⟨rfl, rfl, rfl⟩ (fun h0 ha1 hp0 hp1 hp2 hp3 => ct_M_part0_f397b h0 ha1 hp0 hp1 (by omega) hp3) xin_420 x6_420 h0 ha1 hp0 hp1 hp2 hp3
theorem ct_M_term_10b65 {I : fH} {x1 : Int} (h0 : fB bsJ I) (ha1 : ((-1) ≤ x1 ∧ x1 ≤ 5)) (hp0 : I 740 9 ≤ I 740 10 ∧ I 740 10 ≤ I 740 8 ∧ (I 740 11 = 0 ∨ I 740 9 < I 740 10)) (hp1 : 0 ≤ I 740 16 ∧ I 740 16 ≤ I 740 9) (hp2 : 0 ≤ I 740 14 + I 740 15) (hp3 : (1215 ≤ I 740 17 ∧ I 740 17 ≤ 3415 ∧ (I 740 17 - 1215) % 200 = 0) ∨ I 740 17 = 4700) : fC ρ base n F xTc vwCl xTys D dA la gJ (fbz bsJ znJ (fKc wz_2212a) I) xm_403 [.inr (.inr (some 740)), .inl x1] I (fun I' r => ∃ z, r = some (.inl z) ∧ ((0 ≤ z ∧ z ≤ 1) ∧ (I 740 9 ≤ I' 740 9 ∧ I' 740 9 ≤ I' 740 10 ∧ I' 740 10 ≤ I' 740 8 ∧ (I' 740 11 = 0 ∨ I' 740 9 < I' 740 10) ∧ (z = 1 → I 740 16 ≤ I' 740 16 ∧ I' 740 16 - I 740 16 ≤ I' 740 9 - I 740 9 ∧ I' 740 14 = I 740 14 ∧ I' 740 15 = I 740 15))) ∧ (sBe I I' (I 740 17) (I 740 16)) ∧ (z = 1 → sOne I' (I 740 17) (I 740 16) (I' 740 16))) := cg_M_term (d := 0) mi_420 ⟨rfl, rfl, rfl⟩ (fun h0 ha1 hp0 hp1 hp2 hp3 => ct_M_part0_e39c0 h0 ha1 hp0 hp1 (by omega) hp3) xin_403 x6_403 h0 ha1 hp0 hp1 hp2 hp3
theorem ct_M_sum_387c3 {I : fH} {x1 : Int} (h0 : fB bsJ I) (ha1 : ((-1) ≤ x1 ∧ x1 ≤ 5)) (hp0 : I 740 9 ≤ I 740 10 ∧ I 740 10 ≤ I 740 8 ∧ (I 740 11 = 0 ∨ I 740 9 < I 740 10)) (hp1 : 0 ≤ I 740 16 ∧ I 740 16 ≤ I 740 9) (hp2 : 0 ≤ I 740 14 + I 740 15) (hp3 : (1215 ≤ I 740 17 ∧ I 740 17 ≤ 3415 ∧ (I 740 17 - 1215) % 200 = 0) ∨ I 740 17 = 4700) : fC ρ base n F xTc vwCl xTys D dA la gJ (fbz bsJ znJ (fKc wz_2212a) I) xm_386 [.inr (.inr (some 740)), .inl x1] I (fun I' r => ∃ z, r = some (.inl z) ∧ ((0 ≤ z ∧ z ≤ 1) ∧ (I 740 9 ≤ I' 740 9 ∧ I' 740 9 ≤ I' 740 10 ∧ I' 740 10 ≤ I' 740 8 ∧ (I' 740 11 = 0 ∨ I' 740 9 < I' 740 10) ∧ (z = 1 → I 740 16 ≤ I' 740 16 ∧ I' 740 16 - I 740 16 ≤ I' 740 9 - I 740 9 ∧ I' 740 14 = I 740 14 ∧ I' 740 15 = I 740 15))) ∧ (sBe I I' (I 740 17) (I 740 16)) ∧ (z = 1 → sOne I' (I 740 17) (I 740 16) (I' 740 16))) := cg_M_sum (d := 0) mi_403 ⟨rfl, rfl, rfl⟩ (fun h0 ha1 hp0 hp1 hp2 hp3 => ct_M_term_10b65 h0 ha1 hp0 hp1 (by omega) hp3) xin_386 x6_386 h0 ha1 hp0 hp1 hp2 hp3
theorem ct_M_test_e5db5 {I : fH} {x1 : Int} (h0 : fB bsJ I) (ha1 : ((-1) ≤ x1 ∧ x1 ≤ 5)) (hp0 : I 740 9 ≤ I 740 10 ∧ I 740 10 ≤ I 740 8 ∧ (I 740 11 = 0 ∨ I 740 9 < I 740 10)) (hp1 : 0 ≤ I 740 16 ∧ I 740 16 ≤ I 740 9) (hp2 : 0 ≤ I 740 14 + I 740 15) (hp3 : (1215 ≤ I 740 17 ∧ I 740 17 ≤ 3415 ∧ (I 740 17 - 1215) % 200 = 0) ∨ I 740 17 = 4700) : fC ρ base n F xTc vwCl xTys D dA la gJ (fbz bsJ znJ (fKc wz_2212a) I) xm_369 [.inr (.inr (some 740)), .inl x1] I (fun I' r => ∃ z, r = some (.inl z) ∧ ((0 ≤ z ∧ z ≤ 1) ∧ (I 740 9 ≤ I' 740 9 ∧ I' 740 9 ≤ I' 740 10 ∧ I' 740 10 ≤ I' 740 8 ∧ (I' 740 11 = 0 ∨ I' 740 9 < I' 740 10) ∧ (z = 1 → I 740 16 ≤ I' 740 16 ∧ I' 740 16 - I 740 16 ≤ I' 740 9 - I 740 9 ∧ I' 740 14 = I 740 14 ∧ I' 740 15 = I 740 15))) ∧ (sBe I I' (I 740 17) (I 740 16)) ∧ (z = 1 → sOne I' (I 740 17) (I 740 16) (I' 740 16))) := cg_M_test (d := 0) mi_386 ⟨rfl, rfl, rfl⟩ (fun h0 ha1 hp0 hp1 hp2 hp3 => ct_M_sum_387c3 h0 ha1 hp0 hp1 (by omega) hp3) xin_369 x6_369 h0 ha1 hp0 hp1 hp2 hp3
theorem ct_M_both_efb4f {I : fH} {x1 : Int} (h0 : fB bsJ I) (ha1 : ((-1) ≤ x1 ∧ x1 ≤ 5)) (hp0 : I 740 9 ≤ I 740 10 ∧ I 740 10 ≤ I 740 8 ∧ (I 740 11 = 0 ∨ I 740 9 < I 740 10)) (hp1 : 0 ≤ I 740 16 ∧ I 740 16 ≤ I 740 9) (hp2 : 0 ≤ I 740 14 + I 740 15) (hp3 : (1215 ≤ I 740 17 ∧ I 740 17 ≤ 3415 ∧ (I 740 17 - 1215) % 200 = 0) ∨ I 740 17 = 4700) : fC ρ base n F xTc vwCl xTys D dA la gJ (fbz bsJ znJ (fKc wz_2212a) I) xm_352 [.inr (.inr (some 740)), .inl x1] I (fun I' r => ∃ z, r = some (.inl z) ∧ ((0 ≤ z ∧ z ≤ 1) ∧ (I 740 9 ≤ I' 740 9 ∧ I' 740 9 ≤ I' 740 10 ∧ I' 740 10 ≤ I' 740 8 ∧ (I' 740 11 = 0 ∨ I' 740 9 < I' 740 10) ∧ (z = 1 → I 740 16 ≤ I' 740 16 ∧ I' 740 16 - I 740 16 ≤ I' 740 9 - I 740 9 ∧ I' 740 14 = I 740 14 ∧ I' 740 15 = I 740 15))) ∧ (sBe I I' (I 740 17) (I 740 16)) ∧ (z = 1 → sOne I' (I 740 17) (I 740 16) (I' 740 16))) := cg_M_both (d := 0) mi_369 ⟨rfl, rfl, rfl⟩ (fun h0 ha1 hp0 hp1 hp2 hp3 => ct_M_test_e5db5 h0 ha1 hp0 hp1 (by omega) hp3) xin_352 x6_352 h0 ha1 hp0 hp1 hp2 hp3
theorem ct_M_either_c00e3 {I : fH} {x1 : Int} (h0 : fB bsJ I) (ha1 : ((-1) ≤ x1 ∧ x1 ≤ 5)) (hp0 : I 740 9 ≤ I 740 10 ∧ I 740 10 ≤ I 740 8 ∧ (I 740 11 = 0 ∨ I 740 9 < I 740 10)) (hp1 : 0 ≤ I 740 16 ∧ I 740 16 ≤ I 740 9) (hp2 : 0 ≤ I 740 14 + I 740 15) (hp3 : (1215 ≤ I 740 17 ∧ I 740 17 ≤ 3415 ∧ (I 740 17 - 1215) % 200 = 0) ∨ I 740 17 = 4700) : fC ρ base n F xTc vwCl xTys D dA la gJ (fbz bsJ znJ (fKc wz_2212a) I) xm_335 [.inr (.inr (some 740)), .inl x1] I (fun I' r => ∃ z, r = some (.inl z) ∧ ((0 ≤ z ∧ z ≤ 1) ∧ (I 740 9 ≤ I' 740 9 ∧ I' 740 9 ≤ I' 740 10 ∧ I' 740 10 ≤ I' 740 8 ∧ (I' 740 11 = 0 ∨ I' 740 9 < I' 740 10) ∧ (z = 1 → I 740 16 ≤ I' 740 16 ∧ I' 740 16 - I 740 16 ≤ I' 740 9 - I 740 9 ∧ I' 740 14 = I 740 14 ∧ I' 740 15 = I 740 15))) ∧ (sBe I I' (I 740 17) (I 740 16)) ∧ (z = 1 → sOne I' (I 740 17) (I 740 16) (I' 740 16))) := cg_M_either (d := 0) mi_352 ⟨rfl, rfl, rfl⟩ (fun h0 ha1 hp0 hp1 hp2 hp3 => ct_M_both_efb4f h0 ha1 hp0 hp1 (by omega) hp3) xin_335 x6_335 h0 ha1 hp0 hp1 hp2 hp3
set_option maxRecDepth 8000 in
theorem ct_M_isWordAt_4e115 {I : fH} {x1 : Int} {x2 : Int} {x3 : Int} {x4 : Int} {x5 : Int} (h0 : fB bsJ I) (ha1 : (98 ≤ x1 ∧ x1 ≤ 118)) (ha2 : (97 ≤ x2 ∧ x2 ≤ 112)) (ha3 : (97 ≤ x3 ∧ x3 ≤ 116)) (ha4 : (100 ≤ x4 ∧ x4 ≤ 116)) (ha5 : (0 ≤ x5 ∧ x5 ≤ 104)) (hp0 : I 740 9 ≤ I 740 10 ∧ I 740 10 ≤ 96) : fC ρ base n F xTc vwCl xTys D dA la gJ (fbz bsJ znJ (fKc []) I) xm_318 [.inr (.inr (some 740)), .inl x1, .inl x2, .inl x3, .inl x4, .inl x5] I (fun _ r => ∃ z, r = some (.inl z) ∧ (0 ≤ z ∧ z ≤ 1)) := by
  have hW : fzs [] (fKc []) := fKc_ok _
  refine f_meth (rb := rbJ) (J := []) 1 400 xG xin_318 x6_318 okJ (fB_self h0) ?_ ?_
  · exact fun q h => absurd h List.not_mem_nil
  · have hB0 := fB_self (zn := znJ) (K := fKc []) h0
    refine And.intro (by first | exact fi_ ha5.1 ha5.2 rfl | omega) (And.intro ?_ ?_)
    · intro c1
      refine And.intro ⟨rfl, by decide, by decide⟩ (fgetf fb_740_11 h0 hB0 ?_)
      intro z2 lz2 uz2 qz2
      refine And.intro (And.intro (by first | exact fi_ lz2 uz2 rfl | omega) (by first | exact ⟨by decide, by decide⟩ | omega)) (And.intro ?_ ?_)
      · intro c3
        refine And.intro (by omega) (And.intro ?_ ?_)
        · intro c4
          refine And.intro (⟨by omega, by omega⟩) ?_
          exact ⟨_, rfl, by omega⟩
        · intro c5
          refine And.intro (by first | exact fi_ ha5.1 ha5.2 rfl | omega) (And.intro ?_ ?_)
          · intro c6
            refine And.intro (⟨by decide, by decide⟩) ?_
            exact ⟨_, rfl, (by first | exact ⟨by decide, by decide⟩ | omega)⟩
          · intro c7
            refine And.intro ⟨rfl, by decide, by decide⟩ ?_
            refine And.intro ⟨rfl, by decide, by decide⟩ (fgetf fb_740_9 h0 hB0 ?_)
            intro z8 lz8 uz8 qz8
            refine fload rL_747_747_0_95_1_0 h0 hB0 (by omega) ?_
            intro z9 lz9 uz9 qz9
            refine And.intro (And.intro (by first | exact fi_ lz9 uz9 rfl | omega) (by first | exact fi_ ha5.1 ha5.2 rfl | omega)) (And.intro ?_ ?_)
            · intro c10
              refine And.intro (⟨by omega, by omega⟩) ?_
              exact ⟨_, rfl, by omega⟩
            · intro c11
              refine And.intro (⟨by decide, by decide⟩) ?_
              exact ⟨_, rfl, (by first | exact ⟨by decide, by decide⟩ | omega)⟩
      · intro c12
        refine And.intro ⟨rfl, by decide, by decide⟩ (fgetf fb_740_10 h0 hB0 ?_)
        intro z13 lz13 uz13 qz13
        refine And.intro ⟨rfl, by decide, by decide⟩ (fgetf fb_740_9 h0 hB0 ?_)
        intro z14 lz14 uz14 qz14
        refine And.intro (by omega) (And.intro ?_ ?_)
        · intro c15
          refine And.intro (by omega) (And.intro ?_ ?_)
          · intro c16
            refine And.intro (⟨by omega, by omega⟩) ?_
            exact ⟨_, rfl, by omega⟩
          · intro c17
            refine And.intro (by first | exact fi_ ha5.1 ha5.2 rfl | omega) (And.intro ?_ ?_)
            · intro c18
              refine And.intro (⟨by decide, by decide⟩) ?_
              exact ⟨_, rfl, (by first | exact ⟨by decide, by decide⟩ | omega)⟩
            · intro c19
              refine And.intro ⟨rfl, by decide, by decide⟩ ?_
              refine And.intro ⟨rfl, by decide, by decide⟩ (fgetf fb_740_9 h0 hB0 ?_)
              intro z20 lz20 uz20 qz20
              refine fload rL_747_747_0_95_1_0 h0 hB0 (by omega) ?_
              intro z21 lz21 uz21 qz21
              refine And.intro (And.intro (by first | exact fi_ lz21 uz21 rfl | omega) (by first | exact fi_ ha5.1 ha5.2 rfl | omega)) (And.intro ?_ ?_)
              · intro c22
                refine And.intro (⟨by omega, by omega⟩) ?_
                exact ⟨_, rfl, by omega⟩
              · intro c23
                refine And.intro (⟨by decide, by decide⟩) ?_
                exact ⟨_, rfl, (by first | exact ⟨by decide, by decide⟩ | omega)⟩
        · intro c24
          refine And.intro ⟨rfl, by decide, by decide⟩ ?_
          refine And.intro ⟨rfl, by decide, by decide⟩ (fgetf fb_740_9 h0 hB0 ?_)
          intro z25 lz25 uz25 qz25
          refine fload rL_747_747_0_95_1_0 h0 hB0 (by omega) ?_
          intro z26 lz26 uz26 qz26
          refine And.intro (And.intro (by first | exact fi_ lz26 uz26 rfl | omega) (by first | exact fi_ ha1.1 ha1.2 rfl | omega)) (And.intro ?_ ?_)
          · intro c27
            refine And.intro (by omega) (And.intro ?_ ?_)
            · intro c28
              refine And.intro (⟨by omega, by omega⟩) ?_
              exact ⟨_, rfl, by omega⟩
            · intro c29
              refine And.intro (by first | exact fi_ ha5.1 ha5.2 rfl | omega) (And.intro ?_ ?_)
              · intro c30
                refine And.intro (⟨by decide, by decide⟩) ?_
                exact ⟨_, rfl, (by first | exact ⟨by decide, by decide⟩ | omega)⟩
              · intro c31
                refine And.intro ⟨rfl, by decide, by decide⟩ ?_
                refine And.intro ⟨rfl, by decide, by decide⟩ (fgetf fb_740_9 h0 hB0 ?_)
                intro z32 lz32 uz32 qz32
                refine fload rL_747_747_0_95_1_0 h0 hB0 (by omega) ?_
                intro z33 lz33 uz33 qz33
                refine And.intro (And.intro (by first | exact fi_ lz33 uz33 rfl | omega) (by first | exact fi_ ha5.1 ha5.2 rfl | omega)) (And.intro ?_ ?_)
                · intro c34
                  refine And.intro (⟨by omega, by omega⟩) ?_
                  exact ⟨_, rfl, by omega⟩
                · intro c35
                  refine And.intro (⟨by decide, by decide⟩) ?_
                  exact ⟨_, rfl, (by first | exact ⟨by decide, by decide⟩ | omega)⟩
          · intro c36
            refine And.intro ⟨rfl, by decide, by decide⟩ ?_
            refine And.intro ⟨rfl, by decide, by decide⟩ (fgetf fb_740_9 h0 hB0 ?_)
            intro z37 lz37 uz37 qz37
            refine fload rL_747_747_0_95_1_0 h0 hB0 (by omega) ?_
            intro z38 lz38 uz38 qz38
            refine And.intro (And.intro (by first | exact fi_ lz38 uz38 rfl | omega) (by first | exact fi_ ha2.1 ha2.2 rfl | omega)) (And.intro ?_ ?_)
            · intro c39
              refine And.intro (by omega) (And.intro ?_ ?_)
              · intro c40
                refine And.intro (⟨by omega, by omega⟩) ?_
                exact ⟨_, rfl, by omega⟩
              · intro c41
                refine And.intro (by first | exact fi_ ha5.1 ha5.2 rfl | omega) (And.intro ?_ ?_)
                · intro c42
                  refine And.intro (⟨by decide, by decide⟩) ?_
                  exact ⟨_, rfl, (by first | exact ⟨by decide, by decide⟩ | omega)⟩
                · intro c43
                  refine And.intro ⟨rfl, by decide, by decide⟩ ?_
                  refine And.intro ⟨rfl, by decide, by decide⟩ (fgetf fb_740_9 h0 hB0 ?_)
                  intro z44 lz44 uz44 qz44
                  refine fload rL_747_747_0_95_1_0 h0 hB0 (by omega) ?_
                  intro z45 lz45 uz45 qz45
                  refine And.intro (And.intro (by first | exact fi_ lz45 uz45 rfl | omega) (by first | exact fi_ ha5.1 ha5.2 rfl | omega)) (And.intro ?_ ?_)
                  · intro c46
                    refine And.intro (⟨by omega, by omega⟩) ?_
                    exact ⟨_, rfl, by omega⟩
                  · intro c47
                    refine And.intro (⟨by decide, by decide⟩) ?_
                    exact ⟨_, rfl, (by first | exact ⟨by decide, by decide⟩ | omega)⟩
            · intro c48
              refine And.intro ⟨rfl, by decide, by decide⟩ ?_
              refine And.intro ⟨rfl, by decide, by decide⟩ (fgetf fb_740_9 h0 hB0 ?_)
              intro z49 lz49 uz49 qz49
              refine fload rL_747_747_0_95_1_0 h0 hB0 (by omega) ?_
              intro z50 lz50 uz50 qz50
              refine And.intro (And.intro (by first | exact fi_ lz50 uz50 rfl | omega) (by first | exact fi_ ha3.1 ha3.2 rfl | omega)) (And.intro ?_ ?_)
              · intro c51
                refine And.intro (by omega) (And.intro ?_ ?_)
                · intro c52
                  refine And.intro (⟨by omega, by omega⟩) ?_
                  exact ⟨_, rfl, by omega⟩
                · intro c53
                  refine And.intro (by first | exact fi_ ha5.1 ha5.2 rfl | omega) (And.intro ?_ ?_)
                  · intro c54
                    refine And.intro (⟨by decide, by decide⟩) ?_
                    exact ⟨_, rfl, (by first | exact ⟨by decide, by decide⟩ | omega)⟩
                  · intro c55
                    refine And.intro ⟨rfl, by decide, by decide⟩ ?_
                    refine And.intro ⟨rfl, by decide, by decide⟩ (fgetf fb_740_9 h0 hB0 ?_)
                    intro z56 lz56 uz56 qz56
                    refine fload rL_747_747_0_95_1_0 h0 hB0 (by omega) ?_
                    intro z57 lz57 uz57 qz57
                    refine And.intro (And.intro (by first | exact fi_ lz57 uz57 rfl | omega) (by first | exact fi_ ha5.1 ha5.2 rfl | omega)) (And.intro ?_ ?_)
                    · intro c58
                      refine And.intro (⟨by omega, by omega⟩) ?_
                      exact ⟨_, rfl, by omega⟩
                    · intro c59
                      refine And.intro (⟨by decide, by decide⟩) ?_
                      exact ⟨_, rfl, (by first | exact ⟨by decide, by decide⟩ | omega)⟩
              · intro c60
                refine And.intro ⟨rfl, by decide, by decide⟩ ?_
                refine And.intro ⟨rfl, by decide, by decide⟩ (fgetf fb_740_9 h0 hB0 ?_)
                intro z61 lz61 uz61 qz61
                refine fload rL_747_747_0_95_1_0 h0 hB0 (by omega) ?_
                intro z62 lz62 uz62 qz62
                refine And.intro (And.intro (by first | exact fi_ lz62 uz62 rfl | omega) (by first | exact fi_ ha4.1 ha4.2 rfl | omega)) (And.intro ?_ ?_)
                · intro c63
                  refine And.intro (by omega) (And.intro ?_ ?_)
                  · intro c64
                    refine And.intro (⟨by omega, by omega⟩) ?_
                    exact ⟨_, rfl, by omega⟩
                  · intro c65
                    refine And.intro (by first | exact fi_ ha5.1 ha5.2 rfl | omega) (And.intro ?_ ?_)
                    · intro c66
                      refine And.intro (⟨by decide, by decide⟩) ?_
                      exact ⟨_, rfl, (by first | exact ⟨by decide, by decide⟩ | omega)⟩
                    · intro c67
                      refine And.intro ⟨rfl, by decide, by decide⟩ ?_
                      refine And.intro ⟨rfl, by decide, by decide⟩ (fgetf fb_740_9 h0 hB0 ?_)
                      intro z68 lz68 uz68 qz68
                      refine fload rL_747_747_0_95_1_0 h0 hB0 (by omega) ?_
                      intro z69 lz69 uz69 qz69
                      refine And.intro (And.intro (by first | exact fi_ lz69 uz69 rfl | omega) (by first | exact fi_ ha5.1 ha5.2 rfl | omega)) (And.intro ?_ ?_)
                      · intro c70
                        refine And.intro (⟨by omega, by omega⟩) ?_
                        exact ⟨_, rfl, by omega⟩
                      · intro c71
                        refine And.intro (⟨by decide, by decide⟩) ?_
                        exact ⟨_, rfl, (by first | exact ⟨by decide, by decide⟩ | omega)⟩
                · intro c72
                  refine And.intro (by first | exact ⟨by decide, by decide⟩ | omega) (And.intro ?_ ?_)
                  · intro c73
                    refine And.intro (⟨by omega, by omega⟩) ?_
                    exact ⟨_, rfl, by omega⟩
                  · intro c74
                    refine And.intro (by first | exact fi_ ha5.1 ha5.2 rfl | omega) (And.intro ?_ ?_)
                    · intro c75
                      refine And.intro (⟨by decide, by decide⟩) ?_
                      exact ⟨_, rfl, (by first | exact ⟨by decide, by decide⟩ | omega)⟩
                    · intro c76
                      refine And.intro ⟨rfl, by decide, by decide⟩ ?_
                      refine And.intro ⟨rfl, by decide, by decide⟩ (fgetf fb_740_9 h0 hB0 ?_)
                      intro z77 lz77 uz77 qz77
                      refine fload rL_747_747_0_95_1_0 h0 hB0 (by omega) ?_
                      intro z78 lz78 uz78 qz78
                      refine And.intro (And.intro (by first | exact fi_ lz78 uz78 rfl | omega) (by first | exact fi_ ha5.1 ha5.2 rfl | omega)) (And.intro ?_ ?_)
                      · intro c79
                        refine And.intro (⟨by omega, by omega⟩) ?_
                        exact ⟨_, rfl, by omega⟩
                      · intro c80
                        refine And.intro (⟨by decide, by decide⟩) ?_
                        exact ⟨_, rfl, (by first | exact ⟨by decide, by decide⟩ | omega)⟩
    · intro c81
      refine And.intro ⟨rfl, by decide, by decide⟩ (fgetf fb_740_11 h0 hB0 ?_)
      intro z82 lz82 uz82 qz82
      refine And.intro (And.intro (by first | exact fi_ lz82 uz82 rfl | omega) (by first | exact ⟨by decide, by decide⟩ | omega)) (And.intro ?_ ?_)
      · intro c83
        refine And.intro (by omega) (And.intro ?_ ?_)
        · intro c84
          refine And.intro (⟨by omega, by omega⟩) ?_
          exact ⟨_, rfl, by omega⟩
        · intro c85
          refine And.intro (by first | exact fi_ ha5.1 (Int.le_trans (Int.le_of_eq c81) (Int.le_refl _)) rfl | omega) (And.intro ?_ ?_)
          · intro c86
            refine And.intro (⟨by decide, by decide⟩) ?_
            exact ⟨_, rfl, (by first | exact ⟨by decide, by decide⟩ | omega)⟩
          · intro c87
            refine And.intro ⟨rfl, by decide, by decide⟩ ?_
            refine And.intro ⟨rfl, by decide, by decide⟩ (fgetf fb_740_9 h0 hB0 ?_)
            intro z88 lz88 uz88 qz88
            refine fload rL_747_747_0_95_1_0 h0 hB0 (by omega) ?_
            intro z89 lz89 uz89 qz89
            refine And.intro (And.intro (by first | exact fi_ lz89 uz89 rfl | omega) (by first | exact fi_ ha5.1 (Int.le_trans (Int.le_of_eq c81) (Int.le_refl _)) rfl | omega)) (And.intro ?_ ?_)
            · intro c90
              refine And.intro (⟨by omega, by omega⟩) ?_
              exact ⟨_, rfl, by omega⟩
            · intro c91
              refine And.intro (⟨by decide, by decide⟩) ?_
              exact ⟨_, rfl, (by first | exact ⟨by decide, by decide⟩ | omega)⟩
      · intro c92
        refine And.intro ⟨rfl, by decide, by decide⟩ (fgetf fb_740_10 h0 hB0 ?_)
        intro z93 lz93 uz93 qz93
        refine And.intro ⟨rfl, by decide, by decide⟩ (fgetf fb_740_9 h0 hB0 ?_)
        intro z94 lz94 uz94 qz94
        refine And.intro (by omega) (And.intro ?_ ?_)
        · intro c95
          refine And.intro (by omega) (And.intro ?_ ?_)
          · intro c96
            refine And.intro (⟨by omega, by omega⟩) ?_
            exact ⟨_, rfl, by omega⟩
          · intro c97
            refine And.intro (by first | exact fi_ ha5.1 (Int.le_trans (Int.le_of_eq c81) (Int.le_refl _)) rfl | omega) (And.intro ?_ ?_)
            · intro c98
              refine And.intro (⟨by decide, by decide⟩) ?_
              exact ⟨_, rfl, (by first | exact ⟨by decide, by decide⟩ | omega)⟩
            · intro c99
              refine And.intro ⟨rfl, by decide, by decide⟩ ?_
              refine And.intro ⟨rfl, by decide, by decide⟩ (fgetf fb_740_9 h0 hB0 ?_)
              intro z100 lz100 uz100 qz100
              refine fload rL_747_747_0_95_1_0 h0 hB0 (by omega) ?_
              intro z101 lz101 uz101 qz101
              refine And.intro (And.intro (by first | exact fi_ lz101 uz101 rfl | omega) (by first | exact fi_ ha5.1 (Int.le_trans (Int.le_of_eq c81) (Int.le_refl _)) rfl | omega)) (And.intro ?_ ?_)
              · intro c102
                refine And.intro (⟨by omega, by omega⟩) ?_
                exact ⟨_, rfl, by omega⟩
              · intro c103
                refine And.intro (⟨by decide, by decide⟩) ?_
                exact ⟨_, rfl, (by first | exact ⟨by decide, by decide⟩ | omega)⟩
        · intro c104
          refine And.intro ⟨rfl, by decide, by decide⟩ ?_
          refine And.intro ⟨rfl, by decide, by decide⟩ (fgetf fb_740_9 h0 hB0 ?_)
          intro z105 lz105 uz105 qz105
          refine fload rL_747_747_0_95_1_0 h0 hB0 (by omega) ?_
          intro z106 lz106 uz106 qz106
          refine And.intro (And.intro (by first | exact fi_ lz106 uz106 rfl | omega) (by first | exact fi_ ha1.1 ha1.2 rfl | omega)) (And.intro ?_ ?_)
          · intro c107
            refine And.intro (by omega) (And.intro ?_ ?_)
            · intro c108
              refine And.intro (⟨by omega, by omega⟩) ?_
              exact ⟨_, rfl, by omega⟩
            · intro c109
              refine And.intro (by first | exact fi_ ha5.1 (Int.le_trans (Int.le_of_eq c81) (Int.le_refl _)) rfl | omega) (And.intro ?_ ?_)
              · intro c110
                refine And.intro (⟨by decide, by decide⟩) ?_
                exact ⟨_, rfl, (by first | exact ⟨by decide, by decide⟩ | omega)⟩
              · intro c111
                refine And.intro ⟨rfl, by decide, by decide⟩ ?_
                refine And.intro ⟨rfl, by decide, by decide⟩ (fgetf fb_740_9 h0 hB0 ?_)
                intro z112 lz112 uz112 qz112
                refine fload rL_747_747_0_95_1_0 h0 hB0 (by omega) ?_
                intro z113 lz113 uz113 qz113
                refine And.intro (And.intro (by first | exact fi_ lz113 uz113 rfl | omega) (by first | exact fi_ ha5.1 (Int.le_trans (Int.le_of_eq c81) (Int.le_refl _)) rfl | omega)) (And.intro ?_ ?_)
                · intro c114
                  refine And.intro (⟨by omega, by omega⟩) ?_
                  exact ⟨_, rfl, by omega⟩
                · intro c115
                  refine And.intro (⟨by decide, by decide⟩) ?_
                  exact ⟨_, rfl, (by first | exact ⟨by decide, by decide⟩ | omega)⟩
          · intro c116
            refine And.intro ⟨rfl, by decide, by decide⟩ ?_
            refine And.intro ⟨rfl, by decide, by decide⟩ (fgetf fb_740_9 h0 hB0 ?_)
            intro z117 lz117 uz117 qz117
            refine fload rL_747_747_0_95_1_0 h0 hB0 (by omega) ?_
            intro z118 lz118 uz118 qz118
            refine And.intro (And.intro (by first | exact fi_ lz118 uz118 rfl | omega) (by first | exact fi_ ha2.1 ha2.2 rfl | omega)) (And.intro ?_ ?_)
            · intro c119
              refine And.intro (by omega) (And.intro ?_ ?_)
              · intro c120
                refine And.intro (⟨by omega, by omega⟩) ?_
                exact ⟨_, rfl, by omega⟩
              · intro c121
                refine And.intro (by first | exact fi_ ha5.1 (Int.le_trans (Int.le_of_eq c81) (Int.le_refl _)) rfl | omega) (And.intro ?_ ?_)
                · intro c122
                  refine And.intro (⟨by decide, by decide⟩) ?_
                  exact ⟨_, rfl, (by first | exact ⟨by decide, by decide⟩ | omega)⟩
                · intro c123
                  refine And.intro ⟨rfl, by decide, by decide⟩ ?_
                  refine And.intro ⟨rfl, by decide, by decide⟩ (fgetf fb_740_9 h0 hB0 ?_)
                  intro z124 lz124 uz124 qz124
                  refine fload rL_747_747_0_95_1_0 h0 hB0 (by omega) ?_
                  intro z125 lz125 uz125 qz125
                  refine And.intro (And.intro (by first | exact fi_ lz125 uz125 rfl | omega) (by first | exact fi_ ha5.1 (Int.le_trans (Int.le_of_eq c81) (Int.le_refl _)) rfl | omega)) (And.intro ?_ ?_)
                  · intro c126
                    refine And.intro (⟨by omega, by omega⟩) ?_
                    exact ⟨_, rfl, by omega⟩
                  · intro c127
                    refine And.intro (⟨by decide, by decide⟩) ?_
                    exact ⟨_, rfl, (by first | exact ⟨by decide, by decide⟩ | omega)⟩
            · intro c128
              refine And.intro ⟨rfl, by decide, by decide⟩ ?_
              refine And.intro ⟨rfl, by decide, by decide⟩ (fgetf fb_740_9 h0 hB0 ?_)
              intro z129 lz129 uz129 qz129
              refine fload rL_747_747_0_95_1_0 h0 hB0 (by omega) ?_
              intro z130 lz130 uz130 qz130
              refine And.intro (And.intro (by first | exact fi_ lz130 uz130 rfl | omega) (by first | exact fi_ ha3.1 ha3.2 rfl | omega)) (And.intro ?_ ?_)
              · intro c131
                refine And.intro (by omega) (And.intro ?_ ?_)
                · intro c132
                  refine And.intro (⟨by omega, by omega⟩) ?_
                  exact ⟨_, rfl, by omega⟩
                · intro c133
                  refine And.intro (by first | exact fi_ ha5.1 (Int.le_trans (Int.le_of_eq c81) (Int.le_refl _)) rfl | omega) (And.intro ?_ ?_)
                  · intro c134
                    refine And.intro (⟨by decide, by decide⟩) ?_
                    exact ⟨_, rfl, (by first | exact ⟨by decide, by decide⟩ | omega)⟩
                  · intro c135
                    refine And.intro ⟨rfl, by decide, by decide⟩ ?_
                    refine And.intro ⟨rfl, by decide, by decide⟩ (fgetf fb_740_9 h0 hB0 ?_)
                    intro z136 lz136 uz136 qz136
                    refine fload rL_747_747_0_95_1_0 h0 hB0 (by omega) ?_
                    intro z137 lz137 uz137 qz137
                    refine And.intro (And.intro (by first | exact fi_ lz137 uz137 rfl | omega) (by first | exact fi_ ha5.1 (Int.le_trans (Int.le_of_eq c81) (Int.le_refl _)) rfl | omega)) (And.intro ?_ ?_)
                    · intro c138
                      refine And.intro (⟨by omega, by omega⟩) ?_
                      exact ⟨_, rfl, by omega⟩
                    · intro c139
                      refine And.intro (⟨by decide, by decide⟩) ?_
                      exact ⟨_, rfl, (by first | exact ⟨by decide, by decide⟩ | omega)⟩
              · intro c140
                refine And.intro ⟨rfl, by decide, by decide⟩ ?_
                refine And.intro ⟨rfl, by decide, by decide⟩ (fgetf fb_740_9 h0 hB0 ?_)
                intro z141 lz141 uz141 qz141
                refine fload rL_747_747_0_95_1_0 h0 hB0 (by omega) ?_
                intro z142 lz142 uz142 qz142
                refine And.intro (And.intro (by first | exact fi_ lz142 uz142 rfl | omega) (by first | exact fi_ ha4.1 ha4.2 rfl | omega)) (And.intro ?_ ?_)
                · intro c143
                  refine And.intro (by omega) (And.intro ?_ ?_)
                  · intro c144
                    refine And.intro (⟨by omega, by omega⟩) ?_
                    exact ⟨_, rfl, by omega⟩
                  · intro c145
                    refine And.intro (by first | exact fi_ ha5.1 (Int.le_trans (Int.le_of_eq c81) (Int.le_refl _)) rfl | omega) (And.intro ?_ ?_)
                    · intro c146
                      refine And.intro (⟨by decide, by decide⟩) ?_
                      exact ⟨_, rfl, (by first | exact ⟨by decide, by decide⟩ | omega)⟩
                    · intro c147
                      refine And.intro ⟨rfl, by decide, by decide⟩ ?_
                      refine And.intro ⟨rfl, by decide, by decide⟩ (fgetf fb_740_9 h0 hB0 ?_)
                      intro z148 lz148 uz148 qz148
                      refine fload rL_747_747_0_95_1_0 h0 hB0 (by omega) ?_
                      intro z149 lz149 uz149 qz149
                      refine And.intro (And.intro (by first | exact fi_ lz149 uz149 rfl | omega) (by first | exact fi_ ha5.1 (Int.le_trans (Int.le_of_eq c81) (Int.le_refl _)) rfl | omega)) (And.intro ?_ ?_)
                      · intro c150
                        refine And.intro (⟨by omega, by omega⟩) ?_
                        exact ⟨_, rfl, by omega⟩
                      · intro c151
                        refine And.intro (⟨by decide, by decide⟩) ?_
                        exact ⟨_, rfl, (by first | exact ⟨by decide, by decide⟩ | omega)⟩
                · intro c152
                  refine And.intro (by first | exact ⟨by decide, by decide⟩ | omega) (And.intro ?_ ?_)
                  · intro c153
                    refine And.intro (⟨by omega, by omega⟩) ?_
                    exact ⟨_, rfl, by omega⟩
                  · intro c154
                    refine And.intro (by first | exact fi_ ha5.1 (Int.le_trans (Int.le_of_eq c81) (Int.le_refl _)) rfl | omega) (And.intro ?_ ?_)
                    · intro c155
                      refine And.intro (⟨by decide, by decide⟩) ?_
                      exact ⟨_, rfl, (by first | exact ⟨by decide, by decide⟩ | omega)⟩
                    · intro c156
                      refine And.intro ⟨rfl, by decide, by decide⟩ ?_
                      refine And.intro ⟨rfl, by decide, by decide⟩ (fgetf fb_740_9 h0 hB0 ?_)
                      intro z157 lz157 uz157 qz157
                      refine fload rL_747_747_0_95_1_0 h0 hB0 (by omega) ?_
                      intro z158 lz158 uz158 qz158
                      refine And.intro (And.intro (by first | exact fi_ lz158 uz158 rfl | omega) (by first | exact fi_ ha5.1 (Int.le_trans (Int.le_of_eq c81) (Int.le_refl _)) rfl | omega)) (And.intro ?_ ?_)
                      · intro c159
                        refine And.intro (⟨by omega, by omega⟩) ?_
                        exact ⟨_, rfl, by omega⟩
                      · intro c160
                        refine And.intro (⟨by decide, by decide⟩) ?_
                        exact ⟨_, rfl, (by first | exact ⟨by decide, by decide⟩ | omega)⟩
set_option maxRecDepth 8000 in
theorem ct_M_key_09703 {I : fH}  (h0 : fB bsJ I) (hp0 : I 740 9 ≤ I 740 10 ∧ I 740 10 ≤ 96) : fC ρ base n F xTc vwCl xTys D dA la gJ (fbz bsJ znJ (fKc []) I) xm_317 [.inr (.inr (some 740))] I (fun _ r => ∃ z, r = some (.inl z) ∧ ((-1) ≤ z ∧ z ≤ 5)) := by
  have hW : fzs [] (fKc []) := fKc_ok _
  refine f_meth (rb := rbJ) (J := []) 1 400 xG xin_317 x6_317 okJ (fB_self h0) ?_ ?_
  · exact fun q h => absurd h List.not_mem_nil
  · have hB0 := fB_self (zn := znJ) (K := fKc []) h0
    refine Exists.intro xm_318 (And.intro mi_318 (And.intro ⟨rfl, rfl, rfl, rfl⟩ (And.intro rfl ?_)))
    refine fcallp hB0 (ct_M_isWordAt_4e115 (fBz h0 hB0) (by first | exact ⟨by decide, by decide⟩ | omega) (by first | exact ⟨by decide, by decide⟩ | omega) (by first | exact ⟨by decide, by decide⟩ | omega) (by first | exact ⟨by decide, by decide⟩ | omega) (by first | exact ⟨by decide, by decide⟩ | omega) (by omega)) ?_
    rintro _ ⟨z1, rfl, hz1⟩
    refine And.intro (by omega) (And.intro ?_ ?_)
    · intro c2
      refine Exists.intro xm_318 (And.intro mi_318 (And.intro ⟨rfl, rfl, rfl, rfl⟩ (And.intro rfl ?_)))
      refine fcallp hB0 (ct_M_isWordAt_4e115 (fBz h0 hB0) (by first | exact ⟨by decide, by decide⟩ | omega) (by first | exact ⟨by decide, by decide⟩ | omega) (by first | exact ⟨by decide, by decide⟩ | omega) (by first | exact ⟨by decide, by decide⟩ | omega) (by first | exact ⟨by decide, by decide⟩ | omega) (by omega)) ?_
      rintro _ ⟨z3, rfl, hz3⟩
      refine And.intro (by omega) (And.intro ?_ ?_)
      · intro c4
        refine Exists.intro xm_318 (And.intro mi_318 (And.intro ⟨rfl, rfl, rfl, rfl⟩ (And.intro rfl ?_)))
        refine fcallp hB0 (ct_M_isWordAt_4e115 (fBz h0 hB0) (by first | exact ⟨by decide, by decide⟩ | omega) (by first | exact ⟨by decide, by decide⟩ | omega) (by first | exact ⟨by decide, by decide⟩ | omega) (by first | exact ⟨by decide, by decide⟩ | omega) (by first | exact ⟨by decide, by decide⟩ | omega) (by omega)) ?_
        rintro _ ⟨z5, rfl, hz5⟩
        refine And.intro (by omega) (And.intro ?_ ?_)
        · intro c6
          refine Exists.intro xm_318 (And.intro mi_318 (And.intro ⟨rfl, rfl, rfl, rfl⟩ (And.intro rfl ?_)))
          refine fcallp hB0 (ct_M_isWordAt_4e115 (fBz h0 hB0) (by first | exact ⟨by decide, by decide⟩ | omega) (by first | exact ⟨by decide, by decide⟩ | omega) (by first | exact ⟨by decide, by decide⟩ | omega) (by first | exact ⟨by decide, by decide⟩ | omega) (by first | exact ⟨by decide, by decide⟩ | omega) (by omega)) ?_
          rintro _ ⟨z7, rfl, hz7⟩
          refine And.intro (by omega) (And.intro ?_ ?_)
          · intro c8
            refine Exists.intro xm_318 (And.intro mi_318 (And.intro ⟨rfl, rfl, rfl, rfl⟩ (And.intro rfl ?_)))
            refine fcallp hB0 (ct_M_isWordAt_4e115 (fBz h0 hB0) (by first | exact ⟨by decide, by decide⟩ | omega) (by first | exact ⟨by decide, by decide⟩ | omega) (by first | exact ⟨by decide, by decide⟩ | omega) (by first | exact ⟨by decide, by decide⟩ | omega) (by first | exact ⟨by decide, by decide⟩ | omega) (by omega)) ?_
            rintro _ ⟨z9, rfl, hz9⟩
            refine And.intro (by omega) (And.intro ?_ ?_)
            · intro c10
              refine Exists.intro xm_318 (And.intro mi_318 (And.intro ⟨rfl, rfl, rfl, rfl⟩ (And.intro rfl ?_)))
              refine fcallp hB0 (ct_M_isWordAt_4e115 (fBz h0 hB0) (by first | exact ⟨by decide, by decide⟩ | omega) (by first | exact ⟨by decide, by decide⟩ | omega) (by first | exact ⟨by decide, by decide⟩ | omega) (by first | exact ⟨by decide, by decide⟩ | omega) (by first | exact ⟨by decide, by decide⟩ | omega) (by omega)) ?_
              rintro _ ⟨z11, rfl, hz11⟩
              refine And.intro (by omega) (And.intro ?_ ?_)
              · intro c12
                refine And.intro (True.intro) ?_
                exact ⟨_, rfl, by omega⟩
              · intro c13
                refine And.intro (True.intro) ?_
                exact ⟨_, rfl, (by first | exact ⟨by decide, by decide⟩ | omega)⟩
            · intro c14
              refine And.intro (True.intro) ?_
              exact ⟨_, rfl, (by first | exact ⟨by decide, by decide⟩ | omega)⟩
          · intro c15
            refine And.intro (True.intro) ?_
            exact ⟨_, rfl, (by first | exact ⟨by decide, by decide⟩ | omega)⟩
        · intro c16
          refine And.intro (True.intro) ?_
          exact ⟨_, rfl, (by first | exact ⟨by decide, by decide⟩ | omega)⟩
      · intro c17
        refine And.intro (True.intro) ?_
        exact ⟨_, rfl, (by first | exact ⟨by decide, by decide⟩ | omega)⟩
    · intro c18
      refine And.intro (True.intro) ?_
      exact ⟨_, rfl, (by first | exact ⟨by decide, by decide⟩ | omega)⟩
set_option maxRecDepth 8000 in
theorem ct_M_parse_ea878 {I : fH}  (h0 : fB bsJ I)  : fC ρ base n F xTc vwCl xTys D dA la gJ (fbz bsJ znJ (fKc wz_d066b) I) xm_313 [.inr (.inr (some 740))] I (fun I' r => ∃ z, r = some (.inl z) ∧ (((-1) ≤ z ∧ z ≤ 5) ∧ (I' 740 8 = 0)) ∧ ((I 741 9 < 12 → sBe I I' (1215 + 200 * I 741 9) 0) ∧ (12 ≤ I 741 9 → sBe I I' 4700 0)) ∧ (0 ≤ z → I 741 9 < 12 → sOne I' (1215 + 200 * I 741 9) 0 (I' 740 16))) := by
  have hW : fzs wz_d066b (fKc wz_d066b) := fKc_ok _
  refine f_meth (rb := rbJ) (J := []) 1 400 xG xin_313 x6_313 okJ (fB_self h0) ?_ ?_
  · exact fun q h => absurd h List.not_mem_nil
  · have hB0 := fB_self (zn := znJ) (K := fKc wz_d066b) h0
    have b1 := fBd fb_740_8 (fBz h0 hB0)
    have b2 := fBd fb_741_9 (fBz h0 hB0)
    refine And.intro ⟨rfl, by decide, by decide⟩ (And.intro rfl (And.intro (Or.inl rfl) (fputf fb_740_10 (by decide +kernel) hW (by first | exact ⟨by decide, by decide⟩ | omega) ?_)))
    intro IhB3 ehB3 hB3
    have t4 : IhB3 740 8 = I 740 8 := (congrFun (congrFun ehB3 740) 8).trans (fup_ne (by first | decide | omega))
    have t5 : IhB3 740 9 = I 740 9 := (congrFun (congrFun ehB3 740) 9).trans (fup_ne (by first | decide | omega))
    have t6 := fup_at ehB3 10 (by first | rfl | omega)
    have t7 : IhB3 740 11 = I 740 11 := (congrFun (congrFun ehB3 740) 11).trans (fup_ne (by first | decide | omega))
    have t8 : IhB3 740 14 = I 740 14 := (congrFun (congrFun ehB3 740) 14).trans (fup_ne (by first | decide | omega))
    have t9 : IhB3 740 15 = I 740 15 := (congrFun (congrFun ehB3 740) 15).trans (fup_ne (by first | decide | omega))
    have t10 : IhB3 740 16 = I 740 16 := (congrFun (congrFun ehB3 740) 16).trans (fup_ne (by first | decide | omega))
    have t11 : IhB3 740 17 = I 740 17 := (congrFun (congrFun ehB3 740) 17).trans (fup_ne (by first | decide | omega))
    have t12 : IhB3 741 9 = I 741 9 := (congrFun (congrFun ehB3 741) 9).trans (fup_ne (by first | decide | omega))
    have k13 := fBz_eq hB3 (a := 741) (j := 9) (by decide +kernel)
    refine And.intro ⟨rfl, by decide, by decide⟩ (And.intro rfl (And.intro (Or.inl rfl) (fputf fb_740_11 (by decide +kernel) hW (by first | exact ⟨by decide, by decide⟩ | omega) ?_)))
    intro IhB14 ehB14 hB14
    have t15 : IhB14 740 8 = IhB3 740 8 := (congrFun (congrFun ehB14 740) 8).trans (fup_ne (by first | decide | omega))
    have t16 : IhB14 740 9 = IhB3 740 9 := (congrFun (congrFun ehB14 740) 9).trans (fup_ne (by first | decide | omega))
    have t17 : IhB14 740 10 = IhB3 740 10 := (congrFun (congrFun ehB14 740) 10).trans (fup_ne (by first | decide | omega))
    have t18 := fup_at ehB14 11 (by first | rfl | omega)
    have t19 : IhB14 740 14 = IhB3 740 14 := (congrFun (congrFun ehB14 740) 14).trans (fup_ne (by first | decide | omega))
    have t20 : IhB14 740 15 = IhB3 740 15 := (congrFun (congrFun ehB14 740) 15).trans (fup_ne (by first | decide | omega))
    have t21 : IhB14 740 16 = IhB3 740 16 := (congrFun (congrFun ehB14 740) 16).trans (fup_ne (by first | decide | omega))
    have t22 : IhB14 740 17 = IhB3 740 17 := (congrFun (congrFun ehB14 740) 17).trans (fup_ne (by first | decide | omega))
    have t23 : IhB14 741 9 = IhB3 741 9 := (congrFun (congrFun ehB14 741) 9).trans (fup_ne (by first | decide | omega))
    have k24 := fBz_eq hB14 (a := 741) (j := 9) (by decide +kernel)
    refine And.intro ⟨rfl, by decide, by decide⟩ (And.intro rfl (And.intro (Or.inl rfl) (fputf fb_740_14 (by decide +kernel) hW (by first | exact ⟨by decide, by decide⟩ | omega) ?_)))
    intro IhB25 ehB25 hB25
    have t26 : IhB25 740 8 = IhB14 740 8 := (congrFun (congrFun ehB25 740) 8).trans (fup_ne (by first | decide | omega))
    have t27 : IhB25 740 9 = IhB14 740 9 := (congrFun (congrFun ehB25 740) 9).trans (fup_ne (by first | decide | omega))
    have t28 : IhB25 740 10 = IhB14 740 10 := (congrFun (congrFun ehB25 740) 10).trans (fup_ne (by first | decide | omega))
    have t29 : IhB25 740 11 = IhB14 740 11 := (congrFun (congrFun ehB25 740) 11).trans (fup_ne (by first | decide | omega))
    have t30 := fup_at ehB25 14 (by first | rfl | omega)
    have t31 : IhB25 740 15 = IhB14 740 15 := (congrFun (congrFun ehB25 740) 15).trans (fup_ne (by first | decide | omega))
    have t32 : IhB25 740 16 = IhB14 740 16 := (congrFun (congrFun ehB25 740) 16).trans (fup_ne (by first | decide | omega))
    have t33 : IhB25 740 17 = IhB14 740 17 := (congrFun (congrFun ehB25 740) 17).trans (fup_ne (by first | decide | omega))
    have t34 : IhB25 741 9 = IhB14 741 9 := (congrFun (congrFun ehB25 741) 9).trans (fup_ne (by first | decide | omega))
    have k35 := fBz_eq hB25 (a := 741) (j := 9) (by decide +kernel)
    refine And.intro ⟨rfl, by decide, by decide⟩ (And.intro rfl (And.intro (Or.inl rfl) (fputf fb_740_15 (by decide +kernel) hW (by first | exact ⟨by decide, by decide⟩ | omega) ?_)))
    intro IhB36 ehB36 hB36
    have t37 : IhB36 740 8 = IhB25 740 8 := (congrFun (congrFun ehB36 740) 8).trans (fup_ne (by first | decide | omega))
    have t38 : IhB36 740 9 = IhB25 740 9 := (congrFun (congrFun ehB36 740) 9).trans (fup_ne (by first | decide | omega))
    have t39 : IhB36 740 10 = IhB25 740 10 := (congrFun (congrFun ehB36 740) 10).trans (fup_ne (by first | decide | omega))
    have t40 : IhB36 740 11 = IhB25 740 11 := (congrFun (congrFun ehB36 740) 11).trans (fup_ne (by first | decide | omega))
    have t41 : IhB36 740 14 = IhB25 740 14 := (congrFun (congrFun ehB36 740) 14).trans (fup_ne (by first | decide | omega))
    have t42 := fup_at ehB36 15 (by first | rfl | omega)
    have t43 : IhB36 740 16 = IhB25 740 16 := (congrFun (congrFun ehB36 740) 16).trans (fup_ne (by first | decide | omega))
    have t44 : IhB36 740 17 = IhB25 740 17 := (congrFun (congrFun ehB36 740) 17).trans (fup_ne (by first | decide | omega))
    have t45 : IhB36 741 9 = IhB25 741 9 := (congrFun (congrFun ehB36 741) 9).trans (fup_ne (by first | decide | omega))
    have k46 := fBz_eq hB36 (a := 741) (j := 9) (by decide +kernel)
    refine And.intro ⟨rfl, by decide, by decide⟩ (And.intro rfl (And.intro (Or.inl rfl) (fputf fb_740_16 (by decide +kernel) hW (by first | exact ⟨by decide, by decide⟩ | omega) ?_)))
    intro IhB47 ehB47 hB47
    have t48 : IhB47 740 8 = IhB36 740 8 := (congrFun (congrFun ehB47 740) 8).trans (fup_ne (by first | decide | omega))
    have t49 : IhB47 740 9 = IhB36 740 9 := (congrFun (congrFun ehB47 740) 9).trans (fup_ne (by first | decide | omega))
    have t50 : IhB47 740 10 = IhB36 740 10 := (congrFun (congrFun ehB47 740) 10).trans (fup_ne (by first | decide | omega))
    have t51 : IhB47 740 11 = IhB36 740 11 := (congrFun (congrFun ehB47 740) 11).trans (fup_ne (by first | decide | omega))
    have t52 : IhB47 740 14 = IhB36 740 14 := (congrFun (congrFun ehB47 740) 14).trans (fup_ne (by first | decide | omega))
    have t53 : IhB47 740 15 = IhB36 740 15 := (congrFun (congrFun ehB47 740) 15).trans (fup_ne (by first | decide | omega))
    have t54 := fup_at ehB47 16 (by first | rfl | omega)
    have t55 : IhB47 740 17 = IhB36 740 17 := (congrFun (congrFun ehB47 740) 17).trans (fup_ne (by first | decide | omega))
    have t56 : IhB47 741 9 = IhB36 741 9 := (congrFun (congrFun ehB47 741) 9).trans (fup_ne (by first | decide | omega))
    have k57 := fBz_eq hB47 (a := 741) (j := 9) (by decide +kernel)
    refine And.intro ⟨rfl, by decide, by decide⟩ (And.intro rfl (And.intro (Or.inl rfl) (fputf fb_740_18 (by decide +kernel) hW (by first | exact ⟨by decide, by decide⟩ | omega) ?_)))
    intro IhB58 ehB58 hB58
    have t59 : IhB58 740 8 = IhB47 740 8 := (congrFun (congrFun ehB58 740) 8).trans (fup_ne (by first | decide | omega))
    have t60 : IhB58 740 9 = IhB47 740 9 := (congrFun (congrFun ehB58 740) 9).trans (fup_ne (by first | decide | omega))
    have t61 : IhB58 740 10 = IhB47 740 10 := (congrFun (congrFun ehB58 740) 10).trans (fup_ne (by first | decide | omega))
    have t62 : IhB58 740 11 = IhB47 740 11 := (congrFun (congrFun ehB58 740) 11).trans (fup_ne (by first | decide | omega))
    have t63 : IhB58 740 14 = IhB47 740 14 := (congrFun (congrFun ehB58 740) 14).trans (fup_ne (by first | decide | omega))
    have t64 : IhB58 740 15 = IhB47 740 15 := (congrFun (congrFun ehB58 740) 15).trans (fup_ne (by first | decide | omega))
    have t65 : IhB58 740 16 = IhB47 740 16 := (congrFun (congrFun ehB58 740) 16).trans (fup_ne (by first | decide | omega))
    have t66 : IhB58 740 17 = IhB47 740 17 := (congrFun (congrFun ehB58 740) 17).trans (fup_ne (by first | decide | omega))
    have t67 := fup_at ehB58 18 (by first | rfl | omega)
    have t68 : IhB58 741 9 = IhB47 741 9 := (congrFun (congrFun ehB58 741) 9).trans (fup_ne (by first | decide | omega))
    have k69 := fBz_eq hB58 (a := 741) (j := 9) (by decide +kernel)
    refine And.intro ⟨rfl, by decide, by decide⟩ ?_
    refine fload1 rL_741_741_9_9_1_0 h0 hB58 ⟨by decide, by decide⟩ (by first | exact ⟨by decide, by decide⟩ | omega) ?_
    intro z70 lz70 uz70 qz70
    have pz70 := fld_at qz70 9 (by omega)
    refine And.intro (And.intro (by first | exact fi_ lz70 uz70 rfl | omega) (by first | exact ⟨by decide, by decide⟩ | omega)) (And.intro ?_ ?_)
    · intro c71
      refine And.intro ⟨rfl, by decide, by decide⟩ (And.intro rfl (And.intro (Or.inl rfl) (fputf fb_740_17 (by decide +kernel) hW (by omega) ?_)))
      intro IhB72 ehB72 hB72
      have t73 : IhB72 740 8 = IhB58 740 8 := (congrFun (congrFun ehB72 740) 8).trans (fup_ne (by first | decide | omega))
      have t74 : IhB72 740 9 = IhB58 740 9 := (congrFun (congrFun ehB72 740) 9).trans (fup_ne (by first | decide | omega))
      have t75 : IhB72 740 10 = IhB58 740 10 := (congrFun (congrFun ehB72 740) 10).trans (fup_ne (by first | decide | omega))
      have t76 : IhB72 740 11 = IhB58 740 11 := (congrFun (congrFun ehB72 740) 11).trans (fup_ne (by first | decide | omega))
      have t77 : IhB72 740 14 = IhB58 740 14 := (congrFun (congrFun ehB72 740) 14).trans (fup_ne (by first | decide | omega))
      have t78 : IhB72 740 15 = IhB58 740 15 := (congrFun (congrFun ehB72 740) 15).trans (fup_ne (by first | decide | omega))
      have t79 : IhB72 740 16 = IhB58 740 16 := (congrFun (congrFun ehB72 740) 16).trans (fup_ne (by first | decide | omega))
      have t80 := fup_at ehB72 17 (by first | rfl | omega)
      have t81 : IhB72 740 18 = IhB58 740 18 := (congrFun (congrFun ehB72 740) 18).trans (fup_ne (by first | decide | omega))
      have t82 : IhB72 741 9 = IhB58 741 9 := (congrFun (congrFun ehB72 741) 9).trans (fup_ne (by first | decide | omega))
      have k83 := fBz_eq hB72 (a := 741) (j := 9) (by decide +kernel)
      refine Exists.intro xm_314 (And.intro mi_314 (And.intro ⟨rfl, rfl, rfl, rfl⟩ (And.intro rfl ?_)))
      refine fcall _ h0 (fzs_sub (by decide +kernel) hW) hB72 (ct_M_next_c8003 (fBz h0 hB72) (by omega)) ?_
      rintro IhB85 _ hB85 fhB85 ⟨rfl, hz84⟩
      have t86 := fhB85 740 8 (by decide +kernel)
      have t87 := fhB85 740 14 (by decide +kernel)
      have t88 := fhB85 740 15 (by decide +kernel)
      have t89 := fhB85 740 16 (by decide +kernel)
      have t90 := fhB85 740 17 (by decide +kernel)
      have t91 := fhB85 740 18 (by decide +kernel)
      have t92 := fhB85 741 9 (by decide +kernel)
      have k93 := fBz_eq hB85 (a := 741) (j := 9) (by decide +kernel)
      refine Exists.intro xm_317 (And.intro mi_317 (And.intro ⟨rfl, rfl, rfl, rfl⟩ (And.intro rfl ?_)))
      refine fcallp hB85 (ct_M_key_09703 (fBz h0 hB85) (by omega)) ?_
      rintro _ ⟨z94, rfl, hz94⟩
      refine And.intro (by first | exact fi_ hz94.1 hz94.2 rfl | omega) (And.intro ?_ ?_)
      · intro c95
        refine And.intro (by omega) (And.intro ?_ ?_)
        · intro c96
          refine And.intro ⟨rfl, by decide, by decide⟩ (And.intro rfl (And.intro (Or.inl rfl) (fputf fb_740_8 (by decide +kernel) hW (by first | exact ⟨by decide, by decide⟩ | omega) ?_)))
          intro IhB97 ehB97 hB97
          have t98 := fup_at ehB97 8 (by first | rfl | omega)
          have t99 : IhB97 740 9 = IhB85 740 9 := (congrFun (congrFun ehB97 740) 9).trans (fup_ne (by first | decide | omega))
          have t100 : IhB97 740 10 = IhB85 740 10 := (congrFun (congrFun ehB97 740) 10).trans (fup_ne (by first | decide | omega))
          have t101 : IhB97 740 11 = IhB85 740 11 := (congrFun (congrFun ehB97 740) 11).trans (fup_ne (by first | decide | omega))
          have t102 : IhB97 740 14 = IhB85 740 14 := (congrFun (congrFun ehB97 740) 14).trans (fup_ne (by first | decide | omega))
          have t103 : IhB97 740 15 = IhB85 740 15 := (congrFun (congrFun ehB97 740) 15).trans (fup_ne (by first | decide | omega))
          have t104 : IhB97 740 16 = IhB85 740 16 := (congrFun (congrFun ehB97 740) 16).trans (fup_ne (by first | decide | omega))
          have t105 : IhB97 740 17 = IhB85 740 17 := (congrFun (congrFun ehB97 740) 17).trans (fup_ne (by first | decide | omega))
          have t106 : IhB97 741 9 = IhB85 741 9 := (congrFun (congrFun ehB97 741) 9).trans (fup_ne (by first | decide | omega))
          have k107 := fBz_eq hB97 (a := 741) (j := 9) (by decide +kernel)
          refine And.intro (by omega) (And.intro ?_ ?_)
          · intro c108
            refine And.intro (True.intro) ?_
            exact ⟨_, rfl, by omega, (by first | exact ⟨fun hn j hj => (fup_other ehB97 741 j (Or.inl (by decide))).trans ((g0nil0 j (by omega)).trans ((fFr_S fnil0 (by decide +kernel) j).trans ((fFr_S fhB85 (by decide +kernel) j).trans (((fup_other ehB72 741 j (Or.inl (by decide))).trans ((fup_other ehB58 741 j (Or.inl (by decide))).trans ((fup_other ehB47 741 j (Or.inl (by decide))).trans ((fup_other ehB36 741 j (Or.inl (by decide))).trans ((fup_other ehB25 741 j (Or.inl (by decide))).trans ((fup_other ehB14 741 j (Or.inl (by decide))).trans (fup_other ehB3 741 j (Or.inl (by decide))))))))))))), fun hn j hj => (fup_other ehB97 741 j (Or.inl (by decide))).trans ((g0nil0 j (by omega)).trans ((fFr_S fnil0 (by decide +kernel) j).trans ((fFr_S fhB85 (by decide +kernel) j).trans (((fup_other ehB72 741 j (Or.inl (by decide))).trans ((fup_other ehB58 741 j (Or.inl (by decide))).trans ((fup_other ehB47 741 j (Or.inl (by decide))).trans ((fup_other ehB36 741 j (Or.inl (by decide))).trans ((fup_other ehB25 741 j (Or.inl (by decide))).trans ((fup_other ehB14 741 j (Or.inl (by decide))).trans (fup_other ehB3 741 j (Or.inl (by decide)))))))))))))⟩ | exact ⟨fun hn j hj => (fup_other ehB97 741 j (Or.inl (by decide))).trans ((fFr_S fhB85 (by decide +kernel) j).trans (((fup_other ehB72 741 j (Or.inl (by decide))).trans ((fup_other ehB58 741 j (Or.inl (by decide))).trans ((fup_other ehB47 741 j (Or.inl (by decide))).trans ((fup_other ehB36 741 j (Or.inl (by decide))).trans ((fup_other ehB25 741 j (Or.inl (by decide))).trans ((fup_other ehB14 741 j (Or.inl (by decide))).trans (fup_other ehB3 741 j (Or.inl (by decide))))))))))), fun hn j hj => (fup_other ehB97 741 j (Or.inl (by decide))).trans ((fFr_S fhB85 (by decide +kernel) j).trans (((fup_other ehB72 741 j (Or.inl (by decide))).trans ((fup_other ehB58 741 j (Or.inl (by decide))).trans ((fup_other ehB47 741 j (Or.inl (by decide))).trans ((fup_other ehB36 741 j (Or.inl (by decide))).trans ((fup_other ehB25 741 j (Or.inl (by decide))).trans ((fup_other ehB14 741 j (Or.inl (by decide))).trans (fup_other ehB3 741 j (Or.inl (by decide)))))))))))⟩), (by first | exact (fun hz hn => sOne_to (sOne_be (by omega) (g1nil0 (by omega)) (fun j _ => (fup_other ehB97 741 j (Or.inl (by decide))))) (by omega) (by omega) (by omega)) | exact (fun hz => absurd hz (by omega)))⟩
          · intro c109
            refine And.intro (True.intro) ?_
            exact ⟨_, rfl, by omega, (by first | exact ⟨fun hn j hj => (fup_other ehB97 741 j (Or.inl (by decide))).trans ((g0nil0 j (by omega)).trans ((fFr_S fnil0 (by decide +kernel) j).trans ((fFr_S fhB85 (by decide +kernel) j).trans (((fup_other ehB72 741 j (Or.inl (by decide))).trans ((fup_other ehB58 741 j (Or.inl (by decide))).trans ((fup_other ehB47 741 j (Or.inl (by decide))).trans ((fup_other ehB36 741 j (Or.inl (by decide))).trans ((fup_other ehB25 741 j (Or.inl (by decide))).trans ((fup_other ehB14 741 j (Or.inl (by decide))).trans (fup_other ehB3 741 j (Or.inl (by decide))))))))))))), fun hn j hj => (fup_other ehB97 741 j (Or.inl (by decide))).trans ((g0nil0 j (by omega)).trans ((fFr_S fnil0 (by decide +kernel) j).trans ((fFr_S fhB85 (by decide +kernel) j).trans (((fup_other ehB72 741 j (Or.inl (by decide))).trans ((fup_other ehB58 741 j (Or.inl (by decide))).trans ((fup_other ehB47 741 j (Or.inl (by decide))).trans ((fup_other ehB36 741 j (Or.inl (by decide))).trans ((fup_other ehB25 741 j (Or.inl (by decide))).trans ((fup_other ehB14 741 j (Or.inl (by decide))).trans (fup_other ehB3 741 j (Or.inl (by decide)))))))))))))⟩ | exact ⟨fun hn j hj => (fup_other ehB97 741 j (Or.inl (by decide))).trans ((fFr_S fhB85 (by decide +kernel) j).trans (((fup_other ehB72 741 j (Or.inl (by decide))).trans ((fup_other ehB58 741 j (Or.inl (by decide))).trans ((fup_other ehB47 741 j (Or.inl (by decide))).trans ((fup_other ehB36 741 j (Or.inl (by decide))).trans ((fup_other ehB25 741 j (Or.inl (by decide))).trans ((fup_other ehB14 741 j (Or.inl (by decide))).trans (fup_other ehB3 741 j (Or.inl (by decide))))))))))), fun hn j hj => (fup_other ehB97 741 j (Or.inl (by decide))).trans ((fFr_S fhB85 (by decide +kernel) j).trans (((fup_other ehB72 741 j (Or.inl (by decide))).trans ((fup_other ehB58 741 j (Or.inl (by decide))).trans ((fup_other ehB47 741 j (Or.inl (by decide))).trans ((fup_other ehB36 741 j (Or.inl (by decide))).trans ((fup_other ehB25 741 j (Or.inl (by decide))).trans ((fup_other ehB14 741 j (Or.inl (by decide))).trans (fup_other ehB3 741 j (Or.inl (by decide)))))))))))⟩), (by first | exact (fun hz hn => sOne_to (sOne_be (by omega) (g1nil0 (by omega)) (fun j _ => (fup_other ehB97 741 j (Or.inl (by decide))))) (by omega) (by omega) (by omega)) | exact (fun hz => absurd hz (by omega)))⟩
        · intro c110
          refine Exists.intro xm_314 (And.intro mi_314 (And.intro ⟨rfl, rfl, rfl, rfl⟩ (And.intro rfl ?_)))
          refine fcall _ h0 (fzs_sub (by decide +kernel) hW) hB85 (ct_M_next_c8003 (fBz h0 hB85) (by omega)) ?_
          rintro IhB112 _ hB112 fhB112 ⟨rfl, hz111⟩
          have t113 := fhB112 740 8 (by decide +kernel)
          have t114 := fhB112 740 14 (by decide +kernel)
          have t115 := fhB112 740 15 (by decide +kernel)
          have t116 := fhB112 740 16 (by decide +kernel)
          have t117 := fhB112 740 17 (by decide +kernel)
          have t118 := fhB112 740 18 (by decide +kernel)
          have t119 := fhB112 741 9 (by decide +kernel)
          have k120 := fBz_eq hB112 (a := 741) (j := 9) (by decide +kernel)
          refine Exists.intro xm_335 (And.intro mi_335 (And.intro ⟨rfl, rfl, rfl, rfl⟩ (And.intro rfl ?_)))
          refine fcall _ h0 (fzs_sub (by decide +kernel) hW) hB112 (ct_M_either_c00e3 (fBz h0 hB112) (by first | exact ⟨hz94.1, Int.le_trans (Int.le_sub_one_of_lt (Int.lt_of_lt_of_le c95 (Int.le_refl _))) (by decide)⟩ | omega) (by omega) (by omega) (by omega) (by omega)) ?_
          rintro IhB122 _ hB122 fhB122 ⟨z121, rfl, hz121, g0z121, g1z121⟩
          have t123 := fhB122 740 8 (by decide +kernel)
          have t124 := fhB122 740 17 (by decide +kernel)
          have t125 := fhB122 741 9 (by decide +kernel)
          have k126 := fBz_eq hB122 (a := 741) (j := 9) (by decide +kernel)
          refine And.intro (by omega) (And.intro ?_ ?_)
          · intro c127
            refine And.intro ⟨rfl, by decide, by decide⟩ (And.intro rfl (And.intro (Or.inl rfl) (fputf fb_740_8 (by decide +kernel) hW (by first | exact ⟨by decide, by decide⟩ | omega) ?_)))
            intro IhB128 ehB128 hB128
            have t129 := fup_at ehB128 8 (by first | rfl | omega)
            have t130 : IhB128 740 9 = IhB122 740 9 := (congrFun (congrFun ehB128 740) 9).trans (fup_ne (by first | decide | omega))
            have t131 : IhB128 740 10 = IhB122 740 10 := (congrFun (congrFun ehB128 740) 10).trans (fup_ne (by first | decide | omega))
            have t132 : IhB128 740 11 = IhB122 740 11 := (congrFun (congrFun ehB128 740) 11).trans (fup_ne (by first | decide | omega))
            have t133 : IhB128 740 14 = IhB122 740 14 := (congrFun (congrFun ehB128 740) 14).trans (fup_ne (by first | decide | omega))
            have t134 : IhB128 740 15 = IhB122 740 15 := (congrFun (congrFun ehB128 740) 15).trans (fup_ne (by first | decide | omega))
            have t135 : IhB128 740 16 = IhB122 740 16 := (congrFun (congrFun ehB128 740) 16).trans (fup_ne (by first | decide | omega))
            have t136 : IhB128 740 17 = IhB122 740 17 := (congrFun (congrFun ehB128 740) 17).trans (fup_ne (by first | decide | omega))
            have t137 : IhB128 741 9 = IhB122 741 9 := (congrFun (congrFun ehB128 741) 9).trans (fup_ne (by first | decide | omega))
            have k138 := fBz_eq hB128 (a := 741) (j := 9) (by decide +kernel)
            refine And.intro (by omega) (And.intro ?_ ?_)
            · intro c139
              refine And.intro (True.intro) ?_
              exact ⟨_, rfl, by omega, (by first | exact ⟨fun hn j hj => (fup_other ehB128 741 j (Or.inl (by decide))).trans ((g0z121 j (by omega)).trans ((fFr_S fhB112 (by decide +kernel) j).trans ((fFr_S fhB85 (by decide +kernel) j).trans (((fup_other ehB72 741 j (Or.inl (by decide))).trans ((fup_other ehB58 741 j (Or.inl (by decide))).trans ((fup_other ehB47 741 j (Or.inl (by decide))).trans ((fup_other ehB36 741 j (Or.inl (by decide))).trans ((fup_other ehB25 741 j (Or.inl (by decide))).trans ((fup_other ehB14 741 j (Or.inl (by decide))).trans (fup_other ehB3 741 j (Or.inl (by decide))))))))))))), fun hn j hj => (fup_other ehB128 741 j (Or.inl (by decide))).trans ((g0z121 j (by omega)).trans ((fFr_S fhB112 (by decide +kernel) j).trans ((fFr_S fhB85 (by decide +kernel) j).trans (((fup_other ehB72 741 j (Or.inl (by decide))).trans ((fup_other ehB58 741 j (Or.inl (by decide))).trans ((fup_other ehB47 741 j (Or.inl (by decide))).trans ((fup_other ehB36 741 j (Or.inl (by decide))).trans ((fup_other ehB25 741 j (Or.inl (by decide))).trans ((fup_other ehB14 741 j (Or.inl (by decide))).trans (fup_other ehB3 741 j (Or.inl (by decide)))))))))))))⟩ | exact ⟨fun hn j hj => (fup_other ehB128 741 j (Or.inl (by decide))).trans ((fFr_S fhB85 (by decide +kernel) j).trans (((fup_other ehB72 741 j (Or.inl (by decide))).trans ((fup_other ehB58 741 j (Or.inl (by decide))).trans ((fup_other ehB47 741 j (Or.inl (by decide))).trans ((fup_other ehB36 741 j (Or.inl (by decide))).trans ((fup_other ehB25 741 j (Or.inl (by decide))).trans ((fup_other ehB14 741 j (Or.inl (by decide))).trans (fup_other ehB3 741 j (Or.inl (by decide))))))))))), fun hn j hj => (fup_other ehB128 741 j (Or.inl (by decide))).trans ((fFr_S fhB85 (by decide +kernel) j).trans (((fup_other ehB72 741 j (Or.inl (by decide))).trans ((fup_other ehB58 741 j (Or.inl (by decide))).trans ((fup_other ehB47 741 j (Or.inl (by decide))).trans ((fup_other ehB36 741 j (Or.inl (by decide))).trans ((fup_other ehB25 741 j (Or.inl (by decide))).trans ((fup_other ehB14 741 j (Or.inl (by decide))).trans (fup_other ehB3 741 j (Or.inl (by decide)))))))))))⟩), (by first | exact (fun hz hn => sOne_to (sOne_be (by omega) (g1z121 (by omega)) (fun j _ => (fup_other ehB128 741 j (Or.inl (by decide))))) (by omega) (by omega) (by omega)) | exact (fun hz => absurd hz (by omega)))⟩
            · intro c140
              refine And.intro (True.intro) ?_
              exact ⟨_, rfl, by omega, (by first | exact ⟨fun hn j hj => (fup_other ehB128 741 j (Or.inl (by decide))).trans ((g0z121 j (by omega)).trans ((fFr_S fhB112 (by decide +kernel) j).trans ((fFr_S fhB85 (by decide +kernel) j).trans (((fup_other ehB72 741 j (Or.inl (by decide))).trans ((fup_other ehB58 741 j (Or.inl (by decide))).trans ((fup_other ehB47 741 j (Or.inl (by decide))).trans ((fup_other ehB36 741 j (Or.inl (by decide))).trans ((fup_other ehB25 741 j (Or.inl (by decide))).trans ((fup_other ehB14 741 j (Or.inl (by decide))).trans (fup_other ehB3 741 j (Or.inl (by decide))))))))))))), fun hn j hj => (fup_other ehB128 741 j (Or.inl (by decide))).trans ((g0z121 j (by omega)).trans ((fFr_S fhB112 (by decide +kernel) j).trans ((fFr_S fhB85 (by decide +kernel) j).trans (((fup_other ehB72 741 j (Or.inl (by decide))).trans ((fup_other ehB58 741 j (Or.inl (by decide))).trans ((fup_other ehB47 741 j (Or.inl (by decide))).trans ((fup_other ehB36 741 j (Or.inl (by decide))).trans ((fup_other ehB25 741 j (Or.inl (by decide))).trans ((fup_other ehB14 741 j (Or.inl (by decide))).trans (fup_other ehB3 741 j (Or.inl (by decide)))))))))))))⟩ | exact ⟨fun hn j hj => (fup_other ehB128 741 j (Or.inl (by decide))).trans ((fFr_S fhB85 (by decide +kernel) j).trans (((fup_other ehB72 741 j (Or.inl (by decide))).trans ((fup_other ehB58 741 j (Or.inl (by decide))).trans ((fup_other ehB47 741 j (Or.inl (by decide))).trans ((fup_other ehB36 741 j (Or.inl (by decide))).trans ((fup_other ehB25 741 j (Or.inl (by decide))).trans ((fup_other ehB14 741 j (Or.inl (by decide))).trans (fup_other ehB3 741 j (Or.inl (by decide))))))))))), fun hn j hj => (fup_other ehB128 741 j (Or.inl (by decide))).trans ((fFr_S fhB85 (by decide +kernel) j).trans (((fup_other ehB72 741 j (Or.inl (by decide))).trans ((fup_other ehB58 741 j (Or.inl (by decide))).trans ((fup_other ehB47 741 j (Or.inl (by decide))).trans ((fup_other ehB36 741 j (Or.inl (by decide))).trans ((fup_other ehB25 741 j (Or.inl (by decide))).trans ((fup_other ehB14 741 j (Or.inl (by decide))).trans (fup_other ehB3 741 j (Or.inl (by decide)))))))))))⟩), (by first | exact (fun hz hn => sOne_to (sOne_be (by omega) (g1z121 (by omega)) (fun j _ => (fup_other ehB128 741 j (Or.inl (by decide))))) (by omega) (by omega) (by omega)) | exact (fun hz => absurd hz (by omega)))⟩
          · intro c141
            refine And.intro ⟨rfl, by decide, by decide⟩ (fgetf fb_740_11 h0 hB122 ?_)
            intro z142 lz142 uz142 qz142
            refine And.intro (by first | exact fi_ lz142 uz142 rfl | omega) (And.intro ?_ ?_)
            · intro c143
              refine And.intro ⟨rfl, by decide, by decide⟩ (And.intro rfl (And.intro (Or.inl rfl) (fputf fb_740_8 (by decide +kernel) hW (by first | exact ⟨by decide, by decide⟩ | omega) ?_)))
              intro IhB144 ehB144 hB144
              have t145 := fup_at ehB144 8 (by first | rfl | omega)
              have t146 : IhB144 740 9 = IhB122 740 9 := (congrFun (congrFun ehB144 740) 9).trans (fup_ne (by first | decide | omega))
              have t147 : IhB144 740 10 = IhB122 740 10 := (congrFun (congrFun ehB144 740) 10).trans (fup_ne (by first | decide | omega))
              have t148 : IhB144 740 11 = IhB122 740 11 := (congrFun (congrFun ehB144 740) 11).trans (fup_ne (by first | decide | omega))
              have t149 : IhB144 740 14 = IhB122 740 14 := (congrFun (congrFun ehB144 740) 14).trans (fup_ne (by first | decide | omega))
              have t150 : IhB144 740 15 = IhB122 740 15 := (congrFun (congrFun ehB144 740) 15).trans (fup_ne (by first | decide | omega))
              have t151 : IhB144 740 16 = IhB122 740 16 := (congrFun (congrFun ehB144 740) 16).trans (fup_ne (by first | decide | omega))
              have t152 : IhB144 740 17 = IhB122 740 17 := (congrFun (congrFun ehB144 740) 17).trans (fup_ne (by first | decide | omega))
              have t153 : IhB144 741 9 = IhB122 741 9 := (congrFun (congrFun ehB144 741) 9).trans (fup_ne (by first | decide | omega))
              have k154 := fBz_eq hB144 (a := 741) (j := 9) (by decide +kernel)
              refine And.intro (by omega) (And.intro ?_ ?_)
              · intro c155
                refine And.intro (True.intro) ?_
                exact ⟨_, rfl, by omega, (by first | exact ⟨fun hn j hj => (fup_other ehB144 741 j (Or.inl (by decide))).trans ((g0z121 j (by omega)).trans ((fFr_S fhB112 (by decide +kernel) j).trans ((fFr_S fhB85 (by decide +kernel) j).trans (((fup_other ehB72 741 j (Or.inl (by decide))).trans ((fup_other ehB58 741 j (Or.inl (by decide))).trans ((fup_other ehB47 741 j (Or.inl (by decide))).trans ((fup_other ehB36 741 j (Or.inl (by decide))).trans ((fup_other ehB25 741 j (Or.inl (by decide))).trans ((fup_other ehB14 741 j (Or.inl (by decide))).trans (fup_other ehB3 741 j (Or.inl (by decide))))))))))))), fun hn j hj => (fup_other ehB144 741 j (Or.inl (by decide))).trans ((g0z121 j (by omega)).trans ((fFr_S fhB112 (by decide +kernel) j).trans ((fFr_S fhB85 (by decide +kernel) j).trans (((fup_other ehB72 741 j (Or.inl (by decide))).trans ((fup_other ehB58 741 j (Or.inl (by decide))).trans ((fup_other ehB47 741 j (Or.inl (by decide))).trans ((fup_other ehB36 741 j (Or.inl (by decide))).trans ((fup_other ehB25 741 j (Or.inl (by decide))).trans ((fup_other ehB14 741 j (Or.inl (by decide))).trans (fup_other ehB3 741 j (Or.inl (by decide)))))))))))))⟩ | exact ⟨fun hn j hj => (fup_other ehB144 741 j (Or.inl (by decide))).trans ((fFr_S fhB85 (by decide +kernel) j).trans (((fup_other ehB72 741 j (Or.inl (by decide))).trans ((fup_other ehB58 741 j (Or.inl (by decide))).trans ((fup_other ehB47 741 j (Or.inl (by decide))).trans ((fup_other ehB36 741 j (Or.inl (by decide))).trans ((fup_other ehB25 741 j (Or.inl (by decide))).trans ((fup_other ehB14 741 j (Or.inl (by decide))).trans (fup_other ehB3 741 j (Or.inl (by decide))))))))))), fun hn j hj => (fup_other ehB144 741 j (Or.inl (by decide))).trans ((fFr_S fhB85 (by decide +kernel) j).trans (((fup_other ehB72 741 j (Or.inl (by decide))).trans ((fup_other ehB58 741 j (Or.inl (by decide))).trans ((fup_other ehB47 741 j (Or.inl (by decide))).trans ((fup_other ehB36 741 j (Or.inl (by decide))).trans ((fup_other ehB25 741 j (Or.inl (by decide))).trans ((fup_other ehB14 741 j (Or.inl (by decide))).trans (fup_other ehB3 741 j (Or.inl (by decide)))))))))))⟩), (by first | exact (fun hz hn => sOne_to (sOne_be (by omega) (g1z121 (by omega)) (fun j _ => (fup_other ehB144 741 j (Or.inl (by decide))))) (by omega) (by omega) (by omega)) | exact (fun hz => absurd hz (by omega)))⟩
              · intro c156
                refine And.intro (True.intro) ?_
                exact ⟨_, rfl, by omega, (by first | exact ⟨fun hn j hj => (fup_other ehB144 741 j (Or.inl (by decide))).trans ((g0z121 j (by omega)).trans ((fFr_S fhB112 (by decide +kernel) j).trans ((fFr_S fhB85 (by decide +kernel) j).trans (((fup_other ehB72 741 j (Or.inl (by decide))).trans ((fup_other ehB58 741 j (Or.inl (by decide))).trans ((fup_other ehB47 741 j (Or.inl (by decide))).trans ((fup_other ehB36 741 j (Or.inl (by decide))).trans ((fup_other ehB25 741 j (Or.inl (by decide))).trans ((fup_other ehB14 741 j (Or.inl (by decide))).trans (fup_other ehB3 741 j (Or.inl (by decide))))))))))))), fun hn j hj => (fup_other ehB144 741 j (Or.inl (by decide))).trans ((g0z121 j (by omega)).trans ((fFr_S fhB112 (by decide +kernel) j).trans ((fFr_S fhB85 (by decide +kernel) j).trans (((fup_other ehB72 741 j (Or.inl (by decide))).trans ((fup_other ehB58 741 j (Or.inl (by decide))).trans ((fup_other ehB47 741 j (Or.inl (by decide))).trans ((fup_other ehB36 741 j (Or.inl (by decide))).trans ((fup_other ehB25 741 j (Or.inl (by decide))).trans ((fup_other ehB14 741 j (Or.inl (by decide))).trans (fup_other ehB3 741 j (Or.inl (by decide)))))))))))))⟩ | exact ⟨fun hn j hj => (fup_other ehB144 741 j (Or.inl (by decide))).trans ((fFr_S fhB85 (by decide +kernel) j).trans (((fup_other ehB72 741 j (Or.inl (by decide))).trans ((fup_other ehB58 741 j (Or.inl (by decide))).trans ((fup_other ehB47 741 j (Or.inl (by decide))).trans ((fup_other ehB36 741 j (Or.inl (by decide))).trans ((fup_other ehB25 741 j (Or.inl (by decide))).trans ((fup_other ehB14 741 j (Or.inl (by decide))).trans (fup_other ehB3 741 j (Or.inl (by decide))))))))))), fun hn j hj => (fup_other ehB144 741 j (Or.inl (by decide))).trans ((fFr_S fhB85 (by decide +kernel) j).trans (((fup_other ehB72 741 j (Or.inl (by decide))).trans ((fup_other ehB58 741 j (Or.inl (by decide))).trans ((fup_other ehB47 741 j (Or.inl (by decide))).trans ((fup_other ehB36 741 j (Or.inl (by decide))).trans ((fup_other ehB25 741 j (Or.inl (by decide))).trans ((fup_other ehB14 741 j (Or.inl (by decide))).trans (fup_other ehB3 741 j (Or.inl (by decide)))))))))))⟩), (by first | exact (fun hz hn => sOne_to (sOne_be (by omega) (g1z121 (by omega)) (fun j _ => (fup_other ehB144 741 j (Or.inl (by decide))))) (by omega) (by omega) (by omega)) | exact (fun hz => absurd hz (by omega)))⟩
            · intro c157
              refine And.intro ⟨rfl, by decide, by decide⟩ (And.intro rfl (And.intro (Or.inl rfl) (fputf fb_740_8 (by decide +kernel) hW (by first | exact ⟨by decide, by decide⟩ | omega) ?_)))
              intro IhB158 ehB158 hB158
              have t159 := fup_at ehB158 8 (by first | rfl | omega)
              have t160 : IhB158 740 9 = IhB122 740 9 := (congrFun (congrFun ehB158 740) 9).trans (fup_ne (by first | decide | omega))
              have t161 : IhB158 740 10 = IhB122 740 10 := (congrFun (congrFun ehB158 740) 10).trans (fup_ne (by first | decide | omega))
              have t162 : IhB158 740 11 = IhB122 740 11 := (congrFun (congrFun ehB158 740) 11).trans (fup_ne (by first | decide | omega))
              have t163 : IhB158 740 14 = IhB122 740 14 := (congrFun (congrFun ehB158 740) 14).trans (fup_ne (by first | decide | omega))
              have t164 : IhB158 740 15 = IhB122 740 15 := (congrFun (congrFun ehB158 740) 15).trans (fup_ne (by first | decide | omega))
              have t165 : IhB158 740 16 = IhB122 740 16 := (congrFun (congrFun ehB158 740) 16).trans (fup_ne (by first | decide | omega))
              have t166 : IhB158 740 17 = IhB122 740 17 := (congrFun (congrFun ehB158 740) 17).trans (fup_ne (by first | decide | omega))
              have t167 : IhB158 741 9 = IhB122 741 9 := (congrFun (congrFun ehB158 741) 9).trans (fup_ne (by first | decide | omega))
              have k168 := fBz_eq hB158 (a := 741) (j := 9) (by decide +kernel)
              refine And.intro (by first | exact ⟨by decide, by decide⟩ | omega) (And.intro ?_ ?_)
              · intro c169
                refine And.intro (True.intro) ?_
                exact ⟨_, rfl, by omega, (by first | exact ⟨fun hn j hj => (fup_other ehB158 741 j (Or.inl (by decide))).trans ((g0z121 j (by omega)).trans ((fFr_S fhB112 (by decide +kernel) j).trans ((fFr_S fhB85 (by decide +kernel) j).trans (((fup_other ehB72 741 j (Or.inl (by decide))).trans ((fup_other ehB58 741 j (Or.inl (by decide))).trans ((fup_other ehB47 741 j (Or.inl (by decide))).trans ((fup_other ehB36 741 j (Or.inl (by decide))).trans ((fup_other ehB25 741 j (Or.inl (by decide))).trans ((fup_other ehB14 741 j (Or.inl (by decide))).trans (fup_other ehB3 741 j (Or.inl (by decide))))))))))))), fun hn j hj => (fup_other ehB158 741 j (Or.inl (by decide))).trans ((g0z121 j (by omega)).trans ((fFr_S fhB112 (by decide +kernel) j).trans ((fFr_S fhB85 (by decide +kernel) j).trans (((fup_other ehB72 741 j (Or.inl (by decide))).trans ((fup_other ehB58 741 j (Or.inl (by decide))).trans ((fup_other ehB47 741 j (Or.inl (by decide))).trans ((fup_other ehB36 741 j (Or.inl (by decide))).trans ((fup_other ehB25 741 j (Or.inl (by decide))).trans ((fup_other ehB14 741 j (Or.inl (by decide))).trans (fup_other ehB3 741 j (Or.inl (by decide)))))))))))))⟩ | exact ⟨fun hn j hj => (fup_other ehB158 741 j (Or.inl (by decide))).trans ((fFr_S fhB85 (by decide +kernel) j).trans (((fup_other ehB72 741 j (Or.inl (by decide))).trans ((fup_other ehB58 741 j (Or.inl (by decide))).trans ((fup_other ehB47 741 j (Or.inl (by decide))).trans ((fup_other ehB36 741 j (Or.inl (by decide))).trans ((fup_other ehB25 741 j (Or.inl (by decide))).trans ((fup_other ehB14 741 j (Or.inl (by decide))).trans (fup_other ehB3 741 j (Or.inl (by decide))))))))))), fun hn j hj => (fup_other ehB158 741 j (Or.inl (by decide))).trans ((fFr_S fhB85 (by decide +kernel) j).trans (((fup_other ehB72 741 j (Or.inl (by decide))).trans ((fup_other ehB58 741 j (Or.inl (by decide))).trans ((fup_other ehB47 741 j (Or.inl (by decide))).trans ((fup_other ehB36 741 j (Or.inl (by decide))).trans ((fup_other ehB25 741 j (Or.inl (by decide))).trans ((fup_other ehB14 741 j (Or.inl (by decide))).trans (fup_other ehB3 741 j (Or.inl (by decide)))))))))))⟩), (by first | exact (fun hz hn => sOne_to (sOne_be (by omega) (g1z121 (by omega)) (fun j _ => (fup_other ehB158 741 j (Or.inl (by decide))))) (by omega) (by omega) (by omega)) | exact (fun hz => absurd hz (by omega)))⟩
              · intro c170
                refine And.intro (True.intro) ?_
                exact ⟨_, rfl, by omega, (by first | exact ⟨fun hn j hj => (fup_other ehB158 741 j (Or.inl (by decide))).trans ((g0z121 j (by omega)).trans ((fFr_S fhB112 (by decide +kernel) j).trans ((fFr_S fhB85 (by decide +kernel) j).trans (((fup_other ehB72 741 j (Or.inl (by decide))).trans ((fup_other ehB58 741 j (Or.inl (by decide))).trans ((fup_other ehB47 741 j (Or.inl (by decide))).trans ((fup_other ehB36 741 j (Or.inl (by decide))).trans ((fup_other ehB25 741 j (Or.inl (by decide))).trans ((fup_other ehB14 741 j (Or.inl (by decide))).trans (fup_other ehB3 741 j (Or.inl (by decide))))))))))))), fun hn j hj => (fup_other ehB158 741 j (Or.inl (by decide))).trans ((g0z121 j (by omega)).trans ((fFr_S fhB112 (by decide +kernel) j).trans ((fFr_S fhB85 (by decide +kernel) j).trans (((fup_other ehB72 741 j (Or.inl (by decide))).trans ((fup_other ehB58 741 j (Or.inl (by decide))).trans ((fup_other ehB47 741 j (Or.inl (by decide))).trans ((fup_other ehB36 741 j (Or.inl (by decide))).trans ((fup_other ehB25 741 j (Or.inl (by decide))).trans ((fup_other ehB14 741 j (Or.inl (by decide))).trans (fup_other ehB3 741 j (Or.inl (by decide)))))))))))))⟩ | exact ⟨fun hn j hj => (fup_other ehB158 741 j (Or.inl (by decide))).trans ((fFr_S fhB85 (by decide +kernel) j).trans (((fup_other ehB72 741 j (Or.inl (by decide))).trans ((fup_other ehB58 741 j (Or.inl (by decide))).trans ((fup_other ehB47 741 j (Or.inl (by decide))).trans ((fup_other ehB36 741 j (Or.inl (by decide))).trans ((fup_other ehB25 741 j (Or.inl (by decide))).trans ((fup_other ehB14 741 j (Or.inl (by decide))).trans (fup_other ehB3 741 j (Or.inl (by decide))))))))))), fun hn j hj => (fup_other ehB158 741 j (Or.inl (by decide))).trans ((fFr_S fhB85 (by decide +kernel) j).trans (((fup_other ehB72 741 j (Or.inl (by decide))).trans ((fup_other ehB58 741 j (Or.inl (by decide))).trans ((fup_other ehB47 741 j (Or.inl (by decide))).trans ((fup_other ehB36 741 j (Or.inl (by decide))).trans ((fup_other ehB25 741 j (Or.inl (by decide))).trans ((fup_other ehB14 741 j (Or.inl (by decide))).trans (fup_other ehB3 741 j (Or.inl (by decide)))))))))))⟩), (by first | exact (fun hz hn => sOne_to (sOne_be (by omega) (g1z121 (by omega)) (fun j _ => (fup_other ehB158 741 j (Or.inl (by decide))))) (by omega) (by omega) (by omega)) | exact (fun hz => absurd hz (by omega)))⟩
      · intro c171
        refine And.intro (by first | exact ⟨by decide, by decide⟩ | omega) (And.intro ?_ ?_)
        · intro c172
          refine And.intro ⟨rfl, by decide, by decide⟩ (And.intro rfl (And.intro (Or.inl rfl) (fputf fb_740_8 (by decide +kernel) hW (by first | exact ⟨by decide, by decide⟩ | omega) ?_)))
          intro IhB173 ehB173 hB173
          have t174 := fup_at ehB173 8 (by first | rfl | omega)
          have t175 : IhB173 740 9 = IhB85 740 9 := (congrFun (congrFun ehB173 740) 9).trans (fup_ne (by first | decide | omega))
          have t176 : IhB173 740 10 = IhB85 740 10 := (congrFun (congrFun ehB173 740) 10).trans (fup_ne (by first | decide | omega))
          have t177 : IhB173 740 11 = IhB85 740 11 := (congrFun (congrFun ehB173 740) 11).trans (fup_ne (by first | decide | omega))
          have t178 : IhB173 740 14 = IhB85 740 14 := (congrFun (congrFun ehB173 740) 14).trans (fup_ne (by first | decide | omega))
          have t179 : IhB173 740 15 = IhB85 740 15 := (congrFun (congrFun ehB173 740) 15).trans (fup_ne (by first | decide | omega))
          have t180 : IhB173 740 16 = IhB85 740 16 := (congrFun (congrFun ehB173 740) 16).trans (fup_ne (by first | decide | omega))
          have t181 : IhB173 740 17 = IhB85 740 17 := (congrFun (congrFun ehB173 740) 17).trans (fup_ne (by first | decide | omega))
          have t182 : IhB173 741 9 = IhB85 741 9 := (congrFun (congrFun ehB173 741) 9).trans (fup_ne (by first | decide | omega))
          have k183 := fBz_eq hB173 (a := 741) (j := 9) (by decide +kernel)
          refine And.intro (by first | exact ⟨by decide, by decide⟩ | omega) (And.intro ?_ ?_)
          · intro c184
            refine And.intro (True.intro) ?_
            exact ⟨_, rfl, by omega, (by first | exact ⟨fun hn j hj => (fup_other ehB173 741 j (Or.inl (by decide))).trans ((g0z121 j (by omega)).trans ((fFr_S fhB112 (by decide +kernel) j).trans ((fFr_S fhB85 (by decide +kernel) j).trans (((fup_other ehB72 741 j (Or.inl (by decide))).trans ((fup_other ehB58 741 j (Or.inl (by decide))).trans ((fup_other ehB47 741 j (Or.inl (by decide))).trans ((fup_other ehB36 741 j (Or.inl (by decide))).trans ((fup_other ehB25 741 j (Or.inl (by decide))).trans ((fup_other ehB14 741 j (Or.inl (by decide))).trans (fup_other ehB3 741 j (Or.inl (by decide))))))))))))), fun hn j hj => (fup_other ehB173 741 j (Or.inl (by decide))).trans ((g0z121 j (by omega)).trans ((fFr_S fhB112 (by decide +kernel) j).trans ((fFr_S fhB85 (by decide +kernel) j).trans (((fup_other ehB72 741 j (Or.inl (by decide))).trans ((fup_other ehB58 741 j (Or.inl (by decide))).trans ((fup_other ehB47 741 j (Or.inl (by decide))).trans ((fup_other ehB36 741 j (Or.inl (by decide))).trans ((fup_other ehB25 741 j (Or.inl (by decide))).trans ((fup_other ehB14 741 j (Or.inl (by decide))).trans (fup_other ehB3 741 j (Or.inl (by decide)))))))))))))⟩ | exact ⟨fun hn j hj => (fup_other ehB173 741 j (Or.inl (by decide))).trans ((fFr_S fhB85 (by decide +kernel) j).trans (((fup_other ehB72 741 j (Or.inl (by decide))).trans ((fup_other ehB58 741 j (Or.inl (by decide))).trans ((fup_other ehB47 741 j (Or.inl (by decide))).trans ((fup_other ehB36 741 j (Or.inl (by decide))).trans ((fup_other ehB25 741 j (Or.inl (by decide))).trans ((fup_other ehB14 741 j (Or.inl (by decide))).trans (fup_other ehB3 741 j (Or.inl (by decide))))))))))), fun hn j hj => (fup_other ehB173 741 j (Or.inl (by decide))).trans ((fFr_S fhB85 (by decide +kernel) j).trans (((fup_other ehB72 741 j (Or.inl (by decide))).trans ((fup_other ehB58 741 j (Or.inl (by decide))).trans ((fup_other ehB47 741 j (Or.inl (by decide))).trans ((fup_other ehB36 741 j (Or.inl (by decide))).trans ((fup_other ehB25 741 j (Or.inl (by decide))).trans ((fup_other ehB14 741 j (Or.inl (by decide))).trans (fup_other ehB3 741 j (Or.inl (by decide)))))))))))⟩), (by first | exact (fun hz hn => sOne_to (sOne_be (by omega) (g1z121 (by omega)) (fun j _ => (fup_other ehB173 741 j (Or.inl (by decide))))) (by omega) (by omega) (by omega)) | exact (fun hz => absurd hz (by omega)))⟩
          · intro c185
            refine And.intro (True.intro) ?_
            exact ⟨_, rfl, by omega, (by first | exact ⟨fun hn j hj => (fup_other ehB173 741 j (Or.inl (by decide))).trans ((g0z121 j (by omega)).trans ((fFr_S fhB112 (by decide +kernel) j).trans ((fFr_S fhB85 (by decide +kernel) j).trans (((fup_other ehB72 741 j (Or.inl (by decide))).trans ((fup_other ehB58 741 j (Or.inl (by decide))).trans ((fup_other ehB47 741 j (Or.inl (by decide))).trans ((fup_other ehB36 741 j (Or.inl (by decide))).trans ((fup_other ehB25 741 j (Or.inl (by decide))).trans ((fup_other ehB14 741 j (Or.inl (by decide))).trans (fup_other ehB3 741 j (Or.inl (by decide))))))))))))), fun hn j hj => (fup_other ehB173 741 j (Or.inl (by decide))).trans ((g0z121 j (by omega)).trans ((fFr_S fhB112 (by decide +kernel) j).trans ((fFr_S fhB85 (by decide +kernel) j).trans (((fup_other ehB72 741 j (Or.inl (by decide))).trans ((fup_other ehB58 741 j (Or.inl (by decide))).trans ((fup_other ehB47 741 j (Or.inl (by decide))).trans ((fup_other ehB36 741 j (Or.inl (by decide))).trans ((fup_other ehB25 741 j (Or.inl (by decide))).trans ((fup_other ehB14 741 j (Or.inl (by decide))).trans (fup_other ehB3 741 j (Or.inl (by decide)))))))))))))⟩ | exact ⟨fun hn j hj => (fup_other ehB173 741 j (Or.inl (by decide))).trans ((fFr_S fhB85 (by decide +kernel) j).trans (((fup_other ehB72 741 j (Or.inl (by decide))).trans ((fup_other ehB58 741 j (Or.inl (by decide))).trans ((fup_other ehB47 741 j (Or.inl (by decide))).trans ((fup_other ehB36 741 j (Or.inl (by decide))).trans ((fup_other ehB25 741 j (Or.inl (by decide))).trans ((fup_other ehB14 741 j (Or.inl (by decide))).trans (fup_other ehB3 741 j (Or.inl (by decide))))))))))), fun hn j hj => (fup_other ehB173 741 j (Or.inl (by decide))).trans ((fFr_S fhB85 (by decide +kernel) j).trans (((fup_other ehB72 741 j (Or.inl (by decide))).trans ((fup_other ehB58 741 j (Or.inl (by decide))).trans ((fup_other ehB47 741 j (Or.inl (by decide))).trans ((fup_other ehB36 741 j (Or.inl (by decide))).trans ((fup_other ehB25 741 j (Or.inl (by decide))).trans ((fup_other ehB14 741 j (Or.inl (by decide))).trans (fup_other ehB3 741 j (Or.inl (by decide)))))))))))⟩), (by first | exact (fun hz hn => sOne_to (sOne_be (by omega) (g1z121 (by omega)) (fun j _ => (fup_other ehB173 741 j (Or.inl (by decide))))) (by omega) (by omega) (by omega)) | exact (fun hz => absurd hz (by omega)))⟩
        · intro c186
          refine Exists.intro xm_314 (And.intro mi_314 (And.intro ⟨rfl, rfl, rfl, rfl⟩ (And.intro rfl ?_)))
          refine fcall _ h0 (fzs_sub (by decide +kernel) hW) hB85 (ct_M_next_c8003 (fBz h0 hB85) (by omega)) ?_
          rintro IhB188 _ hB188 fhB188 ⟨rfl, hz187⟩
          have t189 := fhB188 740 8 (by decide +kernel)
          have t190 := fhB188 740 14 (by decide +kernel)
          have t191 := fhB188 740 15 (by decide +kernel)
          have t192 := fhB188 740 16 (by decide +kernel)
          have t193 := fhB188 740 17 (by decide +kernel)
          have t194 := fhB188 740 18 (by decide +kernel)
          have t195 := fhB188 741 9 (by decide +kernel)
          have k196 := fBz_eq hB188 (a := 741) (j := 9) (by decide +kernel)
          refine Exists.intro xm_335 (And.intro mi_335 (And.intro ⟨rfl, rfl, rfl, rfl⟩ (And.intro rfl ?_)))
          refine fcall _ h0 (fzs_sub (by decide +kernel) hW) hB188 (ct_M_either_c00e3 (fBz h0 hB188) (by first | exact ⟨Int.le_trans (by decide) (Int.le_trans (Int.le_refl _) c171), hz94.2⟩ | omega) (by omega) (by omega) (by omega) (by omega)) ?_
          rintro IhB198 _ hB198 fhB198 ⟨z197, rfl, hz197, g0z197, g1z197⟩
          have t199 := fhB198 740 8 (by decide +kernel)
          have t200 := fhB198 740 17 (by decide +kernel)
          have t201 := fhB198 741 9 (by decide +kernel)
          have k202 := fBz_eq hB198 (a := 741) (j := 9) (by decide +kernel)
          refine And.intro (by omega) (And.intro ?_ ?_)
          · intro c203
            refine And.intro ⟨rfl, by decide, by decide⟩ (And.intro rfl (And.intro (Or.inl rfl) (fputf fb_740_8 (by decide +kernel) hW (by first | exact ⟨by decide, by decide⟩ | omega) ?_)))
            intro IhB204 ehB204 hB204
            have t205 := fup_at ehB204 8 (by first | rfl | omega)
            have t206 : IhB204 740 9 = IhB198 740 9 := (congrFun (congrFun ehB204 740) 9).trans (fup_ne (by first | decide | omega))
            have t207 : IhB204 740 10 = IhB198 740 10 := (congrFun (congrFun ehB204 740) 10).trans (fup_ne (by first | decide | omega))
            have t208 : IhB204 740 11 = IhB198 740 11 := (congrFun (congrFun ehB204 740) 11).trans (fup_ne (by first | decide | omega))
            have t209 : IhB204 740 14 = IhB198 740 14 := (congrFun (congrFun ehB204 740) 14).trans (fup_ne (by first | decide | omega))
            have t210 : IhB204 740 15 = IhB198 740 15 := (congrFun (congrFun ehB204 740) 15).trans (fup_ne (by first | decide | omega))
            have t211 : IhB204 740 16 = IhB198 740 16 := (congrFun (congrFun ehB204 740) 16).trans (fup_ne (by first | decide | omega))
            have t212 : IhB204 740 17 = IhB198 740 17 := (congrFun (congrFun ehB204 740) 17).trans (fup_ne (by first | decide | omega))
            have t213 : IhB204 741 9 = IhB198 741 9 := (congrFun (congrFun ehB204 741) 9).trans (fup_ne (by first | decide | omega))
            have k214 := fBz_eq hB204 (a := 741) (j := 9) (by decide +kernel)
            refine And.intro (by omega) (And.intro ?_ ?_)
            · intro c215
              refine And.intro (True.intro) ?_
              exact ⟨_, rfl, by omega, (by first | exact ⟨fun hn j hj => (fup_other ehB204 741 j (Or.inl (by decide))).trans ((g0z197 j (by omega)).trans ((fFr_S fhB188 (by decide +kernel) j).trans ((fFr_S fhB85 (by decide +kernel) j).trans (((fup_other ehB72 741 j (Or.inl (by decide))).trans ((fup_other ehB58 741 j (Or.inl (by decide))).trans ((fup_other ehB47 741 j (Or.inl (by decide))).trans ((fup_other ehB36 741 j (Or.inl (by decide))).trans ((fup_other ehB25 741 j (Or.inl (by decide))).trans ((fup_other ehB14 741 j (Or.inl (by decide))).trans (fup_other ehB3 741 j (Or.inl (by decide))))))))))))), fun hn j hj => (fup_other ehB204 741 j (Or.inl (by decide))).trans ((g0z197 j (by omega)).trans ((fFr_S fhB188 (by decide +kernel) j).trans ((fFr_S fhB85 (by decide +kernel) j).trans (((fup_other ehB72 741 j (Or.inl (by decide))).trans ((fup_other ehB58 741 j (Or.inl (by decide))).trans ((fup_other ehB47 741 j (Or.inl (by decide))).trans ((fup_other ehB36 741 j (Or.inl (by decide))).trans ((fup_other ehB25 741 j (Or.inl (by decide))).trans ((fup_other ehB14 741 j (Or.inl (by decide))).trans (fup_other ehB3 741 j (Or.inl (by decide)))))))))))))⟩ | exact ⟨fun hn j hj => (fup_other ehB204 741 j (Or.inl (by decide))).trans ((fFr_S fhB85 (by decide +kernel) j).trans (((fup_other ehB72 741 j (Or.inl (by decide))).trans ((fup_other ehB58 741 j (Or.inl (by decide))).trans ((fup_other ehB47 741 j (Or.inl (by decide))).trans ((fup_other ehB36 741 j (Or.inl (by decide))).trans ((fup_other ehB25 741 j (Or.inl (by decide))).trans ((fup_other ehB14 741 j (Or.inl (by decide))).trans (fup_other ehB3 741 j (Or.inl (by decide))))))))))), fun hn j hj => (fup_other ehB204 741 j (Or.inl (by decide))).trans ((fFr_S fhB85 (by decide +kernel) j).trans (((fup_other ehB72 741 j (Or.inl (by decide))).trans ((fup_other ehB58 741 j (Or.inl (by decide))).trans ((fup_other ehB47 741 j (Or.inl (by decide))).trans ((fup_other ehB36 741 j (Or.inl (by decide))).trans ((fup_other ehB25 741 j (Or.inl (by decide))).trans ((fup_other ehB14 741 j (Or.inl (by decide))).trans (fup_other ehB3 741 j (Or.inl (by decide)))))))))))⟩), (by first | exact (fun hz hn => sOne_to (sOne_be (by omega) (g1z197 (by omega)) (fun j _ => (fup_other ehB204 741 j (Or.inl (by decide))))) (by omega) (by omega) (by omega)) | exact (fun hz => absurd hz (by omega)))⟩
            · intro c216
              refine And.intro (True.intro) ?_
              exact ⟨_, rfl, by omega, (by first | exact ⟨fun hn j hj => (fup_other ehB204 741 j (Or.inl (by decide))).trans ((g0z197 j (by omega)).trans ((fFr_S fhB188 (by decide +kernel) j).trans ((fFr_S fhB85 (by decide +kernel) j).trans (((fup_other ehB72 741 j (Or.inl (by decide))).trans ((fup_other ehB58 741 j (Or.inl (by decide))).trans ((fup_other ehB47 741 j (Or.inl (by decide))).trans ((fup_other ehB36 741 j (Or.inl (by decide))).trans ((fup_other ehB25 741 j (Or.inl (by decide))).trans ((fup_other ehB14 741 j (Or.inl (by decide))).trans (fup_other ehB3 741 j (Or.inl (by decide))))))))))))), fun hn j hj => (fup_other ehB204 741 j (Or.inl (by decide))).trans ((g0z197 j (by omega)).trans ((fFr_S fhB188 (by decide +kernel) j).trans ((fFr_S fhB85 (by decide +kernel) j).trans (((fup_other ehB72 741 j (Or.inl (by decide))).trans ((fup_other ehB58 741 j (Or.inl (by decide))).trans ((fup_other ehB47 741 j (Or.inl (by decide))).trans ((fup_other ehB36 741 j (Or.inl (by decide))).trans ((fup_other ehB25 741 j (Or.inl (by decide))).trans ((fup_other ehB14 741 j (Or.inl (by decide))).trans (fup_other ehB3 741 j (Or.inl (by decide)))))))))))))⟩ | exact ⟨fun hn j hj => (fup_other ehB204 741 j (Or.inl (by decide))).trans ((fFr_S fhB85 (by decide +kernel) j).trans (((fup_other ehB72 741 j (Or.inl (by decide))).trans ((fup_other ehB58 741 j (Or.inl (by decide))).trans ((fup_other ehB47 741 j (Or.inl (by decide))).trans ((fup_other ehB36 741 j (Or.inl (by decide))).trans ((fup_other ehB25 741 j (Or.inl (by decide))).trans ((fup_other ehB14 741 j (Or.inl (by decide))).trans (fup_other ehB3 741 j (Or.inl (by decide))))))))))), fun hn j hj => (fup_other ehB204 741 j (Or.inl (by decide))).trans ((fFr_S fhB85 (by decide +kernel) j).trans (((fup_other ehB72 741 j (Or.inl (by decide))).trans ((fup_other ehB58 741 j (Or.inl (by decide))).trans ((fup_other ehB47 741 j (Or.inl (by decide))).trans ((fup_other ehB36 741 j (Or.inl (by decide))).trans ((fup_other ehB25 741 j (Or.inl (by decide))).trans ((fup_other ehB14 741 j (Or.inl (by decide))).trans (fup_other ehB3 741 j (Or.inl (by decide)))))))))))⟩), (by first | exact (fun hz hn => sOne_to (sOne_be (by omega) (g1z197 (by omega)) (fun j _ => (fup_other ehB204 741 j (Or.inl (by decide))))) (by omega) (by omega) (by omega)) | exact (fun hz => absurd hz (by omega)))⟩
          · intro c217
            refine And.intro ⟨rfl, by decide, by decide⟩ (fgetf fb_740_11 h0 hB198 ?_)
            intro z218 lz218 uz218 qz218
            refine And.intro (by first | exact fi_ lz218 uz218 rfl | omega) (And.intro ?_ ?_)
            · intro c219
              refine And.intro ⟨rfl, by decide, by decide⟩ (And.intro rfl (And.intro (Or.inl rfl) (fputf fb_740_8 (by decide +kernel) hW (by first | exact ⟨by decide, by decide⟩ | omega) ?_)))
              intro IhB220 ehB220 hB220
              have t221 := fup_at ehB220 8 (by first | rfl | omega)
              have t222 : IhB220 740 9 = IhB198 740 9 := (congrFun (congrFun ehB220 740) 9).trans (fup_ne (by first | decide | omega))
              have t223 : IhB220 740 10 = IhB198 740 10 := (congrFun (congrFun ehB220 740) 10).trans (fup_ne (by first | decide | omega))
              have t224 : IhB220 740 11 = IhB198 740 11 := (congrFun (congrFun ehB220 740) 11).trans (fup_ne (by first | decide | omega))
              have t225 : IhB220 740 14 = IhB198 740 14 := (congrFun (congrFun ehB220 740) 14).trans (fup_ne (by first | decide | omega))
              have t226 : IhB220 740 15 = IhB198 740 15 := (congrFun (congrFun ehB220 740) 15).trans (fup_ne (by first | decide | omega))
              have t227 : IhB220 740 16 = IhB198 740 16 := (congrFun (congrFun ehB220 740) 16).trans (fup_ne (by first | decide | omega))
              have t228 : IhB220 740 17 = IhB198 740 17 := (congrFun (congrFun ehB220 740) 17).trans (fup_ne (by first | decide | omega))
              have t229 : IhB220 741 9 = IhB198 741 9 := (congrFun (congrFun ehB220 741) 9).trans (fup_ne (by first | decide | omega))
              have k230 := fBz_eq hB220 (a := 741) (j := 9) (by decide +kernel)
              refine And.intro (by omega) (And.intro ?_ ?_)
              · intro c231
                refine And.intro (True.intro) ?_
                exact ⟨_, rfl, by omega, (by first | exact ⟨fun hn j hj => (fup_other ehB220 741 j (Or.inl (by decide))).trans ((g0z197 j (by omega)).trans ((fFr_S fhB188 (by decide +kernel) j).trans ((fFr_S fhB85 (by decide +kernel) j).trans (((fup_other ehB72 741 j (Or.inl (by decide))).trans ((fup_other ehB58 741 j (Or.inl (by decide))).trans ((fup_other ehB47 741 j (Or.inl (by decide))).trans ((fup_other ehB36 741 j (Or.inl (by decide))).trans ((fup_other ehB25 741 j (Or.inl (by decide))).trans ((fup_other ehB14 741 j (Or.inl (by decide))).trans (fup_other ehB3 741 j (Or.inl (by decide))))))))))))), fun hn j hj => (fup_other ehB220 741 j (Or.inl (by decide))).trans ((g0z197 j (by omega)).trans ((fFr_S fhB188 (by decide +kernel) j).trans ((fFr_S fhB85 (by decide +kernel) j).trans (((fup_other ehB72 741 j (Or.inl (by decide))).trans ((fup_other ehB58 741 j (Or.inl (by decide))).trans ((fup_other ehB47 741 j (Or.inl (by decide))).trans ((fup_other ehB36 741 j (Or.inl (by decide))).trans ((fup_other ehB25 741 j (Or.inl (by decide))).trans ((fup_other ehB14 741 j (Or.inl (by decide))).trans (fup_other ehB3 741 j (Or.inl (by decide)))))))))))))⟩ | exact ⟨fun hn j hj => (fup_other ehB220 741 j (Or.inl (by decide))).trans ((fFr_S fhB85 (by decide +kernel) j).trans (((fup_other ehB72 741 j (Or.inl (by decide))).trans ((fup_other ehB58 741 j (Or.inl (by decide))).trans ((fup_other ehB47 741 j (Or.inl (by decide))).trans ((fup_other ehB36 741 j (Or.inl (by decide))).trans ((fup_other ehB25 741 j (Or.inl (by decide))).trans ((fup_other ehB14 741 j (Or.inl (by decide))).trans (fup_other ehB3 741 j (Or.inl (by decide))))))))))), fun hn j hj => (fup_other ehB220 741 j (Or.inl (by decide))).trans ((fFr_S fhB85 (by decide +kernel) j).trans (((fup_other ehB72 741 j (Or.inl (by decide))).trans ((fup_other ehB58 741 j (Or.inl (by decide))).trans ((fup_other ehB47 741 j (Or.inl (by decide))).trans ((fup_other ehB36 741 j (Or.inl (by decide))).trans ((fup_other ehB25 741 j (Or.inl (by decide))).trans ((fup_other ehB14 741 j (Or.inl (by decide))).trans (fup_other ehB3 741 j (Or.inl (by decide)))))))))))⟩), (by first | exact (fun hz hn => sOne_to (sOne_be (by omega) (g1z197 (by omega)) (fun j _ => (fup_other ehB220 741 j (Or.inl (by decide))))) (by omega) (by omega) (by omega)) | exact (fun hz => absurd hz (by omega)))⟩
              · intro c232
                refine And.intro (True.intro) ?_
                exact ⟨_, rfl, by omega, (by first | exact ⟨fun hn j hj => (fup_other ehB220 741 j (Or.inl (by decide))).trans ((g0z197 j (by omega)).trans ((fFr_S fhB188 (by decide +kernel) j).trans ((fFr_S fhB85 (by decide +kernel) j).trans (((fup_other ehB72 741 j (Or.inl (by decide))).trans ((fup_other ehB58 741 j (Or.inl (by decide))).trans ((fup_other ehB47 741 j (Or.inl (by decide))).trans ((fup_other ehB36 741 j (Or.inl (by decide))).trans ((fup_other ehB25 741 j (Or.inl (by decide))).trans ((fup_other ehB14 741 j (Or.inl (by decide))).trans (fup_other ehB3 741 j (Or.inl (by decide))))))))))))), fun hn j hj => (fup_other ehB220 741 j (Or.inl (by decide))).trans ((g0z197 j (by omega)).trans ((fFr_S fhB188 (by decide +kernel) j).trans ((fFr_S fhB85 (by decide +kernel) j).trans (((fup_other ehB72 741 j (Or.inl (by decide))).trans ((fup_other ehB58 741 j (Or.inl (by decide))).trans ((fup_other ehB47 741 j (Or.inl (by decide))).trans ((fup_other ehB36 741 j (Or.inl (by decide))).trans ((fup_other ehB25 741 j (Or.inl (by decide))).trans ((fup_other ehB14 741 j (Or.inl (by decide))).trans (fup_other ehB3 741 j (Or.inl (by decide)))))))))))))⟩ | exact ⟨fun hn j hj => (fup_other ehB220 741 j (Or.inl (by decide))).trans ((fFr_S fhB85 (by decide +kernel) j).trans (((fup_other ehB72 741 j (Or.inl (by decide))).trans ((fup_other ehB58 741 j (Or.inl (by decide))).trans ((fup_other ehB47 741 j (Or.inl (by decide))).trans ((fup_other ehB36 741 j (Or.inl (by decide))).trans ((fup_other ehB25 741 j (Or.inl (by decide))).trans ((fup_other ehB14 741 j (Or.inl (by decide))).trans (fup_other ehB3 741 j (Or.inl (by decide))))))))))), fun hn j hj => (fup_other ehB220 741 j (Or.inl (by decide))).trans ((fFr_S fhB85 (by decide +kernel) j).trans (((fup_other ehB72 741 j (Or.inl (by decide))).trans ((fup_other ehB58 741 j (Or.inl (by decide))).trans ((fup_other ehB47 741 j (Or.inl (by decide))).trans ((fup_other ehB36 741 j (Or.inl (by decide))).trans ((fup_other ehB25 741 j (Or.inl (by decide))).trans ((fup_other ehB14 741 j (Or.inl (by decide))).trans (fup_other ehB3 741 j (Or.inl (by decide)))))))))))⟩), (by first | exact (fun hz hn => sOne_to (sOne_be (by omega) (g1z197 (by omega)) (fun j _ => (fup_other ehB220 741 j (Or.inl (by decide))))) (by omega) (by omega) (by omega)) | exact (fun hz => absurd hz (by omega)))⟩
            · intro c233
              refine And.intro ⟨rfl, by decide, by decide⟩ (And.intro rfl (And.intro (Or.inl rfl) (fputf fb_740_8 (by decide +kernel) hW (by first | exact ⟨by decide, by decide⟩ | omega) ?_)))
              intro IhB234 ehB234 hB234
              have t235 := fup_at ehB234 8 (by first | rfl | omega)
              have t236 : IhB234 740 9 = IhB198 740 9 := (congrFun (congrFun ehB234 740) 9).trans (fup_ne (by first | decide | omega))
              have t237 : IhB234 740 10 = IhB198 740 10 := (congrFun (congrFun ehB234 740) 10).trans (fup_ne (by first | decide | omega))
              have t238 : IhB234 740 11 = IhB198 740 11 := (congrFun (congrFun ehB234 740) 11).trans (fup_ne (by first | decide | omega))
              have t239 : IhB234 740 14 = IhB198 740 14 := (congrFun (congrFun ehB234 740) 14).trans (fup_ne (by first | decide | omega))
              have t240 : IhB234 740 15 = IhB198 740 15 := (congrFun (congrFun ehB234 740) 15).trans (fup_ne (by first | decide | omega))
              have t241 : IhB234 740 16 = IhB198 740 16 := (congrFun (congrFun ehB234 740) 16).trans (fup_ne (by first | decide | omega))
              have t242 : IhB234 740 17 = IhB198 740 17 := (congrFun (congrFun ehB234 740) 17).trans (fup_ne (by first | decide | omega))
              have t243 : IhB234 741 9 = IhB198 741 9 := (congrFun (congrFun ehB234 741) 9).trans (fup_ne (by first | decide | omega))
              have k244 := fBz_eq hB234 (a := 741) (j := 9) (by decide +kernel)
              refine And.intro (by first | exact ⟨by decide, by decide⟩ | omega) (And.intro ?_ ?_)
              · intro c245
                refine And.intro (True.intro) ?_
                exact ⟨_, rfl, by omega, (by first | exact ⟨fun hn j hj => (fup_other ehB234 741 j (Or.inl (by decide))).trans ((g0z197 j (by omega)).trans ((fFr_S fhB188 (by decide +kernel) j).trans ((fFr_S fhB85 (by decide +kernel) j).trans (((fup_other ehB72 741 j (Or.inl (by decide))).trans ((fup_other ehB58 741 j (Or.inl (by decide))).trans ((fup_other ehB47 741 j (Or.inl (by decide))).trans ((fup_other ehB36 741 j (Or.inl (by decide))).trans ((fup_other ehB25 741 j (Or.inl (by decide))).trans ((fup_other ehB14 741 j (Or.inl (by decide))).trans (fup_other ehB3 741 j (Or.inl (by decide))))))))))))), fun hn j hj => (fup_other ehB234 741 j (Or.inl (by decide))).trans ((g0z197 j (by omega)).trans ((fFr_S fhB188 (by decide +kernel) j).trans ((fFr_S fhB85 (by decide +kernel) j).trans (((fup_other ehB72 741 j (Or.inl (by decide))).trans ((fup_other ehB58 741 j (Or.inl (by decide))).trans ((fup_other ehB47 741 j (Or.inl (by decide))).trans ((fup_other ehB36 741 j (Or.inl (by decide))).trans ((fup_other ehB25 741 j (Or.inl (by decide))).trans ((fup_other ehB14 741 j (Or.inl (by decide))).trans (fup_other ehB3 741 j (Or.inl (by decide)))))))))))))⟩ | exact ⟨fun hn j hj => (fup_other ehB234 741 j (Or.inl (by decide))).trans ((fFr_S fhB85 (by decide +kernel) j).trans (((fup_other ehB72 741 j (Or.inl (by decide))).trans ((fup_other ehB58 741 j (Or.inl (by decide))).trans ((fup_other ehB47 741 j (Or.inl (by decide))).trans ((fup_other ehB36 741 j (Or.inl (by decide))).trans ((fup_other ehB25 741 j (Or.inl (by decide))).trans ((fup_other ehB14 741 j (Or.inl (by decide))).trans (fup_other ehB3 741 j (Or.inl (by decide))))))))))), fun hn j hj => (fup_other ehB234 741 j (Or.inl (by decide))).trans ((fFr_S fhB85 (by decide +kernel) j).trans (((fup_other ehB72 741 j (Or.inl (by decide))).trans ((fup_other ehB58 741 j (Or.inl (by decide))).trans ((fup_other ehB47 741 j (Or.inl (by decide))).trans ((fup_other ehB36 741 j (Or.inl (by decide))).trans ((fup_other ehB25 741 j (Or.inl (by decide))).trans ((fup_other ehB14 741 j (Or.inl (by decide))).trans (fup_other ehB3 741 j (Or.inl (by decide)))))))))))⟩), (by first | exact (fun hz hn => sOne_to (sOne_be (by omega) (g1z197 (by omega)) (fun j _ => (fup_other ehB234 741 j (Or.inl (by decide))))) (by omega) (by omega) (by omega)) | exact (fun hz => absurd hz (by omega)))⟩
              · intro c246
                refine And.intro (True.intro) ?_
                exact ⟨_, rfl, by omega, (by first | exact ⟨fun hn j hj => (fup_other ehB234 741 j (Or.inl (by decide))).trans ((g0z197 j (by omega)).trans ((fFr_S fhB188 (by decide +kernel) j).trans ((fFr_S fhB85 (by decide +kernel) j).trans (((fup_other ehB72 741 j (Or.inl (by decide))).trans ((fup_other ehB58 741 j (Or.inl (by decide))).trans ((fup_other ehB47 741 j (Or.inl (by decide))).trans ((fup_other ehB36 741 j (Or.inl (by decide))).trans ((fup_other ehB25 741 j (Or.inl (by decide))).trans ((fup_other ehB14 741 j (Or.inl (by decide))).trans (fup_other ehB3 741 j (Or.inl (by decide))))))))))))), fun hn j hj => (fup_other ehB234 741 j (Or.inl (by decide))).trans ((g0z197 j (by omega)).trans ((fFr_S fhB188 (by decide +kernel) j).trans ((fFr_S fhB85 (by decide +kernel) j).trans (((fup_other ehB72 741 j (Or.inl (by decide))).trans ((fup_other ehB58 741 j (Or.inl (by decide))).trans ((fup_other ehB47 741 j (Or.inl (by decide))).trans ((fup_other ehB36 741 j (Or.inl (by decide))).trans ((fup_other ehB25 741 j (Or.inl (by decide))).trans ((fup_other ehB14 741 j (Or.inl (by decide))).trans (fup_other ehB3 741 j (Or.inl (by decide)))))))))))))⟩ | exact ⟨fun hn j hj => (fup_other ehB234 741 j (Or.inl (by decide))).trans ((fFr_S fhB85 (by decide +kernel) j).trans (((fup_other ehB72 741 j (Or.inl (by decide))).trans ((fup_other ehB58 741 j (Or.inl (by decide))).trans ((fup_other ehB47 741 j (Or.inl (by decide))).trans ((fup_other ehB36 741 j (Or.inl (by decide))).trans ((fup_other ehB25 741 j (Or.inl (by decide))).trans ((fup_other ehB14 741 j (Or.inl (by decide))).trans (fup_other ehB3 741 j (Or.inl (by decide))))))))))), fun hn j hj => (fup_other ehB234 741 j (Or.inl (by decide))).trans ((fFr_S fhB85 (by decide +kernel) j).trans (((fup_other ehB72 741 j (Or.inl (by decide))).trans ((fup_other ehB58 741 j (Or.inl (by decide))).trans ((fup_other ehB47 741 j (Or.inl (by decide))).trans ((fup_other ehB36 741 j (Or.inl (by decide))).trans ((fup_other ehB25 741 j (Or.inl (by decide))).trans ((fup_other ehB14 741 j (Or.inl (by decide))).trans (fup_other ehB3 741 j (Or.inl (by decide)))))))))))⟩), (by first | exact (fun hz hn => sOne_to (sOne_be (by omega) (g1z197 (by omega)) (fun j _ => (fup_other ehB234 741 j (Or.inl (by decide))))) (by omega) (by omega) (by omega)) | exact (fun hz => absurd hz (by omega)))⟩
    · intro c247
      refine And.intro ⟨rfl, by decide, by decide⟩ ?_
      refine fload1 rL_741_741_9_9_1_0 h0 hB58 ⟨by decide, by decide⟩ (by first | exact ⟨by decide, by decide⟩ | omega) ?_
      intro z248 lz248 uz248 qz248
      have pz248 := fld_at qz248 9 (by omega)
      refine Exists.intro xm_255 (And.intro mi_255 (And.intro ⟨rfl, rfl, rfl, rfl⟩ (And.intro rfl ?_)))
      refine fcallp hB58 (ct_M_textAt_ea474 (fBz h0 hB58) (by omega)) ?_
      rintro _ ⟨_, rfl, rfl⟩
      refine And.intro ⟨rfl, by decide, by decide⟩ (And.intro rfl (And.intro (Or.inl rfl) (fputf fb_740_17 (by decide +kernel) hW (by omega) ?_)))
      intro IhB250 ehB250 hB250
      have t251 : IhB250 740 8 = IhB58 740 8 := (congrFun (congrFun ehB250 740) 8).trans (fup_ne (by first | decide | omega))
      have t252 : IhB250 740 9 = IhB58 740 9 := (congrFun (congrFun ehB250 740) 9).trans (fup_ne (by first | decide | omega))
      have t253 : IhB250 740 10 = IhB58 740 10 := (congrFun (congrFun ehB250 740) 10).trans (fup_ne (by first | decide | omega))
      have t254 : IhB250 740 11 = IhB58 740 11 := (congrFun (congrFun ehB250 740) 11).trans (fup_ne (by first | decide | omega))
      have t255 : IhB250 740 14 = IhB58 740 14 := (congrFun (congrFun ehB250 740) 14).trans (fup_ne (by first | decide | omega))
      have t256 : IhB250 740 15 = IhB58 740 15 := (congrFun (congrFun ehB250 740) 15).trans (fup_ne (by first | decide | omega))
      have t257 : IhB250 740 16 = IhB58 740 16 := (congrFun (congrFun ehB250 740) 16).trans (fup_ne (by first | decide | omega))
      have t258 := fup_at ehB250 17 (by first | rfl | omega)
      have t259 : IhB250 740 18 = IhB58 740 18 := (congrFun (congrFun ehB250 740) 18).trans (fup_ne (by first | decide | omega))
      have t260 : IhB250 741 9 = IhB58 741 9 := (congrFun (congrFun ehB250 741) 9).trans (fup_ne (by first | decide | omega))
      have k261 := fBz_eq hB250 (a := 741) (j := 9) (by decide +kernel)
      refine Exists.intro xm_314 (And.intro mi_314 (And.intro ⟨rfl, rfl, rfl, rfl⟩ (And.intro rfl ?_)))
      refine fcall _ h0 (fzs_sub (by decide +kernel) hW) hB250 (ct_M_next_c8003 (fBz h0 hB250) (by omega)) ?_
      rintro IhB263 _ hB263 fhB263 ⟨rfl, hz262⟩
      have t264 := fhB263 740 8 (by decide +kernel)
      have t265 := fhB263 740 14 (by decide +kernel)
      have t266 := fhB263 740 15 (by decide +kernel)
      have t267 := fhB263 740 16 (by decide +kernel)
      have t268 := fhB263 740 17 (by decide +kernel)
      have t269 := fhB263 740 18 (by decide +kernel)
      have t270 := fhB263 741 9 (by decide +kernel)
      have k271 := fBz_eq hB263 (a := 741) (j := 9) (by decide +kernel)
      refine Exists.intro xm_317 (And.intro mi_317 (And.intro ⟨rfl, rfl, rfl, rfl⟩ (And.intro rfl ?_)))
      refine fcallp hB263 (ct_M_key_09703 (fBz h0 hB263) (by omega)) ?_
      rintro _ ⟨z272, rfl, hz272⟩
      refine And.intro (by first | exact fi_ hz272.1 hz272.2 rfl | omega) (And.intro ?_ ?_)
      · intro c273
        refine And.intro (by omega) (And.intro ?_ ?_)
        · intro c274
          refine And.intro ⟨rfl, by decide, by decide⟩ (And.intro rfl (And.intro (Or.inl rfl) (fputf fb_740_8 (by decide +kernel) hW (by first | exact ⟨by decide, by decide⟩ | omega) ?_)))
          intro IhB275 ehB275 hB275
          have t276 := fup_at ehB275 8 (by first | rfl | omega)
          have t277 : IhB275 740 9 = IhB263 740 9 := (congrFun (congrFun ehB275 740) 9).trans (fup_ne (by first | decide | omega))
          have t278 : IhB275 740 10 = IhB263 740 10 := (congrFun (congrFun ehB275 740) 10).trans (fup_ne (by first | decide | omega))
          have t279 : IhB275 740 11 = IhB263 740 11 := (congrFun (congrFun ehB275 740) 11).trans (fup_ne (by first | decide | omega))
          have t280 : IhB275 740 14 = IhB263 740 14 := (congrFun (congrFun ehB275 740) 14).trans (fup_ne (by first | decide | omega))
          have t281 : IhB275 740 15 = IhB263 740 15 := (congrFun (congrFun ehB275 740) 15).trans (fup_ne (by first | decide | omega))
          have t282 : IhB275 740 16 = IhB263 740 16 := (congrFun (congrFun ehB275 740) 16).trans (fup_ne (by first | decide | omega))
          have t283 : IhB275 740 17 = IhB263 740 17 := (congrFun (congrFun ehB275 740) 17).trans (fup_ne (by first | decide | omega))
          have t284 : IhB275 741 9 = IhB263 741 9 := (congrFun (congrFun ehB275 741) 9).trans (fup_ne (by first | decide | omega))
          have k285 := fBz_eq hB275 (a := 741) (j := 9) (by decide +kernel)
          refine And.intro (by omega) (And.intro ?_ ?_)
          · intro c286
            refine And.intro (True.intro) ?_
            exact ⟨_, rfl, by omega, (by first | exact ⟨fun hn j hj => (fup_other ehB275 741 j (Or.inl (by decide))).trans ((g0z197 j (by omega)).trans ((fFr_S fhB188 (by decide +kernel) j).trans ((fFr_S fhB263 (by decide +kernel) j).trans (((fup_other ehB250 741 j (Or.inl (by decide))).trans ((fup_other ehB58 741 j (Or.inl (by decide))).trans ((fup_other ehB47 741 j (Or.inl (by decide))).trans ((fup_other ehB36 741 j (Or.inl (by decide))).trans ((fup_other ehB25 741 j (Or.inl (by decide))).trans ((fup_other ehB14 741 j (Or.inl (by decide))).trans (fup_other ehB3 741 j (Or.inl (by decide))))))))))))), fun hn j hj => (fup_other ehB275 741 j (Or.inl (by decide))).trans ((g0z197 j (by omega)).trans ((fFr_S fhB188 (by decide +kernel) j).trans ((fFr_S fhB263 (by decide +kernel) j).trans (((fup_other ehB250 741 j (Or.inl (by decide))).trans ((fup_other ehB58 741 j (Or.inl (by decide))).trans ((fup_other ehB47 741 j (Or.inl (by decide))).trans ((fup_other ehB36 741 j (Or.inl (by decide))).trans ((fup_other ehB25 741 j (Or.inl (by decide))).trans ((fup_other ehB14 741 j (Or.inl (by decide))).trans (fup_other ehB3 741 j (Or.inl (by decide)))))))))))))⟩ | exact ⟨fun hn j hj => (fup_other ehB275 741 j (Or.inl (by decide))).trans ((fFr_S fhB263 (by decide +kernel) j).trans (((fup_other ehB250 741 j (Or.inl (by decide))).trans ((fup_other ehB58 741 j (Or.inl (by decide))).trans ((fup_other ehB47 741 j (Or.inl (by decide))).trans ((fup_other ehB36 741 j (Or.inl (by decide))).trans ((fup_other ehB25 741 j (Or.inl (by decide))).trans ((fup_other ehB14 741 j (Or.inl (by decide))).trans (fup_other ehB3 741 j (Or.inl (by decide))))))))))), fun hn j hj => (fup_other ehB275 741 j (Or.inl (by decide))).trans ((fFr_S fhB263 (by decide +kernel) j).trans (((fup_other ehB250 741 j (Or.inl (by decide))).trans ((fup_other ehB58 741 j (Or.inl (by decide))).trans ((fup_other ehB47 741 j (Or.inl (by decide))).trans ((fup_other ehB36 741 j (Or.inl (by decide))).trans ((fup_other ehB25 741 j (Or.inl (by decide))).trans ((fup_other ehB14 741 j (Or.inl (by decide))).trans (fup_other ehB3 741 j (Or.inl (by decide)))))))))))⟩), (by first | exact (fun hz hn => sOne_to (sOne_be (by omega) (g1z197 (by omega)) (fun j _ => (fup_other ehB275 741 j (Or.inl (by decide))))) (by omega) (by omega) (by omega)) | exact (fun hz => absurd hz (by omega)))⟩
          · intro c287
            refine And.intro (True.intro) ?_
            exact ⟨_, rfl, by omega, (by first | exact ⟨fun hn j hj => (fup_other ehB275 741 j (Or.inl (by decide))).trans ((g0z197 j (by omega)).trans ((fFr_S fhB188 (by decide +kernel) j).trans ((fFr_S fhB263 (by decide +kernel) j).trans (((fup_other ehB250 741 j (Or.inl (by decide))).trans ((fup_other ehB58 741 j (Or.inl (by decide))).trans ((fup_other ehB47 741 j (Or.inl (by decide))).trans ((fup_other ehB36 741 j (Or.inl (by decide))).trans ((fup_other ehB25 741 j (Or.inl (by decide))).trans ((fup_other ehB14 741 j (Or.inl (by decide))).trans (fup_other ehB3 741 j (Or.inl (by decide))))))))))))), fun hn j hj => (fup_other ehB275 741 j (Or.inl (by decide))).trans ((g0z197 j (by omega)).trans ((fFr_S fhB188 (by decide +kernel) j).trans ((fFr_S fhB263 (by decide +kernel) j).trans (((fup_other ehB250 741 j (Or.inl (by decide))).trans ((fup_other ehB58 741 j (Or.inl (by decide))).trans ((fup_other ehB47 741 j (Or.inl (by decide))).trans ((fup_other ehB36 741 j (Or.inl (by decide))).trans ((fup_other ehB25 741 j (Or.inl (by decide))).trans ((fup_other ehB14 741 j (Or.inl (by decide))).trans (fup_other ehB3 741 j (Or.inl (by decide)))))))))))))⟩ | exact ⟨fun hn j hj => (fup_other ehB275 741 j (Or.inl (by decide))).trans ((fFr_S fhB263 (by decide +kernel) j).trans (((fup_other ehB250 741 j (Or.inl (by decide))).trans ((fup_other ehB58 741 j (Or.inl (by decide))).trans ((fup_other ehB47 741 j (Or.inl (by decide))).trans ((fup_other ehB36 741 j (Or.inl (by decide))).trans ((fup_other ehB25 741 j (Or.inl (by decide))).trans ((fup_other ehB14 741 j (Or.inl (by decide))).trans (fup_other ehB3 741 j (Or.inl (by decide))))))))))), fun hn j hj => (fup_other ehB275 741 j (Or.inl (by decide))).trans ((fFr_S fhB263 (by decide +kernel) j).trans (((fup_other ehB250 741 j (Or.inl (by decide))).trans ((fup_other ehB58 741 j (Or.inl (by decide))).trans ((fup_other ehB47 741 j (Or.inl (by decide))).trans ((fup_other ehB36 741 j (Or.inl (by decide))).trans ((fup_other ehB25 741 j (Or.inl (by decide))).trans ((fup_other ehB14 741 j (Or.inl (by decide))).trans (fup_other ehB3 741 j (Or.inl (by decide)))))))))))⟩), (by first | exact (fun hz hn => sOne_to (sOne_be (by omega) (g1z197 (by omega)) (fun j _ => (fup_other ehB275 741 j (Or.inl (by decide))))) (by omega) (by omega) (by omega)) | exact (fun hz => absurd hz (by omega)))⟩
        · intro c288
          refine Exists.intro xm_314 (And.intro mi_314 (And.intro ⟨rfl, rfl, rfl, rfl⟩ (And.intro rfl ?_)))
          refine fcall _ h0 (fzs_sub (by decide +kernel) hW) hB263 (ct_M_next_c8003 (fBz h0 hB263) (by omega)) ?_
          rintro IhB290 _ hB290 fhB290 ⟨rfl, hz289⟩
          have t291 := fhB290 740 8 (by decide +kernel)
          have t292 := fhB290 740 14 (by decide +kernel)
          have t293 := fhB290 740 15 (by decide +kernel)
          have t294 := fhB290 740 16 (by decide +kernel)
          have t295 := fhB290 740 17 (by decide +kernel)
          have t296 := fhB290 740 18 (by decide +kernel)
          have t297 := fhB290 741 9 (by decide +kernel)
          have k298 := fBz_eq hB290 (a := 741) (j := 9) (by decide +kernel)
          refine Exists.intro xm_335 (And.intro mi_335 (And.intro ⟨rfl, rfl, rfl, rfl⟩ (And.intro rfl ?_)))
          refine fcall _ h0 (fzs_sub (by decide +kernel) hW) hB290 (ct_M_either_c00e3 (fBz h0 hB290) (by first | exact ⟨hz272.1, Int.le_trans (Int.le_sub_one_of_lt (Int.lt_of_lt_of_le c273 (Int.le_refl _))) (by decide)⟩ | omega) (by omega) (by omega) (by omega) (by omega)) ?_
          rintro IhB300 _ hB300 fhB300 ⟨z299, rfl, hz299, g0z299, g1z299⟩
          have t301 := fhB300 740 8 (by decide +kernel)
          have t302 := fhB300 740 17 (by decide +kernel)
          have t303 := fhB300 741 9 (by decide +kernel)
          have k304 := fBz_eq hB300 (a := 741) (j := 9) (by decide +kernel)
          refine And.intro (by omega) (And.intro ?_ ?_)
          · intro c305
            refine And.intro ⟨rfl, by decide, by decide⟩ (And.intro rfl (And.intro (Or.inl rfl) (fputf fb_740_8 (by decide +kernel) hW (by first | exact ⟨by decide, by decide⟩ | omega) ?_)))
            intro IhB306 ehB306 hB306
            have t307 := fup_at ehB306 8 (by first | rfl | omega)
            have t308 : IhB306 740 9 = IhB300 740 9 := (congrFun (congrFun ehB306 740) 9).trans (fup_ne (by first | decide | omega))
            have t309 : IhB306 740 10 = IhB300 740 10 := (congrFun (congrFun ehB306 740) 10).trans (fup_ne (by first | decide | omega))
            have t310 : IhB306 740 11 = IhB300 740 11 := (congrFun (congrFun ehB306 740) 11).trans (fup_ne (by first | decide | omega))
            have t311 : IhB306 740 14 = IhB300 740 14 := (congrFun (congrFun ehB306 740) 14).trans (fup_ne (by first | decide | omega))
            have t312 : IhB306 740 15 = IhB300 740 15 := (congrFun (congrFun ehB306 740) 15).trans (fup_ne (by first | decide | omega))
            have t313 : IhB306 740 16 = IhB300 740 16 := (congrFun (congrFun ehB306 740) 16).trans (fup_ne (by first | decide | omega))
            have t314 : IhB306 740 17 = IhB300 740 17 := (congrFun (congrFun ehB306 740) 17).trans (fup_ne (by first | decide | omega))
            have t315 : IhB306 741 9 = IhB300 741 9 := (congrFun (congrFun ehB306 741) 9).trans (fup_ne (by first | decide | omega))
            have k316 := fBz_eq hB306 (a := 741) (j := 9) (by decide +kernel)
            refine And.intro (by omega) (And.intro ?_ ?_)
            · intro c317
              refine And.intro (True.intro) ?_
              exact ⟨_, rfl, by omega, (by first | exact ⟨fun hn j hj => (fup_other ehB306 741 j (Or.inl (by decide))).trans ((g0z299 j (by omega)).trans ((fFr_S fhB290 (by decide +kernel) j).trans ((fFr_S fhB263 (by decide +kernel) j).trans (((fup_other ehB250 741 j (Or.inl (by decide))).trans ((fup_other ehB58 741 j (Or.inl (by decide))).trans ((fup_other ehB47 741 j (Or.inl (by decide))).trans ((fup_other ehB36 741 j (Or.inl (by decide))).trans ((fup_other ehB25 741 j (Or.inl (by decide))).trans ((fup_other ehB14 741 j (Or.inl (by decide))).trans (fup_other ehB3 741 j (Or.inl (by decide))))))))))))), fun hn j hj => (fup_other ehB306 741 j (Or.inl (by decide))).trans ((g0z299 j (by omega)).trans ((fFr_S fhB290 (by decide +kernel) j).trans ((fFr_S fhB263 (by decide +kernel) j).trans (((fup_other ehB250 741 j (Or.inl (by decide))).trans ((fup_other ehB58 741 j (Or.inl (by decide))).trans ((fup_other ehB47 741 j (Or.inl (by decide))).trans ((fup_other ehB36 741 j (Or.inl (by decide))).trans ((fup_other ehB25 741 j (Or.inl (by decide))).trans ((fup_other ehB14 741 j (Or.inl (by decide))).trans (fup_other ehB3 741 j (Or.inl (by decide)))))))))))))⟩ | exact ⟨fun hn j hj => (fup_other ehB306 741 j (Or.inl (by decide))).trans ((fFr_S fhB263 (by decide +kernel) j).trans (((fup_other ehB250 741 j (Or.inl (by decide))).trans ((fup_other ehB58 741 j (Or.inl (by decide))).trans ((fup_other ehB47 741 j (Or.inl (by decide))).trans ((fup_other ehB36 741 j (Or.inl (by decide))).trans ((fup_other ehB25 741 j (Or.inl (by decide))).trans ((fup_other ehB14 741 j (Or.inl (by decide))).trans (fup_other ehB3 741 j (Or.inl (by decide))))))))))), fun hn j hj => (fup_other ehB306 741 j (Or.inl (by decide))).trans ((fFr_S fhB263 (by decide +kernel) j).trans (((fup_other ehB250 741 j (Or.inl (by decide))).trans ((fup_other ehB58 741 j (Or.inl (by decide))).trans ((fup_other ehB47 741 j (Or.inl (by decide))).trans ((fup_other ehB36 741 j (Or.inl (by decide))).trans ((fup_other ehB25 741 j (Or.inl (by decide))).trans ((fup_other ehB14 741 j (Or.inl (by decide))).trans (fup_other ehB3 741 j (Or.inl (by decide)))))))))))⟩), (by first | exact (fun hz hn => sOne_to (sOne_be (by omega) (g1z299 (by omega)) (fun j _ => (fup_other ehB306 741 j (Or.inl (by decide))))) (by omega) (by omega) (by omega)) | exact (fun hz => absurd hz (by omega)))⟩
            · intro c318
              refine And.intro (True.intro) ?_
              exact ⟨_, rfl, by omega, (by first | exact ⟨fun hn j hj => (fup_other ehB306 741 j (Or.inl (by decide))).trans ((g0z299 j (by omega)).trans ((fFr_S fhB290 (by decide +kernel) j).trans ((fFr_S fhB263 (by decide +kernel) j).trans (((fup_other ehB250 741 j (Or.inl (by decide))).trans ((fup_other ehB58 741 j (Or.inl (by decide))).trans ((fup_other ehB47 741 j (Or.inl (by decide))).trans ((fup_other ehB36 741 j (Or.inl (by decide))).trans ((fup_other ehB25 741 j (Or.inl (by decide))).trans ((fup_other ehB14 741 j (Or.inl (by decide))).trans (fup_other ehB3 741 j (Or.inl (by decide))))))))))))), fun hn j hj => (fup_other ehB306 741 j (Or.inl (by decide))).trans ((g0z299 j (by omega)).trans ((fFr_S fhB290 (by decide +kernel) j).trans ((fFr_S fhB263 (by decide +kernel) j).trans (((fup_other ehB250 741 j (Or.inl (by decide))).trans ((fup_other ehB58 741 j (Or.inl (by decide))).trans ((fup_other ehB47 741 j (Or.inl (by decide))).trans ((fup_other ehB36 741 j (Or.inl (by decide))).trans ((fup_other ehB25 741 j (Or.inl (by decide))).trans ((fup_other ehB14 741 j (Or.inl (by decide))).trans (fup_other ehB3 741 j (Or.inl (by decide)))))))))))))⟩ | exact ⟨fun hn j hj => (fup_other ehB306 741 j (Or.inl (by decide))).trans ((fFr_S fhB263 (by decide +kernel) j).trans (((fup_other ehB250 741 j (Or.inl (by decide))).trans ((fup_other ehB58 741 j (Or.inl (by decide))).trans ((fup_other ehB47 741 j (Or.inl (by decide))).trans ((fup_other ehB36 741 j (Or.inl (by decide))).trans ((fup_other ehB25 741 j (Or.inl (by decide))).trans ((fup_other ehB14 741 j (Or.inl (by decide))).trans (fup_other ehB3 741 j (Or.inl (by decide))))))))))), fun hn j hj => (fup_other ehB306 741 j (Or.inl (by decide))).trans ((fFr_S fhB263 (by decide +kernel) j).trans (((fup_other ehB250 741 j (Or.inl (by decide))).trans ((fup_other ehB58 741 j (Or.inl (by decide))).trans ((fup_other ehB47 741 j (Or.inl (by decide))).trans ((fup_other ehB36 741 j (Or.inl (by decide))).trans ((fup_other ehB25 741 j (Or.inl (by decide))).trans ((fup_other ehB14 741 j (Or.inl (by decide))).trans (fup_other ehB3 741 j (Or.inl (by decide)))))))))))⟩), (by first | exact (fun hz hn => sOne_to (sOne_be (by omega) (g1z299 (by omega)) (fun j _ => (fup_other ehB306 741 j (Or.inl (by decide))))) (by omega) (by omega) (by omega)) | exact (fun hz => absurd hz (by omega)))⟩
          · intro c319
            refine And.intro ⟨rfl, by decide, by decide⟩ (fgetf fb_740_11 h0 hB300 ?_)
            intro z320 lz320 uz320 qz320
            refine And.intro (by first | exact fi_ lz320 uz320 rfl | omega) (And.intro ?_ ?_)
            · intro c321
              refine And.intro ⟨rfl, by decide, by decide⟩ (And.intro rfl (And.intro (Or.inl rfl) (fputf fb_740_8 (by decide +kernel) hW (by first | exact ⟨by decide, by decide⟩ | omega) ?_)))
              intro IhB322 ehB322 hB322
              have t323 := fup_at ehB322 8 (by first | rfl | omega)
              have t324 : IhB322 740 9 = IhB300 740 9 := (congrFun (congrFun ehB322 740) 9).trans (fup_ne (by first | decide | omega))
              have t325 : IhB322 740 10 = IhB300 740 10 := (congrFun (congrFun ehB322 740) 10).trans (fup_ne (by first | decide | omega))
              have t326 : IhB322 740 11 = IhB300 740 11 := (congrFun (congrFun ehB322 740) 11).trans (fup_ne (by first | decide | omega))
              have t327 : IhB322 740 14 = IhB300 740 14 := (congrFun (congrFun ehB322 740) 14).trans (fup_ne (by first | decide | omega))
              have t328 : IhB322 740 15 = IhB300 740 15 := (congrFun (congrFun ehB322 740) 15).trans (fup_ne (by first | decide | omega))
              have t329 : IhB322 740 16 = IhB300 740 16 := (congrFun (congrFun ehB322 740) 16).trans (fup_ne (by first | decide | omega))
              have t330 : IhB322 740 17 = IhB300 740 17 := (congrFun (congrFun ehB322 740) 17).trans (fup_ne (by first | decide | omega))
              have t331 : IhB322 741 9 = IhB300 741 9 := (congrFun (congrFun ehB322 741) 9).trans (fup_ne (by first | decide | omega))
              have k332 := fBz_eq hB322 (a := 741) (j := 9) (by decide +kernel)
              refine And.intro (by omega) (And.intro ?_ ?_)
              · intro c333
                refine And.intro (True.intro) ?_
                exact ⟨_, rfl, by omega, (by first | exact ⟨fun hn j hj => (fup_other ehB322 741 j (Or.inl (by decide))).trans ((g0z299 j (by omega)).trans ((fFr_S fhB290 (by decide +kernel) j).trans ((fFr_S fhB263 (by decide +kernel) j).trans (((fup_other ehB250 741 j (Or.inl (by decide))).trans ((fup_other ehB58 741 j (Or.inl (by decide))).trans ((fup_other ehB47 741 j (Or.inl (by decide))).trans ((fup_other ehB36 741 j (Or.inl (by decide))).trans ((fup_other ehB25 741 j (Or.inl (by decide))).trans ((fup_other ehB14 741 j (Or.inl (by decide))).trans (fup_other ehB3 741 j (Or.inl (by decide))))))))))))), fun hn j hj => (fup_other ehB322 741 j (Or.inl (by decide))).trans ((g0z299 j (by omega)).trans ((fFr_S fhB290 (by decide +kernel) j).trans ((fFr_S fhB263 (by decide +kernel) j).trans (((fup_other ehB250 741 j (Or.inl (by decide))).trans ((fup_other ehB58 741 j (Or.inl (by decide))).trans ((fup_other ehB47 741 j (Or.inl (by decide))).trans ((fup_other ehB36 741 j (Or.inl (by decide))).trans ((fup_other ehB25 741 j (Or.inl (by decide))).trans ((fup_other ehB14 741 j (Or.inl (by decide))).trans (fup_other ehB3 741 j (Or.inl (by decide)))))))))))))⟩ | exact ⟨fun hn j hj => (fup_other ehB322 741 j (Or.inl (by decide))).trans ((fFr_S fhB263 (by decide +kernel) j).trans (((fup_other ehB250 741 j (Or.inl (by decide))).trans ((fup_other ehB58 741 j (Or.inl (by decide))).trans ((fup_other ehB47 741 j (Or.inl (by decide))).trans ((fup_other ehB36 741 j (Or.inl (by decide))).trans ((fup_other ehB25 741 j (Or.inl (by decide))).trans ((fup_other ehB14 741 j (Or.inl (by decide))).trans (fup_other ehB3 741 j (Or.inl (by decide))))))))))), fun hn j hj => (fup_other ehB322 741 j (Or.inl (by decide))).trans ((fFr_S fhB263 (by decide +kernel) j).trans (((fup_other ehB250 741 j (Or.inl (by decide))).trans ((fup_other ehB58 741 j (Or.inl (by decide))).trans ((fup_other ehB47 741 j (Or.inl (by decide))).trans ((fup_other ehB36 741 j (Or.inl (by decide))).trans ((fup_other ehB25 741 j (Or.inl (by decide))).trans ((fup_other ehB14 741 j (Or.inl (by decide))).trans (fup_other ehB3 741 j (Or.inl (by decide)))))))))))⟩), (by first | exact (fun hz hn => sOne_to (sOne_be (by omega) (g1z299 (by omega)) (fun j _ => (fup_other ehB322 741 j (Or.inl (by decide))))) (by omega) (by omega) (by omega)) | exact (fun hz => absurd hz (by omega)))⟩
              · intro c334
                refine And.intro (True.intro) ?_
                exact ⟨_, rfl, by omega, (by first | exact ⟨fun hn j hj => (fup_other ehB322 741 j (Or.inl (by decide))).trans ((g0z299 j (by omega)).trans ((fFr_S fhB290 (by decide +kernel) j).trans ((fFr_S fhB263 (by decide +kernel) j).trans (((fup_other ehB250 741 j (Or.inl (by decide))).trans ((fup_other ehB58 741 j (Or.inl (by decide))).trans ((fup_other ehB47 741 j (Or.inl (by decide))).trans ((fup_other ehB36 741 j (Or.inl (by decide))).trans ((fup_other ehB25 741 j (Or.inl (by decide))).trans ((fup_other ehB14 741 j (Or.inl (by decide))).trans (fup_other ehB3 741 j (Or.inl (by decide))))))))))))), fun hn j hj => (fup_other ehB322 741 j (Or.inl (by decide))).trans ((g0z299 j (by omega)).trans ((fFr_S fhB290 (by decide +kernel) j).trans ((fFr_S fhB263 (by decide +kernel) j).trans (((fup_other ehB250 741 j (Or.inl (by decide))).trans ((fup_other ehB58 741 j (Or.inl (by decide))).trans ((fup_other ehB47 741 j (Or.inl (by decide))).trans ((fup_other ehB36 741 j (Or.inl (by decide))).trans ((fup_other ehB25 741 j (Or.inl (by decide))).trans ((fup_other ehB14 741 j (Or.inl (by decide))).trans (fup_other ehB3 741 j (Or.inl (by decide)))))))))))))⟩ | exact ⟨fun hn j hj => (fup_other ehB322 741 j (Or.inl (by decide))).trans ((fFr_S fhB263 (by decide +kernel) j).trans (((fup_other ehB250 741 j (Or.inl (by decide))).trans ((fup_other ehB58 741 j (Or.inl (by decide))).trans ((fup_other ehB47 741 j (Or.inl (by decide))).trans ((fup_other ehB36 741 j (Or.inl (by decide))).trans ((fup_other ehB25 741 j (Or.inl (by decide))).trans ((fup_other ehB14 741 j (Or.inl (by decide))).trans (fup_other ehB3 741 j (Or.inl (by decide))))))))))), fun hn j hj => (fup_other ehB322 741 j (Or.inl (by decide))).trans ((fFr_S fhB263 (by decide +kernel) j).trans (((fup_other ehB250 741 j (Or.inl (by decide))).trans ((fup_other ehB58 741 j (Or.inl (by decide))).trans ((fup_other ehB47 741 j (Or.inl (by decide))).trans ((fup_other ehB36 741 j (Or.inl (by decide))).trans ((fup_other ehB25 741 j (Or.inl (by decide))).trans ((fup_other ehB14 741 j (Or.inl (by decide))).trans (fup_other ehB3 741 j (Or.inl (by decide)))))))))))⟩), (by first | exact (fun hz hn => sOne_to (sOne_be (by omega) (g1z299 (by omega)) (fun j _ => (fup_other ehB322 741 j (Or.inl (by decide))))) (by omega) (by omega) (by omega)) | exact (fun hz => absurd hz (by omega)))⟩
            · intro c335
              refine And.intro ⟨rfl, by decide, by decide⟩ (And.intro rfl (And.intro (Or.inl rfl) (fputf fb_740_8 (by decide +kernel) hW (by first | exact ⟨by decide, by decide⟩ | omega) ?_)))
              intro IhB336 ehB336 hB336
              have t337 := fup_at ehB336 8 (by first | rfl | omega)
              have t338 : IhB336 740 9 = IhB300 740 9 := (congrFun (congrFun ehB336 740) 9).trans (fup_ne (by first | decide | omega))
              have t339 : IhB336 740 10 = IhB300 740 10 := (congrFun (congrFun ehB336 740) 10).trans (fup_ne (by first | decide | omega))
              have t340 : IhB336 740 11 = IhB300 740 11 := (congrFun (congrFun ehB336 740) 11).trans (fup_ne (by first | decide | omega))
              have t341 : IhB336 740 14 = IhB300 740 14 := (congrFun (congrFun ehB336 740) 14).trans (fup_ne (by first | decide | omega))
              have t342 : IhB336 740 15 = IhB300 740 15 := (congrFun (congrFun ehB336 740) 15).trans (fup_ne (by first | decide | omega))
              have t343 : IhB336 740 16 = IhB300 740 16 := (congrFun (congrFun ehB336 740) 16).trans (fup_ne (by first | decide | omega))
              have t344 : IhB336 740 17 = IhB300 740 17 := (congrFun (congrFun ehB336 740) 17).trans (fup_ne (by first | decide | omega))
              have t345 : IhB336 741 9 = IhB300 741 9 := (congrFun (congrFun ehB336 741) 9).trans (fup_ne (by first | decide | omega))
              have k346 := fBz_eq hB336 (a := 741) (j := 9) (by decide +kernel)
              refine And.intro (by first | exact ⟨by decide, by decide⟩ | omega) (And.intro ?_ ?_)
              · intro c347
                refine And.intro (True.intro) ?_
                exact ⟨_, rfl, by omega, (by first | exact ⟨fun hn j hj => (fup_other ehB336 741 j (Or.inl (by decide))).trans ((g0z299 j (by omega)).trans ((fFr_S fhB290 (by decide +kernel) j).trans ((fFr_S fhB263 (by decide +kernel) j).trans (((fup_other ehB250 741 j (Or.inl (by decide))).trans ((fup_other ehB58 741 j (Or.inl (by decide))).trans ((fup_other ehB47 741 j (Or.inl (by decide))).trans ((fup_other ehB36 741 j (Or.inl (by decide))).trans ((fup_other ehB25 741 j (Or.inl (by decide))).trans ((fup_other ehB14 741 j (Or.inl (by decide))).trans (fup_other ehB3 741 j (Or.inl (by decide))))))))))))), fun hn j hj => (fup_other ehB336 741 j (Or.inl (by decide))).trans ((g0z299 j (by omega)).trans ((fFr_S fhB290 (by decide +kernel) j).trans ((fFr_S fhB263 (by decide +kernel) j).trans (((fup_other ehB250 741 j (Or.inl (by decide))).trans ((fup_other ehB58 741 j (Or.inl (by decide))).trans ((fup_other ehB47 741 j (Or.inl (by decide))).trans ((fup_other ehB36 741 j (Or.inl (by decide))).trans ((fup_other ehB25 741 j (Or.inl (by decide))).trans ((fup_other ehB14 741 j (Or.inl (by decide))).trans (fup_other ehB3 741 j (Or.inl (by decide)))))))))))))⟩ | exact ⟨fun hn j hj => (fup_other ehB336 741 j (Or.inl (by decide))).trans ((fFr_S fhB263 (by decide +kernel) j).trans (((fup_other ehB250 741 j (Or.inl (by decide))).trans ((fup_other ehB58 741 j (Or.inl (by decide))).trans ((fup_other ehB47 741 j (Or.inl (by decide))).trans ((fup_other ehB36 741 j (Or.inl (by decide))).trans ((fup_other ehB25 741 j (Or.inl (by decide))).trans ((fup_other ehB14 741 j (Or.inl (by decide))).trans (fup_other ehB3 741 j (Or.inl (by decide))))))))))), fun hn j hj => (fup_other ehB336 741 j (Or.inl (by decide))).trans ((fFr_S fhB263 (by decide +kernel) j).trans (((fup_other ehB250 741 j (Or.inl (by decide))).trans ((fup_other ehB58 741 j (Or.inl (by decide))).trans ((fup_other ehB47 741 j (Or.inl (by decide))).trans ((fup_other ehB36 741 j (Or.inl (by decide))).trans ((fup_other ehB25 741 j (Or.inl (by decide))).trans ((fup_other ehB14 741 j (Or.inl (by decide))).trans (fup_other ehB3 741 j (Or.inl (by decide)))))))))))⟩), (by first | exact (fun hz hn => sOne_to (sOne_be (by omega) (g1z299 (by omega)) (fun j _ => (fup_other ehB336 741 j (Or.inl (by decide))))) (by omega) (by omega) (by omega)) | exact (fun hz => absurd hz (by omega)))⟩
              · intro c348
                refine And.intro (True.intro) ?_
                exact ⟨_, rfl, by omega, (by first | exact ⟨fun hn j hj => (fup_other ehB336 741 j (Or.inl (by decide))).trans ((g0z299 j (by omega)).trans ((fFr_S fhB290 (by decide +kernel) j).trans ((fFr_S fhB263 (by decide +kernel) j).trans (((fup_other ehB250 741 j (Or.inl (by decide))).trans ((fup_other ehB58 741 j (Or.inl (by decide))).trans ((fup_other ehB47 741 j (Or.inl (by decide))).trans ((fup_other ehB36 741 j (Or.inl (by decide))).trans ((fup_other ehB25 741 j (Or.inl (by decide))).trans ((fup_other ehB14 741 j (Or.inl (by decide))).trans (fup_other ehB3 741 j (Or.inl (by decide))))))))))))), fun hn j hj => (fup_other ehB336 741 j (Or.inl (by decide))).trans ((g0z299 j (by omega)).trans ((fFr_S fhB290 (by decide +kernel) j).trans ((fFr_S fhB263 (by decide +kernel) j).trans (((fup_other ehB250 741 j (Or.inl (by decide))).trans ((fup_other ehB58 741 j (Or.inl (by decide))).trans ((fup_other ehB47 741 j (Or.inl (by decide))).trans ((fup_other ehB36 741 j (Or.inl (by decide))).trans ((fup_other ehB25 741 j (Or.inl (by decide))).trans ((fup_other ehB14 741 j (Or.inl (by decide))).trans (fup_other ehB3 741 j (Or.inl (by decide)))))))))))))⟩ | exact ⟨fun hn j hj => (fup_other ehB336 741 j (Or.inl (by decide))).trans ((fFr_S fhB263 (by decide +kernel) j).trans (((fup_other ehB250 741 j (Or.inl (by decide))).trans ((fup_other ehB58 741 j (Or.inl (by decide))).trans ((fup_other ehB47 741 j (Or.inl (by decide))).trans ((fup_other ehB36 741 j (Or.inl (by decide))).trans ((fup_other ehB25 741 j (Or.inl (by decide))).trans ((fup_other ehB14 741 j (Or.inl (by decide))).trans (fup_other ehB3 741 j (Or.inl (by decide))))))))))), fun hn j hj => (fup_other ehB336 741 j (Or.inl (by decide))).trans ((fFr_S fhB263 (by decide +kernel) j).trans (((fup_other ehB250 741 j (Or.inl (by decide))).trans ((fup_other ehB58 741 j (Or.inl (by decide))).trans ((fup_other ehB47 741 j (Or.inl (by decide))).trans ((fup_other ehB36 741 j (Or.inl (by decide))).trans ((fup_other ehB25 741 j (Or.inl (by decide))).trans ((fup_other ehB14 741 j (Or.inl (by decide))).trans (fup_other ehB3 741 j (Or.inl (by decide)))))))))))⟩), (by first | exact (fun hz hn => sOne_to (sOne_be (by omega) (g1z299 (by omega)) (fun j _ => (fup_other ehB336 741 j (Or.inl (by decide))))) (by omega) (by omega) (by omega)) | exact (fun hz => absurd hz (by omega)))⟩
      · intro c349
        refine And.intro (by first | exact ⟨by decide, by decide⟩ | omega) (And.intro ?_ ?_)
        · intro c350
          refine And.intro ⟨rfl, by decide, by decide⟩ (And.intro rfl (And.intro (Or.inl rfl) (fputf fb_740_8 (by decide +kernel) hW (by first | exact ⟨by decide, by decide⟩ | omega) ?_)))
          intro IhB351 ehB351 hB351
          have t352 := fup_at ehB351 8 (by first | rfl | omega)
          have t353 : IhB351 740 9 = IhB263 740 9 := (congrFun (congrFun ehB351 740) 9).trans (fup_ne (by first | decide | omega))
          have t354 : IhB351 740 10 = IhB263 740 10 := (congrFun (congrFun ehB351 740) 10).trans (fup_ne (by first | decide | omega))
          have t355 : IhB351 740 11 = IhB263 740 11 := (congrFun (congrFun ehB351 740) 11).trans (fup_ne (by first | decide | omega))
          have t356 : IhB351 740 14 = IhB263 740 14 := (congrFun (congrFun ehB351 740) 14).trans (fup_ne (by first | decide | omega))
          have t357 : IhB351 740 15 = IhB263 740 15 := (congrFun (congrFun ehB351 740) 15).trans (fup_ne (by first | decide | omega))
          have t358 : IhB351 740 16 = IhB263 740 16 := (congrFun (congrFun ehB351 740) 16).trans (fup_ne (by first | decide | omega))
          have t359 : IhB351 740 17 = IhB263 740 17 := (congrFun (congrFun ehB351 740) 17).trans (fup_ne (by first | decide | omega))
          have t360 : IhB351 741 9 = IhB263 741 9 := (congrFun (congrFun ehB351 741) 9).trans (fup_ne (by first | decide | omega))
          have k361 := fBz_eq hB351 (a := 741) (j := 9) (by decide +kernel)
          refine And.intro (by first | exact ⟨by decide, by decide⟩ | omega) (And.intro ?_ ?_)
          · intro c362
            refine And.intro (True.intro) ?_
            exact ⟨_, rfl, by omega, (by first | exact ⟨fun hn j hj => (fup_other ehB351 741 j (Or.inl (by decide))).trans ((g0z299 j (by omega)).trans ((fFr_S fhB290 (by decide +kernel) j).trans ((fFr_S fhB263 (by decide +kernel) j).trans (((fup_other ehB250 741 j (Or.inl (by decide))).trans ((fup_other ehB58 741 j (Or.inl (by decide))).trans ((fup_other ehB47 741 j (Or.inl (by decide))).trans ((fup_other ehB36 741 j (Or.inl (by decide))).trans ((fup_other ehB25 741 j (Or.inl (by decide))).trans ((fup_other ehB14 741 j (Or.inl (by decide))).trans (fup_other ehB3 741 j (Or.inl (by decide))))))))))))), fun hn j hj => (fup_other ehB351 741 j (Or.inl (by decide))).trans ((g0z299 j (by omega)).trans ((fFr_S fhB290 (by decide +kernel) j).trans ((fFr_S fhB263 (by decide +kernel) j).trans (((fup_other ehB250 741 j (Or.inl (by decide))).trans ((fup_other ehB58 741 j (Or.inl (by decide))).trans ((fup_other ehB47 741 j (Or.inl (by decide))).trans ((fup_other ehB36 741 j (Or.inl (by decide))).trans ((fup_other ehB25 741 j (Or.inl (by decide))).trans ((fup_other ehB14 741 j (Or.inl (by decide))).trans (fup_other ehB3 741 j (Or.inl (by decide)))))))))))))⟩ | exact ⟨fun hn j hj => (fup_other ehB351 741 j (Or.inl (by decide))).trans ((fFr_S fhB263 (by decide +kernel) j).trans (((fup_other ehB250 741 j (Or.inl (by decide))).trans ((fup_other ehB58 741 j (Or.inl (by decide))).trans ((fup_other ehB47 741 j (Or.inl (by decide))).trans ((fup_other ehB36 741 j (Or.inl (by decide))).trans ((fup_other ehB25 741 j (Or.inl (by decide))).trans ((fup_other ehB14 741 j (Or.inl (by decide))).trans (fup_other ehB3 741 j (Or.inl (by decide))))))))))), fun hn j hj => (fup_other ehB351 741 j (Or.inl (by decide))).trans ((fFr_S fhB263 (by decide +kernel) j).trans (((fup_other ehB250 741 j (Or.inl (by decide))).trans ((fup_other ehB58 741 j (Or.inl (by decide))).trans ((fup_other ehB47 741 j (Or.inl (by decide))).trans ((fup_other ehB36 741 j (Or.inl (by decide))).trans ((fup_other ehB25 741 j (Or.inl (by decide))).trans ((fup_other ehB14 741 j (Or.inl (by decide))).trans (fup_other ehB3 741 j (Or.inl (by decide)))))))))))⟩), (by first | exact (fun hz hn => sOne_to (sOne_be (by omega) (g1z299 (by omega)) (fun j _ => (fup_other ehB351 741 j (Or.inl (by decide))))) (by omega) (by omega) (by omega)) | exact (fun hz => absurd hz (by omega)))⟩
          · intro c363
            refine And.intro (True.intro) ?_
            exact ⟨_, rfl, by omega, (by first | exact ⟨fun hn j hj => (fup_other ehB351 741 j (Or.inl (by decide))).trans ((g0z299 j (by omega)).trans ((fFr_S fhB290 (by decide +kernel) j).trans ((fFr_S fhB263 (by decide +kernel) j).trans (((fup_other ehB250 741 j (Or.inl (by decide))).trans ((fup_other ehB58 741 j (Or.inl (by decide))).trans ((fup_other ehB47 741 j (Or.inl (by decide))).trans ((fup_other ehB36 741 j (Or.inl (by decide))).trans ((fup_other ehB25 741 j (Or.inl (by decide))).trans ((fup_other ehB14 741 j (Or.inl (by decide))).trans (fup_other ehB3 741 j (Or.inl (by decide))))))))))))), fun hn j hj => (fup_other ehB351 741 j (Or.inl (by decide))).trans ((g0z299 j (by omega)).trans ((fFr_S fhB290 (by decide +kernel) j).trans ((fFr_S fhB263 (by decide +kernel) j).trans (((fup_other ehB250 741 j (Or.inl (by decide))).trans ((fup_other ehB58 741 j (Or.inl (by decide))).trans ((fup_other ehB47 741 j (Or.inl (by decide))).trans ((fup_other ehB36 741 j (Or.inl (by decide))).trans ((fup_other ehB25 741 j (Or.inl (by decide))).trans ((fup_other ehB14 741 j (Or.inl (by decide))).trans (fup_other ehB3 741 j (Or.inl (by decide)))))))))))))⟩ | exact ⟨fun hn j hj => (fup_other ehB351 741 j (Or.inl (by decide))).trans ((fFr_S fhB263 (by decide +kernel) j).trans (((fup_other ehB250 741 j (Or.inl (by decide))).trans ((fup_other ehB58 741 j (Or.inl (by decide))).trans ((fup_other ehB47 741 j (Or.inl (by decide))).trans ((fup_other ehB36 741 j (Or.inl (by decide))).trans ((fup_other ehB25 741 j (Or.inl (by decide))).trans ((fup_other ehB14 741 j (Or.inl (by decide))).trans (fup_other ehB3 741 j (Or.inl (by decide))))))))))), fun hn j hj => (fup_other ehB351 741 j (Or.inl (by decide))).trans ((fFr_S fhB263 (by decide +kernel) j).trans (((fup_other ehB250 741 j (Or.inl (by decide))).trans ((fup_other ehB58 741 j (Or.inl (by decide))).trans ((fup_other ehB47 741 j (Or.inl (by decide))).trans ((fup_other ehB36 741 j (Or.inl (by decide))).trans ((fup_other ehB25 741 j (Or.inl (by decide))).trans ((fup_other ehB14 741 j (Or.inl (by decide))).trans (fup_other ehB3 741 j (Or.inl (by decide)))))))))))⟩), (by first | exact (fun hz hn => sOne_to (sOne_be (by omega) (g1z299 (by omega)) (fun j _ => (fup_other ehB351 741 j (Or.inl (by decide))))) (by omega) (by omega) (by omega)) | exact (fun hz => absurd hz (by omega)))⟩
        · intro c364
          refine Exists.intro xm_314 (And.intro mi_314 (And.intro ⟨rfl, rfl, rfl, rfl⟩ (And.intro rfl ?_)))
          refine fcall _ h0 (fzs_sub (by decide +kernel) hW) hB263 (ct_M_next_c8003 (fBz h0 hB263) (by omega)) ?_
          rintro IhB366 _ hB366 fhB366 ⟨rfl, hz365⟩
          have t367 := fhB366 740 8 (by decide +kernel)
          have t368 := fhB366 740 14 (by decide +kernel)
          have t369 := fhB366 740 15 (by decide +kernel)
          have t370 := fhB366 740 16 (by decide +kernel)
          have t371 := fhB366 740 17 (by decide +kernel)
          have t372 := fhB366 740 18 (by decide +kernel)
          have t373 := fhB366 741 9 (by decide +kernel)
          have k374 := fBz_eq hB366 (a := 741) (j := 9) (by decide +kernel)
          refine Exists.intro xm_335 (And.intro mi_335 (And.intro ⟨rfl, rfl, rfl, rfl⟩ (And.intro rfl ?_)))
          refine fcall _ h0 (fzs_sub (by decide +kernel) hW) hB366 (ct_M_either_c00e3 (fBz h0 hB366) (by first | exact ⟨Int.le_trans (by decide) (Int.le_trans (Int.le_refl _) c349), hz272.2⟩ | omega) (by omega) (by omega) (by omega) (by omega)) ?_
          rintro IhB376 _ hB376 fhB376 ⟨z375, rfl, hz375, g0z375, g1z375⟩
          have t377 := fhB376 740 8 (by decide +kernel)
          have t378 := fhB376 740 17 (by decide +kernel)
          have t379 := fhB376 741 9 (by decide +kernel)
          have k380 := fBz_eq hB376 (a := 741) (j := 9) (by decide +kernel)
          refine And.intro (by omega) (And.intro ?_ ?_)
          · intro c381
            refine And.intro ⟨rfl, by decide, by decide⟩ (And.intro rfl (And.intro (Or.inl rfl) (fputf fb_740_8 (by decide +kernel) hW (by first | exact ⟨by decide, by decide⟩ | omega) ?_)))
            intro IhB382 ehB382 hB382
            have t383 := fup_at ehB382 8 (by first | rfl | omega)
            have t384 : IhB382 740 9 = IhB376 740 9 := (congrFun (congrFun ehB382 740) 9).trans (fup_ne (by first | decide | omega))
            have t385 : IhB382 740 10 = IhB376 740 10 := (congrFun (congrFun ehB382 740) 10).trans (fup_ne (by first | decide | omega))
            have t386 : IhB382 740 11 = IhB376 740 11 := (congrFun (congrFun ehB382 740) 11).trans (fup_ne (by first | decide | omega))
            have t387 : IhB382 740 14 = IhB376 740 14 := (congrFun (congrFun ehB382 740) 14).trans (fup_ne (by first | decide | omega))
            have t388 : IhB382 740 15 = IhB376 740 15 := (congrFun (congrFun ehB382 740) 15).trans (fup_ne (by first | decide | omega))
            have t389 : IhB382 740 16 = IhB376 740 16 := (congrFun (congrFun ehB382 740) 16).trans (fup_ne (by first | decide | omega))
            have t390 : IhB382 740 17 = IhB376 740 17 := (congrFun (congrFun ehB382 740) 17).trans (fup_ne (by first | decide | omega))
            have t391 : IhB382 741 9 = IhB376 741 9 := (congrFun (congrFun ehB382 741) 9).trans (fup_ne (by first | decide | omega))
            have k392 := fBz_eq hB382 (a := 741) (j := 9) (by decide +kernel)
            refine And.intro (by omega) (And.intro ?_ ?_)
            · intro c393
              refine And.intro (True.intro) ?_
              exact ⟨_, rfl, by omega, (by first | exact ⟨fun hn j hj => (fup_other ehB382 741 j (Or.inl (by decide))).trans ((g0z375 j (by omega)).trans ((fFr_S fhB366 (by decide +kernel) j).trans ((fFr_S fhB263 (by decide +kernel) j).trans (((fup_other ehB250 741 j (Or.inl (by decide))).trans ((fup_other ehB58 741 j (Or.inl (by decide))).trans ((fup_other ehB47 741 j (Or.inl (by decide))).trans ((fup_other ehB36 741 j (Or.inl (by decide))).trans ((fup_other ehB25 741 j (Or.inl (by decide))).trans ((fup_other ehB14 741 j (Or.inl (by decide))).trans (fup_other ehB3 741 j (Or.inl (by decide))))))))))))), fun hn j hj => (fup_other ehB382 741 j (Or.inl (by decide))).trans ((g0z375 j (by omega)).trans ((fFr_S fhB366 (by decide +kernel) j).trans ((fFr_S fhB263 (by decide +kernel) j).trans (((fup_other ehB250 741 j (Or.inl (by decide))).trans ((fup_other ehB58 741 j (Or.inl (by decide))).trans ((fup_other ehB47 741 j (Or.inl (by decide))).trans ((fup_other ehB36 741 j (Or.inl (by decide))).trans ((fup_other ehB25 741 j (Or.inl (by decide))).trans ((fup_other ehB14 741 j (Or.inl (by decide))).trans (fup_other ehB3 741 j (Or.inl (by decide)))))))))))))⟩ | exact ⟨fun hn j hj => (fup_other ehB382 741 j (Or.inl (by decide))).trans ((fFr_S fhB263 (by decide +kernel) j).trans (((fup_other ehB250 741 j (Or.inl (by decide))).trans ((fup_other ehB58 741 j (Or.inl (by decide))).trans ((fup_other ehB47 741 j (Or.inl (by decide))).trans ((fup_other ehB36 741 j (Or.inl (by decide))).trans ((fup_other ehB25 741 j (Or.inl (by decide))).trans ((fup_other ehB14 741 j (Or.inl (by decide))).trans (fup_other ehB3 741 j (Or.inl (by decide))))))))))), fun hn j hj => (fup_other ehB382 741 j (Or.inl (by decide))).trans ((fFr_S fhB263 (by decide +kernel) j).trans (((fup_other ehB250 741 j (Or.inl (by decide))).trans ((fup_other ehB58 741 j (Or.inl (by decide))).trans ((fup_other ehB47 741 j (Or.inl (by decide))).trans ((fup_other ehB36 741 j (Or.inl (by decide))).trans ((fup_other ehB25 741 j (Or.inl (by decide))).trans ((fup_other ehB14 741 j (Or.inl (by decide))).trans (fup_other ehB3 741 j (Or.inl (by decide)))))))))))⟩), (by first | exact (fun hz hn => sOne_to (sOne_be (by omega) (g1z375 (by omega)) (fun j _ => (fup_other ehB382 741 j (Or.inl (by decide))))) (by omega) (by omega) (by omega)) | exact (fun hz => absurd hz (by omega)))⟩
            · intro c394
              refine And.intro (True.intro) ?_
              exact ⟨_, rfl, by omega, (by first | exact ⟨fun hn j hj => (fup_other ehB382 741 j (Or.inl (by decide))).trans ((g0z375 j (by omega)).trans ((fFr_S fhB366 (by decide +kernel) j).trans ((fFr_S fhB263 (by decide +kernel) j).trans (((fup_other ehB250 741 j (Or.inl (by decide))).trans ((fup_other ehB58 741 j (Or.inl (by decide))).trans ((fup_other ehB47 741 j (Or.inl (by decide))).trans ((fup_other ehB36 741 j (Or.inl (by decide))).trans ((fup_other ehB25 741 j (Or.inl (by decide))).trans ((fup_other ehB14 741 j (Or.inl (by decide))).trans (fup_other ehB3 741 j (Or.inl (by decide))))))))))))), fun hn j hj => (fup_other ehB382 741 j (Or.inl (by decide))).trans ((g0z375 j (by omega)).trans ((fFr_S fhB366 (by decide +kernel) j).trans ((fFr_S fhB263 (by decide +kernel) j).trans (((fup_other ehB250 741 j (Or.inl (by decide))).trans ((fup_other ehB58 741 j (Or.inl (by decide))).trans ((fup_other ehB47 741 j (Or.inl (by decide))).trans ((fup_other ehB36 741 j (Or.inl (by decide))).trans ((fup_other ehB25 741 j (Or.inl (by decide))).trans ((fup_other ehB14 741 j (Or.inl (by decide))).trans (fup_other ehB3 741 j (Or.inl (by decide)))))))))))))⟩ | exact ⟨fun hn j hj => (fup_other ehB382 741 j (Or.inl (by decide))).trans ((fFr_S fhB263 (by decide +kernel) j).trans (((fup_other ehB250 741 j (Or.inl (by decide))).trans ((fup_other ehB58 741 j (Or.inl (by decide))).trans ((fup_other ehB47 741 j (Or.inl (by decide))).trans ((fup_other ehB36 741 j (Or.inl (by decide))).trans ((fup_other ehB25 741 j (Or.inl (by decide))).trans ((fup_other ehB14 741 j (Or.inl (by decide))).trans (fup_other ehB3 741 j (Or.inl (by decide))))))))))), fun hn j hj => (fup_other ehB382 741 j (Or.inl (by decide))).trans ((fFr_S fhB263 (by decide +kernel) j).trans (((fup_other ehB250 741 j (Or.inl (by decide))).trans ((fup_other ehB58 741 j (Or.inl (by decide))).trans ((fup_other ehB47 741 j (Or.inl (by decide))).trans ((fup_other ehB36 741 j (Or.inl (by decide))).trans ((fup_other ehB25 741 j (Or.inl (by decide))).trans ((fup_other ehB14 741 j (Or.inl (by decide))).trans (fup_other ehB3 741 j (Or.inl (by decide)))))))))))⟩), (by first | exact (fun hz hn => sOne_to (sOne_be (by omega) (g1z375 (by omega)) (fun j _ => (fup_other ehB382 741 j (Or.inl (by decide))))) (by omega) (by omega) (by omega)) | exact (fun hz => absurd hz (by omega)))⟩
          · intro c395
            refine And.intro ⟨rfl, by decide, by decide⟩ (fgetf fb_740_11 h0 hB376 ?_)
            intro z396 lz396 uz396 qz396
            refine And.intro (by first | exact fi_ lz396 uz396 rfl | omega) (And.intro ?_ ?_)
            · intro c397
              refine And.intro ⟨rfl, by decide, by decide⟩ (And.intro rfl (And.intro (Or.inl rfl) (fputf fb_740_8 (by decide +kernel) hW (by first | exact ⟨by decide, by decide⟩ | omega) ?_)))
              intro IhB398 ehB398 hB398
              have t399 := fup_at ehB398 8 (by first | rfl | omega)
              have t400 : IhB398 740 9 = IhB376 740 9 := (congrFun (congrFun ehB398 740) 9).trans (fup_ne (by first | decide | omega))
              have t401 : IhB398 740 10 = IhB376 740 10 := (congrFun (congrFun ehB398 740) 10).trans (fup_ne (by first | decide | omega))
              have t402 : IhB398 740 11 = IhB376 740 11 := (congrFun (congrFun ehB398 740) 11).trans (fup_ne (by first | decide | omega))
              have t403 : IhB398 740 14 = IhB376 740 14 := (congrFun (congrFun ehB398 740) 14).trans (fup_ne (by first | decide | omega))
              have t404 : IhB398 740 15 = IhB376 740 15 := (congrFun (congrFun ehB398 740) 15).trans (fup_ne (by first | decide | omega))
              have t405 : IhB398 740 16 = IhB376 740 16 := (congrFun (congrFun ehB398 740) 16).trans (fup_ne (by first | decide | omega))
              have t406 : IhB398 740 17 = IhB376 740 17 := (congrFun (congrFun ehB398 740) 17).trans (fup_ne (by first | decide | omega))
              have t407 : IhB398 741 9 = IhB376 741 9 := (congrFun (congrFun ehB398 741) 9).trans (fup_ne (by first | decide | omega))
              have k408 := fBz_eq hB398 (a := 741) (j := 9) (by decide +kernel)
              refine And.intro (by omega) (And.intro ?_ ?_)
              · intro c409
                refine And.intro (True.intro) ?_
                exact ⟨_, rfl, by omega, (by first | exact ⟨fun hn j hj => (fup_other ehB398 741 j (Or.inl (by decide))).trans ((g0z375 j (by omega)).trans ((fFr_S fhB366 (by decide +kernel) j).trans ((fFr_S fhB263 (by decide +kernel) j).trans (((fup_other ehB250 741 j (Or.inl (by decide))).trans ((fup_other ehB58 741 j (Or.inl (by decide))).trans ((fup_other ehB47 741 j (Or.inl (by decide))).trans ((fup_other ehB36 741 j (Or.inl (by decide))).trans ((fup_other ehB25 741 j (Or.inl (by decide))).trans ((fup_other ehB14 741 j (Or.inl (by decide))).trans (fup_other ehB3 741 j (Or.inl (by decide))))))))))))), fun hn j hj => (fup_other ehB398 741 j (Or.inl (by decide))).trans ((g0z375 j (by omega)).trans ((fFr_S fhB366 (by decide +kernel) j).trans ((fFr_S fhB263 (by decide +kernel) j).trans (((fup_other ehB250 741 j (Or.inl (by decide))).trans ((fup_other ehB58 741 j (Or.inl (by decide))).trans ((fup_other ehB47 741 j (Or.inl (by decide))).trans ((fup_other ehB36 741 j (Or.inl (by decide))).trans ((fup_other ehB25 741 j (Or.inl (by decide))).trans ((fup_other ehB14 741 j (Or.inl (by decide))).trans (fup_other ehB3 741 j (Or.inl (by decide)))))))))))))⟩ | exact ⟨fun hn j hj => (fup_other ehB398 741 j (Or.inl (by decide))).trans ((fFr_S fhB263 (by decide +kernel) j).trans (((fup_other ehB250 741 j (Or.inl (by decide))).trans ((fup_other ehB58 741 j (Or.inl (by decide))).trans ((fup_other ehB47 741 j (Or.inl (by decide))).trans ((fup_other ehB36 741 j (Or.inl (by decide))).trans ((fup_other ehB25 741 j (Or.inl (by decide))).trans ((fup_other ehB14 741 j (Or.inl (by decide))).trans (fup_other ehB3 741 j (Or.inl (by decide))))))))))), fun hn j hj => (fup_other ehB398 741 j (Or.inl (by decide))).trans ((fFr_S fhB263 (by decide +kernel) j).trans (((fup_other ehB250 741 j (Or.inl (by decide))).trans ((fup_other ehB58 741 j (Or.inl (by decide))).trans ((fup_other ehB47 741 j (Or.inl (by decide))).trans ((fup_other ehB36 741 j (Or.inl (by decide))).trans ((fup_other ehB25 741 j (Or.inl (by decide))).trans ((fup_other ehB14 741 j (Or.inl (by decide))).trans (fup_other ehB3 741 j (Or.inl (by decide)))))))))))⟩), (by first | exact (fun hz hn => sOne_to (sOne_be (by omega) (g1z375 (by omega)) (fun j _ => (fup_other ehB398 741 j (Or.inl (by decide))))) (by omega) (by omega) (by omega)) | exact (fun hz => absurd hz (by omega)))⟩
              · intro c410
                refine And.intro (True.intro) ?_
                exact ⟨_, rfl, by omega, (by first | exact ⟨fun hn j hj => (fup_other ehB398 741 j (Or.inl (by decide))).trans ((g0z375 j (by omega)).trans ((fFr_S fhB366 (by decide +kernel) j).trans ((fFr_S fhB263 (by decide +kernel) j).trans (((fup_other ehB250 741 j (Or.inl (by decide))).trans ((fup_other ehB58 741 j (Or.inl (by decide))).trans ((fup_other ehB47 741 j (Or.inl (by decide))).trans ((fup_other ehB36 741 j (Or.inl (by decide))).trans ((fup_other ehB25 741 j (Or.inl (by decide))).trans ((fup_other ehB14 741 j (Or.inl (by decide))).trans (fup_other ehB3 741 j (Or.inl (by decide))))))))))))), fun hn j hj => (fup_other ehB398 741 j (Or.inl (by decide))).trans ((g0z375 j (by omega)).trans ((fFr_S fhB366 (by decide +kernel) j).trans ((fFr_S fhB263 (by decide +kernel) j).trans (((fup_other ehB250 741 j (Or.inl (by decide))).trans ((fup_other ehB58 741 j (Or.inl (by decide))).trans ((fup_other ehB47 741 j (Or.inl (by decide))).trans ((fup_other ehB36 741 j (Or.inl (by decide))).trans ((fup_other ehB25 741 j (Or.inl (by decide))).trans ((fup_other ehB14 741 j (Or.inl (by decide))).trans (fup_other ehB3 741 j (Or.inl (by decide)))))))))))))⟩ | exact ⟨fun hn j hj => (fup_other ehB398 741 j (Or.inl (by decide))).trans ((fFr_S fhB263 (by decide +kernel) j).trans (((fup_other ehB250 741 j (Or.inl (by decide))).trans ((fup_other ehB58 741 j (Or.inl (by decide))).trans ((fup_other ehB47 741 j (Or.inl (by decide))).trans ((fup_other ehB36 741 j (Or.inl (by decide))).trans ((fup_other ehB25 741 j (Or.inl (by decide))).trans ((fup_other ehB14 741 j (Or.inl (by decide))).trans (fup_other ehB3 741 j (Or.inl (by decide))))))))))), fun hn j hj => (fup_other ehB398 741 j (Or.inl (by decide))).trans ((fFr_S fhB263 (by decide +kernel) j).trans (((fup_other ehB250 741 j (Or.inl (by decide))).trans ((fup_other ehB58 741 j (Or.inl (by decide))).trans ((fup_other ehB47 741 j (Or.inl (by decide))).trans ((fup_other ehB36 741 j (Or.inl (by decide))).trans ((fup_other ehB25 741 j (Or.inl (by decide))).trans ((fup_other ehB14 741 j (Or.inl (by decide))).trans (fup_other ehB3 741 j (Or.inl (by decide)))))))))))⟩), (by first | exact (fun hz hn => sOne_to (sOne_be (by omega) (g1z375 (by omega)) (fun j _ => (fup_other ehB398 741 j (Or.inl (by decide))))) (by omega) (by omega) (by omega)) | exact (fun hz => absurd hz (by omega)))⟩
            · intro c411
              refine And.intro ⟨rfl, by decide, by decide⟩ (And.intro rfl (And.intro (Or.inl rfl) (fputf fb_740_8 (by decide +kernel) hW (by first | exact ⟨by decide, by decide⟩ | omega) ?_)))
              intro IhB412 ehB412 hB412
              have t413 := fup_at ehB412 8 (by first | rfl | omega)
              have t414 : IhB412 740 9 = IhB376 740 9 := (congrFun (congrFun ehB412 740) 9).trans (fup_ne (by first | decide | omega))
              have t415 : IhB412 740 10 = IhB376 740 10 := (congrFun (congrFun ehB412 740) 10).trans (fup_ne (by first | decide | omega))
              have t416 : IhB412 740 11 = IhB376 740 11 := (congrFun (congrFun ehB412 740) 11).trans (fup_ne (by first | decide | omega))
              have t417 : IhB412 740 14 = IhB376 740 14 := (congrFun (congrFun ehB412 740) 14).trans (fup_ne (by first | decide | omega))
              have t418 : IhB412 740 15 = IhB376 740 15 := (congrFun (congrFun ehB412 740) 15).trans (fup_ne (by first | decide | omega))
              have t419 : IhB412 740 16 = IhB376 740 16 := (congrFun (congrFun ehB412 740) 16).trans (fup_ne (by first | decide | omega))
              have t420 : IhB412 740 17 = IhB376 740 17 := (congrFun (congrFun ehB412 740) 17).trans (fup_ne (by first | decide | omega))
              have t421 : IhB412 741 9 = IhB376 741 9 := (congrFun (congrFun ehB412 741) 9).trans (fup_ne (by first | decide | omega))
              have k422 := fBz_eq hB412 (a := 741) (j := 9) (by decide +kernel)
              refine And.intro (by first | exact ⟨by decide, by decide⟩ | omega) (And.intro ?_ ?_)
              · intro c423
                refine And.intro (True.intro) ?_
                exact ⟨_, rfl, by omega, (by first | exact ⟨fun hn j hj => (fup_other ehB412 741 j (Or.inl (by decide))).trans ((g0z375 j (by omega)).trans ((fFr_S fhB366 (by decide +kernel) j).trans ((fFr_S fhB263 (by decide +kernel) j).trans (((fup_other ehB250 741 j (Or.inl (by decide))).trans ((fup_other ehB58 741 j (Or.inl (by decide))).trans ((fup_other ehB47 741 j (Or.inl (by decide))).trans ((fup_other ehB36 741 j (Or.inl (by decide))).trans ((fup_other ehB25 741 j (Or.inl (by decide))).trans ((fup_other ehB14 741 j (Or.inl (by decide))).trans (fup_other ehB3 741 j (Or.inl (by decide))))))))))))), fun hn j hj => (fup_other ehB412 741 j (Or.inl (by decide))).trans ((g0z375 j (by omega)).trans ((fFr_S fhB366 (by decide +kernel) j).trans ((fFr_S fhB263 (by decide +kernel) j).trans (((fup_other ehB250 741 j (Or.inl (by decide))).trans ((fup_other ehB58 741 j (Or.inl (by decide))).trans ((fup_other ehB47 741 j (Or.inl (by decide))).trans ((fup_other ehB36 741 j (Or.inl (by decide))).trans ((fup_other ehB25 741 j (Or.inl (by decide))).trans ((fup_other ehB14 741 j (Or.inl (by decide))).trans (fup_other ehB3 741 j (Or.inl (by decide)))))))))))))⟩ | exact ⟨fun hn j hj => (fup_other ehB412 741 j (Or.inl (by decide))).trans ((fFr_S fhB263 (by decide +kernel) j).trans (((fup_other ehB250 741 j (Or.inl (by decide))).trans ((fup_other ehB58 741 j (Or.inl (by decide))).trans ((fup_other ehB47 741 j (Or.inl (by decide))).trans ((fup_other ehB36 741 j (Or.inl (by decide))).trans ((fup_other ehB25 741 j (Or.inl (by decide))).trans ((fup_other ehB14 741 j (Or.inl (by decide))).trans (fup_other ehB3 741 j (Or.inl (by decide))))))))))), fun hn j hj => (fup_other ehB412 741 j (Or.inl (by decide))).trans ((fFr_S fhB263 (by decide +kernel) j).trans (((fup_other ehB250 741 j (Or.inl (by decide))).trans ((fup_other ehB58 741 j (Or.inl (by decide))).trans ((fup_other ehB47 741 j (Or.inl (by decide))).trans ((fup_other ehB36 741 j (Or.inl (by decide))).trans ((fup_other ehB25 741 j (Or.inl (by decide))).trans ((fup_other ehB14 741 j (Or.inl (by decide))).trans (fup_other ehB3 741 j (Or.inl (by decide)))))))))))⟩), (by first | exact (fun hz hn => sOne_to (sOne_be (by omega) (g1z375 (by omega)) (fun j _ => (fup_other ehB412 741 j (Or.inl (by decide))))) (by omega) (by omega) (by omega)) | exact (fun hz => absurd hz (by omega)))⟩
              · intro c424
                refine And.intro (True.intro) ?_
                exact ⟨_, rfl, by omega, (by first | exact ⟨fun hn j hj => (fup_other ehB412 741 j (Or.inl (by decide))).trans ((g0z375 j (by omega)).trans ((fFr_S fhB366 (by decide +kernel) j).trans ((fFr_S fhB263 (by decide +kernel) j).trans (((fup_other ehB250 741 j (Or.inl (by decide))).trans ((fup_other ehB58 741 j (Or.inl (by decide))).trans ((fup_other ehB47 741 j (Or.inl (by decide))).trans ((fup_other ehB36 741 j (Or.inl (by decide))).trans ((fup_other ehB25 741 j (Or.inl (by decide))).trans ((fup_other ehB14 741 j (Or.inl (by decide))).trans (fup_other ehB3 741 j (Or.inl (by decide))))))))))))), fun hn j hj => (fup_other ehB412 741 j (Or.inl (by decide))).trans ((g0z375 j (by omega)).trans ((fFr_S fhB366 (by decide +kernel) j).trans ((fFr_S fhB263 (by decide +kernel) j).trans (((fup_other ehB250 741 j (Or.inl (by decide))).trans ((fup_other ehB58 741 j (Or.inl (by decide))).trans ((fup_other ehB47 741 j (Or.inl (by decide))).trans ((fup_other ehB36 741 j (Or.inl (by decide))).trans ((fup_other ehB25 741 j (Or.inl (by decide))).trans ((fup_other ehB14 741 j (Or.inl (by decide))).trans (fup_other ehB3 741 j (Or.inl (by decide)))))))))))))⟩ | exact ⟨fun hn j hj => (fup_other ehB412 741 j (Or.inl (by decide))).trans ((fFr_S fhB263 (by decide +kernel) j).trans (((fup_other ehB250 741 j (Or.inl (by decide))).trans ((fup_other ehB58 741 j (Or.inl (by decide))).trans ((fup_other ehB47 741 j (Or.inl (by decide))).trans ((fup_other ehB36 741 j (Or.inl (by decide))).trans ((fup_other ehB25 741 j (Or.inl (by decide))).trans ((fup_other ehB14 741 j (Or.inl (by decide))).trans (fup_other ehB3 741 j (Or.inl (by decide))))))))))), fun hn j hj => (fup_other ehB412 741 j (Or.inl (by decide))).trans ((fFr_S fhB263 (by decide +kernel) j).trans (((fup_other ehB250 741 j (Or.inl (by decide))).trans ((fup_other ehB58 741 j (Or.inl (by decide))).trans ((fup_other ehB47 741 j (Or.inl (by decide))).trans ((fup_other ehB36 741 j (Or.inl (by decide))).trans ((fup_other ehB25 741 j (Or.inl (by decide))).trans ((fup_other ehB14 741 j (Or.inl (by decide))).trans (fup_other ehB3 741 j (Or.inl (by decide)))))))))))⟩), (by first | exact (fun hz hn => sOne_to (sOne_be (by omega) (g1z375 (by omega)) (fun j _ => (fup_other ehB412 741 j (Or.inl (by decide))))) (by omega) (by omega) (by omega)) | exact (fun hz => absurd hz (by omega)))⟩
set_option maxRecDepth 8000 in
theorem ct_M_text_560c5 {I : fH}  (h0 : fB bsJ I) (hp0 : sI I 741) : fC ρ base n F xTc vwCl xTys D dA la gJ (fbz bsJ znJ (fKc wz_c5e7d) I) xm_312 [.inr (.inr (some 740))] I (fun I' r => ∃ z, r = some (.inl z) ∧ ((((-196) ≤ z ∧ z ≤ 11) ∨ z = (-1000000003)) ∧ (I' 740 8 = 0)) ∧ (sI I' 741)) := by
  have hW : fzs wz_c5e7d (fKc wz_c5e7d) := fKc_ok _
  refine f_meth (rb := rbJ) (J := []) 1 400 xG xin_312 x6_312 okJ (fB_self h0) ?_ ?_
  · exact fun q h => absurd h List.not_mem_nil
  · have hB0 := fB_self (zn := znJ) (K := fKc wz_c5e7d) h0
    have b1 := fBd fb_741_9 (fBz h0 hB0)
    refine Exists.intro xm_313 (And.intro mi_313 (And.intro ⟨rfl, rfl, rfl, rfl⟩ (And.intro rfl ?_)))
    refine fcall _ h0 (fzs_sub (by decide +kernel) hW) hB0 (ct_M_parse_ea878 (fBz h0 hB0)) ?_
    rintro IhB3 _ hB3 fhB3 ⟨z2, rfl, hz2, g0z2, g1z2⟩
    have t4 := fhB3 741 9 (by decide +kernel)
    have b16 := fBd fb_740_16 (fBz h0 hB3)
    refine And.intro (by first | exact fi_ hz2.1.1 hz2.1.2 rfl | omega) (And.intro ?_ ?_)
    · intro c5
      refine And.intro ⟨rfl, by decide, by decide⟩ ?_
      refine fload1 rL_741_741_9_9_1_0 h0 hB3 ⟨by decide, by decide⟩ (by first | exact ⟨by decide, by decide⟩ | omega) ?_
      intro z6 lz6 uz6 qz6
      have pz6 := fld_at qz6 9 (by omega)
      refine And.intro (And.intro (by first | exact fi_ lz6 uz6 rfl | omega) (by first | exact ⟨by decide, by decide⟩ | omega)) (And.intro ?_ ?_)
      · intro c7
        refine And.intro ⟨rfl, by decide, by decide⟩ ?_
        refine fload1 rL_741_741_9_9_1_0 h0 hB3 ⟨by decide, by decide⟩ (by first | exact ⟨by decide, by decide⟩ | omega) ?_
        intro z8 lz8 uz8 qz8
        have pz8 := fld_at qz8 9 (by omega)
        refine Exists.intro xm_255 (And.intro mi_255 (And.intro ⟨rfl, rfl, rfl, rfl⟩ (And.intro rfl ?_)))
        refine fcallp hB3 (ct_M_textAt_ea474 (fBz h0 hB3) (by omega)) ?_
        rintro _ ⟨_, rfl, rfl⟩
        refine And.intro ⟨rfl, by decide, by decide⟩ ?_
        refine fstore rS_741_741_1210_3410_200_0 (fzs_sub (by decide +kernel) hW) (by omega) (by first | exact ⟨Int.le_trans (by decide) (Int.le_trans (Int.le_refl _) c5), Int.le_trans hz2.1.2 (by decide)⟩ | omega) ?_
        intro IhB10 ehB10 hB10
        have t11 := fup_self ehB10
        have t12 : IhB10 740 8 = IhB3 740 8 := (congrFun (congrFun ehB10 740) 8).trans (fup_ne (by first | exact Or.inl (by decide) | omega))
        have t13 : IhB10 740 16 = IhB3 740 16 := (congrFun (congrFun ehB10 740) 16).trans (fup_ne (by first | exact Or.inl (by decide) | omega))
        have t14 : IhB10 741 9 = IhB3 741 9 := (congrFun (congrFun ehB10 741) 9).trans (fup_ne (by first | exact Or.inl (by decide) | omega))
        refine And.intro ⟨rfl, by decide, by decide⟩ ?_
        refine fstore rS_741_741_1211_3411_200_0 (fzs_sub (by decide +kernel) hW) (by omega) (by first | exact ⟨by decide, by decide⟩ | omega) ?_
        intro IhB15 ehB15 hB15
        have t16 := fup_self ehB15
        have t17 : IhB15 740 8 = IhB10 740 8 := (congrFun (congrFun ehB15 740) 8).trans (fup_ne (by first | exact Or.inl (by decide) | omega))
        have t18 : IhB15 740 16 = IhB10 740 16 := (congrFun (congrFun ehB15 740) 16).trans (fup_ne (by first | exact Or.inl (by decide) | omega))
        have t19 : IhB15 741 9 = IhB10 741 9 := (congrFun (congrFun ehB15 741) 9).trans (fup_ne (by first | exact Or.inl (by decide) | omega))
        refine And.intro ⟨rfl, by decide, by decide⟩ ?_
        refine fstore rS_741_741_1212_3412_200_0 (fzs_sub (by decide +kernel) hW) (by omega) (by first | exact ⟨by decide, by decide⟩ | omega) ?_
        intro IhB20 ehB20 hB20
        have t21 := fup_self ehB20
        have t22 : IhB20 740 8 = IhB15 740 8 := (congrFun (congrFun ehB20 740) 8).trans (fup_ne (by first | exact Or.inl (by decide) | omega))
        have t23 : IhB20 740 16 = IhB15 740 16 := (congrFun (congrFun ehB20 740) 16).trans (fup_ne (by first | exact Or.inl (by decide) | omega))
        have t24 : IhB20 741 9 = IhB15 741 9 := (congrFun (congrFun ehB20 741) 9).trans (fup_ne (by first | exact Or.inl (by decide) | omega))
        refine And.intro ⟨rfl, by decide, by decide⟩ ?_
        refine And.intro ⟨rfl, by decide, by decide⟩ (fgetf fb_740_18 h0 hB20 ?_)
        intro z25 lz25 uz25 qz25
        refine fstore rS_741_741_1213_3413_200_0 (fzs_sub (by decide +kernel) hW) (by omega) (by first | exact ⟨lz25, uz25⟩ | omega) ?_
        intro IhB26 ehB26 hB26
        have t27 := fup_self ehB26
        have t28 : IhB26 740 8 = IhB20 740 8 := (congrFun (congrFun ehB26 740) 8).trans (fup_ne (by first | exact Or.inl (by decide) | omega))
        have t29 : IhB26 740 16 = IhB20 740 16 := (congrFun (congrFun ehB26 740) 16).trans (fup_ne (by first | exact Or.inl (by decide) | omega))
        have t30 : IhB26 740 18 = IhB20 740 18 := (congrFun (congrFun ehB26 740) 18).trans (fup_ne (by first | exact Or.inl (by decide) | omega))
        have t31 : IhB26 741 9 = IhB20 741 9 := (congrFun (congrFun ehB26 741) 9).trans (fup_ne (by first | exact Or.inl (by decide) | omega))
        refine And.intro ⟨rfl, by decide, by decide⟩ ?_
        refine And.intro ⟨rfl, by decide, by decide⟩ (fgetf fb_740_16 h0 hB26 ?_)
        intro z32 lz32 uz32 qz32
        refine fstore rS_741_741_1214_3414_200_0 (fzs_sub (by decide +kernel) hW) (by omega) (by first | exact ⟨Int.le_trans (by decide) lz32, Int.le_trans uz32 (by decide)⟩ | omega) ?_
        intro IhB33 ehB33 hB33
        have t34 := fup_self ehB33
        have t35 : IhB33 740 8 = IhB26 740 8 := (congrFun (congrFun ehB33 740) 8).trans (fup_ne (by first | exact Or.inl (by decide) | omega))
        have t36 : IhB33 740 16 = IhB26 740 16 := (congrFun (congrFun ehB33 740) 16).trans (fup_ne (by first | exact Or.inl (by decide) | omega))
        have t37 : IhB33 740 18 = IhB26 740 18 := (congrFun (congrFun ehB33 740) 18).trans (fup_ne (by first | exact Or.inl (by decide) | omega))
        have t38 : IhB33 741 9 = IhB26 741 9 := (congrFun (congrFun ehB33 741) 9).trans (fup_ne (by first | exact Or.inl (by decide) | omega))
        refine And.intro ⟨rfl, by decide, by decide⟩ ?_
        refine fload1 rL_741_741_9_9_1_0 h0 hB33 ⟨by decide, by decide⟩ (by first | exact ⟨by decide, by decide⟩ | omega) ?_
        intro z39 lz39 uz39 qz39
        have pz39 := fld_at qz39 9 (by omega)
        refine fstore1 rS_741_741_9_9_1_0 (fzs_sub (by decide +kernel) hW) ⟨by decide, by decide⟩ (by first | exact ⟨by decide, by decide⟩ | omega) (by omega) ?_
        intro IhB40 ehB40 hB40
        have t41 := fup_self ehB40
        have t42 : IhB40 740 8 = IhB33 740 8 := (congrFun (congrFun ehB40 740) 8).trans (fup_ne (by first | decide | omega))
        have t43 : IhB40 740 16 = IhB33 740 16 := (congrFun (congrFun ehB40 740) 16).trans (fup_ne (by first | decide | omega))
        have t44 : IhB40 740 18 = IhB33 740 18 := (congrFun (congrFun ehB40 740) 18).trans (fup_ne (by first | decide | omega))
        have t45 := fup_at ehB40 9 (by first | rfl | omega)
        refine And.intro ⟨rfl, by decide, by decide⟩ ?_
        refine fload1 rL_741_741_9_9_1_0 h0 hB40 ⟨by decide, by decide⟩ (by first | exact ⟨by decide, by decide⟩ | omega) ?_
        intro z46 lz46 uz46 qz46
        have pz46 := fld_at qz46 9 (by omega)
        refine And.intro (True.intro) ?_
        exact ⟨_, rfl, by omega, (sI_text (sBd_of h0) (by omega) (fun j h hj => h.elim (fun h => ((fup_other ehB40 741 j (Or.inr (by omega))).trans ((fup_other ehB33 741 j (Or.inr (by omega))).trans ((fup_other ehB26 741 j (Or.inr (by omega))).trans ((fup_other ehB20 741 j (Or.inr (by omega))).trans ((fup_other ehB15 741 j (Or.inr (by omega))).trans ((fup_other ehB10 741 j (Or.inr (by omega))).trans (g0z2.1 (by omega) j (by omega))))))))) (fun h => shp_keep hB40 (by decide +kernel) h)) (sT_of (M := IhB3 740 16) (sOne_to (sOne_in (by omega) (g1z2 (by omega) (by omega)) (fun j q1 q2 => ((fup_other ehB40 741 j (Or.inr (by omega))).trans ((fup_other ehB33 741 j (Or.inr (by omega))).trans ((fup_other ehB26 741 j (Or.inr (by omega))).trans ((fup_other ehB20 741 j (Or.inr (by omega))).trans ((fup_other ehB15 741 j (Or.inr (by omega))).trans (fup_other ehB10 741 j (Or.inr (by omega)))))))))) (by omega) (by omega) (by omega)) (by omega) (by rw [(fup_other ehB40 741 (1214 + 200 * (I 741 9).toNat) (Or.inr (by omega))), fup_at ehB33 (1214 + 200 * (I 741 9).toNat) (by omega)]; omega)) (by omega) hp0)⟩
      · intro c47
        refine And.intro (True.intro) ?_
        exact ⟨_, rfl, by omega, (sI_par (sBd_of h0) (by omega) (fun j h => h.elim (fun h => if hn : I 741 9 < 12 then g0z2.1 hn j (by omega) else g0z2.2 (by omega) j (by omega)) (fun h => shp_keep hB3 (by decide +kernel) h)) hp0)⟩
    · intro c48
      refine And.intro ⟨rfl, by decide, by decide⟩ (fgetf fb_740_9 h0 hB3 ?_)
      intro z49 lz49 uz49 qz49
      refine And.intro (True.intro) ?_
      exact ⟨_, rfl, by omega, (sI_par (sBd_of h0) (by omega) (fun j h => h.elim (fun h => if hn : I 741 9 < 12 then g0z2.1 hn j (by omega) else g0z2.2 (by omega) j (by omega)) (fun h => shp_keep hB3 (by decide +kernel) h)) hp0)⟩
set_option maxRecDepth 8000 in
theorem ct_Charter_isText_4f275 {I : fH} {x1 : Int} (h0 : fB bsJ I) (ha1 : ((-2147483648) ≤ x1 ∧ x1 ≤ 2147483647)) : fC ρ base n F xTc vwCl xTys D dA la gJ (fbz bsJ znJ (fKc []) I) xm_133 [.inr (.inr (some 187)), .inl x1] I (fun _ r => ∃ z, r = some (.inl z) ∧ ((z = 1 ∧ 0 ≤ x1 ∧ x1 ≤ 11) ∨ z = 0)) := by
  have hW : fzs [] (fKc []) := fKc_ok _
  refine f_meth (rb := rbJ) (J := []) 1 400 xG xin_133 x6_133 okJ (fB_self h0) ?_ ?_
  · exact fun q h => absurd h List.not_mem_nil
  · have hB0 := fB_self (zn := znJ) (K := fKc []) h0
    refine And.intro ⟨rfl, by decide, by decide⟩ (fgetf fb_187_6 h0 hB0 ?_)
    intro z1 lz1 uz1 qz1
    refine Exists.intro xm_13 (And.intro mi_13 (And.intro ⟨rfl, rfl, rfl, rfl⟩ (And.intro True.intro ?_)))
    refine fcallp hB0 (ct_X_within_c27b1 (fBz h0 hB0) (by first | exact ⟨ha1.1, ha1.2⟩ | omega) (by first | exact ⟨by decide, by decide⟩ | omega) (by omega)) ?_
    rintro _ ⟨z2, rfl, hz2⟩
    refine And.intro (⟨by omega, by omega⟩) ?_
    exact ⟨_, rfl, by omega⟩
set_option maxRecDepth 8000 in
theorem ct_X_of_3d77a {I : fH} {x1 : Int} {x2 : Int} (h0 : fB bsJ I) (ha1 : ((-2147483648) ≤ x1 ∧ x1 ≤ 2147483647)) (ha2 : ((-2147483648) ≤ x2 ∧ x2 ≤ 2147483647)) : fC ρ base n F xTc vwCl xTys D dA la gJ (fbz bsJ znJ (fKc []) I) xm_132 [.inr (.inr (some 0)), .inl x1, .inl x2] I (fun _ r => ∃ z, r = some (.inl z) ∧ ((-2147483648) ≤ z ∧ z ≤ 2147483647)) := by
  have hW : fzs [] (fKc []) := fKc_ok _
  refine f_meth (rb := rbJ) (J := []) 1 400 xG xin_132 x6_132 okJ (fB_self h0) ?_ ?_
  · exact fun q h => absurd h List.not_mem_nil
  · have hB0 := fB_self (zn := znJ) (K := fKc []) h0
    refine And.intro ⟨rfl, by decide, by decide⟩ ?_
    refine Exists.intro xm_133 (And.intro mi_133 (And.intro ⟨rfl, rfl, rfl, rfl⟩ (And.intro rfl ?_)))
    refine fcallp hB0 (ct_Charter_isText_4f275 (fBz h0 hB0) (by first | exact ⟨ha1.1, ha1.2⟩ | omega)) ?_
    rintro _ ⟨z1, rfl, hz1⟩
    refine And.intro (by omega) (And.intro ?_ ?_)
    · intro c2
      refine And.intro (by first | exact fi_ ha2.1 ha2.2 rfl | omega) (And.intro ?_ ?_)
      · refine And.intro (fun ex => ?_) (And.intro (fun ex => ?_) (And.intro (fun ex => ?_) (And.intro (fun ex => ?_) (True.intro))))
        · skip
          refine And.intro ⟨rfl, by decide, by decide⟩ ?_
          refine And.intro ⟨rfl, by decide, by decide⟩ ?_
          refine fload rL_188_188_0_11_1_0 h0 hB0 (by omega) ?_
          intro z3 lz3 uz3 qz3
          refine And.intro (True.intro) ?_
          exact ⟨_, rfl, (by first | exact ⟨lz3, uz3⟩ | omega)⟩
        · skip
          refine And.intro ⟨rfl, by decide, by decide⟩ ?_
          refine And.intro ⟨rfl, by decide, by decide⟩ ?_
          refine fload rL_189_189_0_11_1_0 h0 hB0 (by omega) ?_
          intro z4 lz4 uz4 qz4
          refine And.intro (True.intro) ?_
          exact ⟨_, rfl, (by first | exact ⟨lz4, uz4⟩ | omega)⟩
        · skip
          refine And.intro ⟨rfl, by decide, by decide⟩ ?_
          refine And.intro ⟨rfl, by decide, by decide⟩ ?_
          refine fload rL_190_190_0_11_1_0 h0 hB0 (by omega) ?_
          intro z5 lz5 uz5 qz5
          refine And.intro (True.intro) ?_
          exact ⟨_, rfl, (by first | exact ⟨lz5, uz5⟩ | omega)⟩
        · skip
          refine And.intro ⟨rfl, by decide, by decide⟩ ?_
          refine And.intro ⟨rfl, by decide, by decide⟩ ?_
          refine fload rL_191_191_0_11_1_0 h0 hB0 (by omega) ?_
          intro z6 lz6 uz6 qz6
          refine And.intro (True.intro) ?_
          exact ⟨_, rfl, (by first | exact ⟨lz6, uz6⟩ | omega)⟩
      · intro c7
        refine And.intro (True.intro) ?_
        exact ⟨_, rfl, (by first | exact ⟨by decide, by decide⟩ | omega)⟩
    · intro c8
      refine And.intro (True.intro) ?_
      exact ⟨_, rfl, (by first | exact ⟨by decide, by decide⟩ | omega)⟩
set_option maxRecDepth 8000 in
theorem ct_M_isText_c8726 {I : fH} {x1 : Int} (h0 : fB bsJ I) (ha1 : ((-2147483648) ≤ x1 ∧ x1 ≤ 2147483647)) : fC ρ base n F xTc vwCl xTys D dA la gJ (fbz bsJ znJ (fKc []) I) xm_425 [.inr (.inr (some 740)), .inl x1] I (fun _ r => ∃ z, r = some (.inl z) ∧ ((z = 1 ∧ 0 ≤ x1 ∧ x1 ≤ 11) ∨ z = 0)) := by
  have hW : fzs [] (fKc []) := fKc_ok _
  refine f_meth (rb := rbJ) (J := []) 1 400 xG xin_425 x6_425 okJ (fB_self h0) ?_ ?_
  · exact fun q h => absurd h List.not_mem_nil
  · have hB0 := fB_self (zn := znJ) (K := fKc []) h0
    refine And.intro (by first | exact fi_ ha1.1 ha1.2 rfl | omega) ?_
    refine And.intro ⟨rfl, by decide, by decide⟩ ?_
    refine fload1 rL_741_741_9_9_1_0 h0 hB0 ⟨by decide, by decide⟩ (by first | exact ⟨by decide, by decide⟩ | omega) ?_
    intro z1 lz1 uz1 qz1
    have pz1 := fld_at qz1 9 (by omega)
    refine And.intro (by omega) ?_
    refine Exists.intro xm_238 (And.intro mi_238 (And.intro ⟨rfl, rfl, rfl, rfl⟩ (And.intro True.intro ?_)))
    refine fcallp hB0 (ct_M_isIn_27230 (fBz h0 hB0) (by first | exact ⟨ha1.1, ha1.2⟩ | omega) (by first | exact ⟨by decide, by decide⟩ | omega) (by omega)) ?_
    rintro _ ⟨z2, rfl, hz2⟩
    refine And.intro (⟨by omega, by omega⟩) ?_
    exact ⟨_, rfl, by omega⟩
set_option maxRecDepth 8000 in
theorem ct_M_of_2ade1 {I : fH} {x1 : Int} {x2 : Int} (h0 : fB bsJ I) (ha1 : ((-2147483648) ≤ x1 ∧ x1 ≤ 2147483647)) (ha2 : ((-2147483648) ≤ x2 ∧ x2 ≤ 2147483647)) : fC ρ base n F xTc vwCl xTys D dA la gJ (fbz bsJ znJ (fKc []) I) xm_424 [.inr (.inr (some 740)), .inl x1, .inl x2] I (fun _ r => ∃ z, r = some (.inl z) ∧ ((-2147483648) ≤ z ∧ z ≤ 2147483647)) := by
  have hW : fzs [] (fKc []) := fKc_ok _
  refine f_meth (rb := rbJ) (J := []) 1 400 xG xin_424 x6_424 okJ (fB_self h0) ?_ ?_
  · exact fun q h => absurd h List.not_mem_nil
  · have hB0 := fB_self (zn := znJ) (K := fKc []) h0
    refine Exists.intro xm_425 (And.intro mi_425 (And.intro ⟨rfl, rfl, rfl, rfl⟩ (And.intro rfl ?_)))
    refine fcallp hB0 (ct_M_isText_c8726 (fBz h0 hB0) (by first | exact ⟨ha1.1, ha1.2⟩ | omega)) ?_
    rintro _ ⟨z1, rfl, hz1⟩
    refine And.intro (by omega) (And.intro ?_ ?_)
    · intro c2
      refine And.intro (True.intro) ?_
      exact ⟨_, rfl, (by first | exact ⟨by decide, by decide⟩ | omega)⟩
    · intro c3
      refine And.intro (by first | exact fi_ ha2.1 ha2.2 rfl | omega) ?_
      refine Exists.intro xm_238 (And.intro mi_238 (And.intro ⟨rfl, rfl, rfl, rfl⟩ (And.intro True.intro ?_)))
      refine fcallp hB0 (ct_M_isIn_27230 (fBz h0 hB0) (by first | exact ⟨ha2.1, ha2.2⟩ | omega) (by first | exact ⟨by decide, by decide⟩ | omega) (by first | exact ⟨by decide, by decide⟩ | omega)) ?_
      rintro _ ⟨z4, rfl, hz4⟩
      refine And.intro (by omega) (And.intro ?_ ?_)
      · intro c5
        refine And.intro ⟨rfl, by decide, by decide⟩ ?_
        refine Exists.intro xm_255 (And.intro mi_255 (And.intro ⟨rfl, rfl, rfl, rfl⟩ (And.intro rfl ?_)))
        refine fcallp hB0 (ct_M_textAt_ea474 (fBz h0 hB0) (by omega)) ?_
        rintro _ ⟨_, rfl, rfl⟩
        refine fload rL_741_741_1210_3413_200_3 h0 hB0 (by omega) ?_
        intro z7 lz7 uz7 qz7
        refine And.intro (And.intro (by first | exact fi_ (Int.le_trans (Int.le_refl _) hz4.1) (Int.le_trans hz4.2 (Int.le_refl _)) rfl | omega) (by first | exact ⟨by decide, by decide⟩ | omega)) (And.intro ?_ ?_)
        · intro c8
          refine Exists.intro xm_269 (And.intro mi_269 (And.intro ⟨rfl, rfl, rfl, rfl⟩ (And.intro True.intro ?_)))
          refine fcallp hB0 (ct_M_orNone_a2a87 (fBz h0 hB0) (by first | exact ⟨lz7, uz7⟩ | omega)) ?_
          rintro _ ⟨z9, rfl, hz9⟩
          refine And.intro (True.intro) ?_
          exact ⟨_, rfl, by omega⟩
        · intro c10
          refine And.intro (And.intro (by first | exact fi_ (Int.le_trans (Int.le_refl _) hz4.1) (Int.le_trans hz4.2 (Int.le_refl _)) rfl | omega) (by first | exact ⟨by decide, by decide⟩ | omega)) (And.intro ?_ ?_)
          · intro c11
            refine And.intro (True.intro) ?_
            exact ⟨_, rfl, (by first | exact ⟨lz7, uz7⟩ | omega)⟩
          · intro c12
            refine Exists.intro xm_269 (And.intro mi_269 (And.intro ⟨rfl, rfl, rfl, rfl⟩ (And.intro True.intro ?_)))
            refine fcallp hB0 (ct_M_orNone_a2a87 (fBz h0 hB0) (by first | exact ⟨lz7, uz7⟩ | omega)) ?_
            rintro _ ⟨z13, rfl, hz13⟩
            refine And.intro (True.intro) ?_
            exact ⟨_, rfl, by omega⟩
      · intro c14
        refine And.intro (True.intro) ?_
        exact ⟨_, rfl, (by first | exact ⟨by decide, by decide⟩ | omega)⟩
abbrev jc_Arrays_fill_7cd5b_5 : Nat → fL → List fV → fH → Prop := fun m lv st I => ∃ (y1 : Int) (y2 : Int) (y3 : Int), lv = [(0, .inr (.inr (some 206))), (1, .inl y1), (2, .inl y2), (3, .inl y3)] ∧ st = [] ∧ ((((-1000000005) ≤ y1 ∧ y1 ≤ (-1000000005)) ∧ (0 ≤ y2 ∧ y2 ≤ 24) ∧ (24 ≤ y3 ∧ y3 ≤ 24))) ∧ m = (1 + 1 * (24 - y2) : Int).toNat
set_option maxRecDepth 8000 in
theorem ct_Arrays_fill_7cd5b {I : fH} {x1 : Int} (h0 : fB bsJ I) (ha1 : ((-1000000005) ≤ x1 ∧ x1 ≤ (-1000000005))) : fC ρ base n F xTc vwCl xTys D dA la gJ (fbz bsJ znJ (fKc wz_60872) I) xm_498 [.inr (.inr (some 206)), .inl x1] I (fun _ r => r = none) := by
  have hW : fzs wz_60872 (fKc wz_60872) := fKc_ok _
  refine f_meth (rb := rbJ) (J := [(5, jc_Arrays_fill_7cd5b_5)]) 26 400 xG xin_498 x6_498 okJ (fB_self h0) ?_ ?_
  · refine List.forall_mem_cons.mpr ⟨?_, fun q h => absurd h List.not_mem_nil⟩
    · rintro m _ _ I1 hB1 ⟨y1, y2, y3, rfl, rfl, hb, hm⟩
      refine And.intro (And.intro (by first | exact fi_ hb.2.1.1 hb.2.1.2 rfl | omega) (by first | exact fi_ hb.2.2.1 hb.2.2.2 rfl | omega)) (And.intro ?_ ?_)
      · intro c1
        exact rfl
      · intro c2
        refine fstore1 rS_206_206_0_23_1_0 (fzs_sub (by decide +kernel) hW) ⟨by decide, by decide⟩ (by first | exact ⟨hb.2.1.1, Int.le_trans (Int.le_sub_one_of_lt (Int.lt_of_lt_of_le c2 hb.2.2.2)) (by decide)⟩ | omega) (by first | exact ⟨Int.le_trans (by decide) hb.1.1, Int.le_trans hb.1.2 (by decide)⟩ | omega) ?_
        intro IhB3 ehB3 hB3
        have t4 := fup_self ehB3
        exact fcutJ (I := IhB3) (j := jc_Arrays_fill_7cd5b_5) (lv' := [(0, .inr (.inr (some 206))), (1, .inl _), (2, .inl _), (3, .inl _)]) (And.intro rfl (And.intro rfl (And.intro rfl (And.intro rfl True.intro)))) ⟨_, _, _, rfl, rfl, by omega, rfl⟩ (by omega)
  · have hB0 := fB_self (zn := znJ) (K := fKc wz_60872) h0
    refine Exists.intro 100 (Exists.intro 24 (And.intro rfl (And.intro ⟨by decide, by decide, by decide⟩ ?_)))
    exact fcutJ (I := I) (j := jc_Arrays_fill_7cd5b_5) (lv' := [(0, .inr (.inr (some 206))), (1, .inl _), (2, .inl _), (3, .inl _)]) (And.intro rfl (And.intro rfl (And.intro rfl (And.intro rfl True.intro)))) ⟨_, _, _, rfl, rfl, by omega, rfl⟩ (by omega)
set_option maxRecDepth 8000 in
theorem ct_Charter_beginVote_a1bcb {I : fH} {x1 : Int} (h0 : fB bsJ I) (ha1 : (0 ≤ x1 ∧ x1 ≤ 11)) : fC ρ base n F xTc vwCl xTys D dA la gJ (fbz bsJ znJ (fKc wz_0f088) I) xm_135 [.inr (.inr (some 187)), .inl x1] I (fun _ r => ∃ z, r = some (.inl z) ∧ (0 ≤ z ∧ z ≤ 1)) := by
  have hW : fzs wz_0f088 (fKc wz_0f088) := fKc_ok _
  refine f_meth (rb := rbJ) (J := []) 1 400 xG xin_135 x6_135 okJ (fB_self h0) ?_ ?_
  · exact fun q h => absurd h List.not_mem_nil
  · have hB0 := fB_self (zn := znJ) (K := fKc wz_0f088) h0
    refine And.intro ⟨rfl, by decide, by decide⟩ (And.intro rfl (And.intro (Or.inl rfl) (fputf fb_187_7 (by decide +kernel) hW (by first | exact ⟨Int.le_trans (by decide) ha1.1, Int.le_trans ha1.2 (by decide)⟩ | omega) ?_)))
    intro IhB1 ehB1 hB1
    have t2 := fup_at ehB1 7 (by first | rfl | omega)
    refine And.intro ⟨rfl, by decide, by decide⟩ ?_
    refine fload1 rL_189_189_0_11_1_0 h0 hB1 ⟨by decide, by decide⟩ (by first | exact ⟨ha1.1, ha1.2⟩ | omega) ?_
    intro z3 lz3 uz3 qz3
    refine And.intro (And.intro (by first | exact fi_ lz3 uz3 rfl | omega) (by first | exact ⟨by decide, by decide⟩ | omega)) (And.intro ?_ ?_)
    · intro c4
      refine And.intro ⟨rfl, by decide, by decide⟩ (And.intro rfl (And.intro (Or.inr ⟨rfl, by omega⟩) (fputf fb_187_8 (by decide +kernel) hW (by omega) ?_)))
      intro IhB5 ehB5 hB5
      have t6 : IhB5 187 7 = IhB1 187 7 := (congrFun (congrFun ehB5 187) 7).trans (fup_ne (by first | decide | omega))
      have t7 := fup_at ehB5 8 (by first | rfl | omega)
      refine And.intro ⟨rfl, by decide, by decide⟩ ?_
      refine Exists.intro xm_498 (And.intro mi_498 (And.intro ⟨rfl, rfl, rfl, rfl⟩ (And.intro True.intro ?_)))
      refine fcall _ h0 (fzs_sub (by decide +kernel) hW) hB5 (ct_Arrays_fill_7cd5b (fBz h0 hB5) (by first | exact ⟨by decide, by decide⟩ | omega)) ?_
      rintro IhB9 _ hB9 fhB9 rfl
      have t10 := fhB9 187 7 (by decide +kernel)
      have t11 := fhB9 187 8 (by decide +kernel)
      refine And.intro ⟨rfl, by decide, by decide⟩ (fgetf fb_187_8 h0 hB9 ?_)
      intro z12 lz12 uz12 qz12
      refine And.intro (by first | exact fi_ lz12 uz12 rfl | omega) (And.intro ?_ ?_)
      · intro c13
        refine And.intro (True.intro) ?_
        exact ⟨_, rfl, by omega⟩
      · intro c14
        refine And.intro (True.intro) ?_
        exact ⟨_, rfl, (by first | exact ⟨by decide, by decide⟩ | omega)⟩
    · intro c15
      refine And.intro ⟨rfl, by decide, by decide⟩ (And.intro rfl (And.intro (Or.inr ⟨rfl, by decide, by decide⟩) (fputf fb_187_8 (by decide +kernel) hW (by first | exact ⟨by decide, by decide⟩ | omega) ?_)))
      intro IhB16 ehB16 hB16
      have t17 : IhB16 187 7 = IhB1 187 7 := (congrFun (congrFun ehB16 187) 7).trans (fup_ne (by first | decide | omega))
      have t18 := fup_at ehB16 8 (by first | rfl | omega)
      refine And.intro ⟨rfl, by decide, by decide⟩ ?_
      refine Exists.intro xm_498 (And.intro mi_498 (And.intro ⟨rfl, rfl, rfl, rfl⟩ (And.intro True.intro ?_)))
      refine fcall _ h0 (fzs_sub (by decide +kernel) hW) hB16 (ct_Arrays_fill_7cd5b (fBz h0 hB16) (by first | exact ⟨by decide, by decide⟩ | omega)) ?_
      rintro IhB20 _ hB20 fhB20 rfl
      have t21 := fhB20 187 7 (by decide +kernel)
      have t22 := fhB20 187 8 (by decide +kernel)
      refine And.intro ⟨rfl, by decide, by decide⟩ (fgetf fb_187_8 h0 hB20 ?_)
      intro z23 lz23 uz23 qz23
      refine And.intro (by first | exact fi_ lz23 uz23 rfl | omega) (And.intro ?_ ?_)
      · intro c24
        refine And.intro (True.intro) ?_
        exact ⟨_, rfl, by omega⟩
      · intro c25
        refine And.intro (True.intro) ?_
        exact ⟨_, rfl, (by first | exact ⟨by decide, by decide⟩ | omega)⟩
set_option maxRecDepth 8000 in
theorem ct_X_hold_bca71 {I : fH} {x1 : Int} (h0 : fB bsJ I) (ha1 : ((-2147483648) ≤ x1 ∧ x1 ≤ 2147483647)) : fC ρ base n F xTc vwCl xTys D dA la gJ (fbz bsJ znJ (fKc wz_0f088) I) xm_134 [.inr (.inr (some 0)), .inl x1] I (fun _ r => ∃ z, r = some (.inl z) ∧ ((0 ≤ z ∧ z ≤ 1) ∨ z = (-1000000002) ∨ z = (-1000000001))) := by
  have hW : fzs wz_0f088 (fKc wz_0f088) := fKc_ok _
  refine f_meth (rb := rbJ) (J := []) 1 400 xG xin_134 x6_134 okJ (fB_self h0) ?_ ?_
  · exact fun q h => absurd h List.not_mem_nil
  · have hB0 := fB_self (zn := znJ) (K := fKc wz_0f088) h0
    refine And.intro ⟨rfl, by decide, by decide⟩ ?_
    refine Exists.intro xm_133 (And.intro mi_133 (And.intro ⟨rfl, rfl, rfl, rfl⟩ (And.intro rfl ?_)))
    refine fcallp hB0 (ct_Charter_isText_4f275 (fBz h0 hB0) (by first | exact ⟨ha1.1, ha1.2⟩ | omega)) ?_
    rintro _ ⟨z1, rfl, hz1⟩
    refine And.intro (by omega) (And.intro ?_ ?_)
    · intro c2
      refine And.intro ⟨rfl, by decide, by decide⟩ ?_
      refine And.intro ⟨rfl, by decide, by decide⟩ (fgetf fb_187_7 h0 hB0 ?_)
      intro z3 lz3 uz3 qz3
      refine And.intro (And.intro (by first | exact fi_ lz3 uz3 rfl | omega) (by first | exact ⟨by decide, by decide⟩ | omega)) (And.intro ?_ ?_)
      · intro c4
        refine And.intro (True.intro) ?_
        exact ⟨_, rfl, by omega⟩
      · intro c5
        refine And.intro ⟨rfl, by decide, by decide⟩ ?_
        refine And.intro ⟨rfl, by decide, by decide⟩ ?_
        refine fload rL_190_190_0_11_1_0 h0 hB0 (by omega) ?_
        intro z6 lz6 uz6 qz6
        refine And.intro (And.intro (by first | exact fi_ lz6 uz6 rfl | omega) (by first | exact ⟨by decide, by decide⟩ | omega)) (And.intro ?_ ?_)
        · intro c7
          refine And.intro ⟨rfl, by decide, by decide⟩ ?_
          refine Exists.intro xm_135 (And.intro mi_135 (And.intro ⟨rfl, rfl, rfl, rfl⟩ (And.intro rfl ?_)))
          refine fcall _ h0 (fzs_sub (by decide +kernel) hW) hB0 (ct_Charter_beginVote_a1bcb (fBz h0 hB0) (by omega)) ?_
          rintro IhB9 _ hB9 fhB9 ⟨z8, rfl, hz8⟩
          refine And.intro (True.intro) ?_
          exact ⟨_, rfl, by omega⟩
        · intro c10
          refine And.intro (True.intro) ?_
          exact ⟨_, rfl, by omega⟩
    · intro c11
      refine And.intro (True.intro) ?_
      exact ⟨_, rfl, by omega⟩
abbrev jc_M_hold_d28d9_65 : Nat → fL → List fV → fH → Prop := fun m lv st I => ∃ (y1 : Int) (y2 : Int), lv = [(0, .inr (.inr (some 740))), (1, .inl y1), (2, .inl y2)] ∧ st = [] ∧ (((0 ≤ y1 ∧ y1 ≤ 11) ∧ (0 ≤ y2 ∧ y2 ≤ 24) ∧ (0 ≤ I 741 14 ∧ I 741 14 ≤ 11) ∧ (0 ≤ I 741 15 ∧ I 741 15 ≤ 0) ∧ (0 ≤ I 741 16 ∧ I 741 16 ≤ 0))) ∧ m = (1 + 1 * (24 - y2) : Int).toNat
set_option maxRecDepth 8000 in
theorem ct_M_hold_d28d9 {I : fH} {x1 : Int} (h0 : fB bsJ I) (ha1 : ((-2147483648) ≤ x1 ∧ x1 ≤ 2147483647)) : fC ρ base n F xTc vwCl xTys D dA la gJ (fbz bsJ znJ (fKc wz_8c264) I) xm_426 [.inr (.inr (some 740)), .inl x1] I (fun _ r => ∃ z, r = some (.inl z) ∧ ((0 ≤ z ∧ z ≤ 1) ∨ z = (-1000000002) ∨ z = (-1000000001))) := by
  have hW : fzs wz_8c264 (fKc wz_8c264) := fKc_ok _
  refine f_meth (rb := rbJ) (J := [(65, jc_M_hold_d28d9_65)]) 26 400 xG xin_426 x6_426 okJ (fB_self h0) ?_ ?_
  · refine List.forall_mem_cons.mpr ⟨?_, fun q h => absurd h List.not_mem_nil⟩
    · rintro m _ _ I1 hB1 ⟨y1, y2, rfl, rfl, hb, hm⟩
      refine And.intro (And.intro (by first | exact fi_ hb.2.1.1 hb.2.1.2 rfl | omega) (by first | exact ⟨by decide, by decide⟩ | omega)) (And.intro ?_ ?_)
      · intro c1
        refine And.intro ⟨rfl, by decide, by decide⟩ ?_
        refine Exists.intro xm_255 (And.intro mi_255 (And.intro ⟨rfl, rfl, rfl, rfl⟩ (And.intro rfl ?_)))
        refine fcallp hB1 (ct_M_textAt_ea474 (fBz h0 hB1) (by first | exact ⟨hb.1.1, hb.1.2⟩ | omega)) ?_
        rintro _ ⟨_, rfl, rfl⟩
        refine fload rL_741_741_1211_3411_200_0 h0 hB1 (by omega) ?_
        intro z3 lz3 uz3 qz3
        refine And.intro (by first | exact fi_ lz3 uz3 rfl | omega) (And.intro ?_ ?_)
        · intro c4
          refine And.intro (True.intro) ?_
          exact ⟨_, rfl, by omega⟩
        · intro c5
          refine And.intro (True.intro) ?_
          exact ⟨_, rfl, by omega⟩
      · intro c6
        refine And.intro ⟨rfl, by decide, by decide⟩ ?_
        refine Exists.intro xm_247 (And.intro mi_247 (And.intro ⟨rfl, rfl, rfl, rfl⟩ (And.intro rfl ?_)))
        refine fcallp hB1 (ct_M_personAt_9b331 (fBz h0 hB1) (by first | exact ⟨hb.2.1.1, Int.le_trans (Int.le_sub_one_of_lt (Int.lt_of_lt_of_le c6 (Int.le_refl _))) (by decide)⟩ | omega)) ?_
        rintro _ ⟨_, rfl, rfl⟩
        refine fstore rS_741_741_874_1012_6_0 (fzs_sub (by decide +kernel) hW) (by omega) (by first | exact ⟨by decide, by decide⟩ | omega) ?_
        intro IhB8 ehB8 hB8
        have t9 := fup_self ehB8
        have t10 : IhB8 741 14 = I1 741 14 := (congrFun (congrFun ehB8 741) 14).trans (fup_ne (by first | exact Or.inl (by decide) | omega))
        have t11 : IhB8 741 15 = I1 741 15 := (congrFun (congrFun ehB8 741) 15).trans (fup_ne (by first | exact Or.inl (by decide) | omega))
        have t12 : IhB8 741 16 = I1 741 16 := (congrFun (congrFun ehB8 741) 16).trans (fup_ne (by first | exact Or.inl (by decide) | omega))
        exact fcutJ (I := IhB8) (j := jc_M_hold_d28d9_65) (lv' := [(0, .inr (.inr (some 740))), (1, .inl _), (2, .inl _)]) (And.intro rfl (And.intro rfl (And.intro rfl True.intro))) ⟨_, _, rfl, rfl, by omega, rfl⟩ (by omega)
  · have hB0 := fB_self (zn := znJ) (K := fKc wz_8c264) h0
    refine Exists.intro xm_425 (And.intro mi_425 (And.intro ⟨rfl, rfl, rfl, rfl⟩ (And.intro rfl ?_)))
    refine fcallp hB0 (ct_M_isText_c8726 (fBz h0 hB0) (by first | exact ⟨ha1.1, ha1.2⟩ | omega)) ?_
    rintro _ ⟨z13, rfl, hz13⟩
    refine And.intro (by omega) (And.intro ?_ ?_)
    · intro c14
      refine And.intro ⟨rfl, by decide, by decide⟩ ?_
      refine fload1 rL_741_741_14_14_1_0 h0 hB0 ⟨by decide, by decide⟩ (by first | exact ⟨by decide, by decide⟩ | omega) ?_
      intro z15 lz15 uz15 qz15
      have pz15 := fld_at qz15 14 (by omega)
      refine And.intro (by first | exact fi_ lz15 uz15 rfl | omega) (And.intro ?_ ?_)
      · intro c16
        refine And.intro (True.intro) ?_
        exact ⟨_, rfl, by omega⟩
      · intro c17
        refine And.intro ⟨rfl, by decide, by decide⟩ ?_
        refine Exists.intro xm_255 (And.intro mi_255 (And.intro ⟨rfl, rfl, rfl, rfl⟩ (And.intro rfl ?_)))
        refine fcallp hB0 (ct_M_textAt_ea474 (fBz h0 hB0) (by omega)) ?_
        rintro _ ⟨_, rfl, rfl⟩
        refine fload rL_741_741_1212_3412_200_0 h0 hB0 (by omega) ?_
        intro z19 lz19 uz19 qz19
        refine And.intro (by first | exact fi_ lz19 uz19 rfl | omega) (And.intro ?_ ?_)
        · intro c20
          refine And.intro ⟨rfl, by decide, by decide⟩ ?_
          refine fstore1 rS_741_741_14_14_1_0 (fzs_sub (by decide +kernel) hW) ⟨by decide, by decide⟩ (by first | exact ⟨by decide, by decide⟩ | omega) (by omega) ?_
          intro IhB21 ehB21 hB21
          have t22 := fup_self ehB21
          have t23 := fup_at ehB21 14 (by first | rfl | omega)
          refine And.intro ⟨rfl, by decide, by decide⟩ ?_
          refine fstore1 rS_741_741_15_15_1_0 (fzs_sub (by decide +kernel) hW) ⟨by decide, by decide⟩ (by first | exact ⟨by decide, by decide⟩ | omega) (by first | exact ⟨by decide, by decide⟩ | omega) ?_
          intro IhB24 ehB24 hB24
          have t25 := fup_self ehB24
          have t26 : IhB24 741 14 = IhB21 741 14 := (congrFun (congrFun ehB24 741) 14).trans (fup_ne (by first | decide | omega))
          have t27 := fup_at ehB24 15 (by first | rfl | omega)
          refine And.intro ⟨rfl, by decide, by decide⟩ ?_
          refine fstore1 rS_741_741_16_16_1_0 (fzs_sub (by decide +kernel) hW) ⟨by decide, by decide⟩ (by first | exact ⟨by decide, by decide⟩ | omega) (by first | exact ⟨by decide, by decide⟩ | omega) ?_
          intro IhB28 ehB28 hB28
          have t29 := fup_self ehB28
          have t30 : IhB28 741 14 = IhB24 741 14 := (congrFun (congrFun ehB28 741) 14).trans (fup_ne (by first | decide | omega))
          have t31 : IhB28 741 15 = IhB24 741 15 := (congrFun (congrFun ehB28 741) 15).trans (fup_ne (by first | decide | omega))
          have t32 := fup_at ehB28 16 (by first | rfl | omega)
          exact fcutJ (I := IhB28) (j := jc_M_hold_d28d9_65) (lv' := [(0, .inr (.inr (some 740))), (1, .inl _), (2, .inl _)]) (And.intro rfl (And.intro rfl (And.intro rfl True.intro))) ⟨_, _, rfl, rfl, by omega, rfl⟩ (by omega)
        · intro c33
          refine And.intro (True.intro) ?_
          exact ⟨_, rfl, by omega⟩
    · intro c34
      refine And.intro (True.intro) ?_
      exact ⟨_, rfl, by omega⟩
abbrev jc_Charter_saidSo_9e364_4 : Nat → fL → List fV → fH → Prop := fun m lv st I => ∃ (y1 : Int) (y2 : Int) (y3 : Int), lv = [(0, .inr (.inr (some 187))), (1, .inl y1), (2, .inl y2), (3, .inl y3)] ∧ st = [] ∧ (((0 ≤ y1 ∧ y1 ≤ 1) ∧ ((-2147483648) ≤ y2 ∧ y2 ≤ 2147483647) ∧ (0 ≤ y3 ∧ y3 ≤ 24))) ∧ m = (1 + 1 * (24 - y3) : Int).toNat
set_option maxRecDepth 8000 in
theorem ct_Charter_saidSo_9e364 {I : fH} {x1 : Int} (h0 : fB bsJ I) (ha1 : (0 ≤ x1 ∧ x1 ≤ 1)) : fC ρ base n F xTc vwCl xTys D dA la gJ (fbz bsJ znJ (fKc []) I) xm_138 [.inr (.inr (some 187)), .inl x1] I (fun _ r => ∃ z, r = some (.inl z) ∧ ((-2147483648) ≤ z ∧ z ≤ 2147483647)) := by
  have hW : fzs [] (fKc []) := fKc_ok _
  refine f_meth (rb := rbJ) (J := [(4, jc_Charter_saidSo_9e364_4)]) 26 400 xG xin_138 x6_138 okJ (fB_self h0) ?_ ?_
  · refine List.forall_mem_cons.mpr ⟨?_, fun q h => absurd h List.not_mem_nil⟩
    · rintro m _ _ I1 hB1 ⟨y1, y2, y3, rfl, rfl, hb, hm⟩
      refine And.intro ⟨rfl, by decide, by decide⟩ ?_
      refine Exists.intro 100 (Exists.intro 24 (And.intro rfl (And.intro ⟨by decide, by decide, by decide⟩ ?_)))
      refine And.intro (And.intro (by first | exact fi_ hb.2.2.1 hb.2.2.2 rfl | omega) (by first | exact ⟨by decide, by decide⟩ | omega)) (And.intro ?_ ?_)
      · intro c1
        refine And.intro (True.intro) ?_
        exact ⟨_, rfl, (by first | exact ⟨hb.2.1.1, hb.2.1.2⟩ | omega)⟩
      · intro c2
        refine And.intro ⟨rfl, by decide, by decide⟩ ?_
        refine fload1 rL_206_206_0_23_1_0 h0 hB1 ⟨by decide, by decide⟩ (by first | exact ⟨hb.2.2.1, Int.le_trans (Int.le_sub_one_of_lt (Int.lt_of_lt_of_le c2 (Int.le_refl _))) (by decide)⟩ | omega) ?_
        intro z3 lz3 uz3 qz3
        refine And.intro (And.intro (by first | exact fi_ lz3 uz3 rfl | omega) (by first | exact fi_ hb.1.1 hb.1.2 rfl | omega)) (And.intro ?_ ?_)
        · intro c4
          exact fcutJ (I := I1) (j := jc_Charter_saidSo_9e364_4) (lv' := [(0, .inr (.inr (some 187))), (1, .inl _), (2, .inl _), (3, .inl _)]) (And.intro rfl (And.intro rfl (And.intro rfl (And.intro rfl True.intro)))) ⟨_, _, _, rfl, rfl, by omega, rfl⟩ (by omega)
        · intro c5
          intro z6 hz6 bz6
          clear bz6
          exact fcutJ (I := I1) (j := jc_Charter_saidSo_9e364_4) (lv' := [(0, .inr (.inr (some 187))), (1, .inl _), (2, .inl _), (3, .inl _)]) (And.intro rfl (And.intro rfl (And.intro rfl (And.intro rfl True.intro)))) ⟨_, _, _, rfl, rfl, by omega, rfl⟩ (by omega)
  · have hB0 := fB_self (zn := znJ) (K := fKc []) h0
    exact fcutJ (I := I) (j := jc_Charter_saidSo_9e364_4) (lv' := [(0, .inr (.inr (some 187))), (1, .inl _), (2, .inl _), (3, .inl _)]) (And.intro rfl (And.intro rfl (And.intro rfl (And.intro rfl True.intro)))) ⟨_, _, _, rfl, rfl, by omega, rfl⟩ (by omega)
set_option maxRecDepth 8000 in
theorem ct_Charter_mayVote_6ee33 {I : fH} {x2 : Int} (h0 : fB bsJ I) (ha2 : (0 ≤ x2 ∧ x2 ≤ 23)) : fC ρ base n F xTc vwCl xTys D dA la gJ (fbz bsJ znJ (fKc wz_7d09b) I) xm_137 [.inr (.inr (some 187)), .inr (.inr (some 1)), .inl x2] I (fun _ r => ∃ z, r = some (.inl z) ∧ (0 ≤ z ∧ z ≤ 1)) := by
  have hW : fzs wz_7d09b (fKc wz_7d09b) := fKc_ok _
  refine f_meth (rb := rbJ) (J := []) 1 400 xG xin_137 x6_137 okJ (fB_self h0) ?_ ?_
  · exact fun q h => absurd h List.not_mem_nil
  · have hB0 := fB_self (zn := znJ) (K := fKc wz_7d09b) h0
    refine Exists.intro xm_29 (And.intro mi_29 (And.intro ⟨rfl, rfl, rfl, rfl⟩ (And.intro rfl ?_)))
    refine fcall _ h0 (fzs_sub (by decide +kernel) hW) hB0 (ct_Charter_putOne_99949 (fBz h0 hB0) (by first | exact ⟨ha2.1, ha2.2⟩ | omega)) ?_
    rintro IhB2 _ hB2 fhB2 rfl
    refine Exists.intro xm_32 (And.intro mi_32 (And.intro ⟨rfl, rfl, rfl, rfl⟩ (And.intro rfl ?_)))
    refine fcallp hB2 (ct_City_hour_b7a7b (fBz h0 hB2)) ?_
    rintro _ ⟨z3, rfl, hz3⟩
    refine Exists.intro xm_33 (And.intro mi_33 (And.intro ⟨rfl, rfl, rfl, rfl⟩ (And.intro rfl ?_)))
    refine fcall _ h0 (fzs_sub (by decide +kernel) hW) hB2 (ct_Charter_allows_3e335 (fBz h0 hB2) (by first | exact ⟨by decide, by decide⟩ | omega) (by first | exact ⟨hz3.1, hz3.2⟩ | omega)) ?_
    rintro IhB5 _ hB5 fhB5 ⟨z4, rfl, hz4⟩
    refine And.intro (⟨by omega, by omega⟩) ?_
    exact ⟨_, rfl, by omega⟩
set_option maxRecDepth 8000 in
theorem ct_X_say_45bc8 {I : fH} {x1 : Int} {x2 : Int} (h0 : fB bsJ I) (ha1 : ((-2147483648) ≤ x1 ∧ x1 ≤ 2147483647)) (ha2 : ((-2147483648) ≤ x2 ∧ x2 ≤ 2147483647)) : fC ρ base n F xTc vwCl xTys D dA la gJ (fbz bsJ znJ (fKc wz_60f7b) I) xm_136 [.inr (.inr (some 0)), .inl x1, .inl x2] I (fun _ r => ∃ z, r = some (.inl z) ∧ ((-2147483648) ≤ z ∧ z ≤ 2147483647)) := by
  have hW : fzs wz_60f7b (fKc wz_60f7b) := fKc_ok _
  refine f_meth (rb := rbJ) (J := []) 1 400 xG xin_136 x6_136 okJ (fB_self h0) ?_ ?_
  · exact fun q h => absurd h List.not_mem_nil
  · have hB0 := fB_self (zn := znJ) (K := fKc wz_60f7b) h0
    refine And.intro ⟨rfl, by decide, by decide⟩ ?_
    refine Exists.intro xm_27 (And.intro mi_27 (And.intro ⟨rfl, rfl, rfl, rfl⟩ (And.intro rfl ?_)))
    refine fcallp hB0 (ct_City_isPerson_ff059 (fBz h0 hB0) (by first | exact ⟨ha1.1, ha1.2⟩ | omega)) ?_
    rintro _ ⟨z1, rfl, hz1⟩
    refine And.intro (by omega) (And.intro ?_ ?_)
    · intro c2
      refine And.intro (True.intro) ?_
      exact ⟨_, rfl, (by first | exact ⟨by decide, by decide⟩ | omega)⟩
    · intro c3
      refine Exists.intro xm_13 (And.intro mi_13 (And.intro ⟨rfl, rfl, rfl, rfl⟩ (And.intro True.intro ?_)))
      refine fcallp hB0 (ct_X_within_c27b1 (fBz h0 hB0) (by first | exact ⟨ha2.1, ha2.2⟩ | omega) (by first | exact ⟨by decide, by decide⟩ | omega) (by first | exact ⟨by decide, by decide⟩ | omega)) ?_
      rintro _ ⟨z4, rfl, hz4⟩
      refine And.intro (by omega) (And.intro ?_ ?_)
      · intro c5
        refine And.intro ⟨rfl, by decide, by decide⟩ ?_
        refine And.intro ⟨rfl, by decide, by decide⟩ (fgetf fb_187_7 h0 hB0 ?_)
        intro z6 lz6 uz6 qz6
        refine And.intro (And.intro (by first | exact fi_ lz6 uz6 rfl | omega) (by first | exact ⟨by decide, by decide⟩ | omega)) (And.intro ?_ ?_)
        · intro c7
          refine And.intro (True.intro) ?_
          exact ⟨_, rfl, (by first | exact ⟨by decide, by decide⟩ | omega)⟩
        · intro c8
          refine And.intro ⟨rfl, by decide, by decide⟩ ?_
          refine And.intro ⟨rfl, by decide, by decide⟩ ?_
          refine Exists.intro xm_21 (And.intro mi_21 (And.intro ⟨rfl, rfl, rfl, rfl⟩ (And.intro rfl ?_)))
          refine fcallp hB0 (ct_People_isDead_edb17 (fBz h0 hB0) (by omega)) ?_
          rintro _ ⟨z9, rfl, hz9⟩
          refine And.intro (by omega) (And.intro ?_ ?_)
          · intro c10
            refine And.intro (True.intro) ?_
            exact ⟨_, rfl, (by first | exact ⟨by decide, by decide⟩ | omega)⟩
          · intro c11
            refine And.intro ⟨rfl, by decide, by decide⟩ ?_
            refine And.intro ⟨rfl, by decide, by decide⟩ ?_
            refine fload rL_206_206_0_23_1_0 h0 hB0 (by omega) ?_
            intro z12 lz12 uz12 qz12
            refine And.intro (And.intro (by first | exact fi_ lz12 uz12 rfl | omega) (by first | exact ⟨by decide, by decide⟩ | omega)) (And.intro ?_ ?_)
            · intro c13
              refine And.intro ⟨rfl, by decide, by decide⟩ ?_
              refine And.intro ⟨rfl, by decide, by decide⟩ ?_
              refine Exists.intro xm_137 (And.intro mi_137 (And.intro ⟨rfl, rfl, rfl, rfl⟩ (And.intro rfl ?_)))
              refine fcall _ h0 (fzs_sub (by decide +kernel) hW) hB0 (ct_Charter_mayVote_6ee33 (fBz h0 hB0) (by omega)) ?_
              rintro IhB15 _ hB15 fhB15 ⟨z14, rfl, hz14⟩
              have t16 := fhB15 187 7 (by decide +kernel)
              refine And.intro (by omega) (And.intro ?_ ?_)
              · intro c17
                refine And.intro ⟨rfl, by decide, by decide⟩ ?_
                refine And.intro ⟨rfl, by decide, by decide⟩ ?_
                refine fstore rS_206_206_0_23_1_0 (fzs_sub (by decide +kernel) hW) (by omega) (by first | exact ⟨Int.le_trans (by decide) (Int.le_trans (Int.le_refl _) hz4.1), Int.le_trans (Int.le_trans hz4.2 (Int.le_refl _)) (by decide)⟩ | omega) ?_
                intro IhB18 ehB18 hB18
                have t19 := fup_self ehB18
                have t20 : IhB18 187 7 = IhB15 187 7 := (congrFun (congrFun ehB18 187) 7).trans (fup_ne (by first | exact Or.inl (by decide) | omega))
                refine And.intro ⟨rfl, by decide, by decide⟩ ?_
                refine Exists.intro xm_138 (And.intro mi_138 (And.intro ⟨rfl, rfl, rfl, rfl⟩ (And.intro rfl ?_)))
                refine fcallp hB18 (ct_Charter_saidSo_9e364 (fBz h0 hB18) (by first | exact ⟨Int.le_trans (by decide) (Int.le_trans (Int.le_refl _) hz4.1), Int.le_trans (Int.le_trans hz4.2 (Int.le_refl _)) (by decide)⟩ | omega)) ?_
                rintro _ ⟨z21, rfl, hz21⟩
                refine And.intro (True.intro) ?_
                exact ⟨_, rfl, (by first | exact ⟨hz21.1, hz21.2⟩ | omega)⟩
              · intro c22
                refine And.intro (True.intro) ?_
                exact ⟨_, rfl, (by first | exact ⟨by decide, by decide⟩ | omega)⟩
            · intro c23
              refine And.intro (True.intro) ?_
              exact ⟨_, rfl, (by first | exact ⟨by decide, by decide⟩ | omega)⟩
      · intro c24
        refine And.intro (True.intro) ?_
        exact ⟨_, rfl, (by first | exact ⟨by decide, by decide⟩ | omega)⟩
set_option maxRecDepth 8000 in
theorem ct_M_mayVote_8be76 {I : fH} {x1 : Int} (h0 : fB bsJ I) (ha1 : (0 ≤ x1 ∧ x1 ≤ 23)) (hp0 : sI I 741) : fC ρ base n F xTc vwCl xTys D dA la gJ (fbz bsJ znJ (fKc wz_5ef89) I) xm_428 [.inr (.inr (some 740)), .inl x1] I (fun _ r => ∃ z, r = some (.inl z) ∧ (0 ≤ z ∧ z ≤ 1)) := by
  have hW : fzs wz_5ef89 (fKc wz_5ef89) := fKc_ok _
  refine f_meth (rb := rbJ) (J := []) 1 400 xG xin_428 x6_428 okJ (fB_self h0) ?_ ?_
  · exact fun q h => absurd h List.not_mem_nil
  · have hB0 := fB_self (zn := znJ) (K := fKc wz_5ef89) h0
    refine Exists.intro xm_254 (And.intro mi_254 (And.intro ⟨rfl, rfl, rfl, rfl⟩ (And.intro rfl ?_)))
    refine fcallp hB0 (ct_M_counts_1278f (fBz h0 hB0) (by first | exact ⟨by decide, by decide⟩ | omega)) ?_
    rintro _ ⟨z1, rfl, hz1⟩
    refine Exists.intro xm_258 (And.intro mi_258 (And.intro ⟨rfl, rfl, rfl, rfl⟩ (And.intro rfl ?_)))
    refine fcall _ h0 (fzs_sub (by decide +kernel) hW) hB0 (ct_M_nameOne_43c7d (fBz h0 hB0) (by first | exact ⟨ha1.1, ha1.2⟩ | omega)) ?_
    rintro IhB3 _ hB3 fhB3 rfl
    have k4 := fBz_eq hB3 (a := 741) (j := 9) (by decide +kernel)
    refine And.intro (by first | exact fi_ hz1.1.1 hz1.1.2 rfl | omega) (And.intro ?_ ?_)
    · intro c5
      refine And.intro (⟨by decide, by decide⟩) ?_
      exact ⟨_, rfl, (by first | exact ⟨by decide, by decide⟩ | omega)⟩
    · intro c6
      refine Exists.intro xm_259 (And.intro mi_259 (And.intro ⟨rfl, rfl, rfl, rfl⟩ (And.intro rfl ?_)))
      refine fcall _ h0 (fzs_sub (by decide +kernel) hW) hB3 (ct_M_worked_0bc29 (fBz h0 hB3) (by first | exact ⟨Int.le_trans (by decide) (Int.le_trans (Int.le_refl _) c6), hz1.1.2⟩ | omega) (sI_keep hp0 h0 hB3 (by decide +kernel)) (by omega)) ?_
      rintro IhB8 _ hB8 fhB8 ⟨z7, rfl, hz7⟩
      have k9 := fBz_eq hB8 (a := 741) (j := 9) (by decide +kernel)
      refine And.intro (by first | exact fi_ hz7.1 hz7.2 rfl | omega) (And.intro ?_ ?_)
      · intro c10
        refine And.intro (⟨by omega, by omega⟩) ?_
        exact ⟨_, rfl, by omega⟩
      · intro c11
        refine And.intro (⟨by decide, by decide⟩) ?_
        exact ⟨_, rfl, (by first | exact ⟨by decide, by decide⟩ | omega)⟩
set_option maxRecDepth 8000 in
theorem ct_M_say_fd1c8 {I : fH} {x1 : Int} {x2 : Int} (h0 : fB bsJ I) (ha1 : ((-2147483648) ≤ x1 ∧ x1 ≤ 2147483647)) (ha2 : ((-2147483648) ≤ x2 ∧ x2 ≤ 2147483647)) (hp0 : sI I 741) : fC ρ base n F xTc vwCl xTys D dA la gJ (fbz bsJ znJ (fKc wz_d8820) I) xm_427 [.inr (.inr (some 740)), .inl x1, .inl x2] I (fun _ r => ∃ z, r = some (.inl z) ∧ ((-2147483648) ≤ z ∧ z ≤ 2147483647)) := by
  have hW : fzs wz_d8820 (fKc wz_d8820) := fKc_ok _
  refine f_meth (rb := rbJ) (J := []) 1 400 xG xin_427 x6_427 okJ (fB_self h0) ?_ ?_
  · exact fun q h => absurd h List.not_mem_nil
  · have hB0 := fB_self (zn := znJ) (K := fKc wz_d8820) h0
    refine Exists.intro xm_252 (And.intro mi_252 (And.intro ⟨rfl, rfl, rfl, rfl⟩ (And.intro rfl ?_)))
    refine fcallp hB0 (ct_M_isPerson_4d30c (fBz h0 hB0) (by first | exact ⟨ha1.1, ha1.2⟩ | omega)) ?_
    rintro _ ⟨z1, rfl, hz1⟩
    refine And.intro (by omega) (And.intro ?_ ?_)
    · intro c2
      refine And.intro (True.intro) ?_
      exact ⟨_, rfl, (by first | exact ⟨by decide, by decide⟩ | omega)⟩
    · intro c3
      refine And.intro (by first | exact fi_ ha2.1 ha2.2 rfl | omega) ?_
      refine Exists.intro xm_238 (And.intro mi_238 (And.intro ⟨rfl, rfl, rfl, rfl⟩ (And.intro True.intro ?_)))
      refine fcallp hB0 (ct_M_isIn_27230 (fBz h0 hB0) (by first | exact ⟨ha2.1, ha2.2⟩ | omega) (by first | exact ⟨by decide, by decide⟩ | omega) (by first | exact ⟨by decide, by decide⟩ | omega)) ?_
      rintro _ ⟨z4, rfl, hz4⟩
      refine And.intro (by omega) (And.intro ?_ ?_)
      · intro c5
        refine And.intro ⟨rfl, by decide, by decide⟩ ?_
        refine fload1 rL_741_741_14_14_1_0 h0 hB0 ⟨by decide, by decide⟩ (by first | exact ⟨by decide, by decide⟩ | omega) ?_
        intro z6 lz6 uz6 qz6
        have pz6 := fld_at qz6 14 (by omega)
        refine And.intro (by first | exact fi_ lz6 uz6 rfl | omega) (And.intro ?_ ?_)
        · intro c7
          refine And.intro (True.intro) ?_
          exact ⟨_, rfl, (by first | exact ⟨by decide, by decide⟩ | omega)⟩
        · intro c8
          refine Exists.intro xm_248 (And.intro mi_248 (And.intro ⟨rfl, rfl, rfl, rfl⟩ (And.intro rfl ?_)))
          refine fcallp hB0 (ct_M_isDead_21e1a (fBz h0 hB0) (by omega)) ?_
          rintro _ ⟨z9, rfl, hz9⟩
          refine And.intro (by omega) (And.intro ?_ ?_)
          · intro c10
            refine And.intro (True.intro) ?_
            exact ⟨_, rfl, (by first | exact ⟨by decide, by decide⟩ | omega)⟩
          · intro c11
            refine And.intro ⟨rfl, by decide, by decide⟩ ?_
            refine Exists.intro xm_247 (And.intro mi_247 (And.intro ⟨rfl, rfl, rfl, rfl⟩ (And.intro rfl ?_)))
            refine fcallp hB0 (ct_M_personAt_9b331 (fBz h0 hB0) (by omega)) ?_
            rintro _ ⟨_, rfl, rfl⟩
            refine fload rL_741_741_874_1012_6_0 h0 hB0 (by omega) ?_
            intro z13 lz13 uz13 qz13
            refine And.intro (And.intro (by first | exact fi_ lz13 uz13 rfl | omega) (by first | exact ⟨by decide, by decide⟩ | omega)) (And.intro ?_ ?_)
            · intro c14
              refine And.intro (True.intro) ?_
              exact ⟨_, rfl, (by first | exact ⟨by decide, by decide⟩ | omega)⟩
            · intro c15
              refine Exists.intro xm_428 (And.intro mi_428 (And.intro ⟨rfl, rfl, rfl, rfl⟩ (And.intro rfl ?_)))
              refine fcall _ h0 (fzs_sub (by decide +kernel) hW) hB0 (ct_M_mayVote_8be76 (fBz h0 hB0) (by omega) (sI_keep hp0 h0 hB0 (by decide +kernel))) ?_
              rintro IhB17 _ hB17 fhB17 ⟨z16, rfl, hz16⟩
              have t18 := fhB17 741 14 (by decide +kernel)
              refine And.intro (by omega) (And.intro ?_ ?_)
              · intro c19
                refine And.intro ⟨rfl, by decide, by decide⟩ ?_
                refine Exists.intro xm_247 (And.intro mi_247 (And.intro ⟨rfl, rfl, rfl, rfl⟩ (And.intro rfl ?_)))
                refine fcallp hB17 (ct_M_personAt_9b331 (fBz h0 hB17) (by omega)) ?_
                rintro _ ⟨_, rfl, rfl⟩
                refine fstore rS_741_741_874_1012_6_0 (fzs_sub (by decide +kernel) hW) (by omega) (by first | exact ⟨by decide, by decide⟩ | omega) ?_
                intro IhB21 ehB21 hB21
                have t22 := fup_self ehB21
                have t23 : IhB21 741 14 = IhB17 741 14 := (congrFun (congrFun ehB21 741) 14).trans (fup_ne (by first | exact Or.inl (by decide) | omega))
                refine And.intro ⟨rfl, by decide, by decide⟩ ?_
                refine And.intro (And.intro (by first | exact fi_ (Int.le_trans (Int.le_refl _) hz4.1) (Int.le_trans hz4.2 (Int.le_refl _)) rfl | omega) (by first | exact ⟨by decide, by decide⟩ | omega)) (And.intro ?_ ?_)
                · intro c24
                  refine fload rL_741_741_15_16_1_0 h0 hB21 (by omega) ?_
                  intro z25 lz25 uz25 qz25
                  intro z26 hz26 ez26 bz26
                  clear ez26
                  try replace bz26 := bz26 (by omega)
                  refine fstore rS_741_741_15_16_1_0 (fzs_sub (by decide +kernel) hW) (by omega) (by omega) ?_
                  intro IhB27 ehB27 hB27
                  have t28 := fup_self ehB27
                  have t29 : IhB27 741 14 = IhB21 741 14 := (congrFun (congrFun ehB27 741) 14).trans (fup_ne (by first | exact Or.inl (by decide) | omega))
                  refine And.intro (And.intro (by first | exact fi_ (Int.le_trans (Int.le_refl _) hz4.1) (Int.le_trans hz4.2 (Int.le_refl _)) rfl | omega) (by first | exact ⟨by decide, by decide⟩ | omega)) (And.intro ?_ ?_)
                  · intro c30
                    refine And.intro ⟨rfl, by decide, by decide⟩ ?_
                    refine fload1 rL_741_741_16_16_1_0 h0 hB27 ⟨by decide, by decide⟩ (by first | exact ⟨by decide, by decide⟩ | omega) ?_
                    intro z31 lz31 uz31 qz31
                    have pz31 := fld_at qz31 16 (by omega)
                    refine And.intro (True.intro) ?_
                    exact ⟨_, rfl, (by first | exact ⟨lz31, uz31⟩ | omega)⟩
                  · intro c32
                    refine And.intro ⟨rfl, by decide, by decide⟩ ?_
                    refine fload1 rL_741_741_15_15_1_0 h0 hB27 ⟨by decide, by decide⟩ (by first | exact ⟨by decide, by decide⟩ | omega) ?_
                    intro z33 lz33 uz33 qz33
                    have pz33 := fld_at qz33 15 (by omega)
                    refine And.intro (True.intro) ?_
                    exact ⟨_, rfl, (by first | exact ⟨lz33, uz33⟩ | omega)⟩
                · intro c34
                  refine fload1 rL_741_741_15_16_1_0 h0 hB21 ⟨by decide, by decide⟩ (by first | exact ⟨by decide, by decide⟩ | omega) ?_
                  intro z35 lz35 uz35 qz35
                  intro z36 hz36 ez36 bz36
                  clear ez36
                  try replace bz36 := bz36 (by omega)
                  refine fstore1 rS_741_741_15_16_1_0 (fzs_sub (by decide +kernel) hW) ⟨by decide, by decide⟩ (by first | exact ⟨by decide, by decide⟩ | omega) (by omega) ?_
                  intro IhB37 ehB37 hB37
                  have t38 := fup_self ehB37
                  have t39 : IhB37 741 14 = IhB21 741 14 := (congrFun (congrFun ehB37 741) 14).trans (fup_ne (by first | exact Or.inl (by decide) | omega))
                  refine And.intro (And.intro (by first | exact fi_ (Int.le_trans (Int.le_refl _) (Int.le_of_eq c34.symm)) (Int.le_trans hz4.2 (Int.le_refl _)) rfl | omega) (by first | exact ⟨by decide, by decide⟩ | omega)) (And.intro ?_ ?_)
                  · intro c40
                    refine And.intro ⟨rfl, by decide, by decide⟩ ?_
                    refine fload1 rL_741_741_16_16_1_0 h0 hB37 ⟨by decide, by decide⟩ (by first | exact ⟨by decide, by decide⟩ | omega) ?_
                    intro z41 lz41 uz41 qz41
                    have pz41 := fld_at qz41 16 (by omega)
                    refine And.intro (True.intro) ?_
                    exact ⟨_, rfl, (by first | exact ⟨lz41, uz41⟩ | omega)⟩
                  · intro c42
                    refine And.intro ⟨rfl, by decide, by decide⟩ ?_
                    refine fload1 rL_741_741_15_15_1_0 h0 hB37 ⟨by decide, by decide⟩ (by first | exact ⟨by decide, by decide⟩ | omega) ?_
                    intro z43 lz43 uz43 qz43
                    have pz43 := fld_at qz43 15 (by omega)
                    refine And.intro (True.intro) ?_
                    exact ⟨_, rfl, (by first | exact ⟨lz43, uz43⟩ | omega)⟩
              · intro c44
                refine And.intro (True.intro) ?_
                exact ⟨_, rfl, (by first | exact ⟨by decide, by decide⟩ | omega)⟩
      · intro c45
        refine And.intro (True.intro) ?_
        exact ⟨_, rfl, (by first | exact ⟨by decide, by decide⟩ | omega)⟩
set_option maxRecDepth 8000 in
theorem ct_Charter_endVote_df84e {I : fH} {x1 : Int} {x2 : Int} (h0 : fB bsJ I) (ha1 : (0 ≤ x1 ∧ x1 ≤ 1)) (ha2 : ((-2147483648) ≤ x2 ∧ x2 ≤ 2147483647)) : fC ρ base n F xTc vwCl xTys D dA la gJ (fbz bsJ znJ (fKc wz_9fced) I) xm_142 [.inr (.inr (some 187)), .inl x1, .inl x2] I (fun _ r => r = none) := by
  have hW : fzs wz_9fced (fKc wz_9fced) := fKc_ok _
  refine f_meth (rb := rbJ) (J := []) 1 400 xG xin_142 x6_142 okJ (fB_self h0) ?_ ?_
  · exact fun q h => absurd h List.not_mem_nil
  · have hB0 := fB_self (zn := znJ) (K := fKc wz_9fced) h0
    refine And.intro (by first | exact fi_ ha1.1 ha1.2 rfl | omega) (And.intro ?_ ?_)
    · intro c1
      refine And.intro ⟨rfl, by decide, by decide⟩ (And.intro rfl (And.intro (Or.inl rfl) (fputf fb_187_7 (by decide +kernel) hW (by first | exact ⟨by decide, by decide⟩ | omega) ?_)))
      intro IhB2 ehB2 hB2
      have t3 := fup_at ehB2 7 (by first | rfl | omega)
      exact rfl
    · intro c4
      refine And.intro ⟨rfl, by decide, by decide⟩ (fgetf fb_187_7 h0 hB0 ?_)
      intro z5 lz5 uz5 qz5
      refine Exists.intro xm_133 (And.intro mi_133 (And.intro ⟨rfl, rfl, rfl, rfl⟩ (And.intro rfl ?_)))
      refine fcallp hB0 (ct_Charter_isText_4f275 (fBz h0 hB0) (by first | exact ⟨lz5, uz5⟩ | omega)) ?_
      rintro _ ⟨z6, rfl, hz6⟩
      refine And.intro (by omega) (And.intro ?_ ?_)
      · intro c7
        refine And.intro ⟨rfl, by decide, by decide⟩ (And.intro rfl (And.intro (Or.inl rfl) (fputf fb_187_7 (by decide +kernel) hW (by first | exact ⟨by decide, by decide⟩ | omega) ?_)))
        intro IhB8 ehB8 hB8
        have t9 := fup_at ehB8 7 (by first | rfl | omega)
        exact rfl
      · intro c10
        refine And.intro ⟨rfl, by decide, by decide⟩ (fgetf fb_187_8 h0 hB0 ?_)
        intro z11 lz11 uz11 qz11
        refine And.intro (by first | exact fi_ lz11 uz11 rfl | omega) (And.intro ?_ ?_)
        · intro c12
          refine And.intro ⟨rfl, by decide, by decide⟩ ?_
          refine And.intro ⟨rfl, by decide, by decide⟩ (fgetf fb_187_7 h0 hB0 ?_)
          intro z13 lz13 uz13 qz13
          refine fstore rS_189_189_0_11_1_0 (fzs_sub (by decide +kernel) hW) (by omega) (by first | exact ⟨ha2.1, ha2.2⟩ | omega) ?_
          intro IhB14 ehB14 hB14
          have t15 := fup_self ehB14
          refine And.intro ⟨rfl, by decide, by decide⟩ (And.intro rfl (And.intro (Or.inl rfl) (fputf fb_187_7 (by decide +kernel) hW (by first | exact ⟨by decide, by decide⟩ | omega) ?_)))
          intro IhB16 ehB16 hB16
          have t17 := fup_at ehB16 7 (by first | rfl | omega)
          exact rfl
        · intro c18
          refine And.intro ⟨rfl, by decide, by decide⟩ ?_
          refine And.intro ⟨rfl, by decide, by decide⟩ (fgetf fb_187_7 h0 hB0 ?_)
          intro z19 lz19 uz19 qz19
          refine fstore rS_190_190_0_11_1_0 (fzs_sub (by decide +kernel) hW) (by omega) (by first | exact ⟨ha2.1, ha2.2⟩ | omega) ?_
          intro IhB20 ehB20 hB20
          have t21 := fup_self ehB20
          have t22 : IhB20 187 7 = I 187 7 := (congrFun (congrFun ehB20 187) 7).trans (fup_ne (by first | exact Or.inl (by decide) | omega))
          have t23 : IhB20 187 8 = I 187 8 := (congrFun (congrFun ehB20 187) 8).trans (fup_ne (by first | exact Or.inl (by decide) | omega))
          refine And.intro ⟨rfl, by decide, by decide⟩ (And.intro rfl (And.intro (Or.inl rfl) (fputf fb_187_7 (by decide +kernel) hW (by first | exact ⟨by decide, by decide⟩ | omega) ?_)))
          intro IhB24 ehB24 hB24
          have t25 := fup_at ehB24 7 (by first | rfl | omega)
          exact rfl
abbrev jc_Charter_voters_73b57_4 : Nat → fL → List fV → fH → Prop := fun m lv st I => ∃ (y2 : Int) (y3 : Int), lv = [(0, .inr (.inr (some 187))), (1, .inr (.inr (some 1))), (2, .inl y2), (3, .inl y3)] ∧ st = [] ∧ ((((-2147483648) ≤ y2 ∧ y2 ≤ 2147483647) ∧ (0 ≤ y3 ∧ y3 ≤ 24))) ∧ m = (1 + 1 * (24 - y3) : Int).toNat
set_option maxRecDepth 8000 in
theorem ct_Charter_voters_73b57 {I : fH}  (h0 : fB bsJ I)  : fC ρ base n F xTc vwCl xTys D dA la gJ (fbz bsJ znJ (fKc wz_7d09b) I) xm_141 [.inr (.inr (some 187)), .inr (.inr (some 1))] I (fun _ r => ∃ z, r = some (.inl z) ∧ ((-2147483648) ≤ z ∧ z ≤ 2147483647)) := by
  have hW : fzs wz_7d09b (fKc wz_7d09b) := fKc_ok _
  refine f_meth (rb := rbJ) (J := [(4, jc_Charter_voters_73b57_4)]) 26 400 xG xin_141 x6_141 okJ (fB_self h0) ?_ ?_
  · refine List.forall_mem_cons.mpr ⟨?_, fun q h => absurd h List.not_mem_nil⟩
    · rintro m _ _ I1 hB1 ⟨y2, y3, rfl, rfl, hb, hm⟩
      refine And.intro ⟨rfl, by decide, by decide⟩ ?_
      refine And.intro ⟨rfl, by decide, by decide⟩ (fgetf fb_177_4 h0 hB1 ?_)
      intro z1 lz1 uz1 qz1
      refine And.intro (And.intro (by first | exact fi_ hb.2.1 hb.2.2 rfl | omega) (by first | exact fi_ lz1 uz1 rfl | omega)) (And.intro ?_ ?_)
      · intro c2
        refine And.intro (True.intro) ?_
        exact ⟨_, rfl, (by first | exact ⟨hb.1.1, hb.1.2⟩ | omega)⟩
      · intro c3
        refine And.intro ⟨rfl, by decide, by decide⟩ ?_
        refine Exists.intro xm_21 (And.intro mi_21 (And.intro ⟨rfl, rfl, rfl, rfl⟩ (And.intro rfl ?_)))
        refine fcallp hB1 (ct_People_isDead_edb17 (fBz h0 hB1) (by first | exact ⟨hb.2.1, Int.le_trans (Int.le_sub_one_of_lt (Int.lt_of_lt_of_le c3 uz1)) (by decide)⟩ | omega)) ?_
        rintro _ ⟨z4, rfl, hz4⟩
        refine And.intro (by omega) (And.intro ?_ ?_)
        · intro c5
          exact fcutJ (I := I1) (j := jc_Charter_voters_73b57_4) (lv' := [(0, .inr (.inr (some 187))), (1, .inr (.inr (some 1))), (2, .inl _), (3, .inl _)]) (And.intro rfl (And.intro rfl (And.intro rfl (And.intro rfl True.intro)))) ⟨_, _, rfl, rfl, by omega, rfl⟩ (by omega)
        · intro c6
          refine Exists.intro xm_137 (And.intro mi_137 (And.intro ⟨rfl, rfl, rfl, rfl⟩ (And.intro rfl ?_)))
          refine fcall _ h0 (fzs_sub (by decide +kernel) hW) hB1 (ct_Charter_mayVote_6ee33 (fBz h0 hB1) (by first | exact ⟨hb.2.1, Int.le_trans (Int.le_sub_one_of_lt (Int.lt_of_lt_of_le c3 uz1)) (by decide)⟩ | omega)) ?_
          rintro IhB8 _ hB8 fhB8 ⟨z7, rfl, hz7⟩
          have t9 := fhB8 177 4 (by decide +kernel)
          refine And.intro (by omega) (And.intro ?_ ?_)
          · intro c10
            exact fcutJ (I := IhB8) (j := jc_Charter_voters_73b57_4) (lv' := [(0, .inr (.inr (some 187))), (1, .inr (.inr (some 1))), (2, .inl _), (3, .inl _)]) (And.intro rfl (And.intro rfl (And.intro rfl (And.intro rfl True.intro)))) ⟨_, _, rfl, rfl, by omega, rfl⟩ (by omega)
          · intro c11
            intro z12 hz12 bz12
            clear bz12
            exact fcutJ (I := IhB8) (j := jc_Charter_voters_73b57_4) (lv' := [(0, .inr (.inr (some 187))), (1, .inr (.inr (some 1))), (2, .inl _), (3, .inl _)]) (And.intro rfl (And.intro rfl (And.intro rfl (And.intro rfl True.intro)))) ⟨_, _, rfl, rfl, by omega, rfl⟩ (by omega)
  · have hB0 := fB_self (zn := znJ) (K := fKc wz_7d09b) h0
    exact fcutJ (I := I) (j := jc_Charter_voters_73b57_4) (lv' := [(0, .inr (.inr (some 187))), (1, .inr (.inr (some 1))), (2, .inl _), (3, .inl _)]) (And.intro rfl (And.intro rfl (And.intro rfl (And.intro rfl True.intro)))) ⟨_, _, rfl, rfl, by omega, rfl⟩ (by omega)
set_option maxRecDepth 8000 in
theorem ct_Charter_passes_288c8 {I : fH}  (h0 : fB bsJ I)  : fC ρ base n F xTc vwCl xTys D dA la gJ (fbz bsJ znJ (fKc wz_7d09b) I) xm_140 [.inr (.inr (some 187)), .inr (.inr (some 1))] I (fun _ r => ∃ z, r = some (.inl z) ∧ (0 ≤ z ∧ z ≤ 1)) := by
  have hW : fzs wz_7d09b (fKc wz_7d09b) := fKc_ok _
  refine f_meth (rb := rbJ) (J := []) 1 400 xG xin_140 x6_140 okJ (fB_self h0) ?_ ?_
  · exact fun q h => absurd h List.not_mem_nil
  · have hB0 := fB_self (zn := znJ) (K := fKc wz_7d09b) h0
    refine Exists.intro xm_32 (And.intro mi_32 (And.intro ⟨rfl, rfl, rfl, rfl⟩ (And.intro rfl ?_)))
    refine fcallp hB0 (ct_City_hour_b7a7b (fBz h0 hB0)) ?_
    rintro _ ⟨z1, rfl, hz1⟩
    refine Exists.intro xm_34 (And.intro mi_34 (And.intro ⟨rfl, rfl, rfl, rfl⟩ (And.intro rfl ?_)))
    refine fcallp hB0 (ct_Charter_counting_8f92c (fBz h0 hB0) (by first | exact ⟨by decide, by decide⟩ | omega) (by first | exact ⟨hz1.1, hz1.2⟩ | omega)) ?_
    rintro _ ⟨z2, rfl, hz2⟩
    refine And.intro (by omega) (And.intro ?_ ?_)
    · intro c3
      refine Exists.intro xm_141 (And.intro mi_141 (And.intro ⟨rfl, rfl, rfl, rfl⟩ (And.intro rfl ?_)))
      refine fcall _ h0 (fzs_sub (by decide +kernel) hW) hB0 (ct_Charter_voters_73b57 (fBz h0 hB0)) ?_
      rintro IhB5 _ hB5 fhB5 ⟨z4, rfl, hz4⟩
      refine Exists.intro xm_138 (And.intro mi_138 (And.intro ⟨rfl, rfl, rfl, rfl⟩ (And.intro rfl ?_)))
      refine fcallp hB5 (ct_Charter_saidSo_9e364 (fBz h0 hB5) (by first | exact ⟨by decide, by decide⟩ | omega)) ?_
      rintro _ ⟨z6, rfl, hz6⟩
      refine Exists.intro xm_30 (And.intro mi_30 (And.intro ⟨rfl, rfl, rfl, rfl⟩ (And.intro rfl ?_)))
      refine fcall _ h0 (fzs_sub (by decide +kernel) hW) hB5 (ct_Charter_put_c2709 (fBz h0 hB5) (by first | exact ⟨by decide, by decide⟩ | omega) (by first | exact ⟨hz6.1, hz6.2⟩ | omega)) ?_
      rintro IhB8 _ hB8 fhB8 rfl
      refine Exists.intro xm_138 (And.intro mi_138 (And.intro ⟨rfl, rfl, rfl, rfl⟩ (And.intro rfl ?_)))
      refine fcallp hB8 (ct_Charter_saidSo_9e364 (fBz h0 hB8) (by first | exact ⟨by decide, by decide⟩ | omega)) ?_
      rintro _ ⟨z9, rfl, hz9⟩
      refine Exists.intro xm_30 (And.intro mi_30 (And.intro ⟨rfl, rfl, rfl, rfl⟩ (And.intro rfl ?_)))
      refine fcall _ h0 (fzs_sub (by decide +kernel) hW) hB8 (ct_Charter_put_c2709 (fBz h0 hB8) (by first | exact ⟨by decide, by decide⟩ | omega) (by first | exact ⟨hz9.1, hz9.2⟩ | omega)) ?_
      rintro IhB11 _ hB11 fhB11 rfl
      refine Exists.intro xm_30 (And.intro mi_30 (And.intro ⟨rfl, rfl, rfl, rfl⟩ (And.intro rfl ?_)))
      refine fcall _ h0 (fzs_sub (by decide +kernel) hW) hB11 (ct_Charter_put_c2709 (fBz h0 hB11) (by first | exact ⟨by decide, by decide⟩ | omega) (by first | exact ⟨hz4.1, hz4.2⟩ | omega)) ?_
      rintro IhB13 _ hB13 fhB13 rfl
      refine Exists.intro xm_31 (And.intro mi_31 (And.intro ⟨rfl, rfl, rfl, rfl⟩ (And.intro rfl ?_)))
      refine fcallp hB13 (ct_City_level_61deb (fBz h0 hB13)) ?_
      rintro _ ⟨z14, rfl, hz14⟩
      refine Exists.intro xm_30 (And.intro mi_30 (And.intro ⟨rfl, rfl, rfl, rfl⟩ (And.intro rfl ?_)))
      refine fcall _ h0 (fzs_sub (by decide +kernel) hW) hB13 (ct_Charter_put_c2709 (fBz h0 hB13) (by first | exact ⟨by decide, by decide⟩ | omega) (by first | exact ⟨Int.le_trans (by decide) hz14.1, Int.le_trans hz14.2 (by decide)⟩ | omega)) ?_
      rintro IhB16 _ hB16 fhB16 rfl
      refine Exists.intro xm_36 (And.intro mi_36 (And.intro ⟨rfl, rfl, rfl, rfl⟩ (And.intro rfl ?_)))
      refine fcall _ h0 (fzs_sub (by decide +kernel) hW) hB16 (ct_Charter_worth_04d20 (fBz h0 hB16) (by omega)) ?_
      rintro IhB18 _ hB18 fhB18 ⟨z17, rfl, hz17⟩
      refine And.intro (by first | exact fi_ hz17.1 hz17.2 rfl | omega) (And.intro ?_ ?_)
      · intro c19
        refine And.intro (⟨by omega, by omega⟩) ?_
        exact ⟨_, rfl, by omega⟩
      · intro c20
        refine And.intro (⟨by decide, by decide⟩) ?_
        exact ⟨_, rfl, (by first | exact ⟨by decide, by decide⟩ | omega)⟩
    · intro c21
      refine Exists.intro xm_138 (And.intro mi_138 (And.intro ⟨rfl, rfl, rfl, rfl⟩ (And.intro rfl ?_)))
      refine fcallp hB0 (ct_Charter_saidSo_9e364 (fBz h0 hB0) (by first | exact ⟨by decide, by decide⟩ | omega)) ?_
      rintro _ ⟨z22, rfl, hz22⟩
      refine Exists.intro xm_138 (And.intro mi_138 (And.intro ⟨rfl, rfl, rfl, rfl⟩ (And.intro rfl ?_)))
      refine fcallp hB0 (ct_Charter_saidSo_9e364 (fBz h0 hB0) (by first | exact ⟨by decide, by decide⟩ | omega)) ?_
      rintro _ ⟨z23, rfl, hz23⟩
      refine And.intro (And.intro (by first | exact fi_ hz22.1 hz22.2 rfl | omega) (by first | exact fi_ hz23.1 hz23.2 rfl | omega)) (And.intro ?_ ?_)
      · intro c24
        refine And.intro (⟨by omega, by omega⟩) ?_
        exact ⟨_, rfl, by omega⟩
      · intro c25
        refine And.intro (⟨by decide, by decide⟩) ?_
        exact ⟨_, rfl, (by first | exact ⟨by decide, by decide⟩ | omega)⟩
set_option maxRecDepth 8000 in
theorem ct_X_tally_70a62 {I : fH}  (h0 : fB bsJ I)  : fC ρ base n F xTc vwCl xTys D dA la gJ (fbz bsJ znJ (fKc wz_e2fc1) I) xm_139 [.inr (.inr (some 0))] I (fun _ r => ∃ z, r = some (.inl z) ∧ ((0 ≤ z ∧ z ≤ 1) ∨ z = (-1000000002))) := by
  have hW : fzs wz_e2fc1 (fKc wz_e2fc1) := fKc_ok _
  refine f_meth (rb := rbJ) (J := []) 1 400 xG xin_139 x6_139 okJ (fB_self h0) ?_ ?_
  · exact fun q h => absurd h List.not_mem_nil
  · have hB0 := fB_self (zn := znJ) (K := fKc wz_e2fc1) h0
    refine And.intro ⟨rfl, by decide, by decide⟩ ?_
    refine And.intro ⟨rfl, by decide, by decide⟩ (fgetf fb_187_7 h0 hB0 ?_)
    intro z1 lz1 uz1 qz1
    refine And.intro (And.intro (by first | exact fi_ lz1 uz1 rfl | omega) (by first | exact ⟨by decide, by decide⟩ | omega)) (And.intro ?_ ?_)
    · intro c2
      refine And.intro ⟨rfl, by decide, by decide⟩ ?_
      refine And.intro ⟨rfl, by decide, by decide⟩ ?_
      refine Exists.intro xm_140 (And.intro mi_140 (And.intro ⟨rfl, rfl, rfl, rfl⟩ (And.intro rfl ?_)))
      refine fcall _ h0 (fzs_sub (by decide +kernel) hW) hB0 (ct_Charter_passes_288c8 (fBz h0 hB0)) ?_
      rintro IhB4 _ hB4 fhB4 ⟨z3, rfl, hz3⟩
      have t5 := fhB4 187 7 (by decide +kernel)
      refine And.intro ⟨rfl, by decide, by decide⟩ ?_
      refine And.intro ⟨rfl, by decide, by decide⟩ ?_
      refine Exists.intro xm_32 (And.intro mi_32 (And.intro ⟨rfl, rfl, rfl, rfl⟩ (And.intro rfl ?_)))
      refine fcallp hB4 (ct_City_hour_b7a7b (fBz h0 hB4)) ?_
      rintro _ ⟨z6, rfl, hz6⟩
      intro z7 hz7 ez7 bz7
      clear ez7
      clear bz7
      refine Exists.intro xm_142 (And.intro mi_142 (And.intro ⟨rfl, rfl, rfl, rfl⟩ (And.intro rfl ?_)))
      refine fcall _ h0 (fzs_sub (by decide +kernel) hW) hB4 (ct_Charter_endVote_df84e (fBz h0 hB4) (by omega) (by omega)) ?_
      rintro IhB9 _ hB9 fhB9 rfl
      refine And.intro (by omega) (And.intro ?_ ?_)
      · intro c10
        refine And.intro (True.intro) ?_
        exact ⟨_, rfl, by omega⟩
      · intro c11
        refine And.intro (True.intro) ?_
        exact ⟨_, rfl, by omega⟩
    · intro c12
      refine And.intro (True.intro) ?_
      exact ⟨_, rfl, by omega⟩
end CT

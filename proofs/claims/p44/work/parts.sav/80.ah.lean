set_option linter.all false
/-! contracts (written by gen95.py) -/
theorem x6_405 : f60c xTc xTys xm_405 = true := by decide +kernel
theorem x6_388 : f60c xTc xTys xm_388 = true := by decide +kernel
theorem x6_371 : f60c xTc xTys xm_371 = true := by decide +kernel
theorem x6_354 : f60c xTc xTys xm_354 = true := by decide +kernel
theorem x6_337 : f60c xTc xTys xm_337 = true := by decide +kernel
theorem x6_320 : f60c xTc xTys xm_320 = true := by decide +kernel
theorem x6_406 : f60c xTc xTys xm_406 = true := by decide +kernel
theorem x6_389 : f60c xTc xTys xm_389 = true := by decide +kernel
theorem x6_372 : f60c xTc xTys xm_372 = true := by decide +kernel
theorem x6_355 : f60c xTc xTys xm_355 = true := by decide +kernel
theorem x6_338 : f60c xTc xTys xm_338 = true := by decide +kernel
theorem x6_321 : f60c xTc xTys xm_321 = true := by decide +kernel
theorem x6_407 : f60c xTc xTys xm_407 = true := by decide +kernel
theorem x6_390 : f60c xTc xTys xm_390 = true := by decide +kernel
theorem x6_373 : f60c xTc xTys xm_373 = true := by decide +kernel
theorem x6_356 : f60c xTc xTys xm_356 = true := by decide +kernel
theorem x6_339 : f60c xTc xTys xm_339 = true := by decide +kernel
theorem x6_322 : f60c xTc xTys xm_322 = true := by decide +kernel
theorem x6_408 : f60c xTc xTys xm_408 = true := by decide +kernel
theorem x6_391 : f60c xTc xTys xm_391 = true := by decide +kernel
theorem x6_374 : f60c xTc xTys xm_374 = true := by decide +kernel
theorem x6_357 : f60c xTc xTys xm_357 = true := by decide +kernel
theorem x6_340 : f60c xTc xTys xm_340 = true := by decide +kernel
theorem x6_323 : f60c xTc xTys xm_323 = true := by decide +kernel
theorem x6_409 : f60c xTc xTys xm_409 = true := by decide +kernel
theorem x6_392 : f60c xTc xTys xm_392 = true := by decide +kernel
theorem x6_375 : f60c xTc xTys xm_375 = true := by decide +kernel
theorem x6_358 : f60c xTc xTys xm_358 = true := by decide +kernel
theorem x6_341 : f60c xTc xTys xm_341 = true := by decide +kernel
theorem x6_324 : f60c xTc xTys xm_324 = true := by decide +kernel
theorem x6_410 : f60c xTc xTys xm_410 = true := by decide +kernel
theorem x6_393 : f60c xTc xTys xm_393 = true := by decide +kernel
theorem x6_376 : f60c xTc xTys xm_376 = true := by decide +kernel
theorem x6_359 : f60c xTc xTys xm_359 = true := by decide +kernel
theorem x6_342 : f60c xTc xTys xm_342 = true := by decide +kernel
theorem x6_325 : f60c xTc xTys xm_325 = true := by decide +kernel
theorem x6_411 : f60c xTc xTys xm_411 = true := by decide +kernel
theorem x6_394 : f60c xTc xTys xm_394 = true := by decide +kernel
theorem x6_377 : f60c xTc xTys xm_377 = true := by decide +kernel
theorem x6_360 : f60c xTc xTys xm_360 = true := by decide +kernel
theorem x6_343 : f60c xTc xTys xm_343 = true := by decide +kernel
theorem x6_326 : f60c xTc xTys xm_326 = true := by decide +kernel
theorem x6_412 : f60c xTc xTys xm_412 = true := by decide +kernel
theorem x6_395 : f60c xTc xTys xm_395 = true := by decide +kernel
theorem x6_378 : f60c xTc xTys xm_378 = true := by decide +kernel
theorem x6_361 : f60c xTc xTys xm_361 = true := by decide +kernel
theorem x6_344 : f60c xTc xTys xm_344 = true := by decide +kernel
theorem x6_327 : f60c xTc xTys xm_327 = true := by decide +kernel
theorem x6_413 : f60c xTc xTys xm_413 = true := by decide +kernel
theorem x6_396 : f60c xTc xTys xm_396 = true := by decide +kernel
theorem x6_379 : f60c xTc xTys xm_379 = true := by decide +kernel
theorem x6_362 : f60c xTc xTys xm_362 = true := by decide +kernel
theorem x6_345 : f60c xTc xTys xm_345 = true := by decide +kernel
theorem x6_328 : f60c xTc xTys xm_328 = true := by decide +kernel
theorem x6_414 : f60c xTc xTys xm_414 = true := by decide +kernel
theorem x6_397 : f60c xTc xTys xm_397 = true := by decide +kernel
theorem x6_380 : f60c xTc xTys xm_380 = true := by decide +kernel
theorem x6_363 : f60c xTc xTys xm_363 = true := by decide +kernel
theorem x6_346 : f60c xTc xTys xm_346 = true := by decide +kernel
theorem x6_329 : f60c xTc xTys xm_329 = true := by decide +kernel
theorem x6_415 : f60c xTc xTys xm_415 = true := by decide +kernel
theorem x6_398 : f60c xTc xTys xm_398 = true := by decide +kernel
theorem x6_381 : f60c xTc xTys xm_381 = true := by decide +kernel
theorem x6_364 : f60c xTc xTys xm_364 = true := by decide +kernel
theorem x6_347 : f60c xTc xTys xm_347 = true := by decide +kernel
theorem x6_330 : f60c xTc xTys xm_330 = true := by decide +kernel
theorem x6_416 : f60c xTc xTys xm_416 = true := by decide +kernel
theorem x6_399 : f60c xTc xTys xm_399 = true := by decide +kernel
theorem x6_382 : f60c xTc xTys xm_382 = true := by decide +kernel
theorem x6_365 : f60c xTc xTys xm_365 = true := by decide +kernel
theorem x6_348 : f60c xTc xTys xm_348 = true := by decide +kernel
theorem x6_331 : f60c xTc xTys xm_331 = true := by decide +kernel
theorem x6_417 : f60c xTc xTys xm_417 = true := by decide +kernel
theorem x6_400 : f60c xTc xTys xm_400 = true := by decide +kernel
theorem x6_383 : f60c xTc xTys xm_383 = true := by decide +kernel
theorem x6_366 : f60c xTc xTys xm_366 = true := by decide +kernel
theorem x6_349 : f60c xTc xTys xm_349 = true := by decide +kernel
theorem x6_332 : f60c xTc xTys xm_332 = true := by decide +kernel
theorem x6_418 : f60c xTc xTys xm_418 = true := by decide +kernel
theorem x6_401 : f60c xTc xTys xm_401 = true := by decide +kernel
theorem x6_384 : f60c xTc xTys xm_384 = true := by decide +kernel
theorem x6_367 : f60c xTc xTys xm_367 = true := by decide +kernel
theorem x6_350 : f60c xTc xTys xm_350 = true := by decide +kernel
theorem x6_333 : f60c xTc xTys xm_333 = true := by decide +kernel
theorem x6_419 : f60c xTc xTys xm_419 = true := by decide +kernel
theorem x6_402 : f60c xTc xTys xm_402 = true := by decide +kernel
theorem x6_385 : f60c xTc xTys xm_385 = true := by decide +kernel
theorem x6_368 : f60c xTc xTys xm_368 = true := by decide +kernel
theorem x6_351 : f60c xTc xTys xm_351 = true := by decide +kernel
theorem x6_334 : f60c xTc xTys xm_334 = true := by decide +kernel
theorem x6_420 : f60c xTc xTys xm_420 = true := by decide +kernel
theorem x6_403 : f60c xTc xTys xm_403 = true := by decide +kernel
theorem x6_386 : f60c xTc xTys xm_386 = true := by decide +kernel
theorem x6_369 : f60c xTc xTys xm_369 = true := by decide +kernel
theorem x6_352 : f60c xTc xTys xm_352 = true := by decide +kernel
theorem x6_335 : f60c xTc xTys xm_335 = true := by decide +kernel
theorem x6_318 : f60c xTc xTys xm_318 = true := by decide +kernel
theorem x6_317 : f60c xTc xTys xm_317 = true := by decide +kernel
section CT
variable {ρ : Nat → Int32} {base n : Nat} {F : Nat → Prop} {D : va_G} {dA : Nat → ClassId} {la : Launch}
noncomputable abbrev gM_part0 (gn0 gn1 : Nat) (rm : Room) : xM := (⟨"AcidCityModel", "part0", "(I)Z"⟩, prog_14_method_84_code, 2, (some .boolean), [(0, 3, 0, 1, []), (1, 25, 12, 11, [15587]), (4, 0, 2, 0, []), (5, 21, 1, 33, []), (8, 3, 0, 1, []), (9, 0, 0, 0, []), (10, 3, 0, 1, []), (11, 25, 12, 12, [15588]), (14, 33, 3, 421, [13, 1, 17645, 0, 17647, 6159, 18432, 9230]), (17, 3, 0, 1, []), (18, 15, 0, 0, []), (19, 25, 12, 18, [15594]), (22, 0, 1, 0, []), (23, 6, 0, 1, []), (24, 26, 12, 18, [0, 15594]), (27, 3, 0, 1, []), (28, 33, 1, 314, [13, 1, 17597, 0, 17599, 6148, 17600, 9230]), (31, 0, 1, 0, []), (32, 35, 3, 0, []), (33, 3, 0, 1, []), (34, 25, 12, 11, [15587]), (37, 0, 1, 0, []), (38, 21, 1, 84, []), (41, 3, 0, 1, []), (42, 25, 12, 13, [15589]), (45, 20, 0, 84, []), (48, 3, 1, 0, []), (49, 3, 0, 1, []), (50, 25, 12, 13, [15589]), (53, 33, 2, 422, [0, 0, 18433, 0, 18434, 0, 18435, 9230]), (56, 20, 0, 84, []), (59, 3, 0, 1, []), (60, 0, 1, 0, []), (61, 3, 0, 1, []), (62, 25, 12, 13, [15589]), (65, 33, 3, 421, [13, 1, 17645, 0, 17647, 6159, 18432, 9230]), (68, 3, 0, 1, []), (69, 15, 0, 0, []), (70, 25, 12, 18, [15594]), (73, 0, 1, 0, []), (74, 6, 0, 1, []), (75, 26, 12, 18, [0, 15594]), (78, 3, 0, 1, []), (79, 33, 1, 314, [13, 1, 17597, 0, 17599, 6148, 17600, 9230]), (82, 0, 1, 0, []), (83, 35, 3, 0, []), (84, 3, 0, 1, []), (85, 0, 33, 0, []), (87, 33, 2, 423, [13, 1, 18436, 0, 18438, 7168, 18439, 9230]), (90, 20, 0, 145, []), (93, 3, 0, 1, []), (94, 25, 12, 15, [15591]), (97, 0, 8, 0, []), (99, 21, 3, 145, []), (102, 3, 0, 1, []), (103, 15, 0, 0, []), (104, 25, 12, 15, [15591]), (107, 0, 1, 0, []), (108, 6, 0, 0, []), (109, 26, 12, 15, [0, 15591]), (112, 3, 0, 1, []), (113, 33, 1, 314, [13, 1, 17597, 0, 17599, 6148, 17600, 9230]), (116, 3, 0, 1, []), (117, 3, 1, 0, []), (118, 33, 2, gn1, [13, 1, 17641, 0, 17643, 6158, 17644, 9230]), (121, 20, 1, 126, []), (124, 0, 0, 0, []), (125, 35, 3, 0, []), (126, 3, 0, 1, []), (127, 15, 0, 0, []), (128, 25, 12, 15, [15591]), (131, 0, 1, 0, []), (132, 6, 1, 0, []), (133, 26, 12, 15, [0, 15591]), (136, 3, 0, 1, []), (137, 0, 2, 0, []), (138, 0, 33, 0, []), (140, 33, 3, 421, [13, 1, 17645, 0, 17647, 6159, 18432, 9230]), (143, 0, 1, 0, []), (144, 35, 3, 0, []), (145, 3, 0, 1, []), (146, 0, 40, 0, []), (148, 33, 2, 423, [13, 1, 18436, 0, 18438, 7168, 18439, 9230]), (151, 20, 0, 163, []), (154, 3, 0, 1, []), (155, 25, 12, 14, [15590]), (158, 0, 8, 0, []), (160, 21, 1, 165, []), (163, 0, 0, 0, []), (164, 35, 3, 0, []), (165, 3, 0, 1, []), (166, 15, 0, 0, []), (167, 25, 12, 14, [15590]), (170, 0, 1, 0, []), (171, 6, 0, 0, []), (172, 26, 12, 14, [0, 15590]), (175, 3, 0, 1, []), (176, 33, 1, 314, [13, 1, 17597, 0, 17599, 6148, 17600, 9230]), (179, 3, 0, 1, []), (180, 3, 1, 0, []), (181, 33, 2, gn0, [13, 1, 17621, 0, 17623, 6153, 17624, 9230]), (184, 20, 0, 196, []), (187, 3, 0, 1, []), (188, 0, 41, 0, []), (190, 33, 2, 423, [13, 1, 18436, 0, 18438, 7168, 18439, 9230]), (193, 20, 1, 198, []), (196, 0, 0, 0, []), (197, 35, 3, 0, []), (198, 3, 0, 1, []), (199, 15, 0, 0, []), (200, 25, 12, 14, [15590]), (203, 0, 1, 0, []), (204, 6, 1, 0, []), (205, 26, 12, 14, [0, 15590]), (208, 3, 0, 1, []), (209, 33, 1, 314, [13, 1, 17597, 0, 17599, 6148, 17600, 9230]), (212, 0, 1, 0, []), (213, 35, 3, 0, [])], rm)
set_option maxHeartbeats 6000000 in
set_option maxRecDepth 8000 in
theorem cg_M_part0 {d : Int} {rm : Room} {gm0 : xM} {gn0 : Nat} (ge0 : xMs[gn0]? = some gm0) (gk0 : Nat.ble 2 gm0.2.2.1 = true ∧ (xR gm0).cells = 0 ∧ (xR gm0).slots = 0) (gc0 : ∀ {I : fH} {x1 : Int} (h0 : fB bsJ I) (ha1 : ((-1) ≤ x1 ∧ x1 ≤ 5)) (hp0 : I 740 9 ≤ I 740 10 ∧ I 740 10 ≤ I 740 8) (hp1 : 0 ≤ I 740 16 ∧ I 740 16 ≤ I 740 9) (hp2 : d + 1 ≤ I 740 14 + I 740 15) (hp3 : laP (I 740 17)) (hp4 : 0 ≤ I 740 18 ∧ I 740 18 ≤ I 740 9) (hp5 : dkI I), fC ρ base n F xTc vwCl xTys D dA la gJ (fbz bsJ znJ (fKc wz_2212a) I) gm0 [.inr (.inr (some 740)), .inl x1] I (fun I' r => ∃ z, r = some (.inl z) ∧ ((0 ≤ z ∧ z ≤ 1) ∧ (I 740 9 ≤ I' 740 9 ∧ I' 740 9 ≤ I' 740 10 ∧ I' 740 10 ≤ I' 740 8)) ∧ (sBe I I' (I 740 17) (I 740 16)) ∧ (rd1 I I' z) ∧ (pP 1 1 x1 I I' z) ∧ (dkI I') ∧ (rdU I I' z))) {gm1 : xM} {gn1 : Nat} (ge1 : xMs[gn1]? = some gm1) (gk1 : Nat.ble 2 gm1.2.2.1 = true ∧ (xR gm1).cells = 0 ∧ (xR gm1).slots = 0) (gc1 : ∀ {I : fH} {x1 : Int} (h0 : fB bsJ I) (ha1 : ((-1) ≤ x1 ∧ x1 ≤ 5)) (hp0 : I 740 9 ≤ I 740 10 ∧ I 740 10 ≤ I 740 8) (hp1 : 0 ≤ I 740 16 ∧ I 740 16 ≤ I 740 9) (hp2 : d + 1 ≤ I 740 14 + I 740 15) (hp3 : laP (I 740 17)) (hp4 : 0 ≤ I 740 18 ∧ I 740 18 ≤ I 740 9) (hp5 : dkI I), fC ρ base n F xTc vwCl xTys D dA la gJ (fbz bsJ znJ (fKc wz_2212a) I) gm1 [.inr (.inr (some 740)), .inl x1] I (fun I' r => ∃ z, r = some (.inl z) ∧ ((0 ≤ z ∧ z ≤ 1) ∧ (I 740 9 ≤ I' 740 9 ∧ I' 740 9 ≤ I' 740 10 ∧ I' 740 10 ≤ I' 740 8)) ∧ (sBe I I' (I 740 17) (I 740 16)) ∧ (rd1 I I' z) ∧ (pP 6 7 x1 I I' z) ∧ (dkI I') ∧ (rdU I I' z))) (hin : (gM_part0 gn0 gn1 rm) ∈ xMs) (hx6 : f60c xTc xTys (gM_part0 gn0 gn1 rm) = true) {I : fH} {x1 : Int} (h0 : fB bsJ I) (ha1 : ((-1) ≤ x1 ∧ x1 ≤ 5)) (hp0 : I 740 9 ≤ I 740 10 ∧ I 740 10 ≤ I 740 8) (hp1 : 0 ≤ I 740 16 ∧ I 740 16 ≤ I 740 9) (hp2 : d ≤ I 740 14 + I 740 15) (hp3 : laP (I 740 17)) (hp4 : 0 ≤ I 740 18 ∧ I 740 18 ≤ I 740 9) (hp5 : dkI I) : fC ρ base n F xTc vwCl xTys D dA la gJ (fbz bsJ znJ (fKc wz_2212a) I) (gM_part0 gn0 gn1 rm) [.inr (.inr (some 740)), .inl x1] I (fun I' r => ∃ z, r = some (.inl z) ∧ ((0 ≤ z ∧ z ≤ 1) ∧ (I 740 9 ≤ I' 740 9 ∧ I' 740 9 ≤ I' 740 10 ∧ I' 740 10 ≤ I' 740 8)) ∧ (sBe I I' (I 740 17) (I 740 16)) ∧ (rd1 I I' z) ∧ (pP 6 7 x1 I I' z) ∧ (dkI I') ∧ (rdU I I' z)) := by
  have hW : fzs wz_2212a (fKc wz_2212a) := fKc_ok _
  refine f_meth (rb := rbJ) (J := []) 1 400 xG hin hx6 okJ (fB_self h0) ?_ ?_
  · exact fun q h => absurd h List.not_mem_nil
  · have hB0 := fB_self (zn := znJ) (K := fKc wz_2212a) h0
    have b1 := fBd fb_740_8 (fBz h0 hB0)
    have b2 := fBd fb_740_14 (fBz h0 hB0)
    have b3 := fBd fb_740_15 (fBz h0 hB0)
    have la0 := laP_bd hp3
    refine And.intro ⟨rfl, by decide, by decide⟩ (fgetf fb_740_11 h0 hB0 ?_)
    intro z4 lz4 uz4 qz4
    refine And.intro (And.intro (by first | exact fi_ lz4 uz4 rfl | omega) (by first | exact ⟨by decide, by decide⟩ | omega)) (And.intro ?_ ?_)
    · intro c5
      refine And.intro ⟨rfl, by decide, by decide⟩ (fgetf fb_740_11 h0 hB0 ?_)
      intro z6 lz6 uz6 qz6
      refine And.intro (And.intro (by first | exact fi_ lz6 uz6 rfl | omega) (by first | exact ⟨by decide, by decide⟩ | omega)) (And.intro ?_ ?_)
      · intro c7
        refine Exists.intro xm_423 (And.intro mi_423 (And.intro ⟨rfl, rfl, rfl, rfl⟩ (And.intro rfl ?_)))
        refine fcallp hB0 (ct_M_isSign_90da9 (fBz h0 hB0) (by first | exact ⟨by decide, by decide⟩ | omega)) ?_
        rintro _ ⟨z8, rfl, hz8, g0z8⟩
        refine And.intro (by omega) (And.intro ?_ ?_)
        · intro c9
          refine Exists.intro xm_423 (And.intro mi_423 (And.intro ⟨rfl, rfl, rfl, rfl⟩ (And.intro rfl ?_)))
          refine fcallp hB0 (ct_M_isSign_90da9 (fBz h0 hB0) (by first | exact ⟨by decide, by decide⟩ | omega)) ?_
          rintro _ ⟨z10, rfl, hz10, g0z10⟩
          refine And.intro (by omega) (And.intro ?_ ?_)
          · intro c11
            refine And.intro (⟨by decide, by decide⟩) ?_
            exact ⟨_, rfl, by omega, sBe_refl, (fun q => absurd q (by omega)), (p0_no (by omega) (by first | exact (fun q => nm_0 g0nil0 (by omega) (by rw [qnil0]; exact q.2.2)) | exact (fun q => by have q1 := q.1; clear q; omega) | exact (fun q => by have q1 := q.2.1; clear q; omega)) (by first | exact (fun q => sgP_0 g0z8 (by omega) q.1 q.2.1) | exact (fun q => by have q3 := q.2.2; omega)) (by first | exact (fun q => sgP_0 g0z10 (by omega) q.1 q.2.1) | exact (fun q => by have q3 := q.2.2; omega)) (by omega)), hp5, (fun q => absurd q (by omega))⟩
          · intro c12
            have sg2 := sgP_1 g0z10 (by omega)
            refine And.intro ⟨rfl, by decide, by decide⟩ (fgetf fb_740_14 h0 hB0 ?_)
            intro z13 lz13 uz13 qz13
            refine And.intro (And.intro (by first | exact fi_ lz13 uz13 rfl | omega) (by first | exact ⟨by decide, by decide⟩ | omega)) (And.intro ?_ ?_)
            · intro c14
              have d9 := dkI_3 hp5 (by omega)
              refine And.intro ⟨rfl, by decide, by decide⟩ (fgetf fb_740_14 h0 hB0 ?_)
              intro z15 lz15 uz15 qz15
              refine And.intro ⟨rfl, by decide, by decide⟩ (And.intro rfl (And.intro (Or.inl rfl) (fputf fb_740_14 (by decide +kernel) hW (by omega) ?_)))
              intro IhB16 ehB16 hB16
              have t17 : IhB16 740 9 = I 740 9 := (congrFun (congrFun ehB16 740) 9).trans (fup_ne (by first | decide | omega))
              have t18 : IhB16 740 10 = I 740 10 := (congrFun (congrFun ehB16 740) 10).trans (fup_ne (by first | decide | omega))
              have t19 : IhB16 740 11 = I 740 11 := (congrFun (congrFun ehB16 740) 11).trans (fup_ne (by first | decide | omega))
              have t20 : IhB16 740 12 = I 740 12 := (congrFun (congrFun ehB16 740) 12).trans (fup_ne (by first | decide | omega))
              have t21 : IhB16 740 13 = I 740 13 := (congrFun (congrFun ehB16 740) 13).trans (fup_ne (by first | decide | omega))
              have t22 := fup_at ehB16 14 (by first | rfl | omega)
              have t23 : IhB16 740 15 = I 740 15 := (congrFun (congrFun ehB16 740) 15).trans (fup_ne (by first | decide | omega))
              have t24 : IhB16 740 16 = I 740 16 := (congrFun (congrFun ehB16 740) 16).trans (fup_ne (by first | decide | omega))
              have t25 : IhB16 740 18 = I 740 18 := (congrFun (congrFun ehB16 740) 18).trans (fup_ne (by first | decide | omega))
              have k26 := fBz_eq hB16 (a := 740) (j := 8) (by decide +kernel)
              have k27 := fBz_eq hB16 (a := 740) (j := 17) (by decide +kernel)
              refine Exists.intro xm_314 (And.intro mi_314 (And.intro ⟨rfl, rfl, rfl, rfl⟩ (And.intro rfl ?_)))
              refine fcall _ h0 (fzs_sub (by decide +kernel) hW) hB16 (ct_M_next_c8003 (fBz h0 hB16) (by omega)) ?_
              rintro IhB29 _ hB29 fhB29 ⟨rfl, hz28, g0z28, g1z28⟩
              have t30 := fhB29 740 14 (by decide +kernel)
              have t31 := fhB29 740 15 (by decide +kernel)
              have t32 := fhB29 740 16 (by decide +kernel)
              have t33 := fhB29 740 18 (by decide +kernel)
              have k34 := fBz_eq hB29 (a := 740) (j := 8) (by decide +kernel)
              have k35 := fBz_eq hB29 (a := 740) (j := 17) (by decide +kernel)
              refine Exists.intro gm0 (And.intro ge0 (And.intro ⟨rfl, gk0.1, gk0.2.1, gk0.2.2⟩ (And.intro rfl ?_)))
              refine fcall _ h0 (fzs_sub (by decide +kernel) hW) hB29 (gc0 (fBz h0 hB29) (by first | exact ⟨ha1.1, ha1.2⟩ | omega) (by omega) (by omega) (by omega) (laP_cg hp3 (by omega)) (by omega) g1z28) ?_
              rintro IhB37 _ hB37 fhB37 ⟨z36, rfl, hz36, g0z36, g1z36, g2z36, g3z36, g4z36⟩
              have k38 := fBz_eq hB37 (a := 740) (j := 8) (by decide +kernel)
              have k39 := fBz_eq hB37 (a := 740) (j := 17) (by decide +kernel)
              refine And.intro (by omega) (And.intro ?_ ?_)
              · intro c40
                refine And.intro (⟨by decide, by decide⟩) ?_
                exact ⟨_, rfl, by omega, (par_be0 (fun j => (fFr_S fhB29 (by decide +kernel) j).trans (fup_other ehB16 741 j (Or.inl (by decide)))) g0z36 (by omega) (by omega)), (fun q => absurd q (by omega)), (p0_bra0 (by omega) (by omega) (by omega) (by omega) (by omega) (hT_mk (fun j => fup_other ehB16 747 j (Or.inl (by decide))) (by omega)) g0z28 (hT_mk (fFr_at fhB29 747 (by decide +kernel) rfl) (by omega)) (by omega) (by omega) (fun j => (fFr_S fhB29 (by decide +kernel) j).trans (fup_other ehB16 741 j (Or.inl (by decide)))) (by omega) (by omega) (by omega) g2z36 (by first | exact Or.inl (by omega) | exact Or.inr ⟨by omega, fun q => sgP_0 g0nil0 (by omega) q.1 q.2⟩) (hT_mk (fFr_at fhB37 747 (by decide +kernel) rfl) (by omega)) (by omega)), g3z36, (fun q => absurd q (by omega))⟩
              · intro c41
                have u2 := g4z36 (by omega)
                refine Exists.intro xm_423 (And.intro mi_423 (And.intro ⟨rfl, rfl, rfl, rfl⟩ (And.intro rfl ?_)))
                refine fcallp hB37 (ct_M_isSign_90da9 (fBz h0 hB37) (by first | exact ⟨by decide, by decide⟩ | omega)) ?_
                rintro _ ⟨z42, rfl, hz42, g0z42⟩
                refine And.intro (by omega) (And.intro ?_ ?_)
                · intro c43
                  have sg3 := sgP_1 g0z42 (by omega)
                  have d8 := dkI_3 g3z36 (by omega)
                  refine And.intro ⟨rfl, by decide, by decide⟩ (fgetf fb_740_14 h0 hB37 ?_)
                  intro z44 lz44 uz44 qz44
                  refine And.intro ⟨rfl, by decide, by decide⟩ (And.intro rfl (And.intro (Or.inl rfl) (fputf fb_740_14 (by decide +kernel) hW (by omega) ?_)))
                  intro IhB45 ehB45 hB45
                  have t46 : IhB45 740 9 = IhB37 740 9 := (congrFun (congrFun ehB45 740) 9).trans (fup_ne (by first | decide | omega))
                  have t47 : IhB45 740 10 = IhB37 740 10 := (congrFun (congrFun ehB45 740) 10).trans (fup_ne (by first | decide | omega))
                  have t48 : IhB45 740 11 = IhB37 740 11 := (congrFun (congrFun ehB45 740) 11).trans (fup_ne (by first | decide | omega))
                  have t49 : IhB45 740 12 = IhB37 740 12 := (congrFun (congrFun ehB45 740) 12).trans (fup_ne (by first | decide | omega))
                  have t50 : IhB45 740 13 = IhB37 740 13 := (congrFun (congrFun ehB45 740) 13).trans (fup_ne (by first | decide | omega))
                  have t51 := fup_at ehB45 14 (by first | rfl | omega)
                  have t52 : IhB45 740 15 = IhB37 740 15 := (congrFun (congrFun ehB45 740) 15).trans (fup_ne (by first | decide | omega))
                  have t53 : IhB45 740 16 = IhB37 740 16 := (congrFun (congrFun ehB45 740) 16).trans (fup_ne (by first | decide | omega))
                  have t54 : IhB45 740 18 = IhB37 740 18 := (congrFun (congrFun ehB45 740) 18).trans (fup_ne (by first | decide | omega))
                  have k55 := fBz_eq hB45 (a := 740) (j := 8) (by decide +kernel)
                  have k56 := fBz_eq hB45 (a := 740) (j := 17) (by decide +kernel)
                  refine Exists.intro xm_314 (And.intro mi_314 (And.intro ⟨rfl, rfl, rfl, rfl⟩ (And.intro rfl ?_)))
                  refine fcall _ h0 (fzs_sub (by decide +kernel) hW) hB45 (ct_M_next_c8003 (fBz h0 hB45) (by omega)) ?_
                  rintro IhB58 _ hB58 fhB58 ⟨rfl, hz57, g0z57, g1z57⟩
                  have t59 := fhB58 740 14 (by decide +kernel)
                  have t60 := fhB58 740 15 (by decide +kernel)
                  have t61 := fhB58 740 16 (by decide +kernel)
                  have t62 := fhB58 740 18 (by decide +kernel)
                  have k63 := fBz_eq hB58 (a := 740) (j := 8) (by decide +kernel)
                  have k64 := fBz_eq hB58 (a := 740) (j := 17) (by decide +kernel)
                  refine And.intro (⟨by decide, by decide⟩) ?_
                  exact ⟨_, rfl, by omega, (par_par (M3 := IhB58 740 16) (by omega) (fun j => (fFr_S fhB29 (by decide +kernel) j).trans (fup_other ehB16 741 j (Or.inl (by decide)))) g0z36 (g1z36 (by omega)) (fun j => (fFr_S fhB58 (by decide +kernel) j).trans (fup_other ehB45 741 j (Or.inl (by decide)))) (by omega) (by omega) (by omega)).1, (fun _ => (par_par (M3 := IhB58 740 16) (by omega) (fun j => (fFr_S fhB29 (by decide +kernel) j).trans (fup_other ehB16 741 j (Or.inl (by decide)))) g0z36 (g1z36 (by omega)) (fun j => (fFr_S fhB58 (by decide +kernel) j).trans (fup_other ehB45 741 j (Or.inl (by decide)))) (by omega) (by omega) (by omega)).2), (p0_bra (by omega) (by omega) (by omega) (by omega) (by omega) (hT_mk (fun j => fup_other ehB16 747 j (Or.inl (by decide))) (by omega)) g0z28 (hT_mk (fFr_at fhB29 747 (by decide +kernel) rfl) (by omega)) (by omega) (by omega) (fun j => (fFr_S fhB29 (by decide +kernel) j).trans (fup_other ehB16 741 j (Or.inl (by decide)))) (by omega) (by omega) (by omega) g2z36 (by omega) (by omega) (by omega) (hT_mk (fFr_at fhB37 747 (by decide +kernel) rfl) (by omega)) (by omega) (by omega) (hT_mk (fun j => fup_other ehB45 747 j (Or.inl (by decide))) (by omega)) g0z57 (hT_mk (fFr_at fhB58 747 (by decide +kernel) rfl) (by omega)) (fun j => (fFr_S fhB58 (by decide +kernel) j).trans (fup_other ehB45 741 j (Or.inl (by decide)))) (by omega) (by omega) (by omega) (by omega)), g1z57, (fun _ => by omega)⟩
                · intro c65
                  refine And.intro (⟨by decide, by decide⟩) ?_
                  exact ⟨_, rfl, by omega, (par_be0 (fun j => (fFr_S fhB29 (by decide +kernel) j).trans (fup_other ehB16 741 j (Or.inl (by decide)))) g0z36 (by omega) (by omega)), (fun q => absurd q (by omega)), (p0_bra0 (by omega) (by omega) (by omega) (by omega) (by omega) (hT_mk (fun j => fup_other ehB16 747 j (Or.inl (by decide))) (by omega)) g0z28 (hT_mk (fFr_at fhB29 747 (by decide +kernel) rfl) (by omega)) (by omega) (by omega) (fun j => (fFr_S fhB29 (by decide +kernel) j).trans (fup_other ehB16 741 j (Or.inl (by decide)))) (by omega) (by omega) (by omega) g2z36 (by first | exact Or.inl (by omega) | exact Or.inr ⟨by omega, fun q => sgP_0 g0z42 (by omega) q.1 q.2⟩) (hT_mk (fFr_at fhB37 747 (by decide +kernel) rfl) (by omega)) (by omega)), g3z36, (fun q => absurd q (by omega))⟩
            · intro c66
              refine And.intro (⟨by decide, by decide⟩) ?_
              exact ⟨_, rfl, by omega, sBe_refl, (fun q => absurd q (by omega)), (p0_no (by omega) (by first | exact (fun q => nm_0 g0nil0 (by omega) (by rw [qnil0]; exact q.2.2)) | exact (fun q => by have q1 := q.1; clear q; omega) | exact (fun q => by have q1 := q.2.1; clear q; omega)) (by first | exact (fun q => sgP_0 g0z8 (by omega) q.1 q.2.1) | exact (fun q => by have q3 := q.2.2; omega)) (by first | exact (fun q => sgP_0 g0z10 (by omega) q.1 q.2.1) | exact (fun q => by have q3 := q.2.2; omega)) (by omega)), hp5, (fun q => absurd q (by omega))⟩
        · intro c67
          have sg := sgP_1 g0z8 (by omega)
          refine And.intro ⟨rfl, by decide, by decide⟩ (fgetf fb_740_15 h0 hB0 ?_)
          intro z68 lz68 uz68 qz68
          refine And.intro (And.intro (by first | exact fi_ lz68 uz68 rfl | omega) (by first | exact ⟨by decide, by decide⟩ | omega)) (And.intro ?_ ?_)
          · intro c69
            refine Exists.intro xm_423 (And.intro mi_423 (And.intro ⟨rfl, rfl, rfl, rfl⟩ (And.intro rfl ?_)))
            refine fcallp hB0 (ct_M_isSign_90da9 (fBz h0 hB0) (by first | exact ⟨by decide, by decide⟩ | omega)) ?_
            rintro _ ⟨z70, rfl, hz70, g0z70⟩
            refine And.intro (by omega) (And.intro ?_ ?_)
            · intro c71
              refine And.intro (⟨by decide, by decide⟩) ?_
              exact ⟨_, rfl, by omega, sBe_refl, (fun q => absurd q (by omega)), (p0_no (by omega) (by first | exact (fun q => nm_0 g0nil0 (by omega) (by rw [qnil0]; exact q.2.2)) | exact (fun q => by have q1 := q.1; clear q; omega) | exact (fun q => by have q1 := q.2.1; clear q; omega)) (by first | exact (fun q => sgP_0 g0z8 (by omega) q.1 q.2.1) | exact (fun q => by have q3 := q.2.2; omega)) (by first | exact (fun q => sgP_0 g0z70 (by omega) q.1 q.2.1) | exact (fun q => by have q3 := q.2.2; omega)) (by omega)), hp5, (fun q => absurd q (by omega))⟩
            · intro c72
              have sg2 := sgP_1 g0z70 (by omega)
              refine And.intro ⟨rfl, by decide, by decide⟩ (fgetf fb_740_14 h0 hB0 ?_)
              intro z73 lz73 uz73 qz73
              refine And.intro (And.intro (by first | exact fi_ lz73 uz73 rfl | omega) (by first | exact ⟨by decide, by decide⟩ | omega)) (And.intro ?_ ?_)
              · intro c74
                have d9 := dkI_3 hp5 (by omega)
                refine And.intro ⟨rfl, by decide, by decide⟩ (fgetf fb_740_14 h0 hB0 ?_)
                intro z75 lz75 uz75 qz75
                refine And.intro ⟨rfl, by decide, by decide⟩ (And.intro rfl (And.intro (Or.inl rfl) (fputf fb_740_14 (by decide +kernel) hW (by omega) ?_)))
                intro IhB76 ehB76 hB76
                have t77 : IhB76 740 9 = I 740 9 := (congrFun (congrFun ehB76 740) 9).trans (fup_ne (by first | decide | omega))
                have t78 : IhB76 740 10 = I 740 10 := (congrFun (congrFun ehB76 740) 10).trans (fup_ne (by first | decide | omega))
                have t79 : IhB76 740 11 = I 740 11 := (congrFun (congrFun ehB76 740) 11).trans (fup_ne (by first | decide | omega))
                have t80 : IhB76 740 12 = I 740 12 := (congrFun (congrFun ehB76 740) 12).trans (fup_ne (by first | decide | omega))
                have t81 : IhB76 740 13 = I 740 13 := (congrFun (congrFun ehB76 740) 13).trans (fup_ne (by first | decide | omega))
                have t82 := fup_at ehB76 14 (by first | rfl | omega)
                have t83 : IhB76 740 15 = I 740 15 := (congrFun (congrFun ehB76 740) 15).trans (fup_ne (by first | decide | omega))
                have t84 : IhB76 740 16 = I 740 16 := (congrFun (congrFun ehB76 740) 16).trans (fup_ne (by first | decide | omega))
                have t85 : IhB76 740 18 = I 740 18 := (congrFun (congrFun ehB76 740) 18).trans (fup_ne (by first | decide | omega))
                have k86 := fBz_eq hB76 (a := 740) (j := 8) (by decide +kernel)
                have k87 := fBz_eq hB76 (a := 740) (j := 17) (by decide +kernel)
                refine Exists.intro xm_314 (And.intro mi_314 (And.intro ⟨rfl, rfl, rfl, rfl⟩ (And.intro rfl ?_)))
                refine fcall _ h0 (fzs_sub (by decide +kernel) hW) hB76 (ct_M_next_c8003 (fBz h0 hB76) (by omega)) ?_
                rintro IhB89 _ hB89 fhB89 ⟨rfl, hz88, g0z88, g1z88⟩
                have t90 := fhB89 740 14 (by decide +kernel)
                have t91 := fhB89 740 15 (by decide +kernel)
                have t92 := fhB89 740 16 (by decide +kernel)
                have t93 := fhB89 740 18 (by decide +kernel)
                have k94 := fBz_eq hB89 (a := 740) (j := 8) (by decide +kernel)
                have k95 := fBz_eq hB89 (a := 740) (j := 17) (by decide +kernel)
                refine Exists.intro gm0 (And.intro ge0 (And.intro ⟨rfl, gk0.1, gk0.2.1, gk0.2.2⟩ (And.intro rfl ?_)))
                refine fcall _ h0 (fzs_sub (by decide +kernel) hW) hB89 (gc0 (fBz h0 hB89) (by first | exact ⟨ha1.1, ha1.2⟩ | omega) (by omega) (by omega) (by omega) (laP_cg hp3 (by omega)) (by omega) g1z88) ?_
                rintro IhB97 _ hB97 fhB97 ⟨z96, rfl, hz96, g0z96, g1z96, g2z96, g3z96, g4z96⟩
                have k98 := fBz_eq hB97 (a := 740) (j := 8) (by decide +kernel)
                have k99 := fBz_eq hB97 (a := 740) (j := 17) (by decide +kernel)
                refine And.intro (by omega) (And.intro ?_ ?_)
                · intro c100
                  refine And.intro (⟨by decide, by decide⟩) ?_
                  exact ⟨_, rfl, by omega, (par_be0 (fun j => (fFr_S fhB89 (by decide +kernel) j).trans (fup_other ehB76 741 j (Or.inl (by decide)))) g0z96 (by omega) (by omega)), (fun q => absurd q (by omega)), (p0_bra0 (by omega) (by omega) (by omega) (by omega) (by omega) (hT_mk (fun j => fup_other ehB76 747 j (Or.inl (by decide))) (by omega)) g0z88 (hT_mk (fFr_at fhB89 747 (by decide +kernel) rfl) (by omega)) (by omega) (by omega) (fun j => (fFr_S fhB89 (by decide +kernel) j).trans (fup_other ehB76 741 j (Or.inl (by decide)))) (by omega) (by omega) (by omega) g2z96 (by first | exact Or.inl (by omega) | exact Or.inr ⟨by omega, fun q => sgP_0 g0z42 (by omega) q.1 q.2⟩) (hT_mk (fFr_at fhB97 747 (by decide +kernel) rfl) (by omega)) (by omega)), g3z96, (fun q => absurd q (by omega))⟩
                · intro c101
                  have u2 := g4z96 (by omega)
                  refine Exists.intro xm_423 (And.intro mi_423 (And.intro ⟨rfl, rfl, rfl, rfl⟩ (And.intro rfl ?_)))
                  refine fcallp hB97 (ct_M_isSign_90da9 (fBz h0 hB97) (by first | exact ⟨by decide, by decide⟩ | omega)) ?_
                  rintro _ ⟨z102, rfl, hz102, g0z102⟩
                  refine And.intro (by omega) (And.intro ?_ ?_)
                  · intro c103
                    have sg3 := sgP_1 g0z102 (by omega)
                    have d8 := dkI_3 g3z96 (by omega)
                    refine And.intro ⟨rfl, by decide, by decide⟩ (fgetf fb_740_14 h0 hB97 ?_)
                    intro z104 lz104 uz104 qz104
                    refine And.intro ⟨rfl, by decide, by decide⟩ (And.intro rfl (And.intro (Or.inl rfl) (fputf fb_740_14 (by decide +kernel) hW (by omega) ?_)))
                    intro IhB105 ehB105 hB105
                    have t106 : IhB105 740 9 = IhB97 740 9 := (congrFun (congrFun ehB105 740) 9).trans (fup_ne (by first | decide | omega))
                    have t107 : IhB105 740 10 = IhB97 740 10 := (congrFun (congrFun ehB105 740) 10).trans (fup_ne (by first | decide | omega))
                    have t108 : IhB105 740 11 = IhB97 740 11 := (congrFun (congrFun ehB105 740) 11).trans (fup_ne (by first | decide | omega))
                    have t109 : IhB105 740 12 = IhB97 740 12 := (congrFun (congrFun ehB105 740) 12).trans (fup_ne (by first | decide | omega))
                    have t110 : IhB105 740 13 = IhB97 740 13 := (congrFun (congrFun ehB105 740) 13).trans (fup_ne (by first | decide | omega))
                    have t111 := fup_at ehB105 14 (by first | rfl | omega)
                    have t112 : IhB105 740 15 = IhB97 740 15 := (congrFun (congrFun ehB105 740) 15).trans (fup_ne (by first | decide | omega))
                    have t113 : IhB105 740 16 = IhB97 740 16 := (congrFun (congrFun ehB105 740) 16).trans (fup_ne (by first | decide | omega))
                    have t114 : IhB105 740 18 = IhB97 740 18 := (congrFun (congrFun ehB105 740) 18).trans (fup_ne (by first | decide | omega))
                    have k115 := fBz_eq hB105 (a := 740) (j := 8) (by decide +kernel)
                    have k116 := fBz_eq hB105 (a := 740) (j := 17) (by decide +kernel)
                    refine Exists.intro xm_314 (And.intro mi_314 (And.intro ⟨rfl, rfl, rfl, rfl⟩ (And.intro rfl ?_)))
                    refine fcall _ h0 (fzs_sub (by decide +kernel) hW) hB105 (ct_M_next_c8003 (fBz h0 hB105) (by omega)) ?_
                    rintro IhB118 _ hB118 fhB118 ⟨rfl, hz117, g0z117, g1z117⟩
                    have t119 := fhB118 740 14 (by decide +kernel)
                    have t120 := fhB118 740 15 (by decide +kernel)
                    have t121 := fhB118 740 16 (by decide +kernel)
                    have t122 := fhB118 740 18 (by decide +kernel)
                    have k123 := fBz_eq hB118 (a := 740) (j := 8) (by decide +kernel)
                    have k124 := fBz_eq hB118 (a := 740) (j := 17) (by decide +kernel)
                    refine And.intro (⟨by decide, by decide⟩) ?_
                    exact ⟨_, rfl, by omega, (par_par (M3 := IhB118 740 16) (by omega) (fun j => (fFr_S fhB89 (by decide +kernel) j).trans (fup_other ehB76 741 j (Or.inl (by decide)))) g0z96 (g1z96 (by omega)) (fun j => (fFr_S fhB118 (by decide +kernel) j).trans (fup_other ehB105 741 j (Or.inl (by decide)))) (by omega) (by omega) (by omega)).1, (fun _ => (par_par (M3 := IhB118 740 16) (by omega) (fun j => (fFr_S fhB89 (by decide +kernel) j).trans (fup_other ehB76 741 j (Or.inl (by decide)))) g0z96 (g1z96 (by omega)) (fun j => (fFr_S fhB118 (by decide +kernel) j).trans (fup_other ehB105 741 j (Or.inl (by decide)))) (by omega) (by omega) (by omega)).2), (p0_bra (by omega) (by omega) (by omega) (by omega) (by omega) (hT_mk (fun j => fup_other ehB76 747 j (Or.inl (by decide))) (by omega)) g0z88 (hT_mk (fFr_at fhB89 747 (by decide +kernel) rfl) (by omega)) (by omega) (by omega) (fun j => (fFr_S fhB89 (by decide +kernel) j).trans (fup_other ehB76 741 j (Or.inl (by decide)))) (by omega) (by omega) (by omega) g2z96 (by omega) (by omega) (by omega) (hT_mk (fFr_at fhB97 747 (by decide +kernel) rfl) (by omega)) (by omega) (by omega) (hT_mk (fun j => fup_other ehB105 747 j (Or.inl (by decide))) (by omega)) g0z117 (hT_mk (fFr_at fhB118 747 (by decide +kernel) rfl) (by omega)) (fun j => (fFr_S fhB118 (by decide +kernel) j).trans (fup_other ehB105 741 j (Or.inl (by decide)))) (by omega) (by omega) (by omega) (by omega)), g1z117, (fun _ => by omega)⟩
                  · intro c125
                    refine And.intro (⟨by decide, by decide⟩) ?_
                    exact ⟨_, rfl, by omega, (par_be0 (fun j => (fFr_S fhB89 (by decide +kernel) j).trans (fup_other ehB76 741 j (Or.inl (by decide)))) g0z96 (by omega) (by omega)), (fun q => absurd q (by omega)), (p0_bra0 (by omega) (by omega) (by omega) (by omega) (by omega) (hT_mk (fun j => fup_other ehB76 747 j (Or.inl (by decide))) (by omega)) g0z88 (hT_mk (fFr_at fhB89 747 (by decide +kernel) rfl) (by omega)) (by omega) (by omega) (fun j => (fFr_S fhB89 (by decide +kernel) j).trans (fup_other ehB76 741 j (Or.inl (by decide)))) (by omega) (by omega) (by omega) g2z96 (by first | exact Or.inl (by omega) | exact Or.inr ⟨by omega, fun q => sgP_0 g0z102 (by omega) q.1 q.2⟩) (hT_mk (fFr_at fhB97 747 (by decide +kernel) rfl) (by omega)) (by omega)), g3z96, (fun q => absurd q (by omega))⟩
              · intro c126
                refine And.intro (⟨by decide, by decide⟩) ?_
                exact ⟨_, rfl, by omega, sBe_refl, (fun q => absurd q (by omega)), (p0_no (by omega) (by first | exact (fun q => nm_0 g0nil0 (by omega) (by rw [qnil0]; exact q.2.2)) | exact (fun q => by have q1 := q.1; clear q; omega) | exact (fun q => by have q1 := q.2.1; clear q; omega)) (by first | exact (fun q => sgP_0 g0z8 (by omega) q.1 q.2.1) | exact (fun q => by have q3 := q.2.2; omega)) (by first | exact (fun q => sgP_0 g0z70 (by omega) q.1 q.2.1) | exact (fun q => by have q3 := q.2.2; omega)) (by omega)), hp5, (fun q => absurd q (by omega))⟩
          · intro c127
            have d9 := dkI_3 hp5 (by omega)
            refine And.intro ⟨rfl, by decide, by decide⟩ (fgetf fb_740_15 h0 hB0 ?_)
            intro z128 lz128 uz128 qz128
            refine And.intro ⟨rfl, by decide, by decide⟩ (And.intro rfl (And.intro (Or.inl rfl) (fputf fb_740_15 (by decide +kernel) hW (by omega) ?_)))
            intro IhB129 ehB129 hB129
            have t130 : IhB129 740 9 = I 740 9 := (congrFun (congrFun ehB129 740) 9).trans (fup_ne (by first | decide | omega))
            have t131 : IhB129 740 10 = I 740 10 := (congrFun (congrFun ehB129 740) 10).trans (fup_ne (by first | decide | omega))
            have t132 : IhB129 740 11 = I 740 11 := (congrFun (congrFun ehB129 740) 11).trans (fup_ne (by first | decide | omega))
            have t133 : IhB129 740 12 = I 740 12 := (congrFun (congrFun ehB129 740) 12).trans (fup_ne (by first | decide | omega))
            have t134 : IhB129 740 13 = I 740 13 := (congrFun (congrFun ehB129 740) 13).trans (fup_ne (by first | decide | omega))
            have t135 : IhB129 740 14 = I 740 14 := (congrFun (congrFun ehB129 740) 14).trans (fup_ne (by first | decide | omega))
            have t136 := fup_at ehB129 15 (by first | rfl | omega)
            have t137 : IhB129 740 16 = I 740 16 := (congrFun (congrFun ehB129 740) 16).trans (fup_ne (by first | decide | omega))
            have t138 : IhB129 740 18 = I 740 18 := (congrFun (congrFun ehB129 740) 18).trans (fup_ne (by first | decide | omega))
            have k139 := fBz_eq hB129 (a := 740) (j := 8) (by decide +kernel)
            have k140 := fBz_eq hB129 (a := 740) (j := 17) (by decide +kernel)
            refine Exists.intro xm_314 (And.intro mi_314 (And.intro ⟨rfl, rfl, rfl, rfl⟩ (And.intro rfl ?_)))
            refine fcall _ h0 (fzs_sub (by decide +kernel) hW) hB129 (ct_M_next_c8003 (fBz h0 hB129) (by omega)) ?_
            rintro IhB142 _ hB142 fhB142 ⟨rfl, hz141, g0z141, g1z141⟩
            have t143 := fhB142 740 14 (by decide +kernel)
            have t144 := fhB142 740 15 (by decide +kernel)
            have t145 := fhB142 740 16 (by decide +kernel)
            have t146 := fhB142 740 18 (by decide +kernel)
            have k147 := fBz_eq hB142 (a := 740) (j := 8) (by decide +kernel)
            have k148 := fBz_eq hB142 (a := 740) (j := 17) (by decide +kernel)
            refine Exists.intro gm1 (And.intro ge1 (And.intro ⟨rfl, gk1.1, gk1.2.1, gk1.2.2⟩ (And.intro rfl ?_)))
            refine fcall _ h0 (fzs_sub (by decide +kernel) hW) hB142 (gc1 (fBz h0 hB142) (by first | exact ⟨ha1.1, ha1.2⟩ | omega) (by omega) (by omega) (by omega) (laP_cg hp3 (by omega)) (by omega) g1z141) ?_
            rintro IhB150 _ hB150 fhB150 ⟨z149, rfl, hz149, g0z149, g1z149, g2z149, g3z149, g4z149⟩
            have k151 := fBz_eq hB150 (a := 740) (j := 8) (by decide +kernel)
            have k152 := fBz_eq hB150 (a := 740) (j := 17) (by decide +kernel)
            refine And.intro (by omega) (And.intro ?_ ?_)
            · intro c153
              have u2 := g4z149 (by omega)
              refine And.intro ⟨rfl, by decide, by decide⟩ (fgetf fb_740_15 h0 hB150 ?_)
              intro z154 lz154 uz154 qz154
              refine And.intro ⟨rfl, by decide, by decide⟩ (And.intro rfl (And.intro (Or.inl rfl) (fputf fb_740_15 (by decide +kernel) hW (by omega) ?_)))
              intro IhB155 ehB155 hB155
              have t156 : IhB155 740 9 = IhB150 740 9 := (congrFun (congrFun ehB155 740) 9).trans (fup_ne (by first | decide | omega))
              have t157 : IhB155 740 10 = IhB150 740 10 := (congrFun (congrFun ehB155 740) 10).trans (fup_ne (by first | decide | omega))
              have t158 : IhB155 740 11 = IhB150 740 11 := (congrFun (congrFun ehB155 740) 11).trans (fup_ne (by first | decide | omega))
              have t159 : IhB155 740 12 = IhB150 740 12 := (congrFun (congrFun ehB155 740) 12).trans (fup_ne (by first | decide | omega))
              have t160 : IhB155 740 13 = IhB150 740 13 := (congrFun (congrFun ehB155 740) 13).trans (fup_ne (by first | decide | omega))
              have t161 : IhB155 740 14 = IhB150 740 14 := (congrFun (congrFun ehB155 740) 14).trans (fup_ne (by first | decide | omega))
              have t162 := fup_at ehB155 15 (by first | rfl | omega)
              have t163 : IhB155 740 16 = IhB150 740 16 := (congrFun (congrFun ehB155 740) 16).trans (fup_ne (by first | decide | omega))
              have t164 : IhB155 740 18 = IhB150 740 18 := (congrFun (congrFun ehB155 740) 18).trans (fup_ne (by first | decide | omega))
              have k165 := fBz_eq hB155 (a := 740) (j := 8) (by decide +kernel)
              have k166 := fBz_eq hB155 (a := 740) (j := 17) (by decide +kernel)
              refine Exists.intro xm_421 (And.intro mi_421 (And.intro ⟨rfl, rfl, rfl, rfl⟩ (And.intro rfl ?_)))
              refine fcall _ h0 (fzs_sub (by decide +kernel) hW) hB155 (ct_M_step_2c704 (fBz h0 hB155) (by first | exact ⟨by decide, by decide⟩ | omega) (by first | exact ⟨by decide, by decide⟩ | omega) (by omega) (laP_cg hp3 (by omega))) ?_
              rintro IhB168 _ hB168 fhB168 ⟨rfl, hz167, g0z167⟩
              have t169 := fhB168 740 9 (by decide +kernel)
              have t170 := fhB168 740 10 (by decide +kernel)
              have t171 := fhB168 740 11 (by decide +kernel)
              have t172 := fhB168 740 12 (by decide +kernel)
              have t173 := fhB168 740 13 (by decide +kernel)
              have t174 := fhB168 740 14 (by decide +kernel)
              have t175 := fhB168 740 15 (by decide +kernel)
              have t176 := fhB168 740 18 (by decide +kernel)
              have k177 := fBz_eq hB168 (a := 740) (j := 8) (by decide +kernel)
              have k178 := fBz_eq hB168 (a := 740) (j := 17) (by decide +kernel)
              refine And.intro (⟨by decide, by decide⟩) ?_
              exact ⟨_, rfl, by omega, (par_not (M3 := IhB168 740 16) (by omega) (fun j => (fFr_S fhB142 (by decide +kernel) j).trans (fup_other ehB129 741 j (Or.inl (by decide)))) g0z149 (g1z149 (by omega)) (fun j => fup_other ehB155 741 j (Or.inl (by decide))) g0z167 (by omega) (by omega) (by omega) (by omega) (by omega) (by omega)).1, (fun _ => (par_not (M3 := IhB168 740 16) (by omega) (fun j => (fFr_S fhB142 (by decide +kernel) j).trans (fup_other ehB129 741 j (Or.inl (by decide)))) g0z149 (g1z149 (by omega)) (fun j => fup_other ehB155 741 j (Or.inl (by decide))) g0z167 (by omega) (by omega) (by omega) (by omega) (by omega) (by omega)).2), (p0_not (by omega) (by omega) (by omega) (by omega) (by omega) (hT_mk (fun j => fup_other ehB129 747 j (Or.inl (by decide))) (by omega)) g0z141 (hT_mk (fFr_at fhB142 747 (by decide +kernel) rfl) (by omega)) (by omega) (by omega) (fun j => (fFr_S fhB142 (by decide +kernel) j).trans (fup_other ehB129 741 j (Or.inl (by decide)))) (by omega) (by omega) (by omega) g2z149 (by omega) (fun j => fup_other ehB155 741 j (Or.inl (by decide))) (by omega) (by omega) g0z167 (by omega) (by omega) (by omega) (by omega) (by omega) (by omega) (by omega) (by omega) (by omega) (hT_mk (fun j => (fFr_at fhB168 747 (by decide +kernel) rfl j).trans (fup_other ehB155 747 j (Or.inl (by decide)))) (by omega)) (by omega)), (dkI_cg g3z149 (by omega) (by omega) (by omega)), (fun _ => by omega)⟩
            · intro c179
              refine And.intro (⟨by decide, by decide⟩) ?_
              exact ⟨_, rfl, by omega, (par_be0 (fun j => (fFr_S fhB142 (by decide +kernel) j).trans (fup_other ehB129 741 j (Or.inl (by decide)))) g0z149 (by omega) (by omega)), (fun q => absurd q (by omega)), (p0_not0 (by omega) (by omega) (by omega) (by omega) (by omega) (hT_mk (fun j => fup_other ehB129 747 j (Or.inl (by decide))) (by omega)) g0z141 (hT_mk (fFr_at fhB142 747 (by decide +kernel) rfl) (by omega)) (by omega) (by omega) (fun j => (fFr_S fhB142 (by decide +kernel) j).trans (fup_other ehB129 741 j (Or.inl (by decide)))) (by omega) (by omega) (by omega) g2z149 (by omega) (by omega)), g3z149, (fun q => absurd q (by omega))⟩
      · intro c180
        have d9 := dkI_3 hp5 (by omega)
        refine And.intro ⟨rfl, by decide, by decide⟩ (fgetf fb_740_13 h0 hB0 ?_)
        intro z181 lz181 uz181 qz181
        refine And.intro (by first | exact fi_ lz181 uz181 rfl | omega) (And.intro ?_ ?_)
        · intro c182
          refine Exists.intro xm_423 (And.intro mi_423 (And.intro ⟨rfl, rfl, rfl, rfl⟩ (And.intro rfl ?_)))
          refine fcallp hB0 (ct_M_isSign_90da9 (fBz h0 hB0) (by first | exact ⟨by decide, by decide⟩ | omega)) ?_
          rintro _ ⟨z183, rfl, hz183, g0z183⟩
          refine And.intro (by omega) (And.intro ?_ ?_)
          · intro c184
            refine Exists.intro xm_423 (And.intro mi_423 (And.intro ⟨rfl, rfl, rfl, rfl⟩ (And.intro rfl ?_)))
            refine fcallp hB0 (ct_M_isSign_90da9 (fBz h0 hB0) (by first | exact ⟨by decide, by decide⟩ | omega)) ?_
            rintro _ ⟨z185, rfl, hz185, g0z185⟩
            refine And.intro (by omega) (And.intro ?_ ?_)
            · intro c186
              refine And.intro (⟨by decide, by decide⟩) ?_
              exact ⟨_, rfl, by omega, sBe_refl, (fun q => absurd q (by omega)), (p0_no (by omega) (by first | exact (fun q => nm_0 g0nil0 (by omega) (by rw [qnil0]; exact q.2.2)) | exact (fun q => by have q1 := q.1; clear q; omega) | exact (fun q => by have q1 := q.2.1; clear q; omega)) (by first | exact (fun q => sgP_0 g0z183 (by omega) q.1 q.2.1) | exact (fun q => by have q3 := q.2.2; omega)) (by first | exact (fun q => sgP_0 g0z185 (by omega) q.1 q.2.1) | exact (fun q => by have q3 := q.2.2; omega)) (by omega)), hp5, (fun q => absurd q (by omega))⟩
            · intro c187
              have sg2 := sgP_1 g0z185 (by omega)
              refine And.intro ⟨rfl, by decide, by decide⟩ (fgetf fb_740_14 h0 hB0 ?_)
              intro z188 lz188 uz188 qz188
              refine And.intro (And.intro (by first | exact fi_ lz188 uz188 rfl | omega) (by first | exact ⟨by decide, by decide⟩ | omega)) (And.intro ?_ ?_)
              · intro c189
                have d9 := dkI_3 hp5 (by omega)
                refine And.intro ⟨rfl, by decide, by decide⟩ (fgetf fb_740_14 h0 hB0 ?_)
                intro z190 lz190 uz190 qz190
                refine And.intro ⟨rfl, by decide, by decide⟩ (And.intro rfl (And.intro (Or.inl rfl) (fputf fb_740_14 (by decide +kernel) hW (by omega) ?_)))
                intro IhB191 ehB191 hB191
                have t192 : IhB191 740 9 = I 740 9 := (congrFun (congrFun ehB191 740) 9).trans (fup_ne (by first | decide | omega))
                have t193 : IhB191 740 10 = I 740 10 := (congrFun (congrFun ehB191 740) 10).trans (fup_ne (by first | decide | omega))
                have t194 : IhB191 740 11 = I 740 11 := (congrFun (congrFun ehB191 740) 11).trans (fup_ne (by first | decide | omega))
                have t195 : IhB191 740 12 = I 740 12 := (congrFun (congrFun ehB191 740) 12).trans (fup_ne (by first | decide | omega))
                have t196 : IhB191 740 13 = I 740 13 := (congrFun (congrFun ehB191 740) 13).trans (fup_ne (by first | decide | omega))
                have t197 := fup_at ehB191 14 (by first | rfl | omega)
                have t198 : IhB191 740 15 = I 740 15 := (congrFun (congrFun ehB191 740) 15).trans (fup_ne (by first | decide | omega))
                have t199 : IhB191 740 16 = I 740 16 := (congrFun (congrFun ehB191 740) 16).trans (fup_ne (by first | decide | omega))
                have t200 : IhB191 740 18 = I 740 18 := (congrFun (congrFun ehB191 740) 18).trans (fup_ne (by first | decide | omega))
                have k201 := fBz_eq hB191 (a := 740) (j := 8) (by decide +kernel)
                have k202 := fBz_eq hB191 (a := 740) (j := 17) (by decide +kernel)
                refine Exists.intro xm_314 (And.intro mi_314 (And.intro ⟨rfl, rfl, rfl, rfl⟩ (And.intro rfl ?_)))
                refine fcall _ h0 (fzs_sub (by decide +kernel) hW) hB191 (ct_M_next_c8003 (fBz h0 hB191) (by omega)) ?_
                rintro IhB204 _ hB204 fhB204 ⟨rfl, hz203, g0z203, g1z203⟩
                have t205 := fhB204 740 14 (by decide +kernel)
                have t206 := fhB204 740 15 (by decide +kernel)
                have t207 := fhB204 740 16 (by decide +kernel)
                have t208 := fhB204 740 18 (by decide +kernel)
                have k209 := fBz_eq hB204 (a := 740) (j := 8) (by decide +kernel)
                have k210 := fBz_eq hB204 (a := 740) (j := 17) (by decide +kernel)
                refine Exists.intro gm0 (And.intro ge0 (And.intro ⟨rfl, gk0.1, gk0.2.1, gk0.2.2⟩ (And.intro rfl ?_)))
                refine fcall _ h0 (fzs_sub (by decide +kernel) hW) hB204 (gc0 (fBz h0 hB204) (by first | exact ⟨ha1.1, ha1.2⟩ | omega) (by omega) (by omega) (by omega) (laP_cg hp3 (by omega)) (by omega) g1z203) ?_
                rintro IhB212 _ hB212 fhB212 ⟨z211, rfl, hz211, g0z211, g1z211, g2z211, g3z211, g4z211⟩
                have k213 := fBz_eq hB212 (a := 740) (j := 8) (by decide +kernel)
                have k214 := fBz_eq hB212 (a := 740) (j := 17) (by decide +kernel)
                refine And.intro (by omega) (And.intro ?_ ?_)
                · intro c215
                  refine And.intro (⟨by decide, by decide⟩) ?_
                  exact ⟨_, rfl, by omega, (par_be0 (fun j => (fFr_S fhB204 (by decide +kernel) j).trans (fup_other ehB191 741 j (Or.inl (by decide)))) g0z211 (by omega) (by omega)), (fun q => absurd q (by omega)), (p0_bra0 (by omega) (by omega) (by omega) (by omega) (by omega) (hT_mk (fun j => fup_other ehB191 747 j (Or.inl (by decide))) (by omega)) g0z203 (hT_mk (fFr_at fhB204 747 (by decide +kernel) rfl) (by omega)) (by omega) (by omega) (fun j => (fFr_S fhB204 (by decide +kernel) j).trans (fup_other ehB191 741 j (Or.inl (by decide)))) (by omega) (by omega) (by omega) g2z211 (by first | exact Or.inl (by omega) | exact Or.inr ⟨by omega, fun q => sgP_0 g0z102 (by omega) q.1 q.2⟩) (hT_mk (fFr_at fhB212 747 (by decide +kernel) rfl) (by omega)) (by omega)), g3z211, (fun q => absurd q (by omega))⟩
                · intro c216
                  have u2 := g4z211 (by omega)
                  refine Exists.intro xm_423 (And.intro mi_423 (And.intro ⟨rfl, rfl, rfl, rfl⟩ (And.intro rfl ?_)))
                  refine fcallp hB212 (ct_M_isSign_90da9 (fBz h0 hB212) (by first | exact ⟨by decide, by decide⟩ | omega)) ?_
                  rintro _ ⟨z217, rfl, hz217, g0z217⟩
                  refine And.intro (by omega) (And.intro ?_ ?_)
                  · intro c218
                    have sg3 := sgP_1 g0z217 (by omega)
                    have d8 := dkI_3 g3z211 (by omega)
                    refine And.intro ⟨rfl, by decide, by decide⟩ (fgetf fb_740_14 h0 hB212 ?_)
                    intro z219 lz219 uz219 qz219
                    refine And.intro ⟨rfl, by decide, by decide⟩ (And.intro rfl (And.intro (Or.inl rfl) (fputf fb_740_14 (by decide +kernel) hW (by omega) ?_)))
                    intro IhB220 ehB220 hB220
                    have t221 : IhB220 740 9 = IhB212 740 9 := (congrFun (congrFun ehB220 740) 9).trans (fup_ne (by first | decide | omega))
                    have t222 : IhB220 740 10 = IhB212 740 10 := (congrFun (congrFun ehB220 740) 10).trans (fup_ne (by first | decide | omega))
                    have t223 : IhB220 740 11 = IhB212 740 11 := (congrFun (congrFun ehB220 740) 11).trans (fup_ne (by first | decide | omega))
                    have t224 : IhB220 740 12 = IhB212 740 12 := (congrFun (congrFun ehB220 740) 12).trans (fup_ne (by first | decide | omega))
                    have t225 : IhB220 740 13 = IhB212 740 13 := (congrFun (congrFun ehB220 740) 13).trans (fup_ne (by first | decide | omega))
                    have t226 := fup_at ehB220 14 (by first | rfl | omega)
                    have t227 : IhB220 740 15 = IhB212 740 15 := (congrFun (congrFun ehB220 740) 15).trans (fup_ne (by first | decide | omega))
                    have t228 : IhB220 740 16 = IhB212 740 16 := (congrFun (congrFun ehB220 740) 16).trans (fup_ne (by first | decide | omega))
                    have t229 : IhB220 740 18 = IhB212 740 18 := (congrFun (congrFun ehB220 740) 18).trans (fup_ne (by first | decide | omega))
                    have k230 := fBz_eq hB220 (a := 740) (j := 8) (by decide +kernel)
                    have k231 := fBz_eq hB220 (a := 740) (j := 17) (by decide +kernel)
                    refine Exists.intro xm_314 (And.intro mi_314 (And.intro ⟨rfl, rfl, rfl, rfl⟩ (And.intro rfl ?_)))
                    refine fcall _ h0 (fzs_sub (by decide +kernel) hW) hB220 (ct_M_next_c8003 (fBz h0 hB220) (by omega)) ?_
                    rintro IhB233 _ hB233 fhB233 ⟨rfl, hz232, g0z232, g1z232⟩
                    have t234 := fhB233 740 14 (by decide +kernel)
                    have t235 := fhB233 740 15 (by decide +kernel)
                    have t236 := fhB233 740 16 (by decide +kernel)
                    have t237 := fhB233 740 18 (by decide +kernel)
                    have k238 := fBz_eq hB233 (a := 740) (j := 8) (by decide +kernel)
                    have k239 := fBz_eq hB233 (a := 740) (j := 17) (by decide +kernel)
                    refine And.intro (⟨by decide, by decide⟩) ?_
                    exact ⟨_, rfl, by omega, (par_par (M3 := IhB233 740 16) (by omega) (fun j => (fFr_S fhB204 (by decide +kernel) j).trans (fup_other ehB191 741 j (Or.inl (by decide)))) g0z211 (g1z211 (by omega)) (fun j => (fFr_S fhB233 (by decide +kernel) j).trans (fup_other ehB220 741 j (Or.inl (by decide)))) (by omega) (by omega) (by omega)).1, (fun _ => (par_par (M3 := IhB233 740 16) (by omega) (fun j => (fFr_S fhB204 (by decide +kernel) j).trans (fup_other ehB191 741 j (Or.inl (by decide)))) g0z211 (g1z211 (by omega)) (fun j => (fFr_S fhB233 (by decide +kernel) j).trans (fup_other ehB220 741 j (Or.inl (by decide)))) (by omega) (by omega) (by omega)).2), (p0_bra (by omega) (by omega) (by omega) (by omega) (by omega) (hT_mk (fun j => fup_other ehB191 747 j (Or.inl (by decide))) (by omega)) g0z203 (hT_mk (fFr_at fhB204 747 (by decide +kernel) rfl) (by omega)) (by omega) (by omega) (fun j => (fFr_S fhB204 (by decide +kernel) j).trans (fup_other ehB191 741 j (Or.inl (by decide)))) (by omega) (by omega) (by omega) g2z211 (by omega) (by omega) (by omega) (hT_mk (fFr_at fhB212 747 (by decide +kernel) rfl) (by omega)) (by omega) (by omega) (hT_mk (fun j => fup_other ehB220 747 j (Or.inl (by decide))) (by omega)) g0z232 (hT_mk (fFr_at fhB233 747 (by decide +kernel) rfl) (by omega)) (fun j => (fFr_S fhB233 (by decide +kernel) j).trans (fup_other ehB220 741 j (Or.inl (by decide)))) (by omega) (by omega) (by omega) (by omega)), g1z232, (fun _ => by omega)⟩
                  · intro c240
                    refine And.intro (⟨by decide, by decide⟩) ?_
                    exact ⟨_, rfl, by omega, (par_be0 (fun j => (fFr_S fhB204 (by decide +kernel) j).trans (fup_other ehB191 741 j (Or.inl (by decide)))) g0z211 (by omega) (by omega)), (fun q => absurd q (by omega)), (p0_bra0 (by omega) (by omega) (by omega) (by omega) (by omega) (hT_mk (fun j => fup_other ehB191 747 j (Or.inl (by decide))) (by omega)) g0z203 (hT_mk (fFr_at fhB204 747 (by decide +kernel) rfl) (by omega)) (by omega) (by omega) (fun j => (fFr_S fhB204 (by decide +kernel) j).trans (fup_other ehB191 741 j (Or.inl (by decide)))) (by omega) (by omega) (by omega) g2z211 (by first | exact Or.inl (by omega) | exact Or.inr ⟨by omega, fun q => sgP_0 g0z217 (by omega) q.1 q.2⟩) (hT_mk (fFr_at fhB212 747 (by decide +kernel) rfl) (by omega)) (by omega)), g3z211, (fun q => absurd q (by omega))⟩
              · intro c241
                refine And.intro (⟨by decide, by decide⟩) ?_
                exact ⟨_, rfl, by omega, sBe_refl, (fun q => absurd q (by omega)), (p0_no (by omega) (by first | exact (fun q => nm_0 g0nil0 (by omega) (by rw [qnil0]; exact q.2.2)) | exact (fun q => by have q1 := q.1; clear q; omega) | exact (fun q => by have q1 := q.2.1; clear q; omega)) (by first | exact (fun q => sgP_0 g0z183 (by omega) q.1 q.2.1) | exact (fun q => by have q3 := q.2.2; omega)) (by first | exact (fun q => sgP_0 g0z185 (by omega) q.1 q.2.1) | exact (fun q => by have q3 := q.2.2; omega)) (by omega)), hp5, (fun q => absurd q (by omega))⟩
          · intro c242
            have sg := sgP_1 g0z183 (by omega)
            refine And.intro ⟨rfl, by decide, by decide⟩ (fgetf fb_740_15 h0 hB0 ?_)
            intro z243 lz243 uz243 qz243
            refine And.intro (And.intro (by first | exact fi_ lz243 uz243 rfl | omega) (by first | exact ⟨by decide, by decide⟩ | omega)) (And.intro ?_ ?_)
            · intro c244
              refine Exists.intro xm_423 (And.intro mi_423 (And.intro ⟨rfl, rfl, rfl, rfl⟩ (And.intro rfl ?_)))
              refine fcallp hB0 (ct_M_isSign_90da9 (fBz h0 hB0) (by first | exact ⟨by decide, by decide⟩ | omega)) ?_
              rintro _ ⟨z245, rfl, hz245, g0z245⟩
              refine And.intro (by omega) (And.intro ?_ ?_)
              · intro c246
                refine And.intro (⟨by decide, by decide⟩) ?_
                exact ⟨_, rfl, by omega, sBe_refl, (fun q => absurd q (by omega)), (p0_no (by omega) (by first | exact (fun q => nm_0 g0nil0 (by omega) (by rw [qnil0]; exact q.2.2)) | exact (fun q => by have q1 := q.1; clear q; omega) | exact (fun q => by have q1 := q.2.1; clear q; omega)) (by first | exact (fun q => sgP_0 g0z183 (by omega) q.1 q.2.1) | exact (fun q => by have q3 := q.2.2; omega)) (by first | exact (fun q => sgP_0 g0z245 (by omega) q.1 q.2.1) | exact (fun q => by have q3 := q.2.2; omega)) (by omega)), hp5, (fun q => absurd q (by omega))⟩
              · intro c247
                have sg2 := sgP_1 g0z245 (by omega)
                refine And.intro ⟨rfl, by decide, by decide⟩ (fgetf fb_740_14 h0 hB0 ?_)
                intro z248 lz248 uz248 qz248
                refine And.intro (And.intro (by first | exact fi_ lz248 uz248 rfl | omega) (by first | exact ⟨by decide, by decide⟩ | omega)) (And.intro ?_ ?_)
                · intro c249
                  have d9 := dkI_3 hp5 (by omega)
                  refine And.intro ⟨rfl, by decide, by decide⟩ (fgetf fb_740_14 h0 hB0 ?_)
                  intro z250 lz250 uz250 qz250
                  refine And.intro ⟨rfl, by decide, by decide⟩ (And.intro rfl (And.intro (Or.inl rfl) (fputf fb_740_14 (by decide +kernel) hW (by omega) ?_)))
                  intro IhB251 ehB251 hB251
                  have t252 : IhB251 740 9 = I 740 9 := (congrFun (congrFun ehB251 740) 9).trans (fup_ne (by first | decide | omega))
                  have t253 : IhB251 740 10 = I 740 10 := (congrFun (congrFun ehB251 740) 10).trans (fup_ne (by first | decide | omega))
                  have t254 : IhB251 740 11 = I 740 11 := (congrFun (congrFun ehB251 740) 11).trans (fup_ne (by first | decide | omega))
                  have t255 : IhB251 740 12 = I 740 12 := (congrFun (congrFun ehB251 740) 12).trans (fup_ne (by first | decide | omega))
                  have t256 : IhB251 740 13 = I 740 13 := (congrFun (congrFun ehB251 740) 13).trans (fup_ne (by first | decide | omega))
                  have t257 := fup_at ehB251 14 (by first | rfl | omega)
                  have t258 : IhB251 740 15 = I 740 15 := (congrFun (congrFun ehB251 740) 15).trans (fup_ne (by first | decide | omega))
                  have t259 : IhB251 740 16 = I 740 16 := (congrFun (congrFun ehB251 740) 16).trans (fup_ne (by first | decide | omega))
                  have t260 : IhB251 740 18 = I 740 18 := (congrFun (congrFun ehB251 740) 18).trans (fup_ne (by first | decide | omega))
                  have k261 := fBz_eq hB251 (a := 740) (j := 8) (by decide +kernel)
                  have k262 := fBz_eq hB251 (a := 740) (j := 17) (by decide +kernel)
                  refine Exists.intro xm_314 (And.intro mi_314 (And.intro ⟨rfl, rfl, rfl, rfl⟩ (And.intro rfl ?_)))
                  refine fcall _ h0 (fzs_sub (by decide +kernel) hW) hB251 (ct_M_next_c8003 (fBz h0 hB251) (by omega)) ?_
                  rintro IhB264 _ hB264 fhB264 ⟨rfl, hz263, g0z263, g1z263⟩
                  have t265 := fhB264 740 14 (by decide +kernel)
                  have t266 := fhB264 740 15 (by decide +kernel)
                  have t267 := fhB264 740 16 (by decide +kernel)
                  have t268 := fhB264 740 18 (by decide +kernel)
                  have k269 := fBz_eq hB264 (a := 740) (j := 8) (by decide +kernel)
                  have k270 := fBz_eq hB264 (a := 740) (j := 17) (by decide +kernel)
                  refine Exists.intro gm0 (And.intro ge0 (And.intro ⟨rfl, gk0.1, gk0.2.1, gk0.2.2⟩ (And.intro rfl ?_)))
                  refine fcall _ h0 (fzs_sub (by decide +kernel) hW) hB264 (gc0 (fBz h0 hB264) (by first | exact ⟨ha1.1, ha1.2⟩ | omega) (by omega) (by omega) (by omega) (laP_cg hp3 (by omega)) (by omega) g1z263) ?_
                  rintro IhB272 _ hB272 fhB272 ⟨z271, rfl, hz271, g0z271, g1z271, g2z271, g3z271, g4z271⟩
                  have k273 := fBz_eq hB272 (a := 740) (j := 8) (by decide +kernel)
                  have k274 := fBz_eq hB272 (a := 740) (j := 17) (by decide +kernel)
                  refine And.intro (by omega) (And.intro ?_ ?_)
                  · intro c275
                    refine And.intro (⟨by decide, by decide⟩) ?_
                    exact ⟨_, rfl, by omega, (par_be0 (fun j => (fFr_S fhB264 (by decide +kernel) j).trans (fup_other ehB251 741 j (Or.inl (by decide)))) g0z271 (by omega) (by omega)), (fun q => absurd q (by omega)), (p0_bra0 (by omega) (by omega) (by omega) (by omega) (by omega) (hT_mk (fun j => fup_other ehB251 747 j (Or.inl (by decide))) (by omega)) g0z263 (hT_mk (fFr_at fhB264 747 (by decide +kernel) rfl) (by omega)) (by omega) (by omega) (fun j => (fFr_S fhB264 (by decide +kernel) j).trans (fup_other ehB251 741 j (Or.inl (by decide)))) (by omega) (by omega) (by omega) g2z271 (by first | exact Or.inl (by omega) | exact Or.inr ⟨by omega, fun q => sgP_0 g0z217 (by omega) q.1 q.2⟩) (hT_mk (fFr_at fhB272 747 (by decide +kernel) rfl) (by omega)) (by omega)), g3z271, (fun q => absurd q (by omega))⟩
                  · intro c276
                    have u2 := g4z271 (by omega)
                    refine Exists.intro xm_423 (And.intro mi_423 (And.intro ⟨rfl, rfl, rfl, rfl⟩ (And.intro rfl ?_)))
                    refine fcallp hB272 (ct_M_isSign_90da9 (fBz h0 hB272) (by first | exact ⟨by decide, by decide⟩ | omega)) ?_
                    rintro _ ⟨z277, rfl, hz277, g0z277⟩
                    refine And.intro (by omega) (And.intro ?_ ?_)
                    · intro c278
                      have sg3 := sgP_1 g0z277 (by omega)
                      have d8 := dkI_3 g3z271 (by omega)
                      refine And.intro ⟨rfl, by decide, by decide⟩ (fgetf fb_740_14 h0 hB272 ?_)
                      intro z279 lz279 uz279 qz279
                      refine And.intro ⟨rfl, by decide, by decide⟩ (And.intro rfl (And.intro (Or.inl rfl) (fputf fb_740_14 (by decide +kernel) hW (by omega) ?_)))
                      intro IhB280 ehB280 hB280
                      have t281 : IhB280 740 9 = IhB272 740 9 := (congrFun (congrFun ehB280 740) 9).trans (fup_ne (by first | decide | omega))
                      have t282 : IhB280 740 10 = IhB272 740 10 := (congrFun (congrFun ehB280 740) 10).trans (fup_ne (by first | decide | omega))
                      have t283 : IhB280 740 11 = IhB272 740 11 := (congrFun (congrFun ehB280 740) 11).trans (fup_ne (by first | decide | omega))
                      have t284 : IhB280 740 12 = IhB272 740 12 := (congrFun (congrFun ehB280 740) 12).trans (fup_ne (by first | decide | omega))
                      have t285 : IhB280 740 13 = IhB272 740 13 := (congrFun (congrFun ehB280 740) 13).trans (fup_ne (by first | decide | omega))
                      have t286 := fup_at ehB280 14 (by first | rfl | omega)
                      have t287 : IhB280 740 15 = IhB272 740 15 := (congrFun (congrFun ehB280 740) 15).trans (fup_ne (by first | decide | omega))
                      have t288 : IhB280 740 16 = IhB272 740 16 := (congrFun (congrFun ehB280 740) 16).trans (fup_ne (by first | decide | omega))
                      have t289 : IhB280 740 18 = IhB272 740 18 := (congrFun (congrFun ehB280 740) 18).trans (fup_ne (by first | decide | omega))
                      have k290 := fBz_eq hB280 (a := 740) (j := 8) (by decide +kernel)
                      have k291 := fBz_eq hB280 (a := 740) (j := 17) (by decide +kernel)
                      refine Exists.intro xm_314 (And.intro mi_314 (And.intro ⟨rfl, rfl, rfl, rfl⟩ (And.intro rfl ?_)))
                      refine fcall _ h0 (fzs_sub (by decide +kernel) hW) hB280 (ct_M_next_c8003 (fBz h0 hB280) (by omega)) ?_
                      rintro IhB293 _ hB293 fhB293 ⟨rfl, hz292, g0z292, g1z292⟩
                      have t294 := fhB293 740 14 (by decide +kernel)
                      have t295 := fhB293 740 15 (by decide +kernel)
                      have t296 := fhB293 740 16 (by decide +kernel)
                      have t297 := fhB293 740 18 (by decide +kernel)
                      have k298 := fBz_eq hB293 (a := 740) (j := 8) (by decide +kernel)
                      have k299 := fBz_eq hB293 (a := 740) (j := 17) (by decide +kernel)
                      refine And.intro (⟨by decide, by decide⟩) ?_
                      exact ⟨_, rfl, by omega, (par_par (M3 := IhB293 740 16) (by omega) (fun j => (fFr_S fhB264 (by decide +kernel) j).trans (fup_other ehB251 741 j (Or.inl (by decide)))) g0z271 (g1z271 (by omega)) (fun j => (fFr_S fhB293 (by decide +kernel) j).trans (fup_other ehB280 741 j (Or.inl (by decide)))) (by omega) (by omega) (by omega)).1, (fun _ => (par_par (M3 := IhB293 740 16) (by omega) (fun j => (fFr_S fhB264 (by decide +kernel) j).trans (fup_other ehB251 741 j (Or.inl (by decide)))) g0z271 (g1z271 (by omega)) (fun j => (fFr_S fhB293 (by decide +kernel) j).trans (fup_other ehB280 741 j (Or.inl (by decide)))) (by omega) (by omega) (by omega)).2), (p0_bra (by omega) (by omega) (by omega) (by omega) (by omega) (hT_mk (fun j => fup_other ehB251 747 j (Or.inl (by decide))) (by omega)) g0z263 (hT_mk (fFr_at fhB264 747 (by decide +kernel) rfl) (by omega)) (by omega) (by omega) (fun j => (fFr_S fhB264 (by decide +kernel) j).trans (fup_other ehB251 741 j (Or.inl (by decide)))) (by omega) (by omega) (by omega) g2z271 (by omega) (by omega) (by omega) (hT_mk (fFr_at fhB272 747 (by decide +kernel) rfl) (by omega)) (by omega) (by omega) (hT_mk (fun j => fup_other ehB280 747 j (Or.inl (by decide))) (by omega)) g0z292 (hT_mk (fFr_at fhB293 747 (by decide +kernel) rfl) (by omega)) (fun j => (fFr_S fhB293 (by decide +kernel) j).trans (fup_other ehB280 741 j (Or.inl (by decide)))) (by omega) (by omega) (by omega) (by omega)), g1z292, (fun _ => by omega)⟩
                    · intro c300
                      refine And.intro (⟨by decide, by decide⟩) ?_
                      exact ⟨_, rfl, by omega, (par_be0 (fun j => (fFr_S fhB264 (by decide +kernel) j).trans (fup_other ehB251 741 j (Or.inl (by decide)))) g0z271 (by omega) (by omega)), (fun q => absurd q (by omega)), (p0_bra0 (by omega) (by omega) (by omega) (by omega) (by omega) (hT_mk (fun j => fup_other ehB251 747 j (Or.inl (by decide))) (by omega)) g0z263 (hT_mk (fFr_at fhB264 747 (by decide +kernel) rfl) (by omega)) (by omega) (by omega) (fun j => (fFr_S fhB264 (by decide +kernel) j).trans (fup_other ehB251 741 j (Or.inl (by decide)))) (by omega) (by omega) (by omega) g2z271 (by first | exact Or.inl (by omega) | exact Or.inr ⟨by omega, fun q => sgP_0 g0z277 (by omega) q.1 q.2⟩) (hT_mk (fFr_at fhB272 747 (by decide +kernel) rfl) (by omega)) (by omega)), g3z271, (fun q => absurd q (by omega))⟩
                · intro c301
                  refine And.intro (⟨by decide, by decide⟩) ?_
                  exact ⟨_, rfl, by omega, sBe_refl, (fun q => absurd q (by omega)), (p0_no (by omega) (by first | exact (fun q => nm_0 g0nil0 (by omega) (by rw [qnil0]; exact q.2.2)) | exact (fun q => by have q1 := q.1; clear q; omega) | exact (fun q => by have q1 := q.2.1; clear q; omega)) (by first | exact (fun q => sgP_0 g0z183 (by omega) q.1 q.2.1) | exact (fun q => by have q3 := q.2.2; omega)) (by first | exact (fun q => sgP_0 g0z245 (by omega) q.1 q.2.1) | exact (fun q => by have q3 := q.2.2; omega)) (by omega)), hp5, (fun q => absurd q (by omega))⟩
            · intro c302
              have d9 := dkI_3 hp5 (by omega)
              refine And.intro ⟨rfl, by decide, by decide⟩ (fgetf fb_740_15 h0 hB0 ?_)
              intro z303 lz303 uz303 qz303
              refine And.intro ⟨rfl, by decide, by decide⟩ (And.intro rfl (And.intro (Or.inl rfl) (fputf fb_740_15 (by decide +kernel) hW (by omega) ?_)))
              intro IhB304 ehB304 hB304
              have t305 : IhB304 740 9 = I 740 9 := (congrFun (congrFun ehB304 740) 9).trans (fup_ne (by first | decide | omega))
              have t306 : IhB304 740 10 = I 740 10 := (congrFun (congrFun ehB304 740) 10).trans (fup_ne (by first | decide | omega))
              have t307 : IhB304 740 11 = I 740 11 := (congrFun (congrFun ehB304 740) 11).trans (fup_ne (by first | decide | omega))
              have t308 : IhB304 740 12 = I 740 12 := (congrFun (congrFun ehB304 740) 12).trans (fup_ne (by first | decide | omega))
              have t309 : IhB304 740 13 = I 740 13 := (congrFun (congrFun ehB304 740) 13).trans (fup_ne (by first | decide | omega))
              have t310 : IhB304 740 14 = I 740 14 := (congrFun (congrFun ehB304 740) 14).trans (fup_ne (by first | decide | omega))
              have t311 := fup_at ehB304 15 (by first | rfl | omega)
              have t312 : IhB304 740 16 = I 740 16 := (congrFun (congrFun ehB304 740) 16).trans (fup_ne (by first | decide | omega))
              have t313 : IhB304 740 18 = I 740 18 := (congrFun (congrFun ehB304 740) 18).trans (fup_ne (by first | decide | omega))
              have k314 := fBz_eq hB304 (a := 740) (j := 8) (by decide +kernel)
              have k315 := fBz_eq hB304 (a := 740) (j := 17) (by decide +kernel)
              refine Exists.intro xm_314 (And.intro mi_314 (And.intro ⟨rfl, rfl, rfl, rfl⟩ (And.intro rfl ?_)))
              refine fcall _ h0 (fzs_sub (by decide +kernel) hW) hB304 (ct_M_next_c8003 (fBz h0 hB304) (by omega)) ?_
              rintro IhB317 _ hB317 fhB317 ⟨rfl, hz316, g0z316, g1z316⟩
              have t318 := fhB317 740 14 (by decide +kernel)
              have t319 := fhB317 740 15 (by decide +kernel)
              have t320 := fhB317 740 16 (by decide +kernel)
              have t321 := fhB317 740 18 (by decide +kernel)
              have k322 := fBz_eq hB317 (a := 740) (j := 8) (by decide +kernel)
              have k323 := fBz_eq hB317 (a := 740) (j := 17) (by decide +kernel)
              refine Exists.intro gm1 (And.intro ge1 (And.intro ⟨rfl, gk1.1, gk1.2.1, gk1.2.2⟩ (And.intro rfl ?_)))
              refine fcall _ h0 (fzs_sub (by decide +kernel) hW) hB317 (gc1 (fBz h0 hB317) (by first | exact ⟨ha1.1, ha1.2⟩ | omega) (by omega) (by omega) (by omega) (laP_cg hp3 (by omega)) (by omega) g1z316) ?_
              rintro IhB325 _ hB325 fhB325 ⟨z324, rfl, hz324, g0z324, g1z324, g2z324, g3z324, g4z324⟩
              have k326 := fBz_eq hB325 (a := 740) (j := 8) (by decide +kernel)
              have k327 := fBz_eq hB325 (a := 740) (j := 17) (by decide +kernel)
              refine And.intro (by omega) (And.intro ?_ ?_)
              · intro c328
                have u2 := g4z324 (by omega)
                refine And.intro ⟨rfl, by decide, by decide⟩ (fgetf fb_740_15 h0 hB325 ?_)
                intro z329 lz329 uz329 qz329
                refine And.intro ⟨rfl, by decide, by decide⟩ (And.intro rfl (And.intro (Or.inl rfl) (fputf fb_740_15 (by decide +kernel) hW (by omega) ?_)))
                intro IhB330 ehB330 hB330
                have t331 : IhB330 740 9 = IhB325 740 9 := (congrFun (congrFun ehB330 740) 9).trans (fup_ne (by first | decide | omega))
                have t332 : IhB330 740 10 = IhB325 740 10 := (congrFun (congrFun ehB330 740) 10).trans (fup_ne (by first | decide | omega))
                have t333 : IhB330 740 11 = IhB325 740 11 := (congrFun (congrFun ehB330 740) 11).trans (fup_ne (by first | decide | omega))
                have t334 : IhB330 740 12 = IhB325 740 12 := (congrFun (congrFun ehB330 740) 12).trans (fup_ne (by first | decide | omega))
                have t335 : IhB330 740 13 = IhB325 740 13 := (congrFun (congrFun ehB330 740) 13).trans (fup_ne (by first | decide | omega))
                have t336 : IhB330 740 14 = IhB325 740 14 := (congrFun (congrFun ehB330 740) 14).trans (fup_ne (by first | decide | omega))
                have t337 := fup_at ehB330 15 (by first | rfl | omega)
                have t338 : IhB330 740 16 = IhB325 740 16 := (congrFun (congrFun ehB330 740) 16).trans (fup_ne (by first | decide | omega))
                have t339 : IhB330 740 18 = IhB325 740 18 := (congrFun (congrFun ehB330 740) 18).trans (fup_ne (by first | decide | omega))
                have k340 := fBz_eq hB330 (a := 740) (j := 8) (by decide +kernel)
                have k341 := fBz_eq hB330 (a := 740) (j := 17) (by decide +kernel)
                refine Exists.intro xm_421 (And.intro mi_421 (And.intro ⟨rfl, rfl, rfl, rfl⟩ (And.intro rfl ?_)))
                refine fcall _ h0 (fzs_sub (by decide +kernel) hW) hB330 (ct_M_step_2c704 (fBz h0 hB330) (by first | exact ⟨by decide, by decide⟩ | omega) (by first | exact ⟨by decide, by decide⟩ | omega) (by omega) (laP_cg hp3 (by omega))) ?_
                rintro IhB343 _ hB343 fhB343 ⟨rfl, hz342, g0z342⟩
                have t344 := fhB343 740 9 (by decide +kernel)
                have t345 := fhB343 740 10 (by decide +kernel)
                have t346 := fhB343 740 11 (by decide +kernel)
                have t347 := fhB343 740 12 (by decide +kernel)
                have t348 := fhB343 740 13 (by decide +kernel)
                have t349 := fhB343 740 14 (by decide +kernel)
                have t350 := fhB343 740 15 (by decide +kernel)
                have t351 := fhB343 740 18 (by decide +kernel)
                have k352 := fBz_eq hB343 (a := 740) (j := 8) (by decide +kernel)
                have k353 := fBz_eq hB343 (a := 740) (j := 17) (by decide +kernel)
                refine And.intro (⟨by decide, by decide⟩) ?_
                exact ⟨_, rfl, by omega, (par_not (M3 := IhB343 740 16) (by omega) (fun j => (fFr_S fhB317 (by decide +kernel) j).trans (fup_other ehB304 741 j (Or.inl (by decide)))) g0z324 (g1z324 (by omega)) (fun j => fup_other ehB330 741 j (Or.inl (by decide))) g0z342 (by omega) (by omega) (by omega) (by omega) (by omega) (by omega)).1, (fun _ => (par_not (M3 := IhB343 740 16) (by omega) (fun j => (fFr_S fhB317 (by decide +kernel) j).trans (fup_other ehB304 741 j (Or.inl (by decide)))) g0z324 (g1z324 (by omega)) (fun j => fup_other ehB330 741 j (Or.inl (by decide))) g0z342 (by omega) (by omega) (by omega) (by omega) (by omega) (by omega)).2), (p0_not (by omega) (by omega) (by omega) (by omega) (by omega) (hT_mk (fun j => fup_other ehB304 747 j (Or.inl (by decide))) (by omega)) g0z316 (hT_mk (fFr_at fhB317 747 (by decide +kernel) rfl) (by omega)) (by omega) (by omega) (fun j => (fFr_S fhB317 (by decide +kernel) j).trans (fup_other ehB304 741 j (Or.inl (by decide)))) (by omega) (by omega) (by omega) g2z324 (by omega) (fun j => fup_other ehB330 741 j (Or.inl (by decide))) (by omega) (by omega) g0z342 (by omega) (by omega) (by omega) (by omega) (by omega) (by omega) (by omega) (by omega) (by omega) (hT_mk (fun j => (fFr_at fhB343 747 (by decide +kernel) rfl j).trans (fup_other ehB330 747 j (Or.inl (by decide)))) (by omega)) (by omega)), (dkI_cg g3z324 (by omega) (by omega) (by omega)), (fun _ => by omega)⟩
              · intro c354
                refine And.intro (⟨by decide, by decide⟩) ?_
                exact ⟨_, rfl, by omega, (par_be0 (fun j => (fFr_S fhB317 (by decide +kernel) j).trans (fup_other ehB304 741 j (Or.inl (by decide)))) g0z324 (by omega) (by omega)), (fun q => absurd q (by omega)), (p0_not0 (by omega) (by omega) (by omega) (by omega) (by omega) (hT_mk (fun j => fup_other ehB304 747 j (Or.inl (by decide))) (by omega)) g0z316 (hT_mk (fFr_at fhB317 747 (by decide +kernel) rfl) (by omega)) (by omega) (by omega) (fun j => (fFr_S fhB317 (by decide +kernel) j).trans (fup_other ehB304 741 j (Or.inl (by decide)))) (by omega) (by omega) (by omega) g2z324 (by omega) (by omega)), g3z324, (fun q => absurd q (by omega))⟩
        · intro c355
          refine And.intro ⟨rfl, by decide, by decide⟩ (fgetf fb_740_13 h0 hB0 ?_)
          intro z356 lz356 uz356 qz356
          refine Exists.intro xm_422 (And.intro mi_422 (And.intro ⟨rfl, rfl, rfl, rfl⟩ (And.intro True.intro ?_)))
          refine fcallp hB0 (ct_M_isName_49450 (fBz h0 hB0) (by first | exact ⟨ha1.1, ha1.2⟩ | omega) (by first | exact ⟨lz356, uz356⟩ | omega)) ?_
          rintro _ ⟨z357, rfl, hz357, g0z357⟩
          refine And.intro (by omega) (And.intro ?_ ?_)
          · intro c358
            refine Exists.intro xm_423 (And.intro mi_423 (And.intro ⟨rfl, rfl, rfl, rfl⟩ (And.intro rfl ?_)))
            refine fcallp hB0 (ct_M_isSign_90da9 (fBz h0 hB0) (by first | exact ⟨by decide, by decide⟩ | omega)) ?_
            rintro _ ⟨z359, rfl, hz359, g0z359⟩
            refine And.intro (by omega) (And.intro ?_ ?_)
            · intro c360
              refine Exists.intro xm_423 (And.intro mi_423 (And.intro ⟨rfl, rfl, rfl, rfl⟩ (And.intro rfl ?_)))
              refine fcallp hB0 (ct_M_isSign_90da9 (fBz h0 hB0) (by first | exact ⟨by decide, by decide⟩ | omega)) ?_
              rintro _ ⟨z361, rfl, hz361, g0z361⟩
              refine And.intro (by omega) (And.intro ?_ ?_)
              · intro c362
                refine And.intro (⟨by decide, by decide⟩) ?_
                exact ⟨_, rfl, by omega, sBe_refl, (fun q => absurd q (by omega)), (p0_no (by omega) (by first | exact (fun q => nm_0 g0z357 (by omega) (by rw [qz356]; exact q.2.2)) | exact (fun q => by have q1 := q.1; clear q; omega) | exact (fun q => by have q1 := q.2.1; clear q; omega)) (by first | exact (fun q => sgP_0 g0z359 (by omega) q.1 q.2.1) | exact (fun q => by have q3 := q.2.2; omega)) (by first | exact (fun q => sgP_0 g0z361 (by omega) q.1 q.2.1) | exact (fun q => by have q3 := q.2.2; omega)) (by omega)), hp5, (fun q => absurd q (by omega))⟩
              · intro c363
                have sg2 := sgP_1 g0z361 (by omega)
                refine And.intro ⟨rfl, by decide, by decide⟩ (fgetf fb_740_14 h0 hB0 ?_)
                intro z364 lz364 uz364 qz364
                refine And.intro (And.intro (by first | exact fi_ lz364 uz364 rfl | omega) (by first | exact ⟨by decide, by decide⟩ | omega)) (And.intro ?_ ?_)
                · intro c365
                  have d9 := dkI_3 hp5 (by omega)
                  refine And.intro ⟨rfl, by decide, by decide⟩ (fgetf fb_740_14 h0 hB0 ?_)
                  intro z366 lz366 uz366 qz366
                  refine And.intro ⟨rfl, by decide, by decide⟩ (And.intro rfl (And.intro (Or.inl rfl) (fputf fb_740_14 (by decide +kernel) hW (by omega) ?_)))
                  intro IhB367 ehB367 hB367
                  have t368 : IhB367 740 9 = I 740 9 := (congrFun (congrFun ehB367 740) 9).trans (fup_ne (by first | decide | omega))
                  have t369 : IhB367 740 10 = I 740 10 := (congrFun (congrFun ehB367 740) 10).trans (fup_ne (by first | decide | omega))
                  have t370 : IhB367 740 11 = I 740 11 := (congrFun (congrFun ehB367 740) 11).trans (fup_ne (by first | decide | omega))
                  have t371 : IhB367 740 12 = I 740 12 := (congrFun (congrFun ehB367 740) 12).trans (fup_ne (by first | decide | omega))
                  have t372 : IhB367 740 13 = I 740 13 := (congrFun (congrFun ehB367 740) 13).trans (fup_ne (by first | decide | omega))
                  have t373 := fup_at ehB367 14 (by first | rfl | omega)
                  have t374 : IhB367 740 15 = I 740 15 := (congrFun (congrFun ehB367 740) 15).trans (fup_ne (by first | decide | omega))
                  have t375 : IhB367 740 16 = I 740 16 := (congrFun (congrFun ehB367 740) 16).trans (fup_ne (by first | decide | omega))
                  have t376 : IhB367 740 18 = I 740 18 := (congrFun (congrFun ehB367 740) 18).trans (fup_ne (by first | decide | omega))
                  have k377 := fBz_eq hB367 (a := 740) (j := 8) (by decide +kernel)
                  have k378 := fBz_eq hB367 (a := 740) (j := 17) (by decide +kernel)
                  refine Exists.intro xm_314 (And.intro mi_314 (And.intro ⟨rfl, rfl, rfl, rfl⟩ (And.intro rfl ?_)))
                  refine fcall _ h0 (fzs_sub (by decide +kernel) hW) hB367 (ct_M_next_c8003 (fBz h0 hB367) (by omega)) ?_
                  rintro IhB380 _ hB380 fhB380 ⟨rfl, hz379, g0z379, g1z379⟩
                  have t381 := fhB380 740 14 (by decide +kernel)
                  have t382 := fhB380 740 15 (by decide +kernel)
                  have t383 := fhB380 740 16 (by decide +kernel)
                  have t384 := fhB380 740 18 (by decide +kernel)
                  have k385 := fBz_eq hB380 (a := 740) (j := 8) (by decide +kernel)
                  have k386 := fBz_eq hB380 (a := 740) (j := 17) (by decide +kernel)
                  refine Exists.intro gm0 (And.intro ge0 (And.intro ⟨rfl, gk0.1, gk0.2.1, gk0.2.2⟩ (And.intro rfl ?_)))
                  refine fcall _ h0 (fzs_sub (by decide +kernel) hW) hB380 (gc0 (fBz h0 hB380) (by first | exact ⟨ha1.1, ha1.2⟩ | omega) (by omega) (by omega) (by omega) (laP_cg hp3 (by omega)) (by omega) g1z379) ?_
                  rintro IhB388 _ hB388 fhB388 ⟨z387, rfl, hz387, g0z387, g1z387, g2z387, g3z387, g4z387⟩
                  have k389 := fBz_eq hB388 (a := 740) (j := 8) (by decide +kernel)
                  have k390 := fBz_eq hB388 (a := 740) (j := 17) (by decide +kernel)
                  refine And.intro (by omega) (And.intro ?_ ?_)
                  · intro c391
                    refine And.intro (⟨by decide, by decide⟩) ?_
                    exact ⟨_, rfl, by omega, (par_be0 (fun j => (fFr_S fhB380 (by decide +kernel) j).trans (fup_other ehB367 741 j (Or.inl (by decide)))) g0z387 (by omega) (by omega)), (fun q => absurd q (by omega)), (p0_bra0 (by omega) (by omega) (by omega) (by omega) (by omega) (hT_mk (fun j => fup_other ehB367 747 j (Or.inl (by decide))) (by omega)) g0z379 (hT_mk (fFr_at fhB380 747 (by decide +kernel) rfl) (by omega)) (by omega) (by omega) (fun j => (fFr_S fhB380 (by decide +kernel) j).trans (fup_other ehB367 741 j (Or.inl (by decide)))) (by omega) (by omega) (by omega) g2z387 (by first | exact Or.inl (by omega) | exact Or.inr ⟨by omega, fun q => sgP_0 g0z277 (by omega) q.1 q.2⟩) (hT_mk (fFr_at fhB388 747 (by decide +kernel) rfl) (by omega)) (by omega)), g3z387, (fun q => absurd q (by omega))⟩
                  · intro c392
                    have u2 := g4z387 (by omega)
                    refine Exists.intro xm_423 (And.intro mi_423 (And.intro ⟨rfl, rfl, rfl, rfl⟩ (And.intro rfl ?_)))
                    refine fcallp hB388 (ct_M_isSign_90da9 (fBz h0 hB388) (by first | exact ⟨by decide, by decide⟩ | omega)) ?_
                    rintro _ ⟨z393, rfl, hz393, g0z393⟩
                    refine And.intro (by omega) (And.intro ?_ ?_)
                    · intro c394
                      have sg3 := sgP_1 g0z393 (by omega)
                      have d8 := dkI_3 g3z387 (by omega)
                      refine And.intro ⟨rfl, by decide, by decide⟩ (fgetf fb_740_14 h0 hB388 ?_)
                      intro z395 lz395 uz395 qz395
                      refine And.intro ⟨rfl, by decide, by decide⟩ (And.intro rfl (And.intro (Or.inl rfl) (fputf fb_740_14 (by decide +kernel) hW (by omega) ?_)))
                      intro IhB396 ehB396 hB396
                      have t397 : IhB396 740 9 = IhB388 740 9 := (congrFun (congrFun ehB396 740) 9).trans (fup_ne (by first | decide | omega))
                      have t398 : IhB396 740 10 = IhB388 740 10 := (congrFun (congrFun ehB396 740) 10).trans (fup_ne (by first | decide | omega))
                      have t399 : IhB396 740 11 = IhB388 740 11 := (congrFun (congrFun ehB396 740) 11).trans (fup_ne (by first | decide | omega))
                      have t400 : IhB396 740 12 = IhB388 740 12 := (congrFun (congrFun ehB396 740) 12).trans (fup_ne (by first | decide | omega))
                      have t401 : IhB396 740 13 = IhB388 740 13 := (congrFun (congrFun ehB396 740) 13).trans (fup_ne (by first | decide | omega))
                      have t402 := fup_at ehB396 14 (by first | rfl | omega)
                      have t403 : IhB396 740 15 = IhB388 740 15 := (congrFun (congrFun ehB396 740) 15).trans (fup_ne (by first | decide | omega))
                      have t404 : IhB396 740 16 = IhB388 740 16 := (congrFun (congrFun ehB396 740) 16).trans (fup_ne (by first | decide | omega))
                      have t405 : IhB396 740 18 = IhB388 740 18 := (congrFun (congrFun ehB396 740) 18).trans (fup_ne (by first | decide | omega))
                      have k406 := fBz_eq hB396 (a := 740) (j := 8) (by decide +kernel)
                      have k407 := fBz_eq hB396 (a := 740) (j := 17) (by decide +kernel)
                      refine Exists.intro xm_314 (And.intro mi_314 (And.intro ⟨rfl, rfl, rfl, rfl⟩ (And.intro rfl ?_)))
                      refine fcall _ h0 (fzs_sub (by decide +kernel) hW) hB396 (ct_M_next_c8003 (fBz h0 hB396) (by omega)) ?_
                      rintro IhB409 _ hB409 fhB409 ⟨rfl, hz408, g0z408, g1z408⟩
                      have t410 := fhB409 740 14 (by decide +kernel)
                      have t411 := fhB409 740 15 (by decide +kernel)
                      have t412 := fhB409 740 16 (by decide +kernel)
                      have t413 := fhB409 740 18 (by decide +kernel)
                      have k414 := fBz_eq hB409 (a := 740) (j := 8) (by decide +kernel)
                      have k415 := fBz_eq hB409 (a := 740) (j := 17) (by decide +kernel)
                      refine And.intro (⟨by decide, by decide⟩) ?_
                      exact ⟨_, rfl, by omega, (par_par (M3 := IhB409 740 16) (by omega) (fun j => (fFr_S fhB380 (by decide +kernel) j).trans (fup_other ehB367 741 j (Or.inl (by decide)))) g0z387 (g1z387 (by omega)) (fun j => (fFr_S fhB409 (by decide +kernel) j).trans (fup_other ehB396 741 j (Or.inl (by decide)))) (by omega) (by omega) (by omega)).1, (fun _ => (par_par (M3 := IhB409 740 16) (by omega) (fun j => (fFr_S fhB380 (by decide +kernel) j).trans (fup_other ehB367 741 j (Or.inl (by decide)))) g0z387 (g1z387 (by omega)) (fun j => (fFr_S fhB409 (by decide +kernel) j).trans (fup_other ehB396 741 j (Or.inl (by decide)))) (by omega) (by omega) (by omega)).2), (p0_bra (by omega) (by omega) (by omega) (by omega) (by omega) (hT_mk (fun j => fup_other ehB367 747 j (Or.inl (by decide))) (by omega)) g0z379 (hT_mk (fFr_at fhB380 747 (by decide +kernel) rfl) (by omega)) (by omega) (by omega) (fun j => (fFr_S fhB380 (by decide +kernel) j).trans (fup_other ehB367 741 j (Or.inl (by decide)))) (by omega) (by omega) (by omega) g2z387 (by omega) (by omega) (by omega) (hT_mk (fFr_at fhB388 747 (by decide +kernel) rfl) (by omega)) (by omega) (by omega) (hT_mk (fun j => fup_other ehB396 747 j (Or.inl (by decide))) (by omega)) g0z408 (hT_mk (fFr_at fhB409 747 (by decide +kernel) rfl) (by omega)) (fun j => (fFr_S fhB409 (by decide +kernel) j).trans (fup_other ehB396 741 j (Or.inl (by decide)))) (by omega) (by omega) (by omega) (by omega)), g1z408, (fun _ => by omega)⟩
                    · intro c416
                      refine And.intro (⟨by decide, by decide⟩) ?_
                      exact ⟨_, rfl, by omega, (par_be0 (fun j => (fFr_S fhB380 (by decide +kernel) j).trans (fup_other ehB367 741 j (Or.inl (by decide)))) g0z387 (by omega) (by omega)), (fun q => absurd q (by omega)), (p0_bra0 (by omega) (by omega) (by omega) (by omega) (by omega) (hT_mk (fun j => fup_other ehB367 747 j (Or.inl (by decide))) (by omega)) g0z379 (hT_mk (fFr_at fhB380 747 (by decide +kernel) rfl) (by omega)) (by omega) (by omega) (fun j => (fFr_S fhB380 (by decide +kernel) j).trans (fup_other ehB367 741 j (Or.inl (by decide)))) (by omega) (by omega) (by omega) g2z387 (by first | exact Or.inl (by omega) | exact Or.inr ⟨by omega, fun q => sgP_0 g0z393 (by omega) q.1 q.2⟩) (hT_mk (fFr_at fhB388 747 (by decide +kernel) rfl) (by omega)) (by omega)), g3z387, (fun q => absurd q (by omega))⟩
                · intro c417
                  refine And.intro (⟨by decide, by decide⟩) ?_
                  exact ⟨_, rfl, by omega, sBe_refl, (fun q => absurd q (by omega)), (p0_no (by omega) (by first | exact (fun q => nm_0 g0z357 (by omega) (by rw [qz356]; exact q.2.2)) | exact (fun q => by have q1 := q.1; clear q; omega) | exact (fun q => by have q1 := q.2.1; clear q; omega)) (by first | exact (fun q => sgP_0 g0z359 (by omega) q.1 q.2.1) | exact (fun q => by have q3 := q.2.2; omega)) (by first | exact (fun q => sgP_0 g0z361 (by omega) q.1 q.2.1) | exact (fun q => by have q3 := q.2.2; omega)) (by omega)), hp5, (fun q => absurd q (by omega))⟩
            · intro c418
              have sg := sgP_1 g0z359 (by omega)
              refine And.intro ⟨rfl, by decide, by decide⟩ (fgetf fb_740_15 h0 hB0 ?_)
              intro z419 lz419 uz419 qz419
              refine And.intro (And.intro (by first | exact fi_ lz419 uz419 rfl | omega) (by first | exact ⟨by decide, by decide⟩ | omega)) (And.intro ?_ ?_)
              · intro c420
                refine Exists.intro xm_423 (And.intro mi_423 (And.intro ⟨rfl, rfl, rfl, rfl⟩ (And.intro rfl ?_)))
                refine fcallp hB0 (ct_M_isSign_90da9 (fBz h0 hB0) (by first | exact ⟨by decide, by decide⟩ | omega)) ?_
                rintro _ ⟨z421, rfl, hz421, g0z421⟩
                refine And.intro (by omega) (And.intro ?_ ?_)
                · intro c422
                  refine And.intro (⟨by decide, by decide⟩) ?_
                  exact ⟨_, rfl, by omega, sBe_refl, (fun q => absurd q (by omega)), (p0_no (by omega) (by first | exact (fun q => nm_0 g0z357 (by omega) (by rw [qz356]; exact q.2.2)) | exact (fun q => by have q1 := q.1; clear q; omega) | exact (fun q => by have q1 := q.2.1; clear q; omega)) (by first | exact (fun q => sgP_0 g0z359 (by omega) q.1 q.2.1) | exact (fun q => by have q3 := q.2.2; omega)) (by first | exact (fun q => sgP_0 g0z421 (by omega) q.1 q.2.1) | exact (fun q => by have q3 := q.2.2; omega)) (by omega)), hp5, (fun q => absurd q (by omega))⟩
                · intro c423
                  have sg2 := sgP_1 g0z421 (by omega)
                  refine And.intro ⟨rfl, by decide, by decide⟩ (fgetf fb_740_14 h0 hB0 ?_)
                  intro z424 lz424 uz424 qz424
                  refine And.intro (And.intro (by first | exact fi_ lz424 uz424 rfl | omega) (by first | exact ⟨by decide, by decide⟩ | omega)) (And.intro ?_ ?_)
                  · intro c425
                    have d9 := dkI_3 hp5 (by omega)
                    refine And.intro ⟨rfl, by decide, by decide⟩ (fgetf fb_740_14 h0 hB0 ?_)
                    intro z426 lz426 uz426 qz426
                    refine And.intro ⟨rfl, by decide, by decide⟩ (And.intro rfl (And.intro (Or.inl rfl) (fputf fb_740_14 (by decide +kernel) hW (by omega) ?_)))
                    intro IhB427 ehB427 hB427
                    have t428 : IhB427 740 9 = I 740 9 := (congrFun (congrFun ehB427 740) 9).trans (fup_ne (by first | decide | omega))
                    have t429 : IhB427 740 10 = I 740 10 := (congrFun (congrFun ehB427 740) 10).trans (fup_ne (by first | decide | omega))
                    have t430 : IhB427 740 11 = I 740 11 := (congrFun (congrFun ehB427 740) 11).trans (fup_ne (by first | decide | omega))
                    have t431 : IhB427 740 12 = I 740 12 := (congrFun (congrFun ehB427 740) 12).trans (fup_ne (by first | decide | omega))
                    have t432 : IhB427 740 13 = I 740 13 := (congrFun (congrFun ehB427 740) 13).trans (fup_ne (by first | decide | omega))
                    have t433 := fup_at ehB427 14 (by first | rfl | omega)
                    have t434 : IhB427 740 15 = I 740 15 := (congrFun (congrFun ehB427 740) 15).trans (fup_ne (by first | decide | omega))
                    have t435 : IhB427 740 16 = I 740 16 := (congrFun (congrFun ehB427 740) 16).trans (fup_ne (by first | decide | omega))
                    have t436 : IhB427 740 18 = I 740 18 := (congrFun (congrFun ehB427 740) 18).trans (fup_ne (by first | decide | omega))
                    have k437 := fBz_eq hB427 (a := 740) (j := 8) (by decide +kernel)
                    have k438 := fBz_eq hB427 (a := 740) (j := 17) (by decide +kernel)
                    refine Exists.intro xm_314 (And.intro mi_314 (And.intro ⟨rfl, rfl, rfl, rfl⟩ (And.intro rfl ?_)))
                    refine fcall _ h0 (fzs_sub (by decide +kernel) hW) hB427 (ct_M_next_c8003 (fBz h0 hB427) (by omega)) ?_
                    rintro IhB440 _ hB440 fhB440 ⟨rfl, hz439, g0z439, g1z439⟩
                    have t441 := fhB440 740 14 (by decide +kernel)
                    have t442 := fhB440 740 15 (by decide +kernel)
                    have t443 := fhB440 740 16 (by decide +kernel)
                    have t444 := fhB440 740 18 (by decide +kernel)
                    have k445 := fBz_eq hB440 (a := 740) (j := 8) (by decide +kernel)
                    have k446 := fBz_eq hB440 (a := 740) (j := 17) (by decide +kernel)
                    refine Exists.intro gm0 (And.intro ge0 (And.intro ⟨rfl, gk0.1, gk0.2.1, gk0.2.2⟩ (And.intro rfl ?_)))
                    refine fcall _ h0 (fzs_sub (by decide +kernel) hW) hB440 (gc0 (fBz h0 hB440) (by first | exact ⟨ha1.1, ha1.2⟩ | omega) (by omega) (by omega) (by omega) (laP_cg hp3 (by omega)) (by omega) g1z439) ?_
                    rintro IhB448 _ hB448 fhB448 ⟨z447, rfl, hz447, g0z447, g1z447, g2z447, g3z447, g4z447⟩
                    have k449 := fBz_eq hB448 (a := 740) (j := 8) (by decide +kernel)
                    have k450 := fBz_eq hB448 (a := 740) (j := 17) (by decide +kernel)
                    refine And.intro (by omega) (And.intro ?_ ?_)
                    · intro c451
                      refine And.intro (⟨by decide, by decide⟩) ?_
                      exact ⟨_, rfl, by omega, (par_be0 (fun j => (fFr_S fhB440 (by decide +kernel) j).trans (fup_other ehB427 741 j (Or.inl (by decide)))) g0z447 (by omega) (by omega)), (fun q => absurd q (by omega)), (p0_bra0 (by omega) (by omega) (by omega) (by omega) (by omega) (hT_mk (fun j => fup_other ehB427 747 j (Or.inl (by decide))) (by omega)) g0z439 (hT_mk (fFr_at fhB440 747 (by decide +kernel) rfl) (by omega)) (by omega) (by omega) (fun j => (fFr_S fhB440 (by decide +kernel) j).trans (fup_other ehB427 741 j (Or.inl (by decide)))) (by omega) (by omega) (by omega) g2z447 (by first | exact Or.inl (by omega) | exact Or.inr ⟨by omega, fun q => sgP_0 g0z393 (by omega) q.1 q.2⟩) (hT_mk (fFr_at fhB448 747 (by decide +kernel) rfl) (by omega)) (by omega)), g3z447, (fun q => absurd q (by omega))⟩
                    · intro c452
                      have u2 := g4z447 (by omega)
                      refine Exists.intro xm_423 (And.intro mi_423 (And.intro ⟨rfl, rfl, rfl, rfl⟩ (And.intro rfl ?_)))
                      refine fcallp hB448 (ct_M_isSign_90da9 (fBz h0 hB448) (by first | exact ⟨by decide, by decide⟩ | omega)) ?_
                      rintro _ ⟨z453, rfl, hz453, g0z453⟩
                      refine And.intro (by omega) (And.intro ?_ ?_)
                      · intro c454
                        have sg3 := sgP_1 g0z453 (by omega)
                        have d8 := dkI_3 g3z447 (by omega)
                        refine And.intro ⟨rfl, by decide, by decide⟩ (fgetf fb_740_14 h0 hB448 ?_)
                        intro z455 lz455 uz455 qz455
                        refine And.intro ⟨rfl, by decide, by decide⟩ (And.intro rfl (And.intro (Or.inl rfl) (fputf fb_740_14 (by decide +kernel) hW (by omega) ?_)))
                        intro IhB456 ehB456 hB456
                        have t457 : IhB456 740 9 = IhB448 740 9 := (congrFun (congrFun ehB456 740) 9).trans (fup_ne (by first | decide | omega))
                        have t458 : IhB456 740 10 = IhB448 740 10 := (congrFun (congrFun ehB456 740) 10).trans (fup_ne (by first | decide | omega))
                        have t459 : IhB456 740 11 = IhB448 740 11 := (congrFun (congrFun ehB456 740) 11).trans (fup_ne (by first | decide | omega))
                        have t460 : IhB456 740 12 = IhB448 740 12 := (congrFun (congrFun ehB456 740) 12).trans (fup_ne (by first | decide | omega))
                        have t461 : IhB456 740 13 = IhB448 740 13 := (congrFun (congrFun ehB456 740) 13).trans (fup_ne (by first | decide | omega))
                        have t462 := fup_at ehB456 14 (by first | rfl | omega)
                        have t463 : IhB456 740 15 = IhB448 740 15 := (congrFun (congrFun ehB456 740) 15).trans (fup_ne (by first | decide | omega))
                        have t464 : IhB456 740 16 = IhB448 740 16 := (congrFun (congrFun ehB456 740) 16).trans (fup_ne (by first | decide | omega))
                        have t465 : IhB456 740 18 = IhB448 740 18 := (congrFun (congrFun ehB456 740) 18).trans (fup_ne (by first | decide | omega))
                        have k466 := fBz_eq hB456 (a := 740) (j := 8) (by decide +kernel)
                        have k467 := fBz_eq hB456 (a := 740) (j := 17) (by decide +kernel)
                        refine Exists.intro xm_314 (And.intro mi_314 (And.intro ⟨rfl, rfl, rfl, rfl⟩ (And.intro rfl ?_)))
                        refine fcall _ h0 (fzs_sub (by decide +kernel) hW) hB456 (ct_M_next_c8003 (fBz h0 hB456) (by omega)) ?_
                        rintro IhB469 _ hB469 fhB469 ⟨rfl, hz468, g0z468, g1z468⟩
                        have t470 := fhB469 740 14 (by decide +kernel)
                        have t471 := fhB469 740 15 (by decide +kernel)
                        have t472 := fhB469 740 16 (by decide +kernel)
                        have t473 := fhB469 740 18 (by decide +kernel)
                        have k474 := fBz_eq hB469 (a := 740) (j := 8) (by decide +kernel)
                        have k475 := fBz_eq hB469 (a := 740) (j := 17) (by decide +kernel)
                        refine And.intro (⟨by decide, by decide⟩) ?_
                        exact ⟨_, rfl, by omega, (par_par (M3 := IhB469 740 16) (by omega) (fun j => (fFr_S fhB440 (by decide +kernel) j).trans (fup_other ehB427 741 j (Or.inl (by decide)))) g0z447 (g1z447 (by omega)) (fun j => (fFr_S fhB469 (by decide +kernel) j).trans (fup_other ehB456 741 j (Or.inl (by decide)))) (by omega) (by omega) (by omega)).1, (fun _ => (par_par (M3 := IhB469 740 16) (by omega) (fun j => (fFr_S fhB440 (by decide +kernel) j).trans (fup_other ehB427 741 j (Or.inl (by decide)))) g0z447 (g1z447 (by omega)) (fun j => (fFr_S fhB469 (by decide +kernel) j).trans (fup_other ehB456 741 j (Or.inl (by decide)))) (by omega) (by omega) (by omega)).2), (p0_bra (by omega) (by omega) (by omega) (by omega) (by omega) (hT_mk (fun j => fup_other ehB427 747 j (Or.inl (by decide))) (by omega)) g0z439 (hT_mk (fFr_at fhB440 747 (by decide +kernel) rfl) (by omega)) (by omega) (by omega) (fun j => (fFr_S fhB440 (by decide +kernel) j).trans (fup_other ehB427 741 j (Or.inl (by decide)))) (by omega) (by omega) (by omega) g2z447 (by omega) (by omega) (by omega) (hT_mk (fFr_at fhB448 747 (by decide +kernel) rfl) (by omega)) (by omega) (by omega) (hT_mk (fun j => fup_other ehB456 747 j (Or.inl (by decide))) (by omega)) g0z468 (hT_mk (fFr_at fhB469 747 (by decide +kernel) rfl) (by omega)) (fun j => (fFr_S fhB469 (by decide +kernel) j).trans (fup_other ehB456 741 j (Or.inl (by decide)))) (by omega) (by omega) (by omega) (by omega)), g1z468, (fun _ => by omega)⟩
                      · intro c476
                        refine And.intro (⟨by decide, by decide⟩) ?_
                        exact ⟨_, rfl, by omega, (par_be0 (fun j => (fFr_S fhB440 (by decide +kernel) j).trans (fup_other ehB427 741 j (Or.inl (by decide)))) g0z447 (by omega) (by omega)), (fun q => absurd q (by omega)), (p0_bra0 (by omega) (by omega) (by omega) (by omega) (by omega) (hT_mk (fun j => fup_other ehB427 747 j (Or.inl (by decide))) (by omega)) g0z439 (hT_mk (fFr_at fhB440 747 (by decide +kernel) rfl) (by omega)) (by omega) (by omega) (fun j => (fFr_S fhB440 (by decide +kernel) j).trans (fup_other ehB427 741 j (Or.inl (by decide)))) (by omega) (by omega) (by omega) g2z447 (by first | exact Or.inl (by omega) | exact Or.inr ⟨by omega, fun q => sgP_0 g0z453 (by omega) q.1 q.2⟩) (hT_mk (fFr_at fhB448 747 (by decide +kernel) rfl) (by omega)) (by omega)), g3z447, (fun q => absurd q (by omega))⟩
                  · intro c477
                    refine And.intro (⟨by decide, by decide⟩) ?_
                    exact ⟨_, rfl, by omega, sBe_refl, (fun q => absurd q (by omega)), (p0_no (by omega) (by first | exact (fun q => nm_0 g0z357 (by omega) (by rw [qz356]; exact q.2.2)) | exact (fun q => by have q1 := q.1; clear q; omega) | exact (fun q => by have q1 := q.2.1; clear q; omega)) (by first | exact (fun q => sgP_0 g0z359 (by omega) q.1 q.2.1) | exact (fun q => by have q3 := q.2.2; omega)) (by first | exact (fun q => sgP_0 g0z421 (by omega) q.1 q.2.1) | exact (fun q => by have q3 := q.2.2; omega)) (by omega)), hp5, (fun q => absurd q (by omega))⟩
              · intro c478
                have d9 := dkI_3 hp5 (by omega)
                refine And.intro ⟨rfl, by decide, by decide⟩ (fgetf fb_740_15 h0 hB0 ?_)
                intro z479 lz479 uz479 qz479
                refine And.intro ⟨rfl, by decide, by decide⟩ (And.intro rfl (And.intro (Or.inl rfl) (fputf fb_740_15 (by decide +kernel) hW (by omega) ?_)))
                intro IhB480 ehB480 hB480
                have t481 : IhB480 740 9 = I 740 9 := (congrFun (congrFun ehB480 740) 9).trans (fup_ne (by first | decide | omega))
                have t482 : IhB480 740 10 = I 740 10 := (congrFun (congrFun ehB480 740) 10).trans (fup_ne (by first | decide | omega))
                have t483 : IhB480 740 11 = I 740 11 := (congrFun (congrFun ehB480 740) 11).trans (fup_ne (by first | decide | omega))
                have t484 : IhB480 740 12 = I 740 12 := (congrFun (congrFun ehB480 740) 12).trans (fup_ne (by first | decide | omega))
                have t485 : IhB480 740 13 = I 740 13 := (congrFun (congrFun ehB480 740) 13).trans (fup_ne (by first | decide | omega))
                have t486 : IhB480 740 14 = I 740 14 := (congrFun (congrFun ehB480 740) 14).trans (fup_ne (by first | decide | omega))
                have t487 := fup_at ehB480 15 (by first | rfl | omega)
                have t488 : IhB480 740 16 = I 740 16 := (congrFun (congrFun ehB480 740) 16).trans (fup_ne (by first | decide | omega))
                have t489 : IhB480 740 18 = I 740 18 := (congrFun (congrFun ehB480 740) 18).trans (fup_ne (by first | decide | omega))
                have k490 := fBz_eq hB480 (a := 740) (j := 8) (by decide +kernel)
                have k491 := fBz_eq hB480 (a := 740) (j := 17) (by decide +kernel)
                refine Exists.intro xm_314 (And.intro mi_314 (And.intro ⟨rfl, rfl, rfl, rfl⟩ (And.intro rfl ?_)))
                refine fcall _ h0 (fzs_sub (by decide +kernel) hW) hB480 (ct_M_next_c8003 (fBz h0 hB480) (by omega)) ?_
                rintro IhB493 _ hB493 fhB493 ⟨rfl, hz492, g0z492, g1z492⟩
                have t494 := fhB493 740 14 (by decide +kernel)
                have t495 := fhB493 740 15 (by decide +kernel)
                have t496 := fhB493 740 16 (by decide +kernel)
                have t497 := fhB493 740 18 (by decide +kernel)
                have k498 := fBz_eq hB493 (a := 740) (j := 8) (by decide +kernel)
                have k499 := fBz_eq hB493 (a := 740) (j := 17) (by decide +kernel)
                refine Exists.intro gm1 (And.intro ge1 (And.intro ⟨rfl, gk1.1, gk1.2.1, gk1.2.2⟩ (And.intro rfl ?_)))
                refine fcall _ h0 (fzs_sub (by decide +kernel) hW) hB493 (gc1 (fBz h0 hB493) (by first | exact ⟨ha1.1, ha1.2⟩ | omega) (by omega) (by omega) (by omega) (laP_cg hp3 (by omega)) (by omega) g1z492) ?_
                rintro IhB501 _ hB501 fhB501 ⟨z500, rfl, hz500, g0z500, g1z500, g2z500, g3z500, g4z500⟩
                have k502 := fBz_eq hB501 (a := 740) (j := 8) (by decide +kernel)
                have k503 := fBz_eq hB501 (a := 740) (j := 17) (by decide +kernel)
                refine And.intro (by omega) (And.intro ?_ ?_)
                · intro c504
                  have u2 := g4z500 (by omega)
                  refine And.intro ⟨rfl, by decide, by decide⟩ (fgetf fb_740_15 h0 hB501 ?_)
                  intro z505 lz505 uz505 qz505
                  refine And.intro ⟨rfl, by decide, by decide⟩ (And.intro rfl (And.intro (Or.inl rfl) (fputf fb_740_15 (by decide +kernel) hW (by omega) ?_)))
                  intro IhB506 ehB506 hB506
                  have t507 : IhB506 740 9 = IhB501 740 9 := (congrFun (congrFun ehB506 740) 9).trans (fup_ne (by first | decide | omega))
                  have t508 : IhB506 740 10 = IhB501 740 10 := (congrFun (congrFun ehB506 740) 10).trans (fup_ne (by first | decide | omega))
                  have t509 : IhB506 740 11 = IhB501 740 11 := (congrFun (congrFun ehB506 740) 11).trans (fup_ne (by first | decide | omega))
                  have t510 : IhB506 740 12 = IhB501 740 12 := (congrFun (congrFun ehB506 740) 12).trans (fup_ne (by first | decide | omega))
                  have t511 : IhB506 740 13 = IhB501 740 13 := (congrFun (congrFun ehB506 740) 13).trans (fup_ne (by first | decide | omega))
                  have t512 : IhB506 740 14 = IhB501 740 14 := (congrFun (congrFun ehB506 740) 14).trans (fup_ne (by first | decide | omega))
                  have t513 := fup_at ehB506 15 (by first | rfl | omega)
                  have t514 : IhB506 740 16 = IhB501 740 16 := (congrFun (congrFun ehB506 740) 16).trans (fup_ne (by first | decide | omega))
                  have t515 : IhB506 740 18 = IhB501 740 18 := (congrFun (congrFun ehB506 740) 18).trans (fup_ne (by first | decide | omega))
                  have k516 := fBz_eq hB506 (a := 740) (j := 8) (by decide +kernel)
                  have k517 := fBz_eq hB506 (a := 740) (j := 17) (by decide +kernel)
                  refine Exists.intro xm_421 (And.intro mi_421 (And.intro ⟨rfl, rfl, rfl, rfl⟩ (And.intro rfl ?_)))
                  refine fcall _ h0 (fzs_sub (by decide +kernel) hW) hB506 (ct_M_step_2c704 (fBz h0 hB506) (by first | exact ⟨by decide, by decide⟩ | omega) (by first | exact ⟨by decide, by decide⟩ | omega) (by omega) (laP_cg hp3 (by omega))) ?_
                  rintro IhB519 _ hB519 fhB519 ⟨rfl, hz518, g0z518⟩
                  have t520 := fhB519 740 9 (by decide +kernel)
                  have t521 := fhB519 740 10 (by decide +kernel)
                  have t522 := fhB519 740 11 (by decide +kernel)
                  have t523 := fhB519 740 12 (by decide +kernel)
                  have t524 := fhB519 740 13 (by decide +kernel)
                  have t525 := fhB519 740 14 (by decide +kernel)
                  have t526 := fhB519 740 15 (by decide +kernel)
                  have t527 := fhB519 740 18 (by decide +kernel)
                  have k528 := fBz_eq hB519 (a := 740) (j := 8) (by decide +kernel)
                  have k529 := fBz_eq hB519 (a := 740) (j := 17) (by decide +kernel)
                  refine And.intro (⟨by decide, by decide⟩) ?_
                  exact ⟨_, rfl, by omega, (par_not (M3 := IhB519 740 16) (by omega) (fun j => (fFr_S fhB493 (by decide +kernel) j).trans (fup_other ehB480 741 j (Or.inl (by decide)))) g0z500 (g1z500 (by omega)) (fun j => fup_other ehB506 741 j (Or.inl (by decide))) g0z518 (by omega) (by omega) (by omega) (by omega) (by omega) (by omega)).1, (fun _ => (par_not (M3 := IhB519 740 16) (by omega) (fun j => (fFr_S fhB493 (by decide +kernel) j).trans (fup_other ehB480 741 j (Or.inl (by decide)))) g0z500 (g1z500 (by omega)) (fun j => fup_other ehB506 741 j (Or.inl (by decide))) g0z518 (by omega) (by omega) (by omega) (by omega) (by omega) (by omega)).2), (p0_not (by omega) (by omega) (by omega) (by omega) (by omega) (hT_mk (fun j => fup_other ehB480 747 j (Or.inl (by decide))) (by omega)) g0z492 (hT_mk (fFr_at fhB493 747 (by decide +kernel) rfl) (by omega)) (by omega) (by omega) (fun j => (fFr_S fhB493 (by decide +kernel) j).trans (fup_other ehB480 741 j (Or.inl (by decide)))) (by omega) (by omega) (by omega) g2z500 (by omega) (fun j => fup_other ehB506 741 j (Or.inl (by decide))) (by omega) (by omega) g0z518 (by omega) (by omega) (by omega) (by omega) (by omega) (by omega) (by omega) (by omega) (by omega) (hT_mk (fun j => (fFr_at fhB519 747 (by decide +kernel) rfl j).trans (fup_other ehB506 747 j (Or.inl (by decide)))) (by omega)) (by omega)), (dkI_cg g3z500 (by omega) (by omega) (by omega)), (fun _ => by omega)⟩
                · intro c530
                  refine And.intro (⟨by decide, by decide⟩) ?_
                  exact ⟨_, rfl, by omega, (par_be0 (fun j => (fFr_S fhB493 (by decide +kernel) j).trans (fup_other ehB480 741 j (Or.inl (by decide)))) g0z500 (by omega) (by omega)), (fun q => absurd q (by omega)), (p0_not0 (by omega) (by omega) (by omega) (by omega) (by omega) (hT_mk (fun j => fup_other ehB480 747 j (Or.inl (by decide))) (by omega)) g0z492 (hT_mk (fFr_at fhB493 747 (by decide +kernel) rfl) (by omega)) (by omega) (by omega) (fun j => (fFr_S fhB493 (by decide +kernel) j).trans (fup_other ehB480 741 j (Or.inl (by decide)))) (by omega) (by omega) (by omega) g2z500 (by omega) (by omega)), g3z500, (fun q => absurd q (by omega))⟩
          · intro c531
            refine And.intro ⟨rfl, by decide, by decide⟩ (fgetf fb_740_13 h0 hB0 ?_)
            intro z532 lz532 uz532 qz532
            refine Exists.intro xm_421 (And.intro mi_421 (And.intro ⟨rfl, rfl, rfl, rfl⟩ (And.intro rfl ?_)))
            refine fcall _ h0 (fzs_sub (by decide +kernel) hW) hB0 (ct_M_step_2c704 (fBz h0 hB0) (by first | exact ⟨by decide, by decide⟩ | omega) (by first | exact ⟨lz532, uz532⟩ | omega) (by omega) (laP_cg hp3 (by omega))) ?_
            rintro IhB534 _ hB534 fhB534 ⟨rfl, hz533, g0z533⟩
            have t535 := fhB534 740 9 (by decide +kernel)
            have t536 := fhB534 740 10 (by decide +kernel)
            have t537 := fhB534 740 11 (by decide +kernel)
            have t538 := fhB534 740 12 (by decide +kernel)
            have t539 := fhB534 740 13 (by decide +kernel)
            have t540 := fhB534 740 14 (by decide +kernel)
            have t541 := fhB534 740 15 (by decide +kernel)
            have t542 := fhB534 740 18 (by decide +kernel)
            have k543 := fBz_eq hB534 (a := 740) (j := 8) (by decide +kernel)
            have k544 := fBz_eq hB534 (a := 740) (j := 17) (by decide +kernel)
            refine And.intro ⟨rfl, by decide, by decide⟩ (fgetf fb_740_18 h0 hB534 ?_)
            intro z545 lz545 uz545 qz545
            intro z546 hz546 ez546 bz546
            clear ez546
            try replace bz546 := bz546 (by omega)
            refine And.intro ⟨rfl, by decide, by decide⟩ (And.intro rfl (And.intro (Or.inl rfl) (fputf fb_740_18 (by decide +kernel) hW (by omega) ?_)))
            intro IhB547 ehB547 hB547
            have t548 : IhB547 740 9 = IhB534 740 9 := (congrFun (congrFun ehB547 740) 9).trans (fup_ne (by first | decide | omega))
            have t549 : IhB547 740 10 = IhB534 740 10 := (congrFun (congrFun ehB547 740) 10).trans (fup_ne (by first | decide | omega))
            have t550 : IhB547 740 11 = IhB534 740 11 := (congrFun (congrFun ehB547 740) 11).trans (fup_ne (by first | decide | omega))
            have t551 : IhB547 740 12 = IhB534 740 12 := (congrFun (congrFun ehB547 740) 12).trans (fup_ne (by first | decide | omega))
            have t552 : IhB547 740 13 = IhB534 740 13 := (congrFun (congrFun ehB547 740) 13).trans (fup_ne (by first | decide | omega))
            have t553 : IhB547 740 14 = IhB534 740 14 := (congrFun (congrFun ehB547 740) 14).trans (fup_ne (by first | decide | omega))
            have t554 : IhB547 740 15 = IhB534 740 15 := (congrFun (congrFun ehB547 740) 15).trans (fup_ne (by first | decide | omega))
            have t555 : IhB547 740 16 = IhB534 740 16 := (congrFun (congrFun ehB547 740) 16).trans (fup_ne (by first | decide | omega))
            have t556 := fup_at ehB547 18 (by first | rfl | omega)
            have k557 := fBz_eq hB547 (a := 740) (j := 8) (by decide +kernel)
            have k558 := fBz_eq hB547 (a := 740) (j := 17) (by decide +kernel)
            refine Exists.intro xm_314 (And.intro mi_314 (And.intro ⟨rfl, rfl, rfl, rfl⟩ (And.intro rfl ?_)))
            refine fcall _ h0 (fzs_sub (by decide +kernel) hW) hB547 (ct_M_next_c8003 (fBz h0 hB547) (by omega)) ?_
            rintro IhB560 _ hB560 fhB560 ⟨rfl, hz559, g0z559, g1z559⟩
            have t561 := fhB560 740 14 (by decide +kernel)
            have t562 := fhB560 740 15 (by decide +kernel)
            have t563 := fhB560 740 16 (by decide +kernel)
            have t564 := fhB560 740 18 (by decide +kernel)
            have k565 := fBz_eq hB560 (a := 740) (j := 8) (by decide +kernel)
            have k566 := fBz_eq hB560 (a := 740) (j := 17) (by decide +kernel)
            refine And.intro (⟨by decide, by decide⟩) ?_
            exact ⟨_, rfl, by omega, (par_leaf (M := IhB560 740 16) (by omega) (by omega) g0z533 (fun j => (fFr_S fhB560 (by decide +kernel) j).trans (fup_other ehB547 741 j (Or.inl (by decide)))) (by omega) (by omega)).1, (fun _ => (par_leaf (M := IhB560 740 16) (by omega) (by omega) g0z533 (fun j => (fFr_S fhB560 (by decide +kernel) j).trans (fup_other ehB547 741 j (Or.inl (by decide)))) (by omega) (by omega)).2), (p0_leaf (Or.inr ⟨by omega, by omega, (by have w := nm_1 g0z357 (by omega); rw [← qz356]; exact w), by omega, by omega⟩) g0z533 (by omega) (by omega) (by omega) (by omega) (hT_mk (fun j => (fup_other ehB547 747 j (Or.inl (by decide))).trans (fFr_at fhB534 747 (by decide +kernel) rfl j)) (by omega)) (by omega) g0z559 (fun j => (fFr_S fhB560 (by decide +kernel) j).trans (fup_other ehB547 741 j (Or.inl (by decide)))) (by omega) (by omega) (hT_mk (fFr_at fhB560 747 (by decide +kernel) rfl) (by omega)) (by omega) (by omega)), g1z559, (fun _ => by omega)⟩
    · intro c567
      have d9 := dkI_3 hp5 (by omega)
      refine And.intro ⟨rfl, by decide, by decide⟩ (fgetf fb_740_12 h0 hB0 ?_)
      intro z568 lz568 uz568 qz568
      refine Exists.intro xm_421 (And.intro mi_421 (And.intro ⟨rfl, rfl, rfl, rfl⟩ (And.intro rfl ?_)))
      refine fcall _ h0 (fzs_sub (by decide +kernel) hW) hB0 (ct_M_step_2c704 (fBz h0 hB0) (by first | exact ⟨by decide, by decide⟩ | omega) (by first | exact ⟨lz568, uz568⟩ | omega) (by omega) (laP_cg hp3 (by omega))) ?_
      rintro IhB570 _ hB570 fhB570 ⟨rfl, hz569, g0z569⟩
      have t571 := fhB570 740 9 (by decide +kernel)
      have t572 := fhB570 740 10 (by decide +kernel)
      have t573 := fhB570 740 11 (by decide +kernel)
      have t574 := fhB570 740 12 (by decide +kernel)
      have t575 := fhB570 740 13 (by decide +kernel)
      have t576 := fhB570 740 14 (by decide +kernel)
      have t577 := fhB570 740 15 (by decide +kernel)
      have t578 := fhB570 740 18 (by decide +kernel)
      have k579 := fBz_eq hB570 (a := 740) (j := 8) (by decide +kernel)
      have k580 := fBz_eq hB570 (a := 740) (j := 17) (by decide +kernel)
      refine And.intro ⟨rfl, by decide, by decide⟩ (fgetf fb_740_18 h0 hB570 ?_)
      intro z581 lz581 uz581 qz581
      intro z582 hz582 ez582 bz582
      clear ez582
      try replace bz582 := bz582 (by omega)
      refine And.intro ⟨rfl, by decide, by decide⟩ (And.intro rfl (And.intro (Or.inl rfl) (fputf fb_740_18 (by decide +kernel) hW (by omega) ?_)))
      intro IhB583 ehB583 hB583
      have t584 : IhB583 740 9 = IhB570 740 9 := (congrFun (congrFun ehB583 740) 9).trans (fup_ne (by first | decide | omega))
      have t585 : IhB583 740 10 = IhB570 740 10 := (congrFun (congrFun ehB583 740) 10).trans (fup_ne (by first | decide | omega))
      have t586 : IhB583 740 11 = IhB570 740 11 := (congrFun (congrFun ehB583 740) 11).trans (fup_ne (by first | decide | omega))
      have t587 : IhB583 740 12 = IhB570 740 12 := (congrFun (congrFun ehB583 740) 12).trans (fup_ne (by first | decide | omega))
      have t588 : IhB583 740 13 = IhB570 740 13 := (congrFun (congrFun ehB583 740) 13).trans (fup_ne (by first | decide | omega))
      have t589 : IhB583 740 14 = IhB570 740 14 := (congrFun (congrFun ehB583 740) 14).trans (fup_ne (by first | decide | omega))
      have t590 : IhB583 740 15 = IhB570 740 15 := (congrFun (congrFun ehB583 740) 15).trans (fup_ne (by first | decide | omega))
      have t591 : IhB583 740 16 = IhB570 740 16 := (congrFun (congrFun ehB583 740) 16).trans (fup_ne (by first | decide | omega))
      have t592 := fup_at ehB583 18 (by first | rfl | omega)
      have k593 := fBz_eq hB583 (a := 740) (j := 8) (by decide +kernel)
      have k594 := fBz_eq hB583 (a := 740) (j := 17) (by decide +kernel)
      refine Exists.intro xm_314 (And.intro mi_314 (And.intro ⟨rfl, rfl, rfl, rfl⟩ (And.intro rfl ?_)))
      refine fcall _ h0 (fzs_sub (by decide +kernel) hW) hB583 (ct_M_next_c8003 (fBz h0 hB583) (by omega)) ?_
      rintro IhB596 _ hB596 fhB596 ⟨rfl, hz595, g0z595, g1z595⟩
      have t597 := fhB596 740 14 (by decide +kernel)
      have t598 := fhB596 740 15 (by decide +kernel)
      have t599 := fhB596 740 16 (by decide +kernel)
      have t600 := fhB596 740 18 (by decide +kernel)
      have k601 := fBz_eq hB596 (a := 740) (j := 8) (by decide +kernel)
      have k602 := fBz_eq hB596 (a := 740) (j := 17) (by decide +kernel)
      refine And.intro (⟨by decide, by decide⟩) ?_
      exact ⟨_, rfl, by omega, (par_leaf (M := IhB596 740 16) (by omega) (by omega) g0z569 (fun j => (fFr_S fhB596 (by decide +kernel) j).trans (fup_other ehB583 741 j (Or.inl (by decide)))) (by omega) (by omega)).1, (fun _ => (par_leaf (M := IhB596 740 16) (by omega) (by omega) g0z569 (fun j => (fFr_S fhB596 (by decide +kernel) j).trans (fup_other ehB583 741 j (Or.inl (by decide)))) (by omega) (by omega)).2), (p0_leaf (Or.inl ⟨by omega, by omega, by omega⟩) g0z569 (by omega) (by omega) (by omega) (by omega) (hT_mk (fun j => (fup_other ehB583 747 j (Or.inl (by decide))).trans (fFr_at fhB570 747 (by decide +kernel) rfl j)) (by omega)) (by omega) g0z595 (fun j => (fFr_S fhB596 (by decide +kernel) j).trans (fup_other ehB583 741 j (Or.inl (by decide)))) (by omega) (by omega) (hT_mk (fFr_at fhB596 747 (by decide +kernel) rfl) (by omega)) (by omega) (by omega)), g1z595, (fun _ => by omega)⟩
theorem ct_M_part0_18b69 {I : fH} {x1 : Int} (h0 : fB bsJ I) (ha1 : ((-1) ≤ x1 ∧ x1 ≤ 5)) (hp0 : I 740 9 ≤ I 740 10 ∧ I 740 10 ≤ I 740 8) (hp1 : 0 ≤ I 740 16 ∧ I 740 16 ≤ I 740 9) (hp2 : 15 ≤ I 740 14 + I 740 15) (hp3 : laP (I 740 17)) (hp4 : 0 ≤ I 740 18 ∧ I 740 18 ≤ I 740 9) (hp5 : dkI I) : fC ρ base n F xTc vwCl xTys D dA la gJ (fbz bsJ znJ (fKc wz_2212a) I) xm_405 [.inr (.inr (some 740)), .inl x1] I (fun I' r => ∃ z, r = some (.inl z) ∧ ((0 ≤ z ∧ z ≤ 1) ∧ (I 740 9 ≤ I' 740 9 ∧ I' 740 9 ≤ I' 740 10 ∧ I' 740 10 ≤ I' 740 8)) ∧ (sBe I I' (I 740 17) (I 740 16)) ∧ (rd1 I I' z) ∧ (pP 6 7 x1 I I' z) ∧ (dkI I') ∧ (rdU I I' z)) := cg_M_part0 (d := 15) mi_319 ⟨rfl, rfl, rfl⟩ (fun h0 ha1 hp0 hp1 hp2 hp3 hp4 hp5 => ct_M_either_f12bf h0 ha1 hp0 hp1 (by omega) hp3 hp4 hp5) mi_404 ⟨rfl, rfl, rfl⟩ (fun h0 ha1 hp0 hp1 hp2 hp3 hp4 hp5 => ct_M_part0_cc4b8 h0 ha1 hp0 hp1 (by omega) hp3 hp4 hp5) xin_405 x6_405 h0 ha1 hp0 hp1 hp2 hp3 hp4 hp5
abbrev jc_M_term_50689_10 (x1 : Int) (I0 : fH) : Nat → fL → List fV → fH → Prop := fun m lv st I => ∃ (y1 : Int), lv = [(0, .inr (.inr (some 740))), (1, .inl y1)] ∧ st = [] ∧ ((((-1) ≤ y1 ∧ y1 ≤ 5) ∧ (I0 740 9 ≤ I 740 9) ∧ (I 740 9 ≤ I 740 10) ∧ (I 740 10 ≤ I 740 8) ∧ (I0 740 16 ≤ I 740 16) ∧ (I 740 16 - I0 740 16 ≤ I 740 9 - I0 740 9) ∧ (I 740 14 = I0 740 14) ∧ (I 740 15 = I0 740 15) ∧ (I0 740 18 ≤ I 740 18) ∧ (I 740 18 - I0 740 18 ≤ I 740 9 - I0 740 9) ∧ (y1 = x1)) ∧ (sBe I0 I (I0 740 17) (I0 740 16)) ∧ (sOne I (I0 740 17) (I0 740 16) (I 740 16)) ∧ (pJ 5 6 x1 I0 I) ∧ (dkI I)) ∧ m = (1 + 1 * (96 - I 740 9) : Int).toNat
noncomputable abbrev gM_term (gn0 : Nat) (rm : Room) : xM := (⟨"AcidCityModel", "term", "(I)Z"⟩, prog_14_method_83_code, 3, (some .boolean), [(0, 3, 0, 1, []), (1, 3, 1, 0, []), (2, 33, 2, gn0, [13, 1, 17641, 0, 17643, 6158, 17644, 9230]), (5, 20, 1, 10, []), (8, 0, 0, 0, []), (9, 35, 3, 0, []), (10, 3, 0, 1, []), (11, 0, 42, 0, []), (13, 33, 2, 423, [13, 1, 18436, 0, 18438, 7168, 18439, 9230]), (16, 20, 1, 28, []), (19, 3, 0, 1, []), (20, 0, 47, 0, []), (22, 33, 2, 423, [13, 1, 18436, 0, 18438, 7168, 18439, 9230]), (25, 20, 0, 56, []), (28, 3, 0, 1, []), (29, 25, 12, 13, [15589]), (32, 4, 2, 0, []), (33, 3, 0, 1, []), (34, 33, 1, 314, [13, 1, 17597, 0, 17599, 6148, 17600, 9230]), (37, 3, 0, 1, []), (38, 3, 1, 0, []), (39, 33, 2, gn0, [13, 1, 17641, 0, 17643, 6158, 17644, 9230]), (42, 20, 1, 47, []), (45, 0, 0, 0, []), (46, 35, 3, 0, []), (47, 3, 0, 1, []), (48, 0, 2, 0, []), (49, 3, 2, 0, []), (50, 33, 3, 421, [13, 1, 17645, 0, 17647, 6159, 18432, 9230]), (53, 22, 0, 10, []), (56, 0, 1, 0, []), (57, 35, 3, 0, [])], rm)
set_option maxRecDepth 8000 in
theorem cg_M_term {d : Int} {rm : Room} {gm0 : xM} {gn0 : Nat} (ge0 : xMs[gn0]? = some gm0) (gk0 : Nat.ble 2 gm0.2.2.1 = true ∧ (xR gm0).cells = 0 ∧ (xR gm0).slots = 0) (gc0 : ∀ {I : fH} {x1 : Int} (h0 : fB bsJ I) (ha1 : ((-1) ≤ x1 ∧ x1 ≤ 5)) (hp0 : I 740 9 ≤ I 740 10 ∧ I 740 10 ≤ I 740 8) (hp1 : 0 ≤ I 740 16 ∧ I 740 16 ≤ I 740 9) (hp2 : d ≤ I 740 14 + I 740 15) (hp3 : laP (I 740 17)) (hp4 : 0 ≤ I 740 18 ∧ I 740 18 ≤ I 740 9) (hp5 : dkI I), fC ρ base n F xTc vwCl xTys D dA la gJ (fbz bsJ znJ (fKc wz_2212a) I) gm0 [.inr (.inr (some 740)), .inl x1] I (fun I' r => ∃ z, r = some (.inl z) ∧ ((0 ≤ z ∧ z ≤ 1) ∧ (I 740 9 ≤ I' 740 9 ∧ I' 740 9 ≤ I' 740 10 ∧ I' 740 10 ≤ I' 740 8)) ∧ (sBe I I' (I 740 17) (I 740 16)) ∧ (rd1 I I' z) ∧ (pP 6 7 x1 I I' z) ∧ (dkI I') ∧ (rdU I I' z))) (hin : (gM_term gn0 rm) ∈ xMs) (hx6 : f60c xTc xTys (gM_term gn0 rm) = true) {I : fH} {x1 : Int} (h0 : fB bsJ I) (ha1 : ((-1) ≤ x1 ∧ x1 ≤ 5)) (hp0 : I 740 9 ≤ I 740 10 ∧ I 740 10 ≤ I 740 8) (hp1 : 0 ≤ I 740 16 ∧ I 740 16 ≤ I 740 9) (hp2 : d ≤ I 740 14 + I 740 15) (hp3 : laP (I 740 17)) (hp4 : 0 ≤ I 740 18 ∧ I 740 18 ≤ I 740 9) (hp5 : dkI I) : fC ρ base n F xTc vwCl xTys D dA la gJ (fbz bsJ znJ (fKc wz_2212a) I) (gM_term gn0 rm) [.inr (.inr (some 740)), .inl x1] I (fun I' r => ∃ z, r = some (.inl z) ∧ ((0 ≤ z ∧ z ≤ 1) ∧ (I 740 9 ≤ I' 740 9 ∧ I' 740 9 ≤ I' 740 10 ∧ I' 740 10 ≤ I' 740 8)) ∧ (sBe I I' (I 740 17) (I 740 16)) ∧ (rd1 I I' z) ∧ (pP 5 5 x1 I I' z) ∧ (dkI I') ∧ (rdU I I' z)) := by
  have hW : fzs wz_2212a (fKc wz_2212a) := fKc_ok _
  refine f_meth (rb := rbJ) (J := [(10, (jc_M_term_50689_10 x1 I))]) 98 400 xG hin hx6 okJ (fB_self h0) ?_ ?_
  · refine List.forall_mem_cons.mpr ⟨?_, fun q h => absurd h List.not_mem_nil⟩
    · rintro m _ _ I1 hB1 ⟨y1, rfl, rfl, ⟨hb, hx0, hx1, hx2, hx3⟩, hm⟩
      have k1 := fBz_eq hB1 (a := 740) (j := 8) (by decide +kernel)
      have k2 := fBz_eq hB1 (a := 740) (j := 17) (by decide +kernel)
      have b3 := fBd fb_740_8 (fBz h0 hB1)
      have b4 := fBd fb_740_14 (fBz h0 hB1)
      have b5 := fBd fb_740_15 (fBz h0 hB1)
      have ey1 : x1 = y1 := by omega
      subst ey1
      have la0 := laP_bd hp3
      refine Exists.intro xm_423 (And.intro mi_423 (And.intro ⟨rfl, rfl, rfl, rfl⟩ (And.intro rfl ?_)))
      refine fcallp hB1 (ct_M_isSign_90da9 (fBz h0 hB1) (by first | exact ⟨by decide, by decide⟩ | omega)) ?_
      rintro _ ⟨z6, rfl, hz6, g0z6⟩
      refine And.intro (by omega) (And.intro ?_ ?_)
      · intro c7
        have sg := sgP_1 g0z6 (by omega)
        have rg : rdG (I1 740 13) = 5 := by rw [sg.2]; decide
        have d9 := dkI_3 hx3 (by omega)
        refine And.intro ⟨rfl, by decide, by decide⟩ (fgetf fb_740_13 h0 hB1 ?_)
        intro z8 lz8 uz8 qz8
        refine Exists.intro xm_314 (And.intro mi_314 (And.intro ⟨rfl, rfl, rfl, rfl⟩ (And.intro rfl ?_)))
        refine fcall _ h0 (fzs_sub (by decide +kernel) hW) hB1 (ct_M_next_c8003 (fBz h0 hB1) (by omega)) ?_
        rintro IhB10 _ hB10 fhB10 ⟨rfl, hz9, g0z9, g1z9⟩
        have t11 := fhB10 740 14 (by decide +kernel)
        have t12 := fhB10 740 15 (by decide +kernel)
        have t13 := fhB10 740 16 (by decide +kernel)
        have t14 := fhB10 740 18 (by decide +kernel)
        have k15 := fBz_eq hB10 (a := 740) (j := 8) (by decide +kernel)
        have k16 := fBz_eq hB10 (a := 740) (j := 17) (by decide +kernel)
        refine Exists.intro gm0 (And.intro ge0 (And.intro ⟨rfl, gk0.1, gk0.2.1, gk0.2.2⟩ (And.intro rfl ?_)))
        refine fcall _ h0 (fzs_sub (by decide +kernel) hW) hB10 (gc0 (fBz h0 hB10) (by first | exact ⟨hb.1.1, hb.1.2⟩ | omega) (by omega) (by omega) (by omega) (laP_cg hp3 (by omega)) (by omega) g1z9) ?_
        rintro IhB18 _ hB18 fhB18 ⟨z17, rfl, hz17, g0z17, g1z17, g2z17, g3z17, g4z17⟩
        have k19 := fBz_eq hB18 (a := 740) (j := 8) (by decide +kernel)
        have k20 := fBz_eq hB18 (a := 740) (j := 17) (by decide +kernel)
        refine And.intro (by omega) (And.intro ?_ ?_)
        · intro c21
          have u2 := g4z17 (by omega)
          refine Exists.intro xm_421 (And.intro mi_421 (And.intro ⟨rfl, rfl, rfl, rfl⟩ (And.intro rfl ?_)))
          refine fcall _ h0 (fzs_sub (by decide +kernel) hW) hB18 (ct_M_step_2c704 (fBz h0 hB18) (by first | exact ⟨by decide, by decide⟩ | omega) (by first | exact ⟨lz8, uz8⟩ | omega) (by omega) (laP_cg hp3 (by omega))) ?_
          rintro IhB23 _ hB23 fhB23 ⟨rfl, hz22, g0z22⟩
          have t24 := fhB23 740 9 (by decide +kernel)
          have t25 := fhB23 740 10 (by decide +kernel)
          have t26 := fhB23 740 11 (by decide +kernel)
          have t27 := fhB23 740 12 (by decide +kernel)
          have t28 := fhB23 740 13 (by decide +kernel)
          have t29 := fhB23 740 14 (by decide +kernel)
          have t30 := fhB23 740 15 (by decide +kernel)
          have t31 := fhB23 740 18 (by decide +kernel)
          have k32 := fBz_eq hB23 (a := 740) (j := 8) (by decide +kernel)
          have k33 := fBz_eq hB23 (a := 740) (j := 17) (by decide +kernel)
          exact fcutJ (I := IhB23) (j := (jc_M_term_50689_10 x1 I)) (lv' := [(0, .inr (.inr (some 740))), (1, .inl _)]) (And.intro rfl (And.intro rfl True.intro)) ⟨_, rfl, rfl, ⟨by omega, (par_be hx0 (fFr_S fhB10 (by decide +kernel)) g0z17 g0z22 (by omega) (by omega) (by omega) (by omega)), (par_one (by omega) hx1 (fFr_S fhB10 (by decide +kernel)) g0z17 (g1z17 (by omega)) g0z22 (by omega) (by omega) (by omega) (by omega) (by omega) (by omega)), (pj_op (by decide) (by decide) (by decide) (by decide) (hT_mk (fFr_at (fFr_of hB1) 747 (by decide +kernel) rfl) (fBz_eq hB1 (by decide +kernel))) hx2 (by omega) (by omega) (by rw [show z8 = I1 740 13 by omega]; exact rg) g0z9 (by omega) (by omega) (hT_mk (fFr_at fhB10 747 (by decide +kernel) rfl) (by omega)) (fFr_S fhB10 (by decide +kernel)) (by omega) (by omega) (by omega) g2z17 (by omega) g0z22 (by omega) (by omega) (by omega) (by omega) (by omega) (by omega) (by omega) (by omega) (by omega) (hT_mk (fFr_at fhB23 747 (by decide +kernel) rfl) (by omega))), (dkI_cg g3z17 (by omega) (by omega) (by omega))⟩, rfl⟩ (by omega)
        · intro c34
          refine And.intro (⟨by decide, by decide⟩) ?_
          exact ⟨_, rfl, by omega, (par_bel hx0 (fFr_S fhB10 (by decide +kernel)) g0z17 (by omega) (by omega)), (fun q => absurd q (by omega)), (pj_op0 (by decide) (by decide) (by decide) (hT_mk (fFr_at (fFr_of hB1) 747 (by decide +kernel) rfl) (fBz_eq hB1 (by decide +kernel))) hx2 (by omega) rfl rg g0z9 (by omega) (by omega) (hT_mk (fFr_at fhB10 747 (by decide +kernel) rfl) (by omega)) (fFr_S fhB10 (by decide +kernel)) (by omega) (by omega) (by omega) g2z17 (by omega) (by omega)), g3z17, (fun q => absurd q (by omega))⟩
      · intro c35
        refine Exists.intro xm_423 (And.intro mi_423 (And.intro ⟨rfl, rfl, rfl, rfl⟩ (And.intro rfl ?_)))
        refine fcallp hB1 (ct_M_isSign_90da9 (fBz h0 hB1) (by first | exact ⟨by decide, by decide⟩ | omega)) ?_
        rintro _ ⟨z36, rfl, hz36, g0z36⟩
        refine And.intro (by omega) (And.intro ?_ ?_)
        · intro c37
          refine And.intro (⟨by decide, by decide⟩) ?_
          exact ⟨_, rfl, by omega, hx0, (fun _ => hx1), (pj_end (by decide) (by decide) (hT_mk (fFr_at (fFr_of hB1) 747 (by decide +kernel) rfl) (fBz_eq hB1 (by decide +kernel))) hx2 (by omega) (fun q => by have q2 := rdG_of q.2 (by decide); have q1 := q.1; have n13 := sgP_0 g0z6 (by omega) q1; have n22 := sgP_0 g0z36 (by omega) q1; omega)), hx3, (fun _ => by omega)⟩
        · intro c38
          have sg := sgP_1 g0z36 (by omega)
          have rg : rdG (I1 740 13) = 5 := by rw [sg.2]; decide
          have d9 := dkI_3 hx3 (by omega)
          refine And.intro ⟨rfl, by decide, by decide⟩ (fgetf fb_740_13 h0 hB1 ?_)
          intro z39 lz39 uz39 qz39
          refine Exists.intro xm_314 (And.intro mi_314 (And.intro ⟨rfl, rfl, rfl, rfl⟩ (And.intro rfl ?_)))
          refine fcall _ h0 (fzs_sub (by decide +kernel) hW) hB1 (ct_M_next_c8003 (fBz h0 hB1) (by omega)) ?_
          rintro IhB41 _ hB41 fhB41 ⟨rfl, hz40, g0z40, g1z40⟩
          have t42 := fhB41 740 14 (by decide +kernel)
          have t43 := fhB41 740 15 (by decide +kernel)
          have t44 := fhB41 740 16 (by decide +kernel)
          have t45 := fhB41 740 18 (by decide +kernel)
          have k46 := fBz_eq hB41 (a := 740) (j := 8) (by decide +kernel)
          have k47 := fBz_eq hB41 (a := 740) (j := 17) (by decide +kernel)
          refine Exists.intro gm0 (And.intro ge0 (And.intro ⟨rfl, gk0.1, gk0.2.1, gk0.2.2⟩ (And.intro rfl ?_)))
          refine fcall _ h0 (fzs_sub (by decide +kernel) hW) hB41 (gc0 (fBz h0 hB41) (by first | exact ⟨hb.1.1, hb.1.2⟩ | omega) (by omega) (by omega) (by omega) (laP_cg hp3 (by omega)) (by omega) g1z40) ?_
          rintro IhB49 _ hB49 fhB49 ⟨z48, rfl, hz48, g0z48, g1z48, g2z48, g3z48, g4z48⟩
          have k50 := fBz_eq hB49 (a := 740) (j := 8) (by decide +kernel)
          have k51 := fBz_eq hB49 (a := 740) (j := 17) (by decide +kernel)
          refine And.intro (by omega) (And.intro ?_ ?_)
          · intro c52
            have u2 := g4z48 (by omega)
            refine Exists.intro xm_421 (And.intro mi_421 (And.intro ⟨rfl, rfl, rfl, rfl⟩ (And.intro rfl ?_)))
            refine fcall _ h0 (fzs_sub (by decide +kernel) hW) hB49 (ct_M_step_2c704 (fBz h0 hB49) (by first | exact ⟨by decide, by decide⟩ | omega) (by first | exact ⟨lz39, uz39⟩ | omega) (by omega) (laP_cg hp3 (by omega))) ?_
            rintro IhB54 _ hB54 fhB54 ⟨rfl, hz53, g0z53⟩
            have t55 := fhB54 740 9 (by decide +kernel)
            have t56 := fhB54 740 10 (by decide +kernel)
            have t57 := fhB54 740 11 (by decide +kernel)
            have t58 := fhB54 740 12 (by decide +kernel)
            have t59 := fhB54 740 13 (by decide +kernel)
            have t60 := fhB54 740 14 (by decide +kernel)
            have t61 := fhB54 740 15 (by decide +kernel)
            have t62 := fhB54 740 18 (by decide +kernel)
            have k63 := fBz_eq hB54 (a := 740) (j := 8) (by decide +kernel)
            have k64 := fBz_eq hB54 (a := 740) (j := 17) (by decide +kernel)
            exact fcutJ (I := IhB54) (j := (jc_M_term_50689_10 x1 I)) (lv' := [(0, .inr (.inr (some 740))), (1, .inl _)]) (And.intro rfl (And.intro rfl True.intro)) ⟨_, rfl, rfl, ⟨by omega, (par_be hx0 (fFr_S fhB41 (by decide +kernel)) g0z48 g0z53 (by omega) (by omega) (by omega) (by omega)), (par_one (by omega) hx1 (fFr_S fhB41 (by decide +kernel)) g0z48 (g1z48 (by omega)) g0z53 (by omega) (by omega) (by omega) (by omega) (by omega) (by omega)), (pj_op (by decide) (by decide) (by decide) (by decide) (hT_mk (fFr_at (fFr_of hB1) 747 (by decide +kernel) rfl) (fBz_eq hB1 (by decide +kernel))) hx2 (by omega) (by omega) (by rw [show z39 = I1 740 13 by omega]; exact rg) g0z40 (by omega) (by omega) (hT_mk (fFr_at fhB41 747 (by decide +kernel) rfl) (by omega)) (fFr_S fhB41 (by decide +kernel)) (by omega) (by omega) (by omega) g2z48 (by omega) g0z53 (by omega) (by omega) (by omega) (by omega) (by omega) (by omega) (by omega) (by omega) (by omega) (hT_mk (fFr_at fhB54 747 (by decide +kernel) rfl) (by omega))), (dkI_cg g3z48 (by omega) (by omega) (by omega))⟩, rfl⟩ (by omega)
          · intro c65
            refine And.intro (⟨by decide, by decide⟩) ?_
            exact ⟨_, rfl, by omega, (par_bel hx0 (fFr_S fhB41 (by decide +kernel)) g0z48 (by omega) (by omega)), (fun q => absurd q (by omega)), (pj_op0 (by decide) (by decide) (by decide) (hT_mk (fFr_at (fFr_of hB1) 747 (by decide +kernel) rfl) (fBz_eq hB1 (by decide +kernel))) hx2 (by omega) rfl rg g0z40 (by omega) (by omega) (hT_mk (fFr_at fhB41 747 (by decide +kernel) rfl) (by omega)) (fFr_S fhB41 (by decide +kernel)) (by omega) (by omega) (by omega) g2z48 (by omega) (by omega)), g3z48, (fun q => absurd q (by omega))⟩
  · have hB0 := fB_self (zn := znJ) (K := fKc wz_2212a) h0
    have b66 := fBd fb_740_8 (fBz h0 hB0)
    have b67 := fBd fb_740_14 (fBz h0 hB0)
    have b68 := fBd fb_740_15 (fBz h0 hB0)
    have la0 := laP_bd hp3
    refine Exists.intro gm0 (And.intro ge0 (And.intro ⟨rfl, gk0.1, gk0.2.1, gk0.2.2⟩ (And.intro rfl ?_)))
    refine fcall _ h0 (fzs_sub (by decide +kernel) hW) hB0 (gc0 (fBz h0 hB0) (by first | exact ⟨ha1.1, ha1.2⟩ | omega) (by omega) (by omega) (by omega) hp3 (by omega) hp5) ?_
    rintro IhB70 _ hB70 fhB70 ⟨z69, rfl, hz69, g0z69, g1z69, g2z69, g3z69, g4z69⟩
    have k71 := fBz_eq hB70 (a := 740) (j := 8) (by decide +kernel)
    have k72 := fBz_eq hB70 (a := 740) (j := 17) (by decide +kernel)
    refine And.intro (by omega) (And.intro ?_ ?_)
    · intro c73
      have u := g4z69 (by omega)
      exact fcutJ (I := IhB70) (j := (jc_M_term_50689_10 x1 I)) (lv' := [(0, .inr (.inr (some 740))), (1, .inl _)]) (And.intro rfl (And.intro rfl True.intro)) ⟨_, rfl, rfl, ⟨by omega, g0z69, (g1z69 (by omega)), (pj_0 (by decide) (by decide) g2z69 (by omega)), g3z69⟩, rfl⟩ (by omega)
    · intro c74
      refine And.intro (⟨by decide, by decide⟩) ?_
      exact ⟨_, rfl, by omega, g0z69, (fun q => absurd q (by omega)), (pp_0 (by decide) g2z69 (by omega) (by omega)), g3z69, (fun q => absurd q (by omega))⟩
theorem ct_M_term_50689 {I : fH} {x1 : Int} (h0 : fB bsJ I) (ha1 : ((-1) ≤ x1 ∧ x1 ≤ 5)) (hp0 : I 740 9 ≤ I 740 10 ∧ I 740 10 ≤ I 740 8) (hp1 : 0 ≤ I 740 16 ∧ I 740 16 ≤ I 740 9) (hp2 : 15 ≤ I 740 14 + I 740 15) (hp3 : laP (I 740 17)) (hp4 : 0 ≤ I 740 18 ∧ I 740 18 ≤ I 740 9) (hp5 : dkI I) : fC ρ base n F xTc vwCl xTys D dA la gJ (fbz bsJ znJ (fKc wz_2212a) I) xm_388 [.inr (.inr (some 740)), .inl x1] I (fun I' r => ∃ z, r = some (.inl z) ∧ ((0 ≤ z ∧ z ≤ 1) ∧ (I 740 9 ≤ I' 740 9 ∧ I' 740 9 ≤ I' 740 10 ∧ I' 740 10 ≤ I' 740 8)) ∧ (sBe I I' (I 740 17) (I 740 16)) ∧ (rd1 I I' z) ∧ (pP 5 5 x1 I I' z) ∧ (dkI I') ∧ (rdU I I' z)) := cg_M_term (d := 15) mi_405 ⟨rfl, rfl, rfl⟩ (fun h0 ha1 hp0 hp1 hp2 hp3 hp4 hp5 => ct_M_part0_18b69 h0 ha1 hp0 hp1 (by omega) hp3 hp4 hp5) xin_388 x6_388 h0 ha1 hp0 hp1 hp2 hp3 hp4 hp5
abbrev jc_M_sum_b35c2_10 (x1 : Int) (I0 : fH) : Nat → fL → List fV → fH → Prop := fun m lv st I => ∃ (y1 : Int), lv = [(0, .inr (.inr (some 740))), (1, .inl y1)] ∧ st = [] ∧ ((((-1) ≤ y1 ∧ y1 ≤ 5) ∧ (I0 740 9 ≤ I 740 9) ∧ (I 740 9 ≤ I 740 10) ∧ (I 740 10 ≤ I 740 8) ∧ (I0 740 16 ≤ I 740 16) ∧ (I 740 16 - I0 740 16 ≤ I 740 9 - I0 740 9) ∧ (I 740 14 = I0 740 14) ∧ (I 740 15 = I0 740 15) ∧ (I0 740 18 ≤ I 740 18) ∧ (I 740 18 - I0 740 18 ≤ I 740 9 - I0 740 9) ∧ (y1 = x1)) ∧ (sBe I0 I (I0 740 17) (I0 740 16)) ∧ (sOne I (I0 740 17) (I0 740 16) (I 740 16)) ∧ (pJ 4 5 x1 I0 I) ∧ (dkI I)) ∧ m = (1 + 1 * (96 - I 740 9) : Int).toNat
noncomputable abbrev gM_sum (gn0 : Nat) (rm : Room) : xM := (⟨"AcidCityModel", "sum", "(I)Z"⟩, prog_14_method_82_code, 3, (some .boolean), [(0, 3, 0, 1, []), (1, 3, 1, 0, []), (2, 33, 2, gn0, [13, 1, 17637, 0, 17639, 6157, 17640, 9230]), (5, 20, 1, 10, []), (8, 0, 0, 0, []), (9, 35, 3, 0, []), (10, 3, 0, 1, []), (11, 0, 43, 0, []), (13, 33, 2, 423, [13, 1, 18436, 0, 18438, 7168, 18439, 9230]), (16, 20, 1, 28, []), (19, 3, 0, 1, []), (20, 0, 45, 0, []), (22, 33, 2, 423, [13, 1, 18436, 0, 18438, 7168, 18439, 9230]), (25, 20, 0, 56, []), (28, 3, 0, 1, []), (29, 25, 12, 13, [15589]), (32, 4, 2, 0, []), (33, 3, 0, 1, []), (34, 33, 1, 314, [13, 1, 17597, 0, 17599, 6148, 17600, 9230]), (37, 3, 0, 1, []), (38, 3, 1, 0, []), (39, 33, 2, gn0, [13, 1, 17637, 0, 17639, 6157, 17640, 9230]), (42, 20, 1, 47, []), (45, 0, 0, 0, []), (46, 35, 3, 0, []), (47, 3, 0, 1, []), (48, 0, 2, 0, []), (49, 3, 2, 0, []), (50, 33, 3, 421, [13, 1, 17645, 0, 17647, 6159, 18432, 9230]), (53, 22, 0, 10, []), (56, 0, 1, 0, []), (57, 35, 3, 0, [])], rm)
set_option maxRecDepth 8000 in
theorem cg_M_sum {d : Int} {rm : Room} {gm0 : xM} {gn0 : Nat} (ge0 : xMs[gn0]? = some gm0) (gk0 : Nat.ble 2 gm0.2.2.1 = true ∧ (xR gm0).cells = 0 ∧ (xR gm0).slots = 0) (gc0 : ∀ {I : fH} {x1 : Int} (h0 : fB bsJ I) (ha1 : ((-1) ≤ x1 ∧ x1 ≤ 5)) (hp0 : I 740 9 ≤ I 740 10 ∧ I 740 10 ≤ I 740 8) (hp1 : 0 ≤ I 740 16 ∧ I 740 16 ≤ I 740 9) (hp2 : d ≤ I 740 14 + I 740 15) (hp3 : laP (I 740 17)) (hp4 : 0 ≤ I 740 18 ∧ I 740 18 ≤ I 740 9) (hp5 : dkI I), fC ρ base n F xTc vwCl xTys D dA la gJ (fbz bsJ znJ (fKc wz_2212a) I) gm0 [.inr (.inr (some 740)), .inl x1] I (fun I' r => ∃ z, r = some (.inl z) ∧ ((0 ≤ z ∧ z ≤ 1) ∧ (I 740 9 ≤ I' 740 9 ∧ I' 740 9 ≤ I' 740 10 ∧ I' 740 10 ≤ I' 740 8)) ∧ (sBe I I' (I 740 17) (I 740 16)) ∧ (rd1 I I' z) ∧ (pP 5 5 x1 I I' z) ∧ (dkI I') ∧ (rdU I I' z))) (hin : (gM_sum gn0 rm) ∈ xMs) (hx6 : f60c xTc xTys (gM_sum gn0 rm) = true) {I : fH} {x1 : Int} (h0 : fB bsJ I) (ha1 : ((-1) ≤ x1 ∧ x1 ≤ 5)) (hp0 : I 740 9 ≤ I 740 10 ∧ I 740 10 ≤ I 740 8) (hp1 : 0 ≤ I 740 16 ∧ I 740 16 ≤ I 740 9) (hp2 : d ≤ I 740 14 + I 740 15) (hp3 : laP (I 740 17)) (hp4 : 0 ≤ I 740 18 ∧ I 740 18 ≤ I 740 9) (hp5 : dkI I) : fC ρ base n F xTc vwCl xTys D dA la gJ (fbz bsJ znJ (fKc wz_2212a) I) (gM_sum gn0 rm) [.inr (.inr (some 740)), .inl x1] I (fun I' r => ∃ z, r = some (.inl z) ∧ ((0 ≤ z ∧ z ≤ 1) ∧ (I 740 9 ≤ I' 740 9 ∧ I' 740 9 ≤ I' 740 10 ∧ I' 740 10 ≤ I' 740 8)) ∧ (sBe I I' (I 740 17) (I 740 16)) ∧ (rd1 I I' z) ∧ (pP 4 4 x1 I I' z) ∧ (dkI I') ∧ (rdU I I' z)) := by
  have hW : fzs wz_2212a (fKc wz_2212a) := fKc_ok _
  refine f_meth (rb := rbJ) (J := [(10, (jc_M_sum_b35c2_10 x1 I))]) 98 400 xG hin hx6 okJ (fB_self h0) ?_ ?_
  · refine List.forall_mem_cons.mpr ⟨?_, fun q h => absurd h List.not_mem_nil⟩
    · rintro m _ _ I1 hB1 ⟨y1, rfl, rfl, ⟨hb, hx0, hx1, hx2, hx3⟩, hm⟩
      have k1 := fBz_eq hB1 (a := 740) (j := 8) (by decide +kernel)
      have k2 := fBz_eq hB1 (a := 740) (j := 17) (by decide +kernel)
      have b3 := fBd fb_740_8 (fBz h0 hB1)
      have b4 := fBd fb_740_14 (fBz h0 hB1)
      have b5 := fBd fb_740_15 (fBz h0 hB1)
      have ey1 : x1 = y1 := by omega
      subst ey1
      have la0 := laP_bd hp3
      refine Exists.intro xm_423 (And.intro mi_423 (And.intro ⟨rfl, rfl, rfl, rfl⟩ (And.intro rfl ?_)))
      refine fcallp hB1 (ct_M_isSign_90da9 (fBz h0 hB1) (by first | exact ⟨by decide, by decide⟩ | omega)) ?_
      rintro _ ⟨z6, rfl, hz6, g0z6⟩
      refine And.intro (by omega) (And.intro ?_ ?_)
      · intro c7
        have sg := sgP_1 g0z6 (by omega)
        have rg : rdG (I1 740 13) = 4 := by rw [sg.2]; decide
        have d9 := dkI_3 hx3 (by omega)
        refine And.intro ⟨rfl, by decide, by decide⟩ (fgetf fb_740_13 h0 hB1 ?_)
        intro z8 lz8 uz8 qz8
        refine Exists.intro xm_314 (And.intro mi_314 (And.intro ⟨rfl, rfl, rfl, rfl⟩ (And.intro rfl ?_)))
        refine fcall _ h0 (fzs_sub (by decide +kernel) hW) hB1 (ct_M_next_c8003 (fBz h0 hB1) (by omega)) ?_
        rintro IhB10 _ hB10 fhB10 ⟨rfl, hz9, g0z9, g1z9⟩
        have t11 := fhB10 740 14 (by decide +kernel)
        have t12 := fhB10 740 15 (by decide +kernel)
        have t13 := fhB10 740 16 (by decide +kernel)
        have t14 := fhB10 740 18 (by decide +kernel)
        have k15 := fBz_eq hB10 (a := 740) (j := 8) (by decide +kernel)
        have k16 := fBz_eq hB10 (a := 740) (j := 17) (by decide +kernel)
        refine Exists.intro gm0 (And.intro ge0 (And.intro ⟨rfl, gk0.1, gk0.2.1, gk0.2.2⟩ (And.intro rfl ?_)))
        refine fcall _ h0 (fzs_sub (by decide +kernel) hW) hB10 (gc0 (fBz h0 hB10) (by first | exact ⟨hb.1.1, hb.1.2⟩ | omega) (by omega) (by omega) (by omega) (laP_cg hp3 (by omega)) (by omega) g1z9) ?_
        rintro IhB18 _ hB18 fhB18 ⟨z17, rfl, hz17, g0z17, g1z17, g2z17, g3z17, g4z17⟩
        have k19 := fBz_eq hB18 (a := 740) (j := 8) (by decide +kernel)
        have k20 := fBz_eq hB18 (a := 740) (j := 17) (by decide +kernel)
        refine And.intro (by omega) (And.intro ?_ ?_)
        · intro c21
          have u2 := g4z17 (by omega)
          refine Exists.intro xm_421 (And.intro mi_421 (And.intro ⟨rfl, rfl, rfl, rfl⟩ (And.intro rfl ?_)))
          refine fcall _ h0 (fzs_sub (by decide +kernel) hW) hB18 (ct_M_step_2c704 (fBz h0 hB18) (by first | exact ⟨by decide, by decide⟩ | omega) (by first | exact ⟨lz8, uz8⟩ | omega) (by omega) (laP_cg hp3 (by omega))) ?_
          rintro IhB23 _ hB23 fhB23 ⟨rfl, hz22, g0z22⟩
          have t24 := fhB23 740 9 (by decide +kernel)
          have t25 := fhB23 740 10 (by decide +kernel)
          have t26 := fhB23 740 11 (by decide +kernel)
          have t27 := fhB23 740 12 (by decide +kernel)
          have t28 := fhB23 740 13 (by decide +kernel)
          have t29 := fhB23 740 14 (by decide +kernel)
          have t30 := fhB23 740 15 (by decide +kernel)
          have t31 := fhB23 740 18 (by decide +kernel)
          have k32 := fBz_eq hB23 (a := 740) (j := 8) (by decide +kernel)
          have k33 := fBz_eq hB23 (a := 740) (j := 17) (by decide +kernel)
          exact fcutJ (I := IhB23) (j := (jc_M_sum_b35c2_10 x1 I)) (lv' := [(0, .inr (.inr (some 740))), (1, .inl _)]) (And.intro rfl (And.intro rfl True.intro)) ⟨_, rfl, rfl, ⟨by omega, (par_be hx0 (fFr_S fhB10 (by decide +kernel)) g0z17 g0z22 (by omega) (by omega) (by omega) (by omega)), (par_one (by omega) hx1 (fFr_S fhB10 (by decide +kernel)) g0z17 (g1z17 (by omega)) g0z22 (by omega) (by omega) (by omega) (by omega) (by omega) (by omega)), (pj_op (by decide) (by decide) (by decide) (by decide) (hT_mk (fFr_at (fFr_of hB1) 747 (by decide +kernel) rfl) (fBz_eq hB1 (by decide +kernel))) hx2 (by omega) (by omega) (by rw [show z8 = I1 740 13 by omega]; exact rg) g0z9 (by omega) (by omega) (hT_mk (fFr_at fhB10 747 (by decide +kernel) rfl) (by omega)) (fFr_S fhB10 (by decide +kernel)) (by omega) (by omega) (by omega) g2z17 (by omega) g0z22 (by omega) (by omega) (by omega) (by omega) (by omega) (by omega) (by omega) (by omega) (by omega) (hT_mk (fFr_at fhB23 747 (by decide +kernel) rfl) (by omega))), (dkI_cg g3z17 (by omega) (by omega) (by omega))⟩, rfl⟩ (by omega)
        · intro c34
          refine And.intro (⟨by decide, by decide⟩) ?_
          exact ⟨_, rfl, by omega, (par_bel hx0 (fFr_S fhB10 (by decide +kernel)) g0z17 (by omega) (by omega)), (fun q => absurd q (by omega)), (pj_op0 (by decide) (by decide) (by decide) (hT_mk (fFr_at (fFr_of hB1) 747 (by decide +kernel) rfl) (fBz_eq hB1 (by decide +kernel))) hx2 (by omega) rfl rg g0z9 (by omega) (by omega) (hT_mk (fFr_at fhB10 747 (by decide +kernel) rfl) (by omega)) (fFr_S fhB10 (by decide +kernel)) (by omega) (by omega) (by omega) g2z17 (by omega) (by omega)), g3z17, (fun q => absurd q (by omega))⟩
      · intro c35
        refine Exists.intro xm_423 (And.intro mi_423 (And.intro ⟨rfl, rfl, rfl, rfl⟩ (And.intro rfl ?_)))
        refine fcallp hB1 (ct_M_isSign_90da9 (fBz h0 hB1) (by first | exact ⟨by decide, by decide⟩ | omega)) ?_
        rintro _ ⟨z36, rfl, hz36, g0z36⟩
        refine And.intro (by omega) (And.intro ?_ ?_)
        · intro c37
          refine And.intro (⟨by decide, by decide⟩) ?_
          exact ⟨_, rfl, by omega, hx0, (fun _ => hx1), (pj_end (by decide) (by decide) (hT_mk (fFr_at (fFr_of hB1) 747 (by decide +kernel) rfl) (fBz_eq hB1 (by decide +kernel))) hx2 (by omega) (fun q => by have q2 := rdG_of q.2 (by decide); have q1 := q.1; have n13 := sgP_0 g0z6 (by omega) q1; have n22 := sgP_0 g0z36 (by omega) q1; omega)), hx3, (fun _ => by omega)⟩
        · intro c38
          have sg := sgP_1 g0z36 (by omega)
          have rg : rdG (I1 740 13) = 4 := by rw [sg.2]; decide
          have d9 := dkI_3 hx3 (by omega)
          refine And.intro ⟨rfl, by decide, by decide⟩ (fgetf fb_740_13 h0 hB1 ?_)
          intro z39 lz39 uz39 qz39
          refine Exists.intro xm_314 (And.intro mi_314 (And.intro ⟨rfl, rfl, rfl, rfl⟩ (And.intro rfl ?_)))
          refine fcall _ h0 (fzs_sub (by decide +kernel) hW) hB1 (ct_M_next_c8003 (fBz h0 hB1) (by omega)) ?_
          rintro IhB41 _ hB41 fhB41 ⟨rfl, hz40, g0z40, g1z40⟩
          have t42 := fhB41 740 14 (by decide +kernel)
          have t43 := fhB41 740 15 (by decide +kernel)
          have t44 := fhB41 740 16 (by decide +kernel)
          have t45 := fhB41 740 18 (by decide +kernel)
          have k46 := fBz_eq hB41 (a := 740) (j := 8) (by decide +kernel)
          have k47 := fBz_eq hB41 (a := 740) (j := 17) (by decide +kernel)
          refine Exists.intro gm0 (And.intro ge0 (And.intro ⟨rfl, gk0.1, gk0.2.1, gk0.2.2⟩ (And.intro rfl ?_)))
          refine fcall _ h0 (fzs_sub (by decide +kernel) hW) hB41 (gc0 (fBz h0 hB41) (by first | exact ⟨hb.1.1, hb.1.2⟩ | omega) (by omega) (by omega) (by omega) (laP_cg hp3 (by omega)) (by omega) g1z40) ?_
          rintro IhB49 _ hB49 fhB49 ⟨z48, rfl, hz48, g0z48, g1z48, g2z48, g3z48, g4z48⟩
          have k50 := fBz_eq hB49 (a := 740) (j := 8) (by decide +kernel)
          have k51 := fBz_eq hB49 (a := 740) (j := 17) (by decide +kernel)
          refine And.intro (by omega) (And.intro ?_ ?_)
          · intro c52
            have u2 := g4z48 (by omega)
            refine Exists.intro xm_421 (And.intro mi_421 (And.intro ⟨rfl, rfl, rfl, rfl⟩ (And.intro rfl ?_)))
            refine fcall _ h0 (fzs_sub (by decide +kernel) hW) hB49 (ct_M_step_2c704 (fBz h0 hB49) (by first | exact ⟨by decide, by decide⟩ | omega) (by first | exact ⟨lz39, uz39⟩ | omega) (by omega) (laP_cg hp3 (by omega))) ?_
            rintro IhB54 _ hB54 fhB54 ⟨rfl, hz53, g0z53⟩
            have t55 := fhB54 740 9 (by decide +kernel)
            have t56 := fhB54 740 10 (by decide +kernel)
            have t57 := fhB54 740 11 (by decide +kernel)
            have t58 := fhB54 740 12 (by decide +kernel)
            have t59 := fhB54 740 13 (by decide +kernel)
            have t60 := fhB54 740 14 (by decide +kernel)
            have t61 := fhB54 740 15 (by decide +kernel)
            have t62 := fhB54 740 18 (by decide +kernel)
            have k63 := fBz_eq hB54 (a := 740) (j := 8) (by decide +kernel)
            have k64 := fBz_eq hB54 (a := 740) (j := 17) (by decide +kernel)
            exact fcutJ (I := IhB54) (j := (jc_M_sum_b35c2_10 x1 I)) (lv' := [(0, .inr (.inr (some 740))), (1, .inl _)]) (And.intro rfl (And.intro rfl True.intro)) ⟨_, rfl, rfl, ⟨by omega, (par_be hx0 (fFr_S fhB41 (by decide +kernel)) g0z48 g0z53 (by omega) (by omega) (by omega) (by omega)), (par_one (by omega) hx1 (fFr_S fhB41 (by decide +kernel)) g0z48 (g1z48 (by omega)) g0z53 (by omega) (by omega) (by omega) (by omega) (by omega) (by omega)), (pj_op (by decide) (by decide) (by decide) (by decide) (hT_mk (fFr_at (fFr_of hB1) 747 (by decide +kernel) rfl) (fBz_eq hB1 (by decide +kernel))) hx2 (by omega) (by omega) (by rw [show z39 = I1 740 13 by omega]; exact rg) g0z40 (by omega) (by omega) (hT_mk (fFr_at fhB41 747 (by decide +kernel) rfl) (by omega)) (fFr_S fhB41 (by decide +kernel)) (by omega) (by omega) (by omega) g2z48 (by omega) g0z53 (by omega) (by omega) (by omega) (by omega) (by omega) (by omega) (by omega) (by omega) (by omega) (hT_mk (fFr_at fhB54 747 (by decide +kernel) rfl) (by omega))), (dkI_cg g3z48 (by omega) (by omega) (by omega))⟩, rfl⟩ (by omega)
          · intro c65
            refine And.intro (⟨by decide, by decide⟩) ?_
            exact ⟨_, rfl, by omega, (par_bel hx0 (fFr_S fhB41 (by decide +kernel)) g0z48 (by omega) (by omega)), (fun q => absurd q (by omega)), (pj_op0 (by decide) (by decide) (by decide) (hT_mk (fFr_at (fFr_of hB1) 747 (by decide +kernel) rfl) (fBz_eq hB1 (by decide +kernel))) hx2 (by omega) rfl rg g0z40 (by omega) (by omega) (hT_mk (fFr_at fhB41 747 (by decide +kernel) rfl) (by omega)) (fFr_S fhB41 (by decide +kernel)) (by omega) (by omega) (by omega) g2z48 (by omega) (by omega)), g3z48, (fun q => absurd q (by omega))⟩
  · have hB0 := fB_self (zn := znJ) (K := fKc wz_2212a) h0
    have b66 := fBd fb_740_8 (fBz h0 hB0)
    have b67 := fBd fb_740_14 (fBz h0 hB0)
    have b68 := fBd fb_740_15 (fBz h0 hB0)
    have la0 := laP_bd hp3
    refine Exists.intro gm0 (And.intro ge0 (And.intro ⟨rfl, gk0.1, gk0.2.1, gk0.2.2⟩ (And.intro rfl ?_)))
    refine fcall _ h0 (fzs_sub (by decide +kernel) hW) hB0 (gc0 (fBz h0 hB0) (by first | exact ⟨ha1.1, ha1.2⟩ | omega) (by omega) (by omega) (by omega) hp3 (by omega) hp5) ?_
    rintro IhB70 _ hB70 fhB70 ⟨z69, rfl, hz69, g0z69, g1z69, g2z69, g3z69, g4z69⟩
    have k71 := fBz_eq hB70 (a := 740) (j := 8) (by decide +kernel)
    have k72 := fBz_eq hB70 (a := 740) (j := 17) (by decide +kernel)
    refine And.intro (by omega) (And.intro ?_ ?_)
    · intro c73
      have u := g4z69 (by omega)
      exact fcutJ (I := IhB70) (j := (jc_M_sum_b35c2_10 x1 I)) (lv' := [(0, .inr (.inr (some 740))), (1, .inl _)]) (And.intro rfl (And.intro rfl True.intro)) ⟨_, rfl, rfl, ⟨by omega, g0z69, (g1z69 (by omega)), (pj_0 (by decide) (by decide) g2z69 (by omega)), g3z69⟩, rfl⟩ (by omega)
    · intro c74
      refine And.intro (⟨by decide, by decide⟩) ?_
      exact ⟨_, rfl, by omega, g0z69, (fun q => absurd q (by omega)), (pp_0 (by decide) g2z69 (by omega) (by omega)), g3z69, (fun q => absurd q (by omega))⟩
theorem ct_M_sum_b35c2 {I : fH} {x1 : Int} (h0 : fB bsJ I) (ha1 : ((-1) ≤ x1 ∧ x1 ≤ 5)) (hp0 : I 740 9 ≤ I 740 10 ∧ I 740 10 ≤ I 740 8) (hp1 : 0 ≤ I 740 16 ∧ I 740 16 ≤ I 740 9) (hp2 : 15 ≤ I 740 14 + I 740 15) (hp3 : laP (I 740 17)) (hp4 : 0 ≤ I 740 18 ∧ I 740 18 ≤ I 740 9) (hp5 : dkI I) : fC ρ base n F xTc vwCl xTys D dA la gJ (fbz bsJ znJ (fKc wz_2212a) I) xm_371 [.inr (.inr (some 740)), .inl x1] I (fun I' r => ∃ z, r = some (.inl z) ∧ ((0 ≤ z ∧ z ≤ 1) ∧ (I 740 9 ≤ I' 740 9 ∧ I' 740 9 ≤ I' 740 10 ∧ I' 740 10 ≤ I' 740 8)) ∧ (sBe I I' (I 740 17) (I 740 16)) ∧ (rd1 I I' z) ∧ (pP 4 4 x1 I I' z) ∧ (dkI I') ∧ (rdU I I' z)) := cg_M_sum (d := 15) mi_388 ⟨rfl, rfl, rfl⟩ (fun h0 ha1 hp0 hp1 hp2 hp3 hp4 hp5 => ct_M_term_50689 h0 ha1 hp0 hp1 (by omega) hp3 hp4 hp5) xin_371 x6_371 h0 ha1 hp0 hp1 hp2 hp3 hp4 hp5
abbrev jc_M_test_0612d_37 (x1 : Int) (I0 : fH) : Nat → fL → List fV → fH → Prop := fun m lv st I => ∃ (y1 : Int), lv = [(0, .inr (.inr (some 740))), (1, .inl y1)] ∧ st = [] ∧ ((((-1) ≤ y1 ∧ y1 ≤ 5) ∧ (I0 740 9 ≤ I 740 9) ∧ (I 740 9 ≤ I 740 10) ∧ (I 740 10 ≤ I 740 8) ∧ (I0 740 16 ≤ I 740 16) ∧ (I 740 16 - I0 740 16 ≤ I 740 9 - I0 740 9) ∧ (I 740 14 = I0 740 14) ∧ (I 740 15 = I0 740 15) ∧ (I0 740 18 ≤ I 740 18) ∧ (I 740 18 - I0 740 18 ≤ I 740 9 - I0 740 9) ∧ (y1 = x1) ∧ (I 740 11 = 3) ∧ (rdG (I 740 13) = 3) ∧ (60 ≤ I 740 13)) ∧ (sBe I0 I (I0 740 17) (I0 740 16)) ∧ (sOne I (I0 740 17) (I0 740 16) (I 740 16)) ∧ (pP 4 4 x1 I0 I 1) ∧ (dkI I)) ∧ m = (1 : Int).toNat
noncomputable abbrev gM_test (gn0 : Nat) (rm : Room) : xM := (⟨"AcidCityModel", "test", "(I)Z"⟩, prog_14_method_81_code, 3, (some .boolean), [(0, 3, 0, 1, []), (1, 3, 1, 0, []), (2, 33, 2, gn0, [13, 1, 17633, 0, 17635, 6156, 17636, 9230]), (5, 20, 1, 10, []), (8, 0, 0, 0, []), (9, 35, 3, 0, []), (10, 3, 0, 1, []), (11, 0, 60, 0, []), (13, 33, 2, 423, [13, 1, 18436, 0, 18438, 7168, 18439, 9230]), (16, 20, 1, 37, []), (19, 3, 0, 1, []), (20, 0, 61, 0, []), (22, 33, 2, 423, [13, 1, 18436, 0, 18438, 7168, 18439, 9230]), (25, 20, 1, 37, []), (28, 3, 0, 1, []), (29, 0, 62, 0, []), (31, 33, 2, 423, [13, 1, 18436, 0, 18438, 7168, 18439, 9230]), (34, 20, 0, 62, []), (37, 3, 0, 1, []), (38, 25, 12, 13, [15589]), (41, 4, 2, 0, []), (42, 3, 0, 1, []), (43, 33, 1, 314, [13, 1, 17597, 0, 17599, 6148, 17600, 9230]), (46, 3, 0, 1, []), (47, 3, 1, 0, []), (48, 33, 2, gn0, [13, 1, 17633, 0, 17635, 6156, 17636, 9230]), (51, 20, 1, 56, []), (54, 0, 0, 0, []), (55, 35, 3, 0, []), (56, 3, 0, 1, []), (57, 0, 2, 0, []), (58, 3, 2, 0, []), (59, 33, 3, 421, [13, 1, 17645, 0, 17647, 6159, 18432, 9230]), (62, 0, 1, 0, []), (63, 35, 3, 0, [])], rm)
set_option maxRecDepth 8000 in
theorem cg_M_test {d : Int} {rm : Room} {gm0 : xM} {gn0 : Nat} (ge0 : xMs[gn0]? = some gm0) (gk0 : Nat.ble 2 gm0.2.2.1 = true ∧ (xR gm0).cells = 0 ∧ (xR gm0).slots = 0) (gc0 : ∀ {I : fH} {x1 : Int} (h0 : fB bsJ I) (ha1 : ((-1) ≤ x1 ∧ x1 ≤ 5)) (hp0 : I 740 9 ≤ I 740 10 ∧ I 740 10 ≤ I 740 8) (hp1 : 0 ≤ I 740 16 ∧ I 740 16 ≤ I 740 9) (hp2 : d ≤ I 740 14 + I 740 15) (hp3 : laP (I 740 17)) (hp4 : 0 ≤ I 740 18 ∧ I 740 18 ≤ I 740 9) (hp5 : dkI I), fC ρ base n F xTc vwCl xTys D dA la gJ (fbz bsJ znJ (fKc wz_2212a) I) gm0 [.inr (.inr (some 740)), .inl x1] I (fun I' r => ∃ z, r = some (.inl z) ∧ ((0 ≤ z ∧ z ≤ 1) ∧ (I 740 9 ≤ I' 740 9 ∧ I' 740 9 ≤ I' 740 10 ∧ I' 740 10 ≤ I' 740 8)) ∧ (sBe I I' (I 740 17) (I 740 16)) ∧ (rd1 I I' z) ∧ (pP 4 4 x1 I I' z) ∧ (dkI I') ∧ (rdU I I' z))) (hin : (gM_test gn0 rm) ∈ xMs) (hx6 : f60c xTc xTys (gM_test gn0 rm) = true) {I : fH} {x1 : Int} (h0 : fB bsJ I) (ha1 : ((-1) ≤ x1 ∧ x1 ≤ 5)) (hp0 : I 740 9 ≤ I 740 10 ∧ I 740 10 ≤ I 740 8) (hp1 : 0 ≤ I 740 16 ∧ I 740 16 ≤ I 740 9) (hp2 : d ≤ I 740 14 + I 740 15) (hp3 : laP (I 740 17)) (hp4 : 0 ≤ I 740 18 ∧ I 740 18 ≤ I 740 9) (hp5 : dkI I) : fC ρ base n F xTc vwCl xTys D dA la gJ (fbz bsJ znJ (fKc wz_2212a) I) (gM_test gn0 rm) [.inr (.inr (some 740)), .inl x1] I (fun I' r => ∃ z, r = some (.inl z) ∧ ((0 ≤ z ∧ z ≤ 1) ∧ (I 740 9 ≤ I' 740 9 ∧ I' 740 9 ≤ I' 740 10 ∧ I' 740 10 ≤ I' 740 8)) ∧ (sBe I I' (I 740 17) (I 740 16)) ∧ (rd1 I I' z) ∧ (pP 3 3 x1 I I' z) ∧ (dkI I') ∧ (rdU I I' z)) := by
  have hW : fzs wz_2212a (fKc wz_2212a) := fKc_ok _
  refine f_meth (rb := rbJ) (J := [(37, (jc_M_test_0612d_37 x1 I))]) 2 400 xG hin hx6 okJ (fB_self h0) ?_ ?_
  · refine List.forall_mem_cons.mpr ⟨?_, fun q h => absurd h List.not_mem_nil⟩
    · rintro m _ _ I1 hB1 ⟨y1, rfl, rfl, ⟨hb, hx0, hx1, hx2, hx3⟩, hm⟩
      have k1 := fBz_eq hB1 (a := 740) (j := 8) (by decide +kernel)
      have k2 := fBz_eq hB1 (a := 740) (j := 17) (by decide +kernel)
      have b3 := fBd fb_740_8 (fBz h0 hB1)
      have b4 := fBd fb_740_14 (fBz h0 hB1)
      have b5 := fBd fb_740_15 (fBz h0 hB1)
      have ey1 : x1 = y1 := by omega
      subst ey1
      have la0 := laP_bd hp3
      have rg : rdG (I1 740 13) = 3 := by omega
      have d9 := dkI_3 hx3 (by omega)
      refine And.intro ⟨rfl, by decide, by decide⟩ (fgetf fb_740_13 h0 hB1 ?_)
      intro z6 lz6 uz6 qz6
      refine Exists.intro xm_314 (And.intro mi_314 (And.intro ⟨rfl, rfl, rfl, rfl⟩ (And.intro rfl ?_)))
      refine fcall _ h0 (fzs_sub (by decide +kernel) hW) hB1 (ct_M_next_c8003 (fBz h0 hB1) (by omega)) ?_
      rintro IhB8 _ hB8 fhB8 ⟨rfl, hz7, g0z7, g1z7⟩
      have t9 := fhB8 740 14 (by decide +kernel)
      have t10 := fhB8 740 15 (by decide +kernel)
      have t11 := fhB8 740 16 (by decide +kernel)
      have t12 := fhB8 740 18 (by decide +kernel)
      have k13 := fBz_eq hB8 (a := 740) (j := 8) (by decide +kernel)
      have k14 := fBz_eq hB8 (a := 740) (j := 17) (by decide +kernel)
      refine Exists.intro gm0 (And.intro ge0 (And.intro ⟨rfl, gk0.1, gk0.2.1, gk0.2.2⟩ (And.intro rfl ?_)))
      refine fcall _ h0 (fzs_sub (by decide +kernel) hW) hB8 (gc0 (fBz h0 hB8) (by first | exact ⟨hb.1.1, hb.1.2⟩ | omega) (by omega) (by omega) (by omega) (laP_cg hp3 (by omega)) (by omega) g1z7) ?_
      rintro IhB16 _ hB16 fhB16 ⟨z15, rfl, hz15, g0z15, g1z15, g2z15, g3z15, g4z15⟩
      have k17 := fBz_eq hB16 (a := 740) (j := 8) (by decide +kernel)
      have k18 := fBz_eq hB16 (a := 740) (j := 17) (by decide +kernel)
      refine And.intro (by omega) (And.intro ?_ ?_)
      · intro c19
        have u2 := g4z15 (by omega)
        refine Exists.intro xm_421 (And.intro mi_421 (And.intro ⟨rfl, rfl, rfl, rfl⟩ (And.intro rfl ?_)))
        refine fcall _ h0 (fzs_sub (by decide +kernel) hW) hB16 (ct_M_step_2c704 (fBz h0 hB16) (by first | exact ⟨by decide, by decide⟩ | omega) (by first | exact ⟨lz6, uz6⟩ | omega) (by omega) (laP_cg hp3 (by omega))) ?_
        rintro IhB21 _ hB21 fhB21 ⟨rfl, hz20, g0z20⟩
        have t22 := fhB21 740 9 (by decide +kernel)
        have t23 := fhB21 740 10 (by decide +kernel)
        have t24 := fhB21 740 11 (by decide +kernel)
        have t25 := fhB21 740 12 (by decide +kernel)
        have t26 := fhB21 740 13 (by decide +kernel)
        have t27 := fhB21 740 14 (by decide +kernel)
        have t28 := fhB21 740 15 (by decide +kernel)
        have t29 := fhB21 740 18 (by decide +kernel)
        have k30 := fBz_eq hB21 (a := 740) (j := 8) (by decide +kernel)
        have k31 := fBz_eq hB21 (a := 740) (j := 17) (by decide +kernel)
        refine And.intro (⟨by decide, by decide⟩) ?_
        exact ⟨_, rfl, by omega, (par_be hx0 (fFr_S fhB8 (by decide +kernel)) g0z15 g0z20 (by omega) (by omega) (by omega) (by omega)), (fun _ => par_one (by omega) hx1 (fFr_S fhB8 (by decide +kernel)) g0z15 (g1z15 (by omega)) g0z20 (by omega) (by omega) (by omega) (by omega) (by omega) (by omega)), (pt_cmp (hT_mk (fFr_at (fFr_of hB1) 747 (by decide +kernel) rfl) (fBz_eq hB1 (by decide +kernel))) hx2 (by omega) (by omega) (by omega) (by rw [show z6 = I1 740 13 by omega]; exact rg) g0z7 (by omega) (by omega) (hT_mk (fFr_at fhB8 747 (by decide +kernel) rfl) (by omega)) (fFr_S fhB8 (by decide +kernel)) (by omega) (by omega) (by omega) g2z15 (by omega) g0z20 (by omega) (by omega) (by omega) (by omega) (by omega) (by omega) (by omega) (by omega) (by omega) (hT_mk (fFr_at fhB21 747 (by decide +kernel) rfl) (by omega)) (by omega)), (dkI_cg g3z15 (by omega) (by omega) (by omega)), (fun _ => by omega)⟩
      · intro c32
        refine And.intro (⟨by decide, by decide⟩) ?_
        exact ⟨_, rfl, by omega, (par_bel hx0 (fFr_S fhB8 (by decide +kernel)) g0z15 (by omega) (by omega)), (fun q => absurd q (by omega)), (pt_cmp0 (hT_mk (fFr_at (fFr_of hB1) 747 (by decide +kernel) rfl) (fBz_eq hB1 (by decide +kernel))) hx2 (by omega) (by omega) rfl rg g0z7 (by omega) (by omega) (hT_mk (fFr_at fhB8 747 (by decide +kernel) rfl) (by omega)) (fFr_S fhB8 (by decide +kernel)) (by omega) (by omega) (by omega) g2z15 (by omega) (by omega)), g3z15, (fun q => absurd q (by omega))⟩
  · have hB0 := fB_self (zn := znJ) (K := fKc wz_2212a) h0
    have b33 := fBd fb_740_8 (fBz h0 hB0)
    have b34 := fBd fb_740_14 (fBz h0 hB0)
    have b35 := fBd fb_740_15 (fBz h0 hB0)
    have la0 := laP_bd hp3
    refine Exists.intro gm0 (And.intro ge0 (And.intro ⟨rfl, gk0.1, gk0.2.1, gk0.2.2⟩ (And.intro rfl ?_)))
    refine fcall _ h0 (fzs_sub (by decide +kernel) hW) hB0 (gc0 (fBz h0 hB0) (by first | exact ⟨ha1.1, ha1.2⟩ | omega) (by omega) (by omega) (by omega) hp3 (by omega) hp5) ?_
    rintro IhB37 _ hB37 fhB37 ⟨z36, rfl, hz36, g0z36, g1z36, g2z36, g3z36, g4z36⟩
    have k38 := fBz_eq hB37 (a := 740) (j := 8) (by decide +kernel)
    have k39 := fBz_eq hB37 (a := 740) (j := 17) (by decide +kernel)
    refine And.intro (by omega) (And.intro ?_ ?_)
    · intro c40
      refine Exists.intro xm_423 (And.intro mi_423 (And.intro ⟨rfl, rfl, rfl, rfl⟩ (And.intro rfl ?_)))
      refine fcallp hB37 (ct_M_isSign_90da9 (fBz h0 hB37) (by first | exact ⟨by decide, by decide⟩ | omega)) ?_
      rintro _ ⟨z41, rfl, hz41, g0z41⟩
      refine And.intro (by omega) (And.intro ?_ ?_)
      · intro c42
        have sg := sgP_1 g0z41 (by omega)
        have rg : rdG (IhB37 740 13) = 3 := by rw [sg.2]; decide
        have u := g4z36 (by omega)
        exact fcutJ (I := IhB37) (j := (jc_M_test_0612d_37 x1 I)) (lv' := [(0, .inr (.inr (some 740))), (1, .inl _)]) (And.intro rfl (And.intro rfl True.intro)) ⟨_, rfl, rfl, ⟨by omega, g0z36, (g1z36 (by omega)), (by have q := g2z36; rw [show z36 = 1 by omega] at q; exact q), g3z36⟩, rfl⟩ (by omega)
      · intro c43
        refine Exists.intro xm_423 (And.intro mi_423 (And.intro ⟨rfl, rfl, rfl, rfl⟩ (And.intro rfl ?_)))
        refine fcallp hB37 (ct_M_isSign_90da9 (fBz h0 hB37) (by first | exact ⟨by decide, by decide⟩ | omega)) ?_
        rintro _ ⟨z44, rfl, hz44, g0z44⟩
        refine And.intro (by omega) (And.intro ?_ ?_)
        · intro c45
          have sg := sgP_1 g0z44 (by omega)
          have rg : rdG (IhB37 740 13) = 3 := by rw [sg.2]; decide
          have u := g4z36 (by omega)
          exact fcutJ (I := IhB37) (j := (jc_M_test_0612d_37 x1 I)) (lv' := [(0, .inr (.inr (some 740))), (1, .inl _)]) (And.intro rfl (And.intro rfl True.intro)) ⟨_, rfl, rfl, ⟨by omega, g0z36, (g1z36 (by omega)), (by have q := g2z36; rw [show z36 = 1 by omega] at q; exact q), g3z36⟩, rfl⟩ (by omega)
        · intro c46
          refine Exists.intro xm_423 (And.intro mi_423 (And.intro ⟨rfl, rfl, rfl, rfl⟩ (And.intro rfl ?_)))
          refine fcallp hB37 (ct_M_isSign_90da9 (fBz h0 hB37) (by first | exact ⟨by decide, by decide⟩ | omega)) ?_
          rintro _ ⟨z47, rfl, hz47, g0z47⟩
          refine And.intro (by omega) (And.intro ?_ ?_)
          · intro c48
            refine And.intro (⟨by decide, by decide⟩) ?_
            exact ⟨_, rfl, by omega, g0z36, (fun _ => g1z36 (by omega)), (pj_end (k := 3) (kq := 4) (by decide) (by decide) (hT_mk (fFr_at fhB37 747 (by decide +kernel) rfl) (by omega)) (pj_0 (by decide) (by decide) g2z36 (by omega)) (by omega) (fun q => by have q2 := rdG_of q.2 (by decide); have q1 := q.1; have n13 := sgP_0 g0z41 (by omega) q1; have n22 := sgP_0 g0z44 (by omega) q1; have n31 := sgP_0 g0z47 (by omega) q1; omega)), g3z36, (fun _ => g4z36 (by omega))⟩
          · intro c49
            have sg := sgP_1 g0z47 (by omega)
            have rg : rdG (IhB37 740 13) = 3 := by rw [sg.2]; decide
            have u := g4z36 (by omega)
            exact fcutJ (I := IhB37) (j := (jc_M_test_0612d_37 x1 I)) (lv' := [(0, .inr (.inr (some 740))), (1, .inl _)]) (And.intro rfl (And.intro rfl True.intro)) ⟨_, rfl, rfl, ⟨by omega, g0z36, (g1z36 (by omega)), (by have q := g2z36; rw [show z36 = 1 by omega] at q; exact q), g3z36⟩, rfl⟩ (by omega)
    · intro c50
      refine And.intro (⟨by decide, by decide⟩) ?_
      exact ⟨_, rfl, by omega, g0z36, (fun q => absurd q (by omega)), (pp_0 (by decide) g2z36 (by omega) (by omega)), g3z36, (fun q => absurd q (by omega))⟩
theorem ct_M_test_0612d {I : fH} {x1 : Int} (h0 : fB bsJ I) (ha1 : ((-1) ≤ x1 ∧ x1 ≤ 5)) (hp0 : I 740 9 ≤ I 740 10 ∧ I 740 10 ≤ I 740 8) (hp1 : 0 ≤ I 740 16 ∧ I 740 16 ≤ I 740 9) (hp2 : 15 ≤ I 740 14 + I 740 15) (hp3 : laP (I 740 17)) (hp4 : 0 ≤ I 740 18 ∧ I 740 18 ≤ I 740 9) (hp5 : dkI I) : fC ρ base n F xTc vwCl xTys D dA la gJ (fbz bsJ znJ (fKc wz_2212a) I) xm_354 [.inr (.inr (some 740)), .inl x1] I (fun I' r => ∃ z, r = some (.inl z) ∧ ((0 ≤ z ∧ z ≤ 1) ∧ (I 740 9 ≤ I' 740 9 ∧ I' 740 9 ≤ I' 740 10 ∧ I' 740 10 ≤ I' 740 8)) ∧ (sBe I I' (I 740 17) (I 740 16)) ∧ (rd1 I I' z) ∧ (pP 3 3 x1 I I' z) ∧ (dkI I') ∧ (rdU I I' z)) := cg_M_test (d := 15) mi_371 ⟨rfl, rfl, rfl⟩ (fun h0 ha1 hp0 hp1 hp2 hp3 hp4 hp5 => ct_M_sum_b35c2 h0 ha1 hp0 hp1 (by omega) hp3 hp4 hp5) xin_354 x6_354 h0 ha1 hp0 hp1 hp2 hp3 hp4 hp5
abbrev jc_M_both_f2598_10 (x1 : Int) (I0 : fH) : Nat → fL → List fV → fH → Prop := fun m lv st I => ∃ (y1 : Int), lv = [(0, .inr (.inr (some 740))), (1, .inl y1)] ∧ st = [] ∧ ((((-1) ≤ y1 ∧ y1 ≤ 5) ∧ (I0 740 9 ≤ I 740 9) ∧ (I 740 9 ≤ I 740 10) ∧ (I 740 10 ≤ I 740 8) ∧ (I0 740 16 ≤ I 740 16) ∧ (I 740 16 - I0 740 16 ≤ I 740 9 - I0 740 9) ∧ (I 740 14 = I0 740 14) ∧ (I 740 15 = I0 740 15) ∧ (I0 740 18 ≤ I 740 18) ∧ (I 740 18 - I0 740 18 ≤ I 740 9 - I0 740 9) ∧ (y1 = x1)) ∧ (sBe I0 I (I0 740 17) (I0 740 16)) ∧ (sOne I (I0 740 17) (I0 740 16) (I 740 16)) ∧ (pJ 2 3 x1 I0 I) ∧ (dkI I)) ∧ m = (1 + 1 * (96 - I 740 9) : Int).toNat
noncomputable abbrev gM_both (gn0 : Nat) (rm : Room) : xM := (⟨"AcidCityModel", "both", "(I)Z"⟩, prog_14_method_80_code, 2, (some .boolean), [(0, 3, 0, 1, []), (1, 3, 1, 0, []), (2, 33, 2, gn0, [13, 1, 17629, 0, 17631, 6155, 17632, 9230]), (5, 20, 1, 10, []), (8, 0, 0, 0, []), (9, 35, 3, 0, []), (10, 3, 0, 1, []), (11, 0, 38, 0, []), (13, 33, 2, 423, [13, 1, 18436, 0, 18438, 7168, 18439, 9230]), (16, 20, 0, 43, []), (19, 3, 0, 1, []), (20, 33, 1, 314, [13, 1, 17597, 0, 17599, 6148, 17600, 9230]), (23, 3, 0, 1, []), (24, 3, 1, 0, []), (25, 33, 2, gn0, [13, 1, 17629, 0, 17631, 6155, 17632, 9230]), (28, 20, 1, 33, []), (31, 0, 0, 0, []), (32, 35, 3, 0, []), (33, 3, 0, 1, []), (34, 0, 2, 0, []), (35, 0, 38, 0, []), (37, 33, 3, 421, [13, 1, 17645, 0, 17647, 6159, 18432, 9230]), (40, 22, 0, 10, []), (43, 0, 1, 0, []), (44, 35, 3, 0, [])], rm)
set_option maxRecDepth 8000 in
theorem cg_M_both {d : Int} {rm : Room} {gm0 : xM} {gn0 : Nat} (ge0 : xMs[gn0]? = some gm0) (gk0 : Nat.ble 2 gm0.2.2.1 = true ∧ (xR gm0).cells = 0 ∧ (xR gm0).slots = 0) (gc0 : ∀ {I : fH} {x1 : Int} (h0 : fB bsJ I) (ha1 : ((-1) ≤ x1 ∧ x1 ≤ 5)) (hp0 : I 740 9 ≤ I 740 10 ∧ I 740 10 ≤ I 740 8) (hp1 : 0 ≤ I 740 16 ∧ I 740 16 ≤ I 740 9) (hp2 : d ≤ I 740 14 + I 740 15) (hp3 : laP (I 740 17)) (hp4 : 0 ≤ I 740 18 ∧ I 740 18 ≤ I 740 9) (hp5 : dkI I), fC ρ base n F xTc vwCl xTys D dA la gJ (fbz bsJ znJ (fKc wz_2212a) I) gm0 [.inr (.inr (some 740)), .inl x1] I (fun I' r => ∃ z, r = some (.inl z) ∧ ((0 ≤ z ∧ z ≤ 1) ∧ (I 740 9 ≤ I' 740 9 ∧ I' 740 9 ≤ I' 740 10 ∧ I' 740 10 ≤ I' 740 8)) ∧ (sBe I I' (I 740 17) (I 740 16)) ∧ (rd1 I I' z) ∧ (pP 3 3 x1 I I' z) ∧ (dkI I') ∧ (rdU I I' z))) (hin : (gM_both gn0 rm) ∈ xMs) (hx6 : f60c xTc xTys (gM_both gn0 rm) = true) {I : fH} {x1 : Int} (h0 : fB bsJ I) (ha1 : ((-1) ≤ x1 ∧ x1 ≤ 5)) (hp0 : I 740 9 ≤ I 740 10 ∧ I 740 10 ≤ I 740 8) (hp1 : 0 ≤ I 740 16 ∧ I 740 16 ≤ I 740 9) (hp2 : d ≤ I 740 14 + I 740 15) (hp3 : laP (I 740 17)) (hp4 : 0 ≤ I 740 18 ∧ I 740 18 ≤ I 740 9) (hp5 : dkI I) : fC ρ base n F xTc vwCl xTys D dA la gJ (fbz bsJ znJ (fKc wz_2212a) I) (gM_both gn0 rm) [.inr (.inr (some 740)), .inl x1] I (fun I' r => ∃ z, r = some (.inl z) ∧ ((0 ≤ z ∧ z ≤ 1) ∧ (I 740 9 ≤ I' 740 9 ∧ I' 740 9 ≤ I' 740 10 ∧ I' 740 10 ≤ I' 740 8)) ∧ (sBe I I' (I 740 17) (I 740 16)) ∧ (rd1 I I' z) ∧ (pP 2 2 x1 I I' z) ∧ (dkI I') ∧ (rdU I I' z)) := by
  have hW : fzs wz_2212a (fKc wz_2212a) := fKc_ok _
  refine f_meth (rb := rbJ) (J := [(10, (jc_M_both_f2598_10 x1 I))]) 98 400 xG hin hx6 okJ (fB_self h0) ?_ ?_
  · refine List.forall_mem_cons.mpr ⟨?_, fun q h => absurd h List.not_mem_nil⟩
    · rintro m _ _ I1 hB1 ⟨y1, rfl, rfl, ⟨hb, hx0, hx1, hx2, hx3⟩, hm⟩
      have k1 := fBz_eq hB1 (a := 740) (j := 8) (by decide +kernel)
      have k2 := fBz_eq hB1 (a := 740) (j := 17) (by decide +kernel)
      have b3 := fBd fb_740_8 (fBz h0 hB1)
      have b4 := fBd fb_740_14 (fBz h0 hB1)
      have b5 := fBd fb_740_15 (fBz h0 hB1)
      have ey1 : x1 = y1 := by omega
      subst ey1
      have la0 := laP_bd hp3
      refine Exists.intro xm_423 (And.intro mi_423 (And.intro ⟨rfl, rfl, rfl, rfl⟩ (And.intro rfl ?_)))
      refine fcallp hB1 (ct_M_isSign_90da9 (fBz h0 hB1) (by first | exact ⟨by decide, by decide⟩ | omega)) ?_
      rintro _ ⟨z6, rfl, hz6, g0z6⟩
      refine And.intro (by omega) (And.intro ?_ ?_)
      · intro c7
        refine And.intro (⟨by decide, by decide⟩) ?_
        exact ⟨_, rfl, by omega, hx0, (fun _ => hx1), (pj_end (by decide) (by decide) (hT_mk (fFr_at (fFr_of hB1) 747 (by decide +kernel) rfl) (fBz_eq hB1 (by decide +kernel))) hx2 (by omega) (fun q => by have q2 := rdG_of q.2 (by decide); have q1 := q.1; have n13 := sgP_0 g0z6 (by omega) q1; omega)), hx3, (fun _ => by omega)⟩
      · intro c8
        have sg := sgP_1 g0z6 (by omega)
        have rg : rdG (I1 740 13) = 2 := by rw [sg.2]; decide
        have d9 := dkI_3 hx3 (by omega)
        refine Exists.intro xm_314 (And.intro mi_314 (And.intro ⟨rfl, rfl, rfl, rfl⟩ (And.intro rfl ?_)))
        refine fcall _ h0 (fzs_sub (by decide +kernel) hW) hB1 (ct_M_next_c8003 (fBz h0 hB1) (by omega)) ?_
        rintro IhB10 _ hB10 fhB10 ⟨rfl, hz9, g0z9, g1z9⟩
        have t11 := fhB10 740 14 (by decide +kernel)
        have t12 := fhB10 740 15 (by decide +kernel)
        have t13 := fhB10 740 16 (by decide +kernel)
        have t14 := fhB10 740 18 (by decide +kernel)
        have k15 := fBz_eq hB10 (a := 740) (j := 8) (by decide +kernel)
        have k16 := fBz_eq hB10 (a := 740) (j := 17) (by decide +kernel)
        refine Exists.intro gm0 (And.intro ge0 (And.intro ⟨rfl, gk0.1, gk0.2.1, gk0.2.2⟩ (And.intro rfl ?_)))
        refine fcall _ h0 (fzs_sub (by decide +kernel) hW) hB10 (gc0 (fBz h0 hB10) (by first | exact ⟨hb.1.1, hb.1.2⟩ | omega) (by omega) (by omega) (by omega) (laP_cg hp3 (by omega)) (by omega) g1z9) ?_
        rintro IhB18 _ hB18 fhB18 ⟨z17, rfl, hz17, g0z17, g1z17, g2z17, g3z17, g4z17⟩
        have k19 := fBz_eq hB18 (a := 740) (j := 8) (by decide +kernel)
        have k20 := fBz_eq hB18 (a := 740) (j := 17) (by decide +kernel)
        refine And.intro (by omega) (And.intro ?_ ?_)
        · intro c21
          have u2 := g4z17 (by omega)
          refine Exists.intro xm_421 (And.intro mi_421 (And.intro ⟨rfl, rfl, rfl, rfl⟩ (And.intro rfl ?_)))
          refine fcall _ h0 (fzs_sub (by decide +kernel) hW) hB18 (ct_M_step_2c704 (fBz h0 hB18) (by first | exact ⟨by decide, by decide⟩ | omega) (by first | exact ⟨by decide, by decide⟩ | omega) (by omega) (laP_cg hp3 (by omega))) ?_
          rintro IhB23 _ hB23 fhB23 ⟨rfl, hz22, g0z22⟩
          have t24 := fhB23 740 9 (by decide +kernel)
          have t25 := fhB23 740 10 (by decide +kernel)
          have t26 := fhB23 740 11 (by decide +kernel)
          have t27 := fhB23 740 12 (by decide +kernel)
          have t28 := fhB23 740 13 (by decide +kernel)
          have t29 := fhB23 740 14 (by decide +kernel)
          have t30 := fhB23 740 15 (by decide +kernel)
          have t31 := fhB23 740 18 (by decide +kernel)
          have k32 := fBz_eq hB23 (a := 740) (j := 8) (by decide +kernel)
          have k33 := fBz_eq hB23 (a := 740) (j := 17) (by decide +kernel)
          exact fcutJ (I := IhB23) (j := (jc_M_both_f2598_10 x1 I)) (lv' := [(0, .inr (.inr (some 740))), (1, .inl _)]) (And.intro rfl (And.intro rfl True.intro)) ⟨_, rfl, rfl, ⟨by omega, (par_be hx0 (fFr_S fhB10 (by decide +kernel)) g0z17 g0z22 (by omega) (by omega) (by omega) (by omega)), (par_one (by omega) hx1 (fFr_S fhB10 (by decide +kernel)) g0z17 (g1z17 (by omega)) g0z22 (by omega) (by omega) (by omega) (by omega) (by omega) (by omega)), (pj_op (by decide) (by decide) (by decide) (by decide) (hT_mk (fFr_at (fFr_of hB1) 747 (by decide +kernel) rfl) (fBz_eq hB1 (by decide +kernel))) hx2 (by omega) (by omega) (by decide) g0z9 (by omega) (by omega) (hT_mk (fFr_at fhB10 747 (by decide +kernel) rfl) (by omega)) (fFr_S fhB10 (by decide +kernel)) (by omega) (by omega) (by omega) g2z17 (by omega) g0z22 (by omega) (by omega) (by omega) (by omega) (by omega) (by omega) (by omega) (by omega) (by omega) (hT_mk (fFr_at fhB23 747 (by decide +kernel) rfl) (by omega))), (dkI_cg g3z17 (by omega) (by omega) (by omega))⟩, rfl⟩ (by omega)
        · intro c34
          refine And.intro (⟨by decide, by decide⟩) ?_
          exact ⟨_, rfl, by omega, (par_bel hx0 (fFr_S fhB10 (by decide +kernel)) g0z17 (by omega) (by omega)), (fun q => absurd q (by omega)), (pj_op0 (by decide) (by decide) (by decide) (hT_mk (fFr_at (fFr_of hB1) 747 (by decide +kernel) rfl) (fBz_eq hB1 (by decide +kernel))) hx2 (by omega) rfl rg g0z9 (by omega) (by omega) (hT_mk (fFr_at fhB10 747 (by decide +kernel) rfl) (by omega)) (fFr_S fhB10 (by decide +kernel)) (by omega) (by omega) (by omega) g2z17 (by omega) (by omega)), g3z17, (fun q => absurd q (by omega))⟩
  · have hB0 := fB_self (zn := znJ) (K := fKc wz_2212a) h0
    have b35 := fBd fb_740_8 (fBz h0 hB0)
    have b36 := fBd fb_740_14 (fBz h0 hB0)
    have b37 := fBd fb_740_15 (fBz h0 hB0)
    have la0 := laP_bd hp3
    refine Exists.intro gm0 (And.intro ge0 (And.intro ⟨rfl, gk0.1, gk0.2.1, gk0.2.2⟩ (And.intro rfl ?_)))
    refine fcall _ h0 (fzs_sub (by decide +kernel) hW) hB0 (gc0 (fBz h0 hB0) (by first | exact ⟨ha1.1, ha1.2⟩ | omega) (by omega) (by omega) (by omega) hp3 (by omega) hp5) ?_
    rintro IhB39 _ hB39 fhB39 ⟨z38, rfl, hz38, g0z38, g1z38, g2z38, g3z38, g4z38⟩
    have k40 := fBz_eq hB39 (a := 740) (j := 8) (by decide +kernel)
    have k41 := fBz_eq hB39 (a := 740) (j := 17) (by decide +kernel)
    refine And.intro (by omega) (And.intro ?_ ?_)
    · intro c42
      have u := g4z38 (by omega)
      exact fcutJ (I := IhB39) (j := (jc_M_both_f2598_10 x1 I)) (lv' := [(0, .inr (.inr (some 740))), (1, .inl _)]) (And.intro rfl (And.intro rfl True.intro)) ⟨_, rfl, rfl, ⟨by omega, g0z38, (g1z38 (by omega)), (pj_0 (by decide) (by decide) g2z38 (by omega)), g3z38⟩, rfl⟩ (by omega)
    · intro c43
      refine And.intro (⟨by decide, by decide⟩) ?_
      exact ⟨_, rfl, by omega, g0z38, (fun q => absurd q (by omega)), (pp_0 (by decide) g2z38 (by omega) (by omega)), g3z38, (fun q => absurd q (by omega))⟩
theorem ct_M_both_f2598 {I : fH} {x1 : Int} (h0 : fB bsJ I) (ha1 : ((-1) ≤ x1 ∧ x1 ≤ 5)) (hp0 : I 740 9 ≤ I 740 10 ∧ I 740 10 ≤ I 740 8) (hp1 : 0 ≤ I 740 16 ∧ I 740 16 ≤ I 740 9) (hp2 : 15 ≤ I 740 14 + I 740 15) (hp3 : laP (I 740 17)) (hp4 : 0 ≤ I 740 18 ∧ I 740 18 ≤ I 740 9) (hp5 : dkI I) : fC ρ base n F xTc vwCl xTys D dA la gJ (fbz bsJ znJ (fKc wz_2212a) I) xm_337 [.inr (.inr (some 740)), .inl x1] I (fun I' r => ∃ z, r = some (.inl z) ∧ ((0 ≤ z ∧ z ≤ 1) ∧ (I 740 9 ≤ I' 740 9 ∧ I' 740 9 ≤ I' 740 10 ∧ I' 740 10 ≤ I' 740 8)) ∧ (sBe I I' (I 740 17) (I 740 16)) ∧ (rd1 I I' z) ∧ (pP 2 2 x1 I I' z) ∧ (dkI I') ∧ (rdU I I' z)) := cg_M_both (d := 15) mi_354 ⟨rfl, rfl, rfl⟩ (fun h0 ha1 hp0 hp1 hp2 hp3 hp4 hp5 => ct_M_test_0612d h0 ha1 hp0 hp1 (by omega) hp3 hp4 hp5) xin_337 x6_337 h0 ha1 hp0 hp1 hp2 hp3 hp4 hp5
abbrev jc_M_either_94715_10 (x1 : Int) (I0 : fH) : Nat → fL → List fV → fH → Prop := fun m lv st I => ∃ (y1 : Int), lv = [(0, .inr (.inr (some 740))), (1, .inl y1)] ∧ st = [] ∧ ((((-1) ≤ y1 ∧ y1 ≤ 5) ∧ (I0 740 9 ≤ I 740 9) ∧ (I 740 9 ≤ I 740 10) ∧ (I 740 10 ≤ I 740 8) ∧ (I0 740 16 ≤ I 740 16) ∧ (I 740 16 - I0 740 16 ≤ I 740 9 - I0 740 9) ∧ (I 740 14 = I0 740 14) ∧ (I 740 15 = I0 740 15) ∧ (I0 740 18 ≤ I 740 18) ∧ (I 740 18 - I0 740 18 ≤ I 740 9 - I0 740 9) ∧ (y1 = x1)) ∧ (sBe I0 I (I0 740 17) (I0 740 16)) ∧ (sOne I (I0 740 17) (I0 740 16) (I 740 16)) ∧ (pJ 1 2 x1 I0 I) ∧ (dkI I)) ∧ m = (1 + 1 * (96 - I 740 9) : Int).toNat
noncomputable abbrev gM_either (gn0 : Nat) (rm : Room) : xM := (⟨"AcidCityModel", "either", "(I)Z"⟩, prog_14_method_79_code, 2, (some .boolean), [(0, 3, 0, 1, []), (1, 3, 1, 0, []), (2, 33, 2, gn0, [13, 1, 17625, 0, 17627, 6154, 17628, 9230]), (5, 20, 1, 10, []), (8, 0, 0, 0, []), (9, 35, 3, 0, []), (10, 3, 0, 1, []), (11, 0, 124, 0, []), (13, 33, 2, 423, [13, 1, 18436, 0, 18438, 7168, 18439, 9230]), (16, 20, 0, 43, []), (19, 3, 0, 1, []), (20, 33, 1, 314, [13, 1, 17597, 0, 17599, 6148, 17600, 9230]), (23, 3, 0, 1, []), (24, 3, 1, 0, []), (25, 33, 2, gn0, [13, 1, 17625, 0, 17627, 6154, 17628, 9230]), (28, 20, 1, 33, []), (31, 0, 0, 0, []), (32, 35, 3, 0, []), (33, 3, 0, 1, []), (34, 0, 2, 0, []), (35, 0, 124, 0, []), (37, 33, 3, 421, [13, 1, 17645, 0, 17647, 6159, 18432, 9230]), (40, 22, 0, 10, []), (43, 0, 1, 0, []), (44, 35, 3, 0, [])], rm)
set_option maxRecDepth 8000 in
theorem cg_M_either {d : Int} {rm : Room} {gm0 : xM} {gn0 : Nat} (ge0 : xMs[gn0]? = some gm0) (gk0 : Nat.ble 2 gm0.2.2.1 = true ∧ (xR gm0).cells = 0 ∧ (xR gm0).slots = 0) (gc0 : ∀ {I : fH} {x1 : Int} (h0 : fB bsJ I) (ha1 : ((-1) ≤ x1 ∧ x1 ≤ 5)) (hp0 : I 740 9 ≤ I 740 10 ∧ I 740 10 ≤ I 740 8) (hp1 : 0 ≤ I 740 16 ∧ I 740 16 ≤ I 740 9) (hp2 : d ≤ I 740 14 + I 740 15) (hp3 : laP (I 740 17)) (hp4 : 0 ≤ I 740 18 ∧ I 740 18 ≤ I 740 9) (hp5 : dkI I), fC ρ base n F xTc vwCl xTys D dA la gJ (fbz bsJ znJ (fKc wz_2212a) I) gm0 [.inr (.inr (some 740)), .inl x1] I (fun I' r => ∃ z, r = some (.inl z) ∧ ((0 ≤ z ∧ z ≤ 1) ∧ (I 740 9 ≤ I' 740 9 ∧ I' 740 9 ≤ I' 740 10 ∧ I' 740 10 ≤ I' 740 8)) ∧ (sBe I I' (I 740 17) (I 740 16)) ∧ (rd1 I I' z) ∧ (pP 2 2 x1 I I' z) ∧ (dkI I') ∧ (rdU I I' z))) (hin : (gM_either gn0 rm) ∈ xMs) (hx6 : f60c xTc xTys (gM_either gn0 rm) = true) {I : fH} {x1 : Int} (h0 : fB bsJ I) (ha1 : ((-1) ≤ x1 ∧ x1 ≤ 5)) (hp0 : I 740 9 ≤ I 740 10 ∧ I 740 10 ≤ I 740 8) (hp1 : 0 ≤ I 740 16 ∧ I 740 16 ≤ I 740 9) (hp2 : d ≤ I 740 14 + I 740 15) (hp3 : laP (I 740 17)) (hp4 : 0 ≤ I 740 18 ∧ I 740 18 ≤ I 740 9) (hp5 : dkI I) : fC ρ base n F xTc vwCl xTys D dA la gJ (fbz bsJ znJ (fKc wz_2212a) I) (gM_either gn0 rm) [.inr (.inr (some 740)), .inl x1] I (fun I' r => ∃ z, r = some (.inl z) ∧ ((0 ≤ z ∧ z ≤ 1) ∧ (I 740 9 ≤ I' 740 9 ∧ I' 740 9 ≤ I' 740 10 ∧ I' 740 10 ≤ I' 740 8)) ∧ (sBe I I' (I 740 17) (I 740 16)) ∧ (rd1 I I' z) ∧ (pP 1 1 x1 I I' z) ∧ (dkI I') ∧ (rdU I I' z)) := by
  have hW : fzs wz_2212a (fKc wz_2212a) := fKc_ok _
  refine f_meth (rb := rbJ) (J := [(10, (jc_M_either_94715_10 x1 I))]) 98 400 xG hin hx6 okJ (fB_self h0) ?_ ?_
  · refine List.forall_mem_cons.mpr ⟨?_, fun q h => absurd h List.not_mem_nil⟩
    · rintro m _ _ I1 hB1 ⟨y1, rfl, rfl, ⟨hb, hx0, hx1, hx2, hx3⟩, hm⟩
      have k1 := fBz_eq hB1 (a := 740) (j := 8) (by decide +kernel)
      have k2 := fBz_eq hB1 (a := 740) (j := 17) (by decide +kernel)
      have b3 := fBd fb_740_8 (fBz h0 hB1)
      have b4 := fBd fb_740_14 (fBz h0 hB1)
      have b5 := fBd fb_740_15 (fBz h0 hB1)
      have ey1 : x1 = y1 := by omega
      subst ey1
      have la0 := laP_bd hp3
      refine Exists.intro xm_423 (And.intro mi_423 (And.intro ⟨rfl, rfl, rfl, rfl⟩ (And.intro rfl ?_)))
      refine fcallp hB1 (ct_M_isSign_90da9 (fBz h0 hB1) (by first | exact ⟨by decide, by decide⟩ | omega)) ?_
      rintro _ ⟨z6, rfl, hz6, g0z6⟩
      refine And.intro (by omega) (And.intro ?_ ?_)
      · intro c7
        refine And.intro (⟨by decide, by decide⟩) ?_
        exact ⟨_, rfl, by omega, hx0, (fun _ => hx1), (pj_end (by decide) (by decide) (hT_mk (fFr_at (fFr_of hB1) 747 (by decide +kernel) rfl) (fBz_eq hB1 (by decide +kernel))) hx2 (by omega) (fun q => by have q2 := rdG_of q.2 (by decide); have q1 := q.1; have n13 := sgP_0 g0z6 (by omega) q1; omega)), hx3, (fun _ => by omega)⟩
      · intro c8
        have sg := sgP_1 g0z6 (by omega)
        have rg : rdG (I1 740 13) = 1 := by rw [sg.2]; decide
        have d9 := dkI_3 hx3 (by omega)
        refine Exists.intro xm_314 (And.intro mi_314 (And.intro ⟨rfl, rfl, rfl, rfl⟩ (And.intro rfl ?_)))
        refine fcall _ h0 (fzs_sub (by decide +kernel) hW) hB1 (ct_M_next_c8003 (fBz h0 hB1) (by omega)) ?_
        rintro IhB10 _ hB10 fhB10 ⟨rfl, hz9, g0z9, g1z9⟩
        have t11 := fhB10 740 14 (by decide +kernel)
        have t12 := fhB10 740 15 (by decide +kernel)
        have t13 := fhB10 740 16 (by decide +kernel)
        have t14 := fhB10 740 18 (by decide +kernel)
        have k15 := fBz_eq hB10 (a := 740) (j := 8) (by decide +kernel)
        have k16 := fBz_eq hB10 (a := 740) (j := 17) (by decide +kernel)
        refine Exists.intro gm0 (And.intro ge0 (And.intro ⟨rfl, gk0.1, gk0.2.1, gk0.2.2⟩ (And.intro rfl ?_)))
        refine fcall _ h0 (fzs_sub (by decide +kernel) hW) hB10 (gc0 (fBz h0 hB10) (by first | exact ⟨hb.1.1, hb.1.2⟩ | omega) (by omega) (by omega) (by omega) (laP_cg hp3 (by omega)) (by omega) g1z9) ?_
        rintro IhB18 _ hB18 fhB18 ⟨z17, rfl, hz17, g0z17, g1z17, g2z17, g3z17, g4z17⟩
        have k19 := fBz_eq hB18 (a := 740) (j := 8) (by decide +kernel)
        have k20 := fBz_eq hB18 (a := 740) (j := 17) (by decide +kernel)
        refine And.intro (by omega) (And.intro ?_ ?_)
        · intro c21
          have u2 := g4z17 (by omega)
          refine Exists.intro xm_421 (And.intro mi_421 (And.intro ⟨rfl, rfl, rfl, rfl⟩ (And.intro rfl ?_)))
          refine fcall _ h0 (fzs_sub (by decide +kernel) hW) hB18 (ct_M_step_2c704 (fBz h0 hB18) (by first | exact ⟨by decide, by decide⟩ | omega) (by first | exact ⟨by decide, by decide⟩ | omega) (by omega) (laP_cg hp3 (by omega))) ?_
          rintro IhB23 _ hB23 fhB23 ⟨rfl, hz22, g0z22⟩
          have t24 := fhB23 740 9 (by decide +kernel)
          have t25 := fhB23 740 10 (by decide +kernel)
          have t26 := fhB23 740 11 (by decide +kernel)
          have t27 := fhB23 740 12 (by decide +kernel)
          have t28 := fhB23 740 13 (by decide +kernel)
          have t29 := fhB23 740 14 (by decide +kernel)
          have t30 := fhB23 740 15 (by decide +kernel)
          have t31 := fhB23 740 18 (by decide +kernel)
          have k32 := fBz_eq hB23 (a := 740) (j := 8) (by decide +kernel)
          have k33 := fBz_eq hB23 (a := 740) (j := 17) (by decide +kernel)
          exact fcutJ (I := IhB23) (j := (jc_M_either_94715_10 x1 I)) (lv' := [(0, .inr (.inr (some 740))), (1, .inl _)]) (And.intro rfl (And.intro rfl True.intro)) ⟨_, rfl, rfl, ⟨by omega, (par_be hx0 (fFr_S fhB10 (by decide +kernel)) g0z17 g0z22 (by omega) (by omega) (by omega) (by omega)), (par_one (by omega) hx1 (fFr_S fhB10 (by decide +kernel)) g0z17 (g1z17 (by omega)) g0z22 (by omega) (by omega) (by omega) (by omega) (by omega) (by omega)), (pj_op (by decide) (by decide) (by decide) (by decide) (hT_mk (fFr_at (fFr_of hB1) 747 (by decide +kernel) rfl) (fBz_eq hB1 (by decide +kernel))) hx2 (by omega) (by omega) (by decide) g0z9 (by omega) (by omega) (hT_mk (fFr_at fhB10 747 (by decide +kernel) rfl) (by omega)) (fFr_S fhB10 (by decide +kernel)) (by omega) (by omega) (by omega) g2z17 (by omega) g0z22 (by omega) (by omega) (by omega) (by omega) (by omega) (by omega) (by omega) (by omega) (by omega) (hT_mk (fFr_at fhB23 747 (by decide +kernel) rfl) (by omega))), (dkI_cg g3z17 (by omega) (by omega) (by omega))⟩, rfl⟩ (by omega)
        · intro c34
          refine And.intro (⟨by decide, by decide⟩) ?_
          exact ⟨_, rfl, by omega, (par_bel hx0 (fFr_S fhB10 (by decide +kernel)) g0z17 (by omega) (by omega)), (fun q => absurd q (by omega)), (pj_op0 (by decide) (by decide) (by decide) (hT_mk (fFr_at (fFr_of hB1) 747 (by decide +kernel) rfl) (fBz_eq hB1 (by decide +kernel))) hx2 (by omega) rfl rg g0z9 (by omega) (by omega) (hT_mk (fFr_at fhB10 747 (by decide +kernel) rfl) (by omega)) (fFr_S fhB10 (by decide +kernel)) (by omega) (by omega) (by omega) g2z17 (by omega) (by omega)), g3z17, (fun q => absurd q (by omega))⟩
  · have hB0 := fB_self (zn := znJ) (K := fKc wz_2212a) h0
    have b35 := fBd fb_740_8 (fBz h0 hB0)
    have b36 := fBd fb_740_14 (fBz h0 hB0)
    have b37 := fBd fb_740_15 (fBz h0 hB0)
    have la0 := laP_bd hp3
    refine Exists.intro gm0 (And.intro ge0 (And.intro ⟨rfl, gk0.1, gk0.2.1, gk0.2.2⟩ (And.intro rfl ?_)))
    refine fcall _ h0 (fzs_sub (by decide +kernel) hW) hB0 (gc0 (fBz h0 hB0) (by first | exact ⟨ha1.1, ha1.2⟩ | omega) (by omega) (by omega) (by omega) hp3 (by omega) hp5) ?_
    rintro IhB39 _ hB39 fhB39 ⟨z38, rfl, hz38, g0z38, g1z38, g2z38, g3z38, g4z38⟩
    have k40 := fBz_eq hB39 (a := 740) (j := 8) (by decide +kernel)
    have k41 := fBz_eq hB39 (a := 740) (j := 17) (by decide +kernel)
    refine And.intro (by omega) (And.intro ?_ ?_)
    · intro c42
      have u := g4z38 (by omega)
      exact fcutJ (I := IhB39) (j := (jc_M_either_94715_10 x1 I)) (lv' := [(0, .inr (.inr (some 740))), (1, .inl _)]) (And.intro rfl (And.intro rfl True.intro)) ⟨_, rfl, rfl, ⟨by omega, g0z38, (g1z38 (by omega)), (pj_0 (by decide) (by decide) g2z38 (by omega)), g3z38⟩, rfl⟩ (by omega)
    · intro c43
      refine And.intro (⟨by decide, by decide⟩) ?_
      exact ⟨_, rfl, by omega, g0z38, (fun q => absurd q (by omega)), (pp_0 (by decide) g2z38 (by omega) (by omega)), g3z38, (fun q => absurd q (by omega))⟩
theorem ct_M_either_94715 {I : fH} {x1 : Int} (h0 : fB bsJ I) (ha1 : ((-1) ≤ x1 ∧ x1 ≤ 5)) (hp0 : I 740 9 ≤ I 740 10 ∧ I 740 10 ≤ I 740 8) (hp1 : 0 ≤ I 740 16 ∧ I 740 16 ≤ I 740 9) (hp2 : 15 ≤ I 740 14 + I 740 15) (hp3 : laP (I 740 17)) (hp4 : 0 ≤ I 740 18 ∧ I 740 18 ≤ I 740 9) (hp5 : dkI I) : fC ρ base n F xTc vwCl xTys D dA la gJ (fbz bsJ znJ (fKc wz_2212a) I) xm_320 [.inr (.inr (some 740)), .inl x1] I (fun I' r => ∃ z, r = some (.inl z) ∧ ((0 ≤ z ∧ z ≤ 1) ∧ (I 740 9 ≤ I' 740 9 ∧ I' 740 9 ≤ I' 740 10 ∧ I' 740 10 ≤ I' 740 8)) ∧ (sBe I I' (I 740 17) (I 740 16)) ∧ (rd1 I I' z) ∧ (pP 1 1 x1 I I' z) ∧ (dkI I') ∧ (rdU I I' z)) := cg_M_either (d := 15) mi_337 ⟨rfl, rfl, rfl⟩ (fun h0 ha1 hp0 hp1 hp2 hp3 hp4 hp5 => ct_M_both_f2598 h0 ha1 hp0 hp1 (by omega) hp3 hp4 hp5) xin_320 x6_320 h0 ha1 hp0 hp1 hp2 hp3 hp4 hp5
theorem ct_M_part0_08c48 {I : fH} {x1 : Int} (h0 : fB bsJ I) (ha1 : ((-1) ≤ x1 ∧ x1 ≤ 5)) (hp0 : I 740 9 ≤ I 740 10 ∧ I 740 10 ≤ I 740 8) (hp1 : 0 ≤ I 740 16 ∧ I 740 16 ≤ I 740 9) (hp2 : 14 ≤ I 740 14 + I 740 15) (hp3 : laP (I 740 17)) (hp4 : 0 ≤ I 740 18 ∧ I 740 18 ≤ I 740 9) (hp5 : dkI I) : fC ρ base n F xTc vwCl xTys D dA la gJ (fbz bsJ znJ (fKc wz_2212a) I) xm_406 [.inr (.inr (some 740)), .inl x1] I (fun I' r => ∃ z, r = some (.inl z) ∧ ((0 ≤ z ∧ z ≤ 1) ∧ (I 740 9 ≤ I' 740 9 ∧ I' 740 9 ≤ I' 740 10 ∧ I' 740 10 ≤ I' 740 8)) ∧ (sBe I I' (I 740 17) (I 740 16)) ∧ (rd1 I I' z) ∧ (pP 6 7 x1 I I' z) ∧ (dkI I') ∧ (rdU I I' z)) := cg_M_part0 (d := 14) mi_320 ⟨rfl, rfl, rfl⟩ (fun h0 ha1 hp0 hp1 hp2 hp3 hp4 hp5 => ct_M_either_94715 h0 ha1 hp0 hp1 (by omega) hp3 hp4 hp5) mi_405 ⟨rfl, rfl, rfl⟩ (fun h0 ha1 hp0 hp1 hp2 hp3 hp4 hp5 => ct_M_part0_18b69 h0 ha1 hp0 hp1 (by omega) hp3 hp4 hp5) xin_406 x6_406 h0 ha1 hp0 hp1 hp2 hp3 hp4 hp5
theorem ct_M_term_59905 {I : fH} {x1 : Int} (h0 : fB bsJ I) (ha1 : ((-1) ≤ x1 ∧ x1 ≤ 5)) (hp0 : I 740 9 ≤ I 740 10 ∧ I 740 10 ≤ I 740 8) (hp1 : 0 ≤ I 740 16 ∧ I 740 16 ≤ I 740 9) (hp2 : 14 ≤ I 740 14 + I 740 15) (hp3 : laP (I 740 17)) (hp4 : 0 ≤ I 740 18 ∧ I 740 18 ≤ I 740 9) (hp5 : dkI I) : fC ρ base n F xTc vwCl xTys D dA la gJ (fbz bsJ znJ (fKc wz_2212a) I) xm_389 [.inr (.inr (some 740)), .inl x1] I (fun I' r => ∃ z, r = some (.inl z) ∧ ((0 ≤ z ∧ z ≤ 1) ∧ (I 740 9 ≤ I' 740 9 ∧ I' 740 9 ≤ I' 740 10 ∧ I' 740 10 ≤ I' 740 8)) ∧ (sBe I I' (I 740 17) (I 740 16)) ∧ (rd1 I I' z) ∧ (pP 5 5 x1 I I' z) ∧ (dkI I') ∧ (rdU I I' z)) := cg_M_term (d := 14) mi_406 ⟨rfl, rfl, rfl⟩ (fun h0 ha1 hp0 hp1 hp2 hp3 hp4 hp5 => ct_M_part0_08c48 h0 ha1 hp0 hp1 (by omega) hp3 hp4 hp5) xin_389 x6_389 h0 ha1 hp0 hp1 hp2 hp3 hp4 hp5
theorem ct_M_sum_a9d56 {I : fH} {x1 : Int} (h0 : fB bsJ I) (ha1 : ((-1) ≤ x1 ∧ x1 ≤ 5)) (hp0 : I 740 9 ≤ I 740 10 ∧ I 740 10 ≤ I 740 8) (hp1 : 0 ≤ I 740 16 ∧ I 740 16 ≤ I 740 9) (hp2 : 14 ≤ I 740 14 + I 740 15) (hp3 : laP (I 740 17)) (hp4 : 0 ≤ I 740 18 ∧ I 740 18 ≤ I 740 9) (hp5 : dkI I) : fC ρ base n F xTc vwCl xTys D dA la gJ (fbz bsJ znJ (fKc wz_2212a) I) xm_372 [.inr (.inr (some 740)), .inl x1] I (fun I' r => ∃ z, r = some (.inl z) ∧ ((0 ≤ z ∧ z ≤ 1) ∧ (I 740 9 ≤ I' 740 9 ∧ I' 740 9 ≤ I' 740 10 ∧ I' 740 10 ≤ I' 740 8)) ∧ (sBe I I' (I 740 17) (I 740 16)) ∧ (rd1 I I' z) ∧ (pP 4 4 x1 I I' z) ∧ (dkI I') ∧ (rdU I I' z)) := cg_M_sum (d := 14) mi_389 ⟨rfl, rfl, rfl⟩ (fun h0 ha1 hp0 hp1 hp2 hp3 hp4 hp5 => ct_M_term_59905 h0 ha1 hp0 hp1 (by omega) hp3 hp4 hp5) xin_372 x6_372 h0 ha1 hp0 hp1 hp2 hp3 hp4 hp5
theorem ct_M_test_64940 {I : fH} {x1 : Int} (h0 : fB bsJ I) (ha1 : ((-1) ≤ x1 ∧ x1 ≤ 5)) (hp0 : I 740 9 ≤ I 740 10 ∧ I 740 10 ≤ I 740 8) (hp1 : 0 ≤ I 740 16 ∧ I 740 16 ≤ I 740 9) (hp2 : 14 ≤ I 740 14 + I 740 15) (hp3 : laP (I 740 17)) (hp4 : 0 ≤ I 740 18 ∧ I 740 18 ≤ I 740 9) (hp5 : dkI I) : fC ρ base n F xTc vwCl xTys D dA la gJ (fbz bsJ znJ (fKc wz_2212a) I) xm_355 [.inr (.inr (some 740)), .inl x1] I (fun I' r => ∃ z, r = some (.inl z) ∧ ((0 ≤ z ∧ z ≤ 1) ∧ (I 740 9 ≤ I' 740 9 ∧ I' 740 9 ≤ I' 740 10 ∧ I' 740 10 ≤ I' 740 8)) ∧ (sBe I I' (I 740 17) (I 740 16)) ∧ (rd1 I I' z) ∧ (pP 3 3 x1 I I' z) ∧ (dkI I') ∧ (rdU I I' z)) := cg_M_test (d := 14) mi_372 ⟨rfl, rfl, rfl⟩ (fun h0 ha1 hp0 hp1 hp2 hp3 hp4 hp5 => ct_M_sum_a9d56 h0 ha1 hp0 hp1 (by omega) hp3 hp4 hp5) xin_355 x6_355 h0 ha1 hp0 hp1 hp2 hp3 hp4 hp5
theorem ct_M_both_86858 {I : fH} {x1 : Int} (h0 : fB bsJ I) (ha1 : ((-1) ≤ x1 ∧ x1 ≤ 5)) (hp0 : I 740 9 ≤ I 740 10 ∧ I 740 10 ≤ I 740 8) (hp1 : 0 ≤ I 740 16 ∧ I 740 16 ≤ I 740 9) (hp2 : 14 ≤ I 740 14 + I 740 15) (hp3 : laP (I 740 17)) (hp4 : 0 ≤ I 740 18 ∧ I 740 18 ≤ I 740 9) (hp5 : dkI I) : fC ρ base n F xTc vwCl xTys D dA la gJ (fbz bsJ znJ (fKc wz_2212a) I) xm_338 [.inr (.inr (some 740)), .inl x1] I (fun I' r => ∃ z, r = some (.inl z) ∧ ((0 ≤ z ∧ z ≤ 1) ∧ (I 740 9 ≤ I' 740 9 ∧ I' 740 9 ≤ I' 740 10 ∧ I' 740 10 ≤ I' 740 8)) ∧ (sBe I I' (I 740 17) (I 740 16)) ∧ (rd1 I I' z) ∧ (pP 2 2 x1 I I' z) ∧ (dkI I') ∧ (rdU I I' z)) := cg_M_both (d := 14) mi_355 ⟨rfl, rfl, rfl⟩ (fun h0 ha1 hp0 hp1 hp2 hp3 hp4 hp5 => ct_M_test_64940 h0 ha1 hp0 hp1 (by omega) hp3 hp4 hp5) xin_338 x6_338 h0 ha1 hp0 hp1 hp2 hp3 hp4 hp5
theorem ct_M_either_49787 {I : fH} {x1 : Int} (h0 : fB bsJ I) (ha1 : ((-1) ≤ x1 ∧ x1 ≤ 5)) (hp0 : I 740 9 ≤ I 740 10 ∧ I 740 10 ≤ I 740 8) (hp1 : 0 ≤ I 740 16 ∧ I 740 16 ≤ I 740 9) (hp2 : 14 ≤ I 740 14 + I 740 15) (hp3 : laP (I 740 17)) (hp4 : 0 ≤ I 740 18 ∧ I 740 18 ≤ I 740 9) (hp5 : dkI I) : fC ρ base n F xTc vwCl xTys D dA la gJ (fbz bsJ znJ (fKc wz_2212a) I) xm_321 [.inr (.inr (some 740)), .inl x1] I (fun I' r => ∃ z, r = some (.inl z) ∧ ((0 ≤ z ∧ z ≤ 1) ∧ (I 740 9 ≤ I' 740 9 ∧ I' 740 9 ≤ I' 740 10 ∧ I' 740 10 ≤ I' 740 8)) ∧ (sBe I I' (I 740 17) (I 740 16)) ∧ (rd1 I I' z) ∧ (pP 1 1 x1 I I' z) ∧ (dkI I') ∧ (rdU I I' z)) := cg_M_either (d := 14) mi_338 ⟨rfl, rfl, rfl⟩ (fun h0 ha1 hp0 hp1 hp2 hp3 hp4 hp5 => ct_M_both_86858 h0 ha1 hp0 hp1 (by omega) hp3 hp4 hp5) xin_321 x6_321 h0 ha1 hp0 hp1 hp2 hp3 hp4 hp5
theorem ct_M_part0_ded0c {I : fH} {x1 : Int} (h0 : fB bsJ I) (ha1 : ((-1) ≤ x1 ∧ x1 ≤ 5)) (hp0 : I 740 9 ≤ I 740 10 ∧ I 740 10 ≤ I 740 8) (hp1 : 0 ≤ I 740 16 ∧ I 740 16 ≤ I 740 9) (hp2 : 13 ≤ I 740 14 + I 740 15) (hp3 : laP (I 740 17)) (hp4 : 0 ≤ I 740 18 ∧ I 740 18 ≤ I 740 9) (hp5 : dkI I) : fC ρ base n F xTc vwCl xTys D dA la gJ (fbz bsJ znJ (fKc wz_2212a) I) xm_407 [.inr (.inr (some 740)), .inl x1] I (fun I' r => ∃ z, r = some (.inl z) ∧ ((0 ≤ z ∧ z ≤ 1) ∧ (I 740 9 ≤ I' 740 9 ∧ I' 740 9 ≤ I' 740 10 ∧ I' 740 10 ≤ I' 740 8)) ∧ (sBe I I' (I 740 17) (I 740 16)) ∧ (rd1 I I' z) ∧ (pP 6 7 x1 I I' z) ∧ (dkI I') ∧ (rdU I I' z)) := cg_M_part0 (d := 13) mi_321 ⟨rfl, rfl, rfl⟩ (fun h0 ha1 hp0 hp1 hp2 hp3 hp4 hp5 => ct_M_either_49787 h0 ha1 hp0 hp1 (by omega) hp3 hp4 hp5) mi_406 ⟨rfl, rfl, rfl⟩ (fun h0 ha1 hp0 hp1 hp2 hp3 hp4 hp5 => ct_M_part0_08c48 h0 ha1 hp0 hp1 (by omega) hp3 hp4 hp5) xin_407 x6_407 h0 ha1 hp0 hp1 hp2 hp3 hp4 hp5
theorem ct_M_term_9fe76 {I : fH} {x1 : Int} (h0 : fB bsJ I) (ha1 : ((-1) ≤ x1 ∧ x1 ≤ 5)) (hp0 : I 740 9 ≤ I 740 10 ∧ I 740 10 ≤ I 740 8) (hp1 : 0 ≤ I 740 16 ∧ I 740 16 ≤ I 740 9) (hp2 : 13 ≤ I 740 14 + I 740 15) (hp3 : laP (I 740 17)) (hp4 : 0 ≤ I 740 18 ∧ I 740 18 ≤ I 740 9) (hp5 : dkI I) : fC ρ base n F xTc vwCl xTys D dA la gJ (fbz bsJ znJ (fKc wz_2212a) I) xm_390 [.inr (.inr (some 740)), .inl x1] I (fun I' r => ∃ z, r = some (.inl z) ∧ ((0 ≤ z ∧ z ≤ 1) ∧ (I 740 9 ≤ I' 740 9 ∧ I' 740 9 ≤ I' 740 10 ∧ I' 740 10 ≤ I' 740 8)) ∧ (sBe I I' (I 740 17) (I 740 16)) ∧ (rd1 I I' z) ∧ (pP 5 5 x1 I I' z) ∧ (dkI I') ∧ (rdU I I' z)) := cg_M_term (d := 13) mi_407 ⟨rfl, rfl, rfl⟩ (fun h0 ha1 hp0 hp1 hp2 hp3 hp4 hp5 => ct_M_part0_ded0c h0 ha1 hp0 hp1 (by omega) hp3 hp4 hp5) xin_390 x6_390 h0 ha1 hp0 hp1 hp2 hp3 hp4 hp5
theorem ct_M_sum_81519 {I : fH} {x1 : Int} (h0 : fB bsJ I) (ha1 : ((-1) ≤ x1 ∧ x1 ≤ 5)) (hp0 : I 740 9 ≤ I 740 10 ∧ I 740 10 ≤ I 740 8) (hp1 : 0 ≤ I 740 16 ∧ I 740 16 ≤ I 740 9) (hp2 : 13 ≤ I 740 14 + I 740 15) (hp3 : laP (I 740 17)) (hp4 : 0 ≤ I 740 18 ∧ I 740 18 ≤ I 740 9) (hp5 : dkI I) : fC ρ base n F xTc vwCl xTys D dA la gJ (fbz bsJ znJ (fKc wz_2212a) I) xm_373 [.inr (.inr (some 740)), .inl x1] I (fun I' r => ∃ z, r = some (.inl z) ∧ ((0 ≤ z ∧ z ≤ 1) ∧ (I 740 9 ≤ I' 740 9 ∧ I' 740 9 ≤ I' 740 10 ∧ I' 740 10 ≤ I' 740 8)) ∧ (sBe I I' (I 740 17) (I 740 16)) ∧ (rd1 I I' z) ∧ (pP 4 4 x1 I I' z) ∧ (dkI I') ∧ (rdU I I' z)) := cg_M_sum (d := 13) mi_390 ⟨rfl, rfl, rfl⟩ (fun h0 ha1 hp0 hp1 hp2 hp3 hp4 hp5 => ct_M_term_9fe76 h0 ha1 hp0 hp1 (by omega) hp3 hp4 hp5) xin_373 x6_373 h0 ha1 hp0 hp1 hp2 hp3 hp4 hp5
theorem ct_M_test_35c6b {I : fH} {x1 : Int} (h0 : fB bsJ I) (ha1 : ((-1) ≤ x1 ∧ x1 ≤ 5)) (hp0 : I 740 9 ≤ I 740 10 ∧ I 740 10 ≤ I 740 8) (hp1 : 0 ≤ I 740 16 ∧ I 740 16 ≤ I 740 9) (hp2 : 13 ≤ I 740 14 + I 740 15) (hp3 : laP (I 740 17)) (hp4 : 0 ≤ I 740 18 ∧ I 740 18 ≤ I 740 9) (hp5 : dkI I) : fC ρ base n F xTc vwCl xTys D dA la gJ (fbz bsJ znJ (fKc wz_2212a) I) xm_356 [.inr (.inr (some 740)), .inl x1] I (fun I' r => ∃ z, r = some (.inl z) ∧ ((0 ≤ z ∧ z ≤ 1) ∧ (I 740 9 ≤ I' 740 9 ∧ I' 740 9 ≤ I' 740 10 ∧ I' 740 10 ≤ I' 740 8)) ∧ (sBe I I' (I 740 17) (I 740 16)) ∧ (rd1 I I' z) ∧ (pP 3 3 x1 I I' z) ∧ (dkI I') ∧ (rdU I I' z)) := cg_M_test (d := 13) mi_373 ⟨rfl, rfl, rfl⟩ (fun h0 ha1 hp0 hp1 hp2 hp3 hp4 hp5 => ct_M_sum_81519 h0 ha1 hp0 hp1 (by omega) hp3 hp4 hp5) xin_356 x6_356 h0 ha1 hp0 hp1 hp2 hp3 hp4 hp5
theorem ct_M_both_630a5 {I : fH} {x1 : Int} (h0 : fB bsJ I) (ha1 : ((-1) ≤ x1 ∧ x1 ≤ 5)) (hp0 : I 740 9 ≤ I 740 10 ∧ I 740 10 ≤ I 740 8) (hp1 : 0 ≤ I 740 16 ∧ I 740 16 ≤ I 740 9) (hp2 : 13 ≤ I 740 14 + I 740 15) (hp3 : laP (I 740 17)) (hp4 : 0 ≤ I 740 18 ∧ I 740 18 ≤ I 740 9) (hp5 : dkI I) : fC ρ base n F xTc vwCl xTys D dA la gJ (fbz bsJ znJ (fKc wz_2212a) I) xm_339 [.inr (.inr (some 740)), .inl x1] I (fun I' r => ∃ z, r = some (.inl z) ∧ ((0 ≤ z ∧ z ≤ 1) ∧ (I 740 9 ≤ I' 740 9 ∧ I' 740 9 ≤ I' 740 10 ∧ I' 740 10 ≤ I' 740 8)) ∧ (sBe I I' (I 740 17) (I 740 16)) ∧ (rd1 I I' z) ∧ (pP 2 2 x1 I I' z) ∧ (dkI I') ∧ (rdU I I' z)) := cg_M_both (d := 13) mi_356 ⟨rfl, rfl, rfl⟩ (fun h0 ha1 hp0 hp1 hp2 hp3 hp4 hp5 => ct_M_test_35c6b h0 ha1 hp0 hp1 (by omega) hp3 hp4 hp5) xin_339 x6_339 h0 ha1 hp0 hp1 hp2 hp3 hp4 hp5
theorem ct_M_either_9440d {I : fH} {x1 : Int} (h0 : fB bsJ I) (ha1 : ((-1) ≤ x1 ∧ x1 ≤ 5)) (hp0 : I 740 9 ≤ I 740 10 ∧ I 740 10 ≤ I 740 8) (hp1 : 0 ≤ I 740 16 ∧ I 740 16 ≤ I 740 9) (hp2 : 13 ≤ I 740 14 + I 740 15) (hp3 : laP (I 740 17)) (hp4 : 0 ≤ I 740 18 ∧ I 740 18 ≤ I 740 9) (hp5 : dkI I) : fC ρ base n F xTc vwCl xTys D dA la gJ (fbz bsJ znJ (fKc wz_2212a) I) xm_322 [.inr (.inr (some 740)), .inl x1] I (fun I' r => ∃ z, r = some (.inl z) ∧ ((0 ≤ z ∧ z ≤ 1) ∧ (I 740 9 ≤ I' 740 9 ∧ I' 740 9 ≤ I' 740 10 ∧ I' 740 10 ≤ I' 740 8)) ∧ (sBe I I' (I 740 17) (I 740 16)) ∧ (rd1 I I' z) ∧ (pP 1 1 x1 I I' z) ∧ (dkI I') ∧ (rdU I I' z)) := cg_M_either (d := 13) mi_339 ⟨rfl, rfl, rfl⟩ (fun h0 ha1 hp0 hp1 hp2 hp3 hp4 hp5 => ct_M_both_630a5 h0 ha1 hp0 hp1 (by omega) hp3 hp4 hp5) xin_322 x6_322 h0 ha1 hp0 hp1 hp2 hp3 hp4 hp5
theorem ct_M_part0_30850 {I : fH} {x1 : Int} (h0 : fB bsJ I) (ha1 : ((-1) ≤ x1 ∧ x1 ≤ 5)) (hp0 : I 740 9 ≤ I 740 10 ∧ I 740 10 ≤ I 740 8) (hp1 : 0 ≤ I 740 16 ∧ I 740 16 ≤ I 740 9) (hp2 : 12 ≤ I 740 14 + I 740 15) (hp3 : laP (I 740 17)) (hp4 : 0 ≤ I 740 18 ∧ I 740 18 ≤ I 740 9) (hp5 : dkI I) : fC ρ base n F xTc vwCl xTys D dA la gJ (fbz bsJ znJ (fKc wz_2212a) I) xm_408 [.inr (.inr (some 740)), .inl x1] I (fun I' r => ∃ z, r = some (.inl z) ∧ ((0 ≤ z ∧ z ≤ 1) ∧ (I 740 9 ≤ I' 740 9 ∧ I' 740 9 ≤ I' 740 10 ∧ I' 740 10 ≤ I' 740 8)) ∧ (sBe I I' (I 740 17) (I 740 16)) ∧ (rd1 I I' z) ∧ (pP 6 7 x1 I I' z) ∧ (dkI I') ∧ (rdU I I' z)) := cg_M_part0 (d := 12) mi_322 ⟨rfl, rfl, rfl⟩ (fun h0 ha1 hp0 hp1 hp2 hp3 hp4 hp5 => ct_M_either_9440d h0 ha1 hp0 hp1 (by omega) hp3 hp4 hp5) mi_407 ⟨rfl, rfl, rfl⟩ (fun h0 ha1 hp0 hp1 hp2 hp3 hp4 hp5 => ct_M_part0_ded0c h0 ha1 hp0 hp1 (by omega) hp3 hp4 hp5) xin_408 x6_408 h0 ha1 hp0 hp1 hp2 hp3 hp4 hp5
theorem ct_M_term_7e0ad {I : fH} {x1 : Int} (h0 : fB bsJ I) (ha1 : ((-1) ≤ x1 ∧ x1 ≤ 5)) (hp0 : I 740 9 ≤ I 740 10 ∧ I 740 10 ≤ I 740 8) (hp1 : 0 ≤ I 740 16 ∧ I 740 16 ≤ I 740 9) (hp2 : 12 ≤ I 740 14 + I 740 15) (hp3 : laP (I 740 17)) (hp4 : 0 ≤ I 740 18 ∧ I 740 18 ≤ I 740 9) (hp5 : dkI I) : fC ρ base n F xTc vwCl xTys D dA la gJ (fbz bsJ znJ (fKc wz_2212a) I) xm_391 [.inr (.inr (some 740)), .inl x1] I (fun I' r => ∃ z, r = some (.inl z) ∧ ((0 ≤ z ∧ z ≤ 1) ∧ (I 740 9 ≤ I' 740 9 ∧ I' 740 9 ≤ I' 740 10 ∧ I' 740 10 ≤ I' 740 8)) ∧ (sBe I I' (I 740 17) (I 740 16)) ∧ (rd1 I I' z) ∧ (pP 5 5 x1 I I' z) ∧ (dkI I') ∧ (rdU I I' z)) := cg_M_term (d := 12) mi_408 ⟨rfl, rfl, rfl⟩ (fun h0 ha1 hp0 hp1 hp2 hp3 hp4 hp5 => ct_M_part0_30850 h0 ha1 hp0 hp1 (by omega) hp3 hp4 hp5) xin_391 x6_391 h0 ha1 hp0 hp1 hp2 hp3 hp4 hp5
theorem ct_M_sum_de2dd {I : fH} {x1 : Int} (h0 : fB bsJ I) (ha1 : ((-1) ≤ x1 ∧ x1 ≤ 5)) (hp0 : I 740 9 ≤ I 740 10 ∧ I 740 10 ≤ I 740 8) (hp1 : 0 ≤ I 740 16 ∧ I 740 16 ≤ I 740 9) (hp2 : 12 ≤ I 740 14 + I 740 15) (hp3 : laP (I 740 17)) (hp4 : 0 ≤ I 740 18 ∧ I 740 18 ≤ I 740 9) (hp5 : dkI I) : fC ρ base n F xTc vwCl xTys D dA la gJ (fbz bsJ znJ (fKc wz_2212a) I) xm_374 [.inr (.inr (some 740)), .inl x1] I (fun I' r => ∃ z, r = some (.inl z) ∧ ((0 ≤ z ∧ z ≤ 1) ∧ (I 740 9 ≤ I' 740 9 ∧ I' 740 9 ≤ I' 740 10 ∧ I' 740 10 ≤ I' 740 8)) ∧ (sBe I I' (I 740 17) (I 740 16)) ∧ (rd1 I I' z) ∧ (pP 4 4 x1 I I' z) ∧ (dkI I') ∧ (rdU I I' z)) := cg_M_sum (d := 12) mi_391 ⟨rfl, rfl, rfl⟩ (fun h0 ha1 hp0 hp1 hp2 hp3 hp4 hp5 => ct_M_term_7e0ad h0 ha1 hp0 hp1 (by omega) hp3 hp4 hp5) xin_374 x6_374 h0 ha1 hp0 hp1 hp2 hp3 hp4 hp5
theorem ct_M_test_95df3 {I : fH} {x1 : Int} (h0 : fB bsJ I) (ha1 : ((-1) ≤ x1 ∧ x1 ≤ 5)) (hp0 : I 740 9 ≤ I 740 10 ∧ I 740 10 ≤ I 740 8) (hp1 : 0 ≤ I 740 16 ∧ I 740 16 ≤ I 740 9) (hp2 : 12 ≤ I 740 14 + I 740 15) (hp3 : laP (I 740 17)) (hp4 : 0 ≤ I 740 18 ∧ I 740 18 ≤ I 740 9) (hp5 : dkI I) : fC ρ base n F xTc vwCl xTys D dA la gJ (fbz bsJ znJ (fKc wz_2212a) I) xm_357 [.inr (.inr (some 740)), .inl x1] I (fun I' r => ∃ z, r = some (.inl z) ∧ ((0 ≤ z ∧ z ≤ 1) ∧ (I 740 9 ≤ I' 740 9 ∧ I' 740 9 ≤ I' 740 10 ∧ I' 740 10 ≤ I' 740 8)) ∧ (sBe I I' (I 740 17) (I 740 16)) ∧ (rd1 I I' z) ∧ (pP 3 3 x1 I I' z) ∧ (dkI I') ∧ (rdU I I' z)) := cg_M_test (d := 12) mi_374 ⟨rfl, rfl, rfl⟩ (fun h0 ha1 hp0 hp1 hp2 hp3 hp4 hp5 => ct_M_sum_de2dd h0 ha1 hp0 hp1 (by omega) hp3 hp4 hp5) xin_357 x6_357 h0 ha1 hp0 hp1 hp2 hp3 hp4 hp5
theorem ct_M_both_9476d {I : fH} {x1 : Int} (h0 : fB bsJ I) (ha1 : ((-1) ≤ x1 ∧ x1 ≤ 5)) (hp0 : I 740 9 ≤ I 740 10 ∧ I 740 10 ≤ I 740 8) (hp1 : 0 ≤ I 740 16 ∧ I 740 16 ≤ I 740 9) (hp2 : 12 ≤ I 740 14 + I 740 15) (hp3 : laP (I 740 17)) (hp4 : 0 ≤ I 740 18 ∧ I 740 18 ≤ I 740 9) (hp5 : dkI I) : fC ρ base n F xTc vwCl xTys D dA la gJ (fbz bsJ znJ (fKc wz_2212a) I) xm_340 [.inr (.inr (some 740)), .inl x1] I (fun I' r => ∃ z, r = some (.inl z) ∧ ((0 ≤ z ∧ z ≤ 1) ∧ (I 740 9 ≤ I' 740 9 ∧ I' 740 9 ≤ I' 740 10 ∧ I' 740 10 ≤ I' 740 8)) ∧ (sBe I I' (I 740 17) (I 740 16)) ∧ (rd1 I I' z) ∧ (pP 2 2 x1 I I' z) ∧ (dkI I') ∧ (rdU I I' z)) := cg_M_both (d := 12) mi_357 ⟨rfl, rfl, rfl⟩ (fun h0 ha1 hp0 hp1 hp2 hp3 hp4 hp5 => ct_M_test_95df3 h0 ha1 hp0 hp1 (by omega) hp3 hp4 hp5) xin_340 x6_340 h0 ha1 hp0 hp1 hp2 hp3 hp4 hp5
theorem ct_M_either_00619 {I : fH} {x1 : Int} (h0 : fB bsJ I) (ha1 : ((-1) ≤ x1 ∧ x1 ≤ 5)) (hp0 : I 740 9 ≤ I 740 10 ∧ I 740 10 ≤ I 740 8) (hp1 : 0 ≤ I 740 16 ∧ I 740 16 ≤ I 740 9) (hp2 : 12 ≤ I 740 14 + I 740 15) (hp3 : laP (I 740 17)) (hp4 : 0 ≤ I 740 18 ∧ I 740 18 ≤ I 740 9) (hp5 : dkI I) : fC ρ base n F xTc vwCl xTys D dA la gJ (fbz bsJ znJ (fKc wz_2212a) I) xm_323 [.inr (.inr (some 740)), .inl x1] I (fun I' r => ∃ z, r = some (.inl z) ∧ ((0 ≤ z ∧ z ≤ 1) ∧ (I 740 9 ≤ I' 740 9 ∧ I' 740 9 ≤ I' 740 10 ∧ I' 740 10 ≤ I' 740 8)) ∧ (sBe I I' (I 740 17) (I 740 16)) ∧ (rd1 I I' z) ∧ (pP 1 1 x1 I I' z) ∧ (dkI I') ∧ (rdU I I' z)) := cg_M_either (d := 12) mi_340 ⟨rfl, rfl, rfl⟩ (fun h0 ha1 hp0 hp1 hp2 hp3 hp4 hp5 => ct_M_both_9476d h0 ha1 hp0 hp1 (by omega) hp3 hp4 hp5) xin_323 x6_323 h0 ha1 hp0 hp1 hp2 hp3 hp4 hp5
theorem ct_M_part0_a2998 {I : fH} {x1 : Int} (h0 : fB bsJ I) (ha1 : ((-1) ≤ x1 ∧ x1 ≤ 5)) (hp0 : I 740 9 ≤ I 740 10 ∧ I 740 10 ≤ I 740 8) (hp1 : 0 ≤ I 740 16 ∧ I 740 16 ≤ I 740 9) (hp2 : 11 ≤ I 740 14 + I 740 15) (hp3 : laP (I 740 17)) (hp4 : 0 ≤ I 740 18 ∧ I 740 18 ≤ I 740 9) (hp5 : dkI I) : fC ρ base n F xTc vwCl xTys D dA la gJ (fbz bsJ znJ (fKc wz_2212a) I) xm_409 [.inr (.inr (some 740)), .inl x1] I (fun I' r => ∃ z, r = some (.inl z) ∧ ((0 ≤ z ∧ z ≤ 1) ∧ (I 740 9 ≤ I' 740 9 ∧ I' 740 9 ≤ I' 740 10 ∧ I' 740 10 ≤ I' 740 8)) ∧ (sBe I I' (I 740 17) (I 740 16)) ∧ (rd1 I I' z) ∧ (pP 6 7 x1 I I' z) ∧ (dkI I') ∧ (rdU I I' z)) := cg_M_part0 (d := 11) mi_323 ⟨rfl, rfl, rfl⟩ (fun h0 ha1 hp0 hp1 hp2 hp3 hp4 hp5 => ct_M_either_00619 h0 ha1 hp0 hp1 (by omega) hp3 hp4 hp5) mi_408 ⟨rfl, rfl, rfl⟩ (fun h0 ha1 hp0 hp1 hp2 hp3 hp4 hp5 => ct_M_part0_30850 h0 ha1 hp0 hp1 (by omega) hp3 hp4 hp5) xin_409 x6_409 h0 ha1 hp0 hp1 hp2 hp3 hp4 hp5
theorem ct_M_term_c323b {I : fH} {x1 : Int} (h0 : fB bsJ I) (ha1 : ((-1) ≤ x1 ∧ x1 ≤ 5)) (hp0 : I 740 9 ≤ I 740 10 ∧ I 740 10 ≤ I 740 8) (hp1 : 0 ≤ I 740 16 ∧ I 740 16 ≤ I 740 9) (hp2 : 11 ≤ I 740 14 + I 740 15) (hp3 : laP (I 740 17)) (hp4 : 0 ≤ I 740 18 ∧ I 740 18 ≤ I 740 9) (hp5 : dkI I) : fC ρ base n F xTc vwCl xTys D dA la gJ (fbz bsJ znJ (fKc wz_2212a) I) xm_392 [.inr (.inr (some 740)), .inl x1] I (fun I' r => ∃ z, r = some (.inl z) ∧ ((0 ≤ z ∧ z ≤ 1) ∧ (I 740 9 ≤ I' 740 9 ∧ I' 740 9 ≤ I' 740 10 ∧ I' 740 10 ≤ I' 740 8)) ∧ (sBe I I' (I 740 17) (I 740 16)) ∧ (rd1 I I' z) ∧ (pP 5 5 x1 I I' z) ∧ (dkI I') ∧ (rdU I I' z)) := cg_M_term (d := 11) mi_409 ⟨rfl, rfl, rfl⟩ (fun h0 ha1 hp0 hp1 hp2 hp3 hp4 hp5 => ct_M_part0_a2998 h0 ha1 hp0 hp1 (by omega) hp3 hp4 hp5) xin_392 x6_392 h0 ha1 hp0 hp1 hp2 hp3 hp4 hp5
theorem ct_M_sum_1a911 {I : fH} {x1 : Int} (h0 : fB bsJ I) (ha1 : ((-1) ≤ x1 ∧ x1 ≤ 5)) (hp0 : I 740 9 ≤ I 740 10 ∧ I 740 10 ≤ I 740 8) (hp1 : 0 ≤ I 740 16 ∧ I 740 16 ≤ I 740 9) (hp2 : 11 ≤ I 740 14 + I 740 15) (hp3 : laP (I 740 17)) (hp4 : 0 ≤ I 740 18 ∧ I 740 18 ≤ I 740 9) (hp5 : dkI I) : fC ρ base n F xTc vwCl xTys D dA la gJ (fbz bsJ znJ (fKc wz_2212a) I) xm_375 [.inr (.inr (some 740)), .inl x1] I (fun I' r => ∃ z, r = some (.inl z) ∧ ((0 ≤ z ∧ z ≤ 1) ∧ (I 740 9 ≤ I' 740 9 ∧ I' 740 9 ≤ I' 740 10 ∧ I' 740 10 ≤ I' 740 8)) ∧ (sBe I I' (I 740 17) (I 740 16)) ∧ (rd1 I I' z) ∧ (pP 4 4 x1 I I' z) ∧ (dkI I') ∧ (rdU I I' z)) := cg_M_sum (d := 11) mi_392 ⟨rfl, rfl, rfl⟩ (fun h0 ha1 hp0 hp1 hp2 hp3 hp4 hp5 => ct_M_term_c323b h0 ha1 hp0 hp1 (by omega) hp3 hp4 hp5) xin_375 x6_375 h0 ha1 hp0 hp1 hp2 hp3 hp4 hp5
theorem ct_M_test_fce72 {I : fH} {x1 : Int} (h0 : fB bsJ I) (ha1 : ((-1) ≤ x1 ∧ x1 ≤ 5)) (hp0 : I 740 9 ≤ I 740 10 ∧ I 740 10 ≤ I 740 8) (hp1 : 0 ≤ I 740 16 ∧ I 740 16 ≤ I 740 9) (hp2 : 11 ≤ I 740 14 + I 740 15) (hp3 : laP (I 740 17)) (hp4 : 0 ≤ I 740 18 ∧ I 740 18 ≤ I 740 9) (hp5 : dkI I) : fC ρ base n F xTc vwCl xTys D dA la gJ (fbz bsJ znJ (fKc wz_2212a) I) xm_358 [.inr (.inr (some 740)), .inl x1] I (fun I' r => ∃ z, r = some (.inl z) ∧ ((0 ≤ z ∧ z ≤ 1) ∧ (I 740 9 ≤ I' 740 9 ∧ I' 740 9 ≤ I' 740 10 ∧ I' 740 10 ≤ I' 740 8)) ∧ (sBe I I' (I 740 17) (I 740 16)) ∧ (rd1 I I' z) ∧ (pP 3 3 x1 I I' z) ∧ (dkI I') ∧ (rdU I I' z)) := cg_M_test (d := 11) mi_375 ⟨rfl, rfl, rfl⟩ (fun h0 ha1 hp0 hp1 hp2 hp3 hp4 hp5 => ct_M_sum_1a911 h0 ha1 hp0 hp1 (by omega) hp3 hp4 hp5) xin_358 x6_358 h0 ha1 hp0 hp1 hp2 hp3 hp4 hp5
theorem ct_M_both_5eefc {I : fH} {x1 : Int} (h0 : fB bsJ I) (ha1 : ((-1) ≤ x1 ∧ x1 ≤ 5)) (hp0 : I 740 9 ≤ I 740 10 ∧ I 740 10 ≤ I 740 8) (hp1 : 0 ≤ I 740 16 ∧ I 740 16 ≤ I 740 9) (hp2 : 11 ≤ I 740 14 + I 740 15) (hp3 : laP (I 740 17)) (hp4 : 0 ≤ I 740 18 ∧ I 740 18 ≤ I 740 9) (hp5 : dkI I) : fC ρ base n F xTc vwCl xTys D dA la gJ (fbz bsJ znJ (fKc wz_2212a) I) xm_341 [.inr (.inr (some 740)), .inl x1] I (fun I' r => ∃ z, r = some (.inl z) ∧ ((0 ≤ z ∧ z ≤ 1) ∧ (I 740 9 ≤ I' 740 9 ∧ I' 740 9 ≤ I' 740 10 ∧ I' 740 10 ≤ I' 740 8)) ∧ (sBe I I' (I 740 17) (I 740 16)) ∧ (rd1 I I' z) ∧ (pP 2 2 x1 I I' z) ∧ (dkI I') ∧ (rdU I I' z)) := cg_M_both (d := 11) mi_358 ⟨rfl, rfl, rfl⟩ (fun h0 ha1 hp0 hp1 hp2 hp3 hp4 hp5 => ct_M_test_fce72 h0 ha1 hp0 hp1 (by omega) hp3 hp4 hp5) xin_341 x6_341 h0 ha1 hp0 hp1 hp2 hp3 hp4 hp5
theorem ct_M_either_dc56f {I : fH} {x1 : Int} (h0 : fB bsJ I) (ha1 : ((-1) ≤ x1 ∧ x1 ≤ 5)) (hp0 : I 740 9 ≤ I 740 10 ∧ I 740 10 ≤ I 740 8) (hp1 : 0 ≤ I 740 16 ∧ I 740 16 ≤ I 740 9) (hp2 : 11 ≤ I 740 14 + I 740 15) (hp3 : laP (I 740 17)) (hp4 : 0 ≤ I 740 18 ∧ I 740 18 ≤ I 740 9) (hp5 : dkI I) : fC ρ base n F xTc vwCl xTys D dA la gJ (fbz bsJ znJ (fKc wz_2212a) I) xm_324 [.inr (.inr (some 740)), .inl x1] I (fun I' r => ∃ z, r = some (.inl z) ∧ ((0 ≤ z ∧ z ≤ 1) ∧ (I 740 9 ≤ I' 740 9 ∧ I' 740 9 ≤ I' 740 10 ∧ I' 740 10 ≤ I' 740 8)) ∧ (sBe I I' (I 740 17) (I 740 16)) ∧ (rd1 I I' z) ∧ (pP 1 1 x1 I I' z) ∧ (dkI I') ∧ (rdU I I' z)) := cg_M_either (d := 11) mi_341 ⟨rfl, rfl, rfl⟩ (fun h0 ha1 hp0 hp1 hp2 hp3 hp4 hp5 => ct_M_both_5eefc h0 ha1 hp0 hp1 (by omega) hp3 hp4 hp5) xin_324 x6_324 h0 ha1 hp0 hp1 hp2 hp3 hp4 hp5
theorem ct_M_part0_f79eb {I : fH} {x1 : Int} (h0 : fB bsJ I) (ha1 : ((-1) ≤ x1 ∧ x1 ≤ 5)) (hp0 : I 740 9 ≤ I 740 10 ∧ I 740 10 ≤ I 740 8) (hp1 : 0 ≤ I 740 16 ∧ I 740 16 ≤ I 740 9) (hp2 : 10 ≤ I 740 14 + I 740 15) (hp3 : laP (I 740 17)) (hp4 : 0 ≤ I 740 18 ∧ I 740 18 ≤ I 740 9) (hp5 : dkI I) : fC ρ base n F xTc vwCl xTys D dA la gJ (fbz bsJ znJ (fKc wz_2212a) I) xm_410 [.inr (.inr (some 740)), .inl x1] I (fun I' r => ∃ z, r = some (.inl z) ∧ ((0 ≤ z ∧ z ≤ 1) ∧ (I 740 9 ≤ I' 740 9 ∧ I' 740 9 ≤ I' 740 10 ∧ I' 740 10 ≤ I' 740 8)) ∧ (sBe I I' (I 740 17) (I 740 16)) ∧ (rd1 I I' z) ∧ (pP 6 7 x1 I I' z) ∧ (dkI I') ∧ (rdU I I' z)) := cg_M_part0 (d := 10) mi_324 ⟨rfl, rfl, rfl⟩ (fun h0 ha1 hp0 hp1 hp2 hp3 hp4 hp5 => ct_M_either_dc56f h0 ha1 hp0 hp1 (by omega) hp3 hp4 hp5) mi_409 ⟨rfl, rfl, rfl⟩ (fun h0 ha1 hp0 hp1 hp2 hp3 hp4 hp5 => ct_M_part0_a2998 h0 ha1 hp0 hp1 (by omega) hp3 hp4 hp5) xin_410 x6_410 h0 ha1 hp0 hp1 hp2 hp3 hp4 hp5
theorem ct_M_term_68617 {I : fH} {x1 : Int} (h0 : fB bsJ I) (ha1 : ((-1) ≤ x1 ∧ x1 ≤ 5)) (hp0 : I 740 9 ≤ I 740 10 ∧ I 740 10 ≤ I 740 8) (hp1 : 0 ≤ I 740 16 ∧ I 740 16 ≤ I 740 9) (hp2 : 10 ≤ I 740 14 + I 740 15) (hp3 : laP (I 740 17)) (hp4 : 0 ≤ I 740 18 ∧ I 740 18 ≤ I 740 9) (hp5 : dkI I) : fC ρ base n F xTc vwCl xTys D dA la gJ (fbz bsJ znJ (fKc wz_2212a) I) xm_393 [.inr (.inr (some 740)), .inl x1] I (fun I' r => ∃ z, r = some (.inl z) ∧ ((0 ≤ z ∧ z ≤ 1) ∧ (I 740 9 ≤ I' 740 9 ∧ I' 740 9 ≤ I' 740 10 ∧ I' 740 10 ≤ I' 740 8)) ∧ (sBe I I' (I 740 17) (I 740 16)) ∧ (rd1 I I' z) ∧ (pP 5 5 x1 I I' z) ∧ (dkI I') ∧ (rdU I I' z)) := cg_M_term (d := 10) mi_410 ⟨rfl, rfl, rfl⟩ (fun h0 ha1 hp0 hp1 hp2 hp3 hp4 hp5 => ct_M_part0_f79eb h0 ha1 hp0 hp1 (by omega) hp3 hp4 hp5) xin_393 x6_393 h0 ha1 hp0 hp1 hp2 hp3 hp4 hp5
theorem ct_M_sum_0df1b {I : fH} {x1 : Int} (h0 : fB bsJ I) (ha1 : ((-1) ≤ x1 ∧ x1 ≤ 5)) (hp0 : I 740 9 ≤ I 740 10 ∧ I 740 10 ≤ I 740 8) (hp1 : 0 ≤ I 740 16 ∧ I 740 16 ≤ I 740 9) (hp2 : 10 ≤ I 740 14 + I 740 15) (hp3 : laP (I 740 17)) (hp4 : 0 ≤ I 740 18 ∧ I 740 18 ≤ I 740 9) (hp5 : dkI I) : fC ρ base n F xTc vwCl xTys D dA la gJ (fbz bsJ znJ (fKc wz_2212a) I) xm_376 [.inr (.inr (some 740)), .inl x1] I (fun I' r => ∃ z, r = some (.inl z) ∧ ((0 ≤ z ∧ z ≤ 1) ∧ (I 740 9 ≤ I' 740 9 ∧ I' 740 9 ≤ I' 740 10 ∧ I' 740 10 ≤ I' 740 8)) ∧ (sBe I I' (I 740 17) (I 740 16)) ∧ (rd1 I I' z) ∧ (pP 4 4 x1 I I' z) ∧ (dkI I') ∧ (rdU I I' z)) := cg_M_sum (d := 10) mi_393 ⟨rfl, rfl, rfl⟩ (fun h0 ha1 hp0 hp1 hp2 hp3 hp4 hp5 => ct_M_term_68617 h0 ha1 hp0 hp1 (by omega) hp3 hp4 hp5) xin_376 x6_376 h0 ha1 hp0 hp1 hp2 hp3 hp4 hp5
theorem ct_M_test_9bc7b {I : fH} {x1 : Int} (h0 : fB bsJ I) (ha1 : ((-1) ≤ x1 ∧ x1 ≤ 5)) (hp0 : I 740 9 ≤ I 740 10 ∧ I 740 10 ≤ I 740 8) (hp1 : 0 ≤ I 740 16 ∧ I 740 16 ≤ I 740 9) (hp2 : 10 ≤ I 740 14 + I 740 15) (hp3 : laP (I 740 17)) (hp4 : 0 ≤ I 740 18 ∧ I 740 18 ≤ I 740 9) (hp5 : dkI I) : fC ρ base n F xTc vwCl xTys D dA la gJ (fbz bsJ znJ (fKc wz_2212a) I) xm_359 [.inr (.inr (some 740)), .inl x1] I (fun I' r => ∃ z, r = some (.inl z) ∧ ((0 ≤ z ∧ z ≤ 1) ∧ (I 740 9 ≤ I' 740 9 ∧ I' 740 9 ≤ I' 740 10 ∧ I' 740 10 ≤ I' 740 8)) ∧ (sBe I I' (I 740 17) (I 740 16)) ∧ (rd1 I I' z) ∧ (pP 3 3 x1 I I' z) ∧ (dkI I') ∧ (rdU I I' z)) := cg_M_test (d := 10) mi_376 ⟨rfl, rfl, rfl⟩ (fun h0 ha1 hp0 hp1 hp2 hp3 hp4 hp5 => ct_M_sum_0df1b h0 ha1 hp0 hp1 (by omega) hp3 hp4 hp5) xin_359 x6_359 h0 ha1 hp0 hp1 hp2 hp3 hp4 hp5
theorem ct_M_both_039fd {I : fH} {x1 : Int} (h0 : fB bsJ I) (ha1 : ((-1) ≤ x1 ∧ x1 ≤ 5)) (hp0 : I 740 9 ≤ I 740 10 ∧ I 740 10 ≤ I 740 8) (hp1 : 0 ≤ I 740 16 ∧ I 740 16 ≤ I 740 9) (hp2 : 10 ≤ I 740 14 + I 740 15) (hp3 : laP (I 740 17)) (hp4 : 0 ≤ I 740 18 ∧ I 740 18 ≤ I 740 9) (hp5 : dkI I) : fC ρ base n F xTc vwCl xTys D dA la gJ (fbz bsJ znJ (fKc wz_2212a) I) xm_342 [.inr (.inr (some 740)), .inl x1] I (fun I' r => ∃ z, r = some (.inl z) ∧ ((0 ≤ z ∧ z ≤ 1) ∧ (I 740 9 ≤ I' 740 9 ∧ I' 740 9 ≤ I' 740 10 ∧ I' 740 10 ≤ I' 740 8)) ∧ (sBe I I' (I 740 17) (I 740 16)) ∧ (rd1 I I' z) ∧ (pP 2 2 x1 I I' z) ∧ (dkI I') ∧ (rdU I I' z)) := cg_M_both (d := 10) mi_359 ⟨rfl, rfl, rfl⟩ (fun h0 ha1 hp0 hp1 hp2 hp3 hp4 hp5 => ct_M_test_9bc7b h0 ha1 hp0 hp1 (by omega) hp3 hp4 hp5) xin_342 x6_342 h0 ha1 hp0 hp1 hp2 hp3 hp4 hp5
theorem ct_M_either_d26fe {I : fH} {x1 : Int} (h0 : fB bsJ I) (ha1 : ((-1) ≤ x1 ∧ x1 ≤ 5)) (hp0 : I 740 9 ≤ I 740 10 ∧ I 740 10 ≤ I 740 8) (hp1 : 0 ≤ I 740 16 ∧ I 740 16 ≤ I 740 9) (hp2 : 10 ≤ I 740 14 + I 740 15) (hp3 : laP (I 740 17)) (hp4 : 0 ≤ I 740 18 ∧ I 740 18 ≤ I 740 9) (hp5 : dkI I) : fC ρ base n F xTc vwCl xTys D dA la gJ (fbz bsJ znJ (fKc wz_2212a) I) xm_325 [.inr (.inr (some 740)), .inl x1] I (fun I' r => ∃ z, r = some (.inl z) ∧ ((0 ≤ z ∧ z ≤ 1) ∧ (I 740 9 ≤ I' 740 9 ∧ I' 740 9 ≤ I' 740 10 ∧ I' 740 10 ≤ I' 740 8)) ∧ (sBe I I' (I 740 17) (I 740 16)) ∧ (rd1 I I' z) ∧ (pP 1 1 x1 I I' z) ∧ (dkI I') ∧ (rdU I I' z)) := cg_M_either (d := 10) mi_342 ⟨rfl, rfl, rfl⟩ (fun h0 ha1 hp0 hp1 hp2 hp3 hp4 hp5 => ct_M_both_039fd h0 ha1 hp0 hp1 (by omega) hp3 hp4 hp5) xin_325 x6_325 h0 ha1 hp0 hp1 hp2 hp3 hp4 hp5
theorem ct_M_part0_2878d {I : fH} {x1 : Int} (h0 : fB bsJ I) (ha1 : ((-1) ≤ x1 ∧ x1 ≤ 5)) (hp0 : I 740 9 ≤ I 740 10 ∧ I 740 10 ≤ I 740 8) (hp1 : 0 ≤ I 740 16 ∧ I 740 16 ≤ I 740 9) (hp2 : 9 ≤ I 740 14 + I 740 15) (hp3 : laP (I 740 17)) (hp4 : 0 ≤ I 740 18 ∧ I 740 18 ≤ I 740 9) (hp5 : dkI I) : fC ρ base n F xTc vwCl xTys D dA la gJ (fbz bsJ znJ (fKc wz_2212a) I) xm_411 [.inr (.inr (some 740)), .inl x1] I (fun I' r => ∃ z, r = some (.inl z) ∧ ((0 ≤ z ∧ z ≤ 1) ∧ (I 740 9 ≤ I' 740 9 ∧ I' 740 9 ≤ I' 740 10 ∧ I' 740 10 ≤ I' 740 8)) ∧ (sBe I I' (I 740 17) (I 740 16)) ∧ (rd1 I I' z) ∧ (pP 6 7 x1 I I' z) ∧ (dkI I') ∧ (rdU I I' z)) := cg_M_part0 (d := 9) mi_325 ⟨rfl, rfl, rfl⟩ (fun h0 ha1 hp0 hp1 hp2 hp3 hp4 hp5 => ct_M_either_d26fe h0 ha1 hp0 hp1 (by omega) hp3 hp4 hp5) mi_410 ⟨rfl, rfl, rfl⟩ (fun h0 ha1 hp0 hp1 hp2 hp3 hp4 hp5 => ct_M_part0_f79eb h0 ha1 hp0 hp1 (by omega) hp3 hp4 hp5) xin_411 x6_411 h0 ha1 hp0 hp1 hp2 hp3 hp4 hp5
theorem ct_M_term_adc17 {I : fH} {x1 : Int} (h0 : fB bsJ I) (ha1 : ((-1) ≤ x1 ∧ x1 ≤ 5)) (hp0 : I 740 9 ≤ I 740 10 ∧ I 740 10 ≤ I 740 8) (hp1 : 0 ≤ I 740 16 ∧ I 740 16 ≤ I 740 9) (hp2 : 9 ≤ I 740 14 + I 740 15) (hp3 : laP (I 740 17)) (hp4 : 0 ≤ I 740 18 ∧ I 740 18 ≤ I 740 9) (hp5 : dkI I) : fC ρ base n F xTc vwCl xTys D dA la gJ (fbz bsJ znJ (fKc wz_2212a) I) xm_394 [.inr (.inr (some 740)), .inl x1] I (fun I' r => ∃ z, r = some (.inl z) ∧ ((0 ≤ z ∧ z ≤ 1) ∧ (I 740 9 ≤ I' 740 9 ∧ I' 740 9 ≤ I' 740 10 ∧ I' 740 10 ≤ I' 740 8)) ∧ (sBe I I' (I 740 17) (I 740 16)) ∧ (rd1 I I' z) ∧ (pP 5 5 x1 I I' z) ∧ (dkI I') ∧ (rdU I I' z)) := cg_M_term (d := 9) mi_411 ⟨rfl, rfl, rfl⟩ (fun h0 ha1 hp0 hp1 hp2 hp3 hp4 hp5 => ct_M_part0_2878d h0 ha1 hp0 hp1 (by omega) hp3 hp4 hp5) xin_394 x6_394 h0 ha1 hp0 hp1 hp2 hp3 hp4 hp5
theorem ct_M_sum_fc47a {I : fH} {x1 : Int} (h0 : fB bsJ I) (ha1 : ((-1) ≤ x1 ∧ x1 ≤ 5)) (hp0 : I 740 9 ≤ I 740 10 ∧ I 740 10 ≤ I 740 8) (hp1 : 0 ≤ I 740 16 ∧ I 740 16 ≤ I 740 9) (hp2 : 9 ≤ I 740 14 + I 740 15) (hp3 : laP (I 740 17)) (hp4 : 0 ≤ I 740 18 ∧ I 740 18 ≤ I 740 9) (hp5 : dkI I) : fC ρ base n F xTc vwCl xTys D dA la gJ (fbz bsJ znJ (fKc wz_2212a) I) xm_377 [.inr (.inr (some 740)), .inl x1] I (fun I' r => ∃ z, r = some (.inl z) ∧ ((0 ≤ z ∧ z ≤ 1) ∧ (I 740 9 ≤ I' 740 9 ∧ I' 740 9 ≤ I' 740 10 ∧ I' 740 10 ≤ I' 740 8)) ∧ (sBe I I' (I 740 17) (I 740 16)) ∧ (rd1 I I' z) ∧ (pP 4 4 x1 I I' z) ∧ (dkI I') ∧ (rdU I I' z)) := cg_M_sum (d := 9) mi_394 ⟨rfl, rfl, rfl⟩ (fun h0 ha1 hp0 hp1 hp2 hp3 hp4 hp5 => ct_M_term_adc17 h0 ha1 hp0 hp1 (by omega) hp3 hp4 hp5) xin_377 x6_377 h0 ha1 hp0 hp1 hp2 hp3 hp4 hp5
theorem ct_M_test_4103f {I : fH} {x1 : Int} (h0 : fB bsJ I) (ha1 : ((-1) ≤ x1 ∧ x1 ≤ 5)) (hp0 : I 740 9 ≤ I 740 10 ∧ I 740 10 ≤ I 740 8) (hp1 : 0 ≤ I 740 16 ∧ I 740 16 ≤ I 740 9) (hp2 : 9 ≤ I 740 14 + I 740 15) (hp3 : laP (I 740 17)) (hp4 : 0 ≤ I 740 18 ∧ I 740 18 ≤ I 740 9) (hp5 : dkI I) : fC ρ base n F xTc vwCl xTys D dA la gJ (fbz bsJ znJ (fKc wz_2212a) I) xm_360 [.inr (.inr (some 740)), .inl x1] I (fun I' r => ∃ z, r = some (.inl z) ∧ ((0 ≤ z ∧ z ≤ 1) ∧ (I 740 9 ≤ I' 740 9 ∧ I' 740 9 ≤ I' 740 10 ∧ I' 740 10 ≤ I' 740 8)) ∧ (sBe I I' (I 740 17) (I 740 16)) ∧ (rd1 I I' z) ∧ (pP 3 3 x1 I I' z) ∧ (dkI I') ∧ (rdU I I' z)) := cg_M_test (d := 9) mi_377 ⟨rfl, rfl, rfl⟩ (fun h0 ha1 hp0 hp1 hp2 hp3 hp4 hp5 => ct_M_sum_fc47a h0 ha1 hp0 hp1 (by omega) hp3 hp4 hp5) xin_360 x6_360 h0 ha1 hp0 hp1 hp2 hp3 hp4 hp5
theorem ct_M_both_c9955 {I : fH} {x1 : Int} (h0 : fB bsJ I) (ha1 : ((-1) ≤ x1 ∧ x1 ≤ 5)) (hp0 : I 740 9 ≤ I 740 10 ∧ I 740 10 ≤ I 740 8) (hp1 : 0 ≤ I 740 16 ∧ I 740 16 ≤ I 740 9) (hp2 : 9 ≤ I 740 14 + I 740 15) (hp3 : laP (I 740 17)) (hp4 : 0 ≤ I 740 18 ∧ I 740 18 ≤ I 740 9) (hp5 : dkI I) : fC ρ base n F xTc vwCl xTys D dA la gJ (fbz bsJ znJ (fKc wz_2212a) I) xm_343 [.inr (.inr (some 740)), .inl x1] I (fun I' r => ∃ z, r = some (.inl z) ∧ ((0 ≤ z ∧ z ≤ 1) ∧ (I 740 9 ≤ I' 740 9 ∧ I' 740 9 ≤ I' 740 10 ∧ I' 740 10 ≤ I' 740 8)) ∧ (sBe I I' (I 740 17) (I 740 16)) ∧ (rd1 I I' z) ∧ (pP 2 2 x1 I I' z) ∧ (dkI I') ∧ (rdU I I' z)) := cg_M_both (d := 9) mi_360 ⟨rfl, rfl, rfl⟩ (fun h0 ha1 hp0 hp1 hp2 hp3 hp4 hp5 => ct_M_test_4103f h0 ha1 hp0 hp1 (by omega) hp3 hp4 hp5) xin_343 x6_343 h0 ha1 hp0 hp1 hp2 hp3 hp4 hp5
theorem ct_M_either_6888d {I : fH} {x1 : Int} (h0 : fB bsJ I) (ha1 : ((-1) ≤ x1 ∧ x1 ≤ 5)) (hp0 : I 740 9 ≤ I 740 10 ∧ I 740 10 ≤ I 740 8) (hp1 : 0 ≤ I 740 16 ∧ I 740 16 ≤ I 740 9) (hp2 : 9 ≤ I 740 14 + I 740 15) (hp3 : laP (I 740 17)) (hp4 : 0 ≤ I 740 18 ∧ I 740 18 ≤ I 740 9) (hp5 : dkI I) : fC ρ base n F xTc vwCl xTys D dA la gJ (fbz bsJ znJ (fKc wz_2212a) I) xm_326 [.inr (.inr (some 740)), .inl x1] I (fun I' r => ∃ z, r = some (.inl z) ∧ ((0 ≤ z ∧ z ≤ 1) ∧ (I 740 9 ≤ I' 740 9 ∧ I' 740 9 ≤ I' 740 10 ∧ I' 740 10 ≤ I' 740 8)) ∧ (sBe I I' (I 740 17) (I 740 16)) ∧ (rd1 I I' z) ∧ (pP 1 1 x1 I I' z) ∧ (dkI I') ∧ (rdU I I' z)) := cg_M_either (d := 9) mi_343 ⟨rfl, rfl, rfl⟩ (fun h0 ha1 hp0 hp1 hp2 hp3 hp4 hp5 => ct_M_both_c9955 h0 ha1 hp0 hp1 (by omega) hp3 hp4 hp5) xin_326 x6_326 h0 ha1 hp0 hp1 hp2 hp3 hp4 hp5
theorem ct_M_part0_58701 {I : fH} {x1 : Int} (h0 : fB bsJ I) (ha1 : ((-1) ≤ x1 ∧ x1 ≤ 5)) (hp0 : I 740 9 ≤ I 740 10 ∧ I 740 10 ≤ I 740 8) (hp1 : 0 ≤ I 740 16 ∧ I 740 16 ≤ I 740 9) (hp2 : 8 ≤ I 740 14 + I 740 15) (hp3 : laP (I 740 17)) (hp4 : 0 ≤ I 740 18 ∧ I 740 18 ≤ I 740 9) (hp5 : dkI I) : fC ρ base n F xTc vwCl xTys D dA la gJ (fbz bsJ znJ (fKc wz_2212a) I) xm_412 [.inr (.inr (some 740)), .inl x1] I (fun I' r => ∃ z, r = some (.inl z) ∧ ((0 ≤ z ∧ z ≤ 1) ∧ (I 740 9 ≤ I' 740 9 ∧ I' 740 9 ≤ I' 740 10 ∧ I' 740 10 ≤ I' 740 8)) ∧ (sBe I I' (I 740 17) (I 740 16)) ∧ (rd1 I I' z) ∧ (pP 6 7 x1 I I' z) ∧ (dkI I') ∧ (rdU I I' z)) := cg_M_part0 (d := 8) mi_326 ⟨rfl, rfl, rfl⟩ (fun h0 ha1 hp0 hp1 hp2 hp3 hp4 hp5 => ct_M_either_6888d h0 ha1 hp0 hp1 (by omega) hp3 hp4 hp5) mi_411 ⟨rfl, rfl, rfl⟩ (fun h0 ha1 hp0 hp1 hp2 hp3 hp4 hp5 => ct_M_part0_2878d h0 ha1 hp0 hp1 (by omega) hp3 hp4 hp5) xin_412 x6_412 h0 ha1 hp0 hp1 hp2 hp3 hp4 hp5
theorem ct_M_term_a7e5a {I : fH} {x1 : Int} (h0 : fB bsJ I) (ha1 : ((-1) ≤ x1 ∧ x1 ≤ 5)) (hp0 : I 740 9 ≤ I 740 10 ∧ I 740 10 ≤ I 740 8) (hp1 : 0 ≤ I 740 16 ∧ I 740 16 ≤ I 740 9) (hp2 : 8 ≤ I 740 14 + I 740 15) (hp3 : laP (I 740 17)) (hp4 : 0 ≤ I 740 18 ∧ I 740 18 ≤ I 740 9) (hp5 : dkI I) : fC ρ base n F xTc vwCl xTys D dA la gJ (fbz bsJ znJ (fKc wz_2212a) I) xm_395 [.inr (.inr (some 740)), .inl x1] I (fun I' r => ∃ z, r = some (.inl z) ∧ ((0 ≤ z ∧ z ≤ 1) ∧ (I 740 9 ≤ I' 740 9 ∧ I' 740 9 ≤ I' 740 10 ∧ I' 740 10 ≤ I' 740 8)) ∧ (sBe I I' (I 740 17) (I 740 16)) ∧ (rd1 I I' z) ∧ (pP 5 5 x1 I I' z) ∧ (dkI I') ∧ (rdU I I' z)) := cg_M_term (d := 8) mi_412 ⟨rfl, rfl, rfl⟩ (fun h0 ha1 hp0 hp1 hp2 hp3 hp4 hp5 => ct_M_part0_58701 h0 ha1 hp0 hp1 (by omega) hp3 hp4 hp5) xin_395 x6_395 h0 ha1 hp0 hp1 hp2 hp3 hp4 hp5
theorem ct_M_sum_7e6e4 {I : fH} {x1 : Int} (h0 : fB bsJ I) (ha1 : ((-1) ≤ x1 ∧ x1 ≤ 5)) (hp0 : I 740 9 ≤ I 740 10 ∧ I 740 10 ≤ I 740 8) (hp1 : 0 ≤ I 740 16 ∧ I 740 16 ≤ I 740 9) (hp2 : 8 ≤ I 740 14 + I 740 15) (hp3 : laP (I 740 17)) (hp4 : 0 ≤ I 740 18 ∧ I 740 18 ≤ I 740 9) (hp5 : dkI I) : fC ρ base n F xTc vwCl xTys D dA la gJ (fbz bsJ znJ (fKc wz_2212a) I) xm_378 [.inr (.inr (some 740)), .inl x1] I (fun I' r => ∃ z, r = some (.inl z) ∧ ((0 ≤ z ∧ z ≤ 1) ∧ (I 740 9 ≤ I' 740 9 ∧ I' 740 9 ≤ I' 740 10 ∧ I' 740 10 ≤ I' 740 8)) ∧ (sBe I I' (I 740 17) (I 740 16)) ∧ (rd1 I I' z) ∧ (pP 4 4 x1 I I' z) ∧ (dkI I') ∧ (rdU I I' z)) := cg_M_sum (d := 8) mi_395 ⟨rfl, rfl, rfl⟩ (fun h0 ha1 hp0 hp1 hp2 hp3 hp4 hp5 => ct_M_term_a7e5a h0 ha1 hp0 hp1 (by omega) hp3 hp4 hp5) xin_378 x6_378 h0 ha1 hp0 hp1 hp2 hp3 hp4 hp5
theorem ct_M_test_d1582 {I : fH} {x1 : Int} (h0 : fB bsJ I) (ha1 : ((-1) ≤ x1 ∧ x1 ≤ 5)) (hp0 : I 740 9 ≤ I 740 10 ∧ I 740 10 ≤ I 740 8) (hp1 : 0 ≤ I 740 16 ∧ I 740 16 ≤ I 740 9) (hp2 : 8 ≤ I 740 14 + I 740 15) (hp3 : laP (I 740 17)) (hp4 : 0 ≤ I 740 18 ∧ I 740 18 ≤ I 740 9) (hp5 : dkI I) : fC ρ base n F xTc vwCl xTys D dA la gJ (fbz bsJ znJ (fKc wz_2212a) I) xm_361 [.inr (.inr (some 740)), .inl x1] I (fun I' r => ∃ z, r = some (.inl z) ∧ ((0 ≤ z ∧ z ≤ 1) ∧ (I 740 9 ≤ I' 740 9 ∧ I' 740 9 ≤ I' 740 10 ∧ I' 740 10 ≤ I' 740 8)) ∧ (sBe I I' (I 740 17) (I 740 16)) ∧ (rd1 I I' z) ∧ (pP 3 3 x1 I I' z) ∧ (dkI I') ∧ (rdU I I' z)) := cg_M_test (d := 8) mi_378 ⟨rfl, rfl, rfl⟩ (fun h0 ha1 hp0 hp1 hp2 hp3 hp4 hp5 => ct_M_sum_7e6e4 h0 ha1 hp0 hp1 (by omega) hp3 hp4 hp5) xin_361 x6_361 h0 ha1 hp0 hp1 hp2 hp3 hp4 hp5
theorem ct_M_both_ee042 {I : fH} {x1 : Int} (h0 : fB bsJ I) (ha1 : ((-1) ≤ x1 ∧ x1 ≤ 5)) (hp0 : I 740 9 ≤ I 740 10 ∧ I 740 10 ≤ I 740 8) (hp1 : 0 ≤ I 740 16 ∧ I 740 16 ≤ I 740 9) (hp2 : 8 ≤ I 740 14 + I 740 15) (hp3 : laP (I 740 17)) (hp4 : 0 ≤ I 740 18 ∧ I 740 18 ≤ I 740 9) (hp5 : dkI I) : fC ρ base n F xTc vwCl xTys D dA la gJ (fbz bsJ znJ (fKc wz_2212a) I) xm_344 [.inr (.inr (some 740)), .inl x1] I (fun I' r => ∃ z, r = some (.inl z) ∧ ((0 ≤ z ∧ z ≤ 1) ∧ (I 740 9 ≤ I' 740 9 ∧ I' 740 9 ≤ I' 740 10 ∧ I' 740 10 ≤ I' 740 8)) ∧ (sBe I I' (I 740 17) (I 740 16)) ∧ (rd1 I I' z) ∧ (pP 2 2 x1 I I' z) ∧ (dkI I') ∧ (rdU I I' z)) := cg_M_both (d := 8) mi_361 ⟨rfl, rfl, rfl⟩ (fun h0 ha1 hp0 hp1 hp2 hp3 hp4 hp5 => ct_M_test_d1582 h0 ha1 hp0 hp1 (by omega) hp3 hp4 hp5) xin_344 x6_344 h0 ha1 hp0 hp1 hp2 hp3 hp4 hp5
theorem ct_M_either_98821 {I : fH} {x1 : Int} (h0 : fB bsJ I) (ha1 : ((-1) ≤ x1 ∧ x1 ≤ 5)) (hp0 : I 740 9 ≤ I 740 10 ∧ I 740 10 ≤ I 740 8) (hp1 : 0 ≤ I 740 16 ∧ I 740 16 ≤ I 740 9) (hp2 : 8 ≤ I 740 14 + I 740 15) (hp3 : laP (I 740 17)) (hp4 : 0 ≤ I 740 18 ∧ I 740 18 ≤ I 740 9) (hp5 : dkI I) : fC ρ base n F xTc vwCl xTys D dA la gJ (fbz bsJ znJ (fKc wz_2212a) I) xm_327 [.inr (.inr (some 740)), .inl x1] I (fun I' r => ∃ z, r = some (.inl z) ∧ ((0 ≤ z ∧ z ≤ 1) ∧ (I 740 9 ≤ I' 740 9 ∧ I' 740 9 ≤ I' 740 10 ∧ I' 740 10 ≤ I' 740 8)) ∧ (sBe I I' (I 740 17) (I 740 16)) ∧ (rd1 I I' z) ∧ (pP 1 1 x1 I I' z) ∧ (dkI I') ∧ (rdU I I' z)) := cg_M_either (d := 8) mi_344 ⟨rfl, rfl, rfl⟩ (fun h0 ha1 hp0 hp1 hp2 hp3 hp4 hp5 => ct_M_both_ee042 h0 ha1 hp0 hp1 (by omega) hp3 hp4 hp5) xin_327 x6_327 h0 ha1 hp0 hp1 hp2 hp3 hp4 hp5
theorem ct_M_part0_00d6a {I : fH} {x1 : Int} (h0 : fB bsJ I) (ha1 : ((-1) ≤ x1 ∧ x1 ≤ 5)) (hp0 : I 740 9 ≤ I 740 10 ∧ I 740 10 ≤ I 740 8) (hp1 : 0 ≤ I 740 16 ∧ I 740 16 ≤ I 740 9) (hp2 : 7 ≤ I 740 14 + I 740 15) (hp3 : laP (I 740 17)) (hp4 : 0 ≤ I 740 18 ∧ I 740 18 ≤ I 740 9) (hp5 : dkI I) : fC ρ base n F xTc vwCl xTys D dA la gJ (fbz bsJ znJ (fKc wz_2212a) I) xm_413 [.inr (.inr (some 740)), .inl x1] I (fun I' r => ∃ z, r = some (.inl z) ∧ ((0 ≤ z ∧ z ≤ 1) ∧ (I 740 9 ≤ I' 740 9 ∧ I' 740 9 ≤ I' 740 10 ∧ I' 740 10 ≤ I' 740 8)) ∧ (sBe I I' (I 740 17) (I 740 16)) ∧ (rd1 I I' z) ∧ (pP 6 7 x1 I I' z) ∧ (dkI I') ∧ (rdU I I' z)) := cg_M_part0 (d := 7) mi_327 ⟨rfl, rfl, rfl⟩ (fun h0 ha1 hp0 hp1 hp2 hp3 hp4 hp5 => ct_M_either_98821 h0 ha1 hp0 hp1 (by omega) hp3 hp4 hp5) mi_412 ⟨rfl, rfl, rfl⟩ (fun h0 ha1 hp0 hp1 hp2 hp3 hp4 hp5 => ct_M_part0_58701 h0 ha1 hp0 hp1 (by omega) hp3 hp4 hp5) xin_413 x6_413 h0 ha1 hp0 hp1 hp2 hp3 hp4 hp5
theorem ct_M_term_8b375 {I : fH} {x1 : Int} (h0 : fB bsJ I) (ha1 : ((-1) ≤ x1 ∧ x1 ≤ 5)) (hp0 : I 740 9 ≤ I 740 10 ∧ I 740 10 ≤ I 740 8) (hp1 : 0 ≤ I 740 16 ∧ I 740 16 ≤ I 740 9) (hp2 : 7 ≤ I 740 14 + I 740 15) (hp3 : laP (I 740 17)) (hp4 : 0 ≤ I 740 18 ∧ I 740 18 ≤ I 740 9) (hp5 : dkI I) : fC ρ base n F xTc vwCl xTys D dA la gJ (fbz bsJ znJ (fKc wz_2212a) I) xm_396 [.inr (.inr (some 740)), .inl x1] I (fun I' r => ∃ z, r = some (.inl z) ∧ ((0 ≤ z ∧ z ≤ 1) ∧ (I 740 9 ≤ I' 740 9 ∧ I' 740 9 ≤ I' 740 10 ∧ I' 740 10 ≤ I' 740 8)) ∧ (sBe I I' (I 740 17) (I 740 16)) ∧ (rd1 I I' z) ∧ (pP 5 5 x1 I I' z) ∧ (dkI I') ∧ (rdU I I' z)) := cg_M_term (d := 7) mi_413 ⟨rfl, rfl, rfl⟩ (fun h0 ha1 hp0 hp1 hp2 hp3 hp4 hp5 => ct_M_part0_00d6a h0 ha1 hp0 hp1 (by omega) hp3 hp4 hp5) xin_396 x6_396 h0 ha1 hp0 hp1 hp2 hp3 hp4 hp5
theorem ct_M_sum_7b22c {I : fH} {x1 : Int} (h0 : fB bsJ I) (ha1 : ((-1) ≤ x1 ∧ x1 ≤ 5)) (hp0 : I 740 9 ≤ I 740 10 ∧ I 740 10 ≤ I 740 8) (hp1 : 0 ≤ I 740 16 ∧ I 740 16 ≤ I 740 9) (hp2 : 7 ≤ I 740 14 + I 740 15) (hp3 : laP (I 740 17)) (hp4 : 0 ≤ I 740 18 ∧ I 740 18 ≤ I 740 9) (hp5 : dkI I) : fC ρ base n F xTc vwCl xTys D dA la gJ (fbz bsJ znJ (fKc wz_2212a) I) xm_379 [.inr (.inr (some 740)), .inl x1] I (fun I' r => ∃ z, r = some (.inl z) ∧ ((0 ≤ z ∧ z ≤ 1) ∧ (I 740 9 ≤ I' 740 9 ∧ I' 740 9 ≤ I' 740 10 ∧ I' 740 10 ≤ I' 740 8)) ∧ (sBe I I' (I 740 17) (I 740 16)) ∧ (rd1 I I' z) ∧ (pP 4 4 x1 I I' z) ∧ (dkI I') ∧ (rdU I I' z)) := cg_M_sum (d := 7) mi_396 ⟨rfl, rfl, rfl⟩ (fun h0 ha1 hp0 hp1 hp2 hp3 hp4 hp5 => ct_M_term_8b375 h0 ha1 hp0 hp1 (by omega) hp3 hp4 hp5) xin_379 x6_379 h0 ha1 hp0 hp1 hp2 hp3 hp4 hp5
theorem ct_M_test_8a25b {I : fH} {x1 : Int} (h0 : fB bsJ I) (ha1 : ((-1) ≤ x1 ∧ x1 ≤ 5)) (hp0 : I 740 9 ≤ I 740 10 ∧ I 740 10 ≤ I 740 8) (hp1 : 0 ≤ I 740 16 ∧ I 740 16 ≤ I 740 9) (hp2 : 7 ≤ I 740 14 + I 740 15) (hp3 : laP (I 740 17)) (hp4 : 0 ≤ I 740 18 ∧ I 740 18 ≤ I 740 9) (hp5 : dkI I) : fC ρ base n F xTc vwCl xTys D dA la gJ (fbz bsJ znJ (fKc wz_2212a) I) xm_362 [.inr (.inr (some 740)), .inl x1] I (fun I' r => ∃ z, r = some (.inl z) ∧ ((0 ≤ z ∧ z ≤ 1) ∧ (I 740 9 ≤ I' 740 9 ∧ I' 740 9 ≤ I' 740 10 ∧ I' 740 10 ≤ I' 740 8)) ∧ (sBe I I' (I 740 17) (I 740 16)) ∧ (rd1 I I' z) ∧ (pP 3 3 x1 I I' z) ∧ (dkI I') ∧ (rdU I I' z)) := cg_M_test (d := 7) mi_379 ⟨rfl, rfl, rfl⟩ (fun h0 ha1 hp0 hp1 hp2 hp3 hp4 hp5 => ct_M_sum_7b22c h0 ha1 hp0 hp1 (by omega) hp3 hp4 hp5) xin_362 x6_362 h0 ha1 hp0 hp1 hp2 hp3 hp4 hp5
theorem ct_M_both_2c4c2 {I : fH} {x1 : Int} (h0 : fB bsJ I) (ha1 : ((-1) ≤ x1 ∧ x1 ≤ 5)) (hp0 : I 740 9 ≤ I 740 10 ∧ I 740 10 ≤ I 740 8) (hp1 : 0 ≤ I 740 16 ∧ I 740 16 ≤ I 740 9) (hp2 : 7 ≤ I 740 14 + I 740 15) (hp3 : laP (I 740 17)) (hp4 : 0 ≤ I 740 18 ∧ I 740 18 ≤ I 740 9) (hp5 : dkI I) : fC ρ base n F xTc vwCl xTys D dA la gJ (fbz bsJ znJ (fKc wz_2212a) I) xm_345 [.inr (.inr (some 740)), .inl x1] I (fun I' r => ∃ z, r = some (.inl z) ∧ ((0 ≤ z ∧ z ≤ 1) ∧ (I 740 9 ≤ I' 740 9 ∧ I' 740 9 ≤ I' 740 10 ∧ I' 740 10 ≤ I' 740 8)) ∧ (sBe I I' (I 740 17) (I 740 16)) ∧ (rd1 I I' z) ∧ (pP 2 2 x1 I I' z) ∧ (dkI I') ∧ (rdU I I' z)) := cg_M_both (d := 7) mi_362 ⟨rfl, rfl, rfl⟩ (fun h0 ha1 hp0 hp1 hp2 hp3 hp4 hp5 => ct_M_test_8a25b h0 ha1 hp0 hp1 (by omega) hp3 hp4 hp5) xin_345 x6_345 h0 ha1 hp0 hp1 hp2 hp3 hp4 hp5
theorem ct_M_either_23253 {I : fH} {x1 : Int} (h0 : fB bsJ I) (ha1 : ((-1) ≤ x1 ∧ x1 ≤ 5)) (hp0 : I 740 9 ≤ I 740 10 ∧ I 740 10 ≤ I 740 8) (hp1 : 0 ≤ I 740 16 ∧ I 740 16 ≤ I 740 9) (hp2 : 7 ≤ I 740 14 + I 740 15) (hp3 : laP (I 740 17)) (hp4 : 0 ≤ I 740 18 ∧ I 740 18 ≤ I 740 9) (hp5 : dkI I) : fC ρ base n F xTc vwCl xTys D dA la gJ (fbz bsJ znJ (fKc wz_2212a) I) xm_328 [.inr (.inr (some 740)), .inl x1] I (fun I' r => ∃ z, r = some (.inl z) ∧ ((0 ≤ z ∧ z ≤ 1) ∧ (I 740 9 ≤ I' 740 9 ∧ I' 740 9 ≤ I' 740 10 ∧ I' 740 10 ≤ I' 740 8)) ∧ (sBe I I' (I 740 17) (I 740 16)) ∧ (rd1 I I' z) ∧ (pP 1 1 x1 I I' z) ∧ (dkI I') ∧ (rdU I I' z)) := cg_M_either (d := 7) mi_345 ⟨rfl, rfl, rfl⟩ (fun h0 ha1 hp0 hp1 hp2 hp3 hp4 hp5 => ct_M_both_2c4c2 h0 ha1 hp0 hp1 (by omega) hp3 hp4 hp5) xin_328 x6_328 h0 ha1 hp0 hp1 hp2 hp3 hp4 hp5
theorem ct_M_part0_f40af {I : fH} {x1 : Int} (h0 : fB bsJ I) (ha1 : ((-1) ≤ x1 ∧ x1 ≤ 5)) (hp0 : I 740 9 ≤ I 740 10 ∧ I 740 10 ≤ I 740 8) (hp1 : 0 ≤ I 740 16 ∧ I 740 16 ≤ I 740 9) (hp2 : 6 ≤ I 740 14 + I 740 15) (hp3 : laP (I 740 17)) (hp4 : 0 ≤ I 740 18 ∧ I 740 18 ≤ I 740 9) (hp5 : dkI I) : fC ρ base n F xTc vwCl xTys D dA la gJ (fbz bsJ znJ (fKc wz_2212a) I) xm_414 [.inr (.inr (some 740)), .inl x1] I (fun I' r => ∃ z, r = some (.inl z) ∧ ((0 ≤ z ∧ z ≤ 1) ∧ (I 740 9 ≤ I' 740 9 ∧ I' 740 9 ≤ I' 740 10 ∧ I' 740 10 ≤ I' 740 8)) ∧ (sBe I I' (I 740 17) (I 740 16)) ∧ (rd1 I I' z) ∧ (pP 6 7 x1 I I' z) ∧ (dkI I') ∧ (rdU I I' z)) := cg_M_part0 (d := 6) mi_328 ⟨rfl, rfl, rfl⟩ (fun h0 ha1 hp0 hp1 hp2 hp3 hp4 hp5 => ct_M_either_23253 h0 ha1 hp0 hp1 (by omega) hp3 hp4 hp5) mi_413 ⟨rfl, rfl, rfl⟩ (fun h0 ha1 hp0 hp1 hp2 hp3 hp4 hp5 => ct_M_part0_00d6a h0 ha1 hp0 hp1 (by omega) hp3 hp4 hp5) xin_414 x6_414 h0 ha1 hp0 hp1 hp2 hp3 hp4 hp5
theorem ct_M_term_fcb74 {I : fH} {x1 : Int} (h0 : fB bsJ I) (ha1 : ((-1) ≤ x1 ∧ x1 ≤ 5)) (hp0 : I 740 9 ≤ I 740 10 ∧ I 740 10 ≤ I 740 8) (hp1 : 0 ≤ I 740 16 ∧ I 740 16 ≤ I 740 9) (hp2 : 6 ≤ I 740 14 + I 740 15) (hp3 : laP (I 740 17)) (hp4 : 0 ≤ I 740 18 ∧ I 740 18 ≤ I 740 9) (hp5 : dkI I) : fC ρ base n F xTc vwCl xTys D dA la gJ (fbz bsJ znJ (fKc wz_2212a) I) xm_397 [.inr (.inr (some 740)), .inl x1] I (fun I' r => ∃ z, r = some (.inl z) ∧ ((0 ≤ z ∧ z ≤ 1) ∧ (I 740 9 ≤ I' 740 9 ∧ I' 740 9 ≤ I' 740 10 ∧ I' 740 10 ≤ I' 740 8)) ∧ (sBe I I' (I 740 17) (I 740 16)) ∧ (rd1 I I' z) ∧ (pP 5 5 x1 I I' z) ∧ (dkI I') ∧ (rdU I I' z)) := cg_M_term (d := 6) mi_414 ⟨rfl, rfl, rfl⟩ (fun h0 ha1 hp0 hp1 hp2 hp3 hp4 hp5 => ct_M_part0_f40af h0 ha1 hp0 hp1 (by omega) hp3 hp4 hp5) xin_397 x6_397 h0 ha1 hp0 hp1 hp2 hp3 hp4 hp5
theorem ct_M_sum_9a68c {I : fH} {x1 : Int} (h0 : fB bsJ I) (ha1 : ((-1) ≤ x1 ∧ x1 ≤ 5)) (hp0 : I 740 9 ≤ I 740 10 ∧ I 740 10 ≤ I 740 8) (hp1 : 0 ≤ I 740 16 ∧ I 740 16 ≤ I 740 9) (hp2 : 6 ≤ I 740 14 + I 740 15) (hp3 : laP (I 740 17)) (hp4 : 0 ≤ I 740 18 ∧ I 740 18 ≤ I 740 9) (hp5 : dkI I) : fC ρ base n F xTc vwCl xTys D dA la gJ (fbz bsJ znJ (fKc wz_2212a) I) xm_380 [.inr (.inr (some 740)), .inl x1] I (fun I' r => ∃ z, r = some (.inl z) ∧ ((0 ≤ z ∧ z ≤ 1) ∧ (I 740 9 ≤ I' 740 9 ∧ I' 740 9 ≤ I' 740 10 ∧ I' 740 10 ≤ I' 740 8)) ∧ (sBe I I' (I 740 17) (I 740 16)) ∧ (rd1 I I' z) ∧ (pP 4 4 x1 I I' z) ∧ (dkI I') ∧ (rdU I I' z)) := cg_M_sum (d := 6) mi_397 ⟨rfl, rfl, rfl⟩ (fun h0 ha1 hp0 hp1 hp2 hp3 hp4 hp5 => ct_M_term_fcb74 h0 ha1 hp0 hp1 (by omega) hp3 hp4 hp5) xin_380 x6_380 h0 ha1 hp0 hp1 hp2 hp3 hp4 hp5
theorem ct_M_test_2f0c5 {I : fH} {x1 : Int} (h0 : fB bsJ I) (ha1 : ((-1) ≤ x1 ∧ x1 ≤ 5)) (hp0 : I 740 9 ≤ I 740 10 ∧ I 740 10 ≤ I 740 8) (hp1 : 0 ≤ I 740 16 ∧ I 740 16 ≤ I 740 9) (hp2 : 6 ≤ I 740 14 + I 740 15) (hp3 : laP (I 740 17)) (hp4 : 0 ≤ I 740 18 ∧ I 740 18 ≤ I 740 9) (hp5 : dkI I) : fC ρ base n F xTc vwCl xTys D dA la gJ (fbz bsJ znJ (fKc wz_2212a) I) xm_363 [.inr (.inr (some 740)), .inl x1] I (fun I' r => ∃ z, r = some (.inl z) ∧ ((0 ≤ z ∧ z ≤ 1) ∧ (I 740 9 ≤ I' 740 9 ∧ I' 740 9 ≤ I' 740 10 ∧ I' 740 10 ≤ I' 740 8)) ∧ (sBe I I' (I 740 17) (I 740 16)) ∧ (rd1 I I' z) ∧ (pP 3 3 x1 I I' z) ∧ (dkI I') ∧ (rdU I I' z)) := cg_M_test (d := 6) mi_380 ⟨rfl, rfl, rfl⟩ (fun h0 ha1 hp0 hp1 hp2 hp3 hp4 hp5 => ct_M_sum_9a68c h0 ha1 hp0 hp1 (by omega) hp3 hp4 hp5) xin_363 x6_363 h0 ha1 hp0 hp1 hp2 hp3 hp4 hp5
theorem ct_M_both_8337f {I : fH} {x1 : Int} (h0 : fB bsJ I) (ha1 : ((-1) ≤ x1 ∧ x1 ≤ 5)) (hp0 : I 740 9 ≤ I 740 10 ∧ I 740 10 ≤ I 740 8) (hp1 : 0 ≤ I 740 16 ∧ I 740 16 ≤ I 740 9) (hp2 : 6 ≤ I 740 14 + I 740 15) (hp3 : laP (I 740 17)) (hp4 : 0 ≤ I 740 18 ∧ I 740 18 ≤ I 740 9) (hp5 : dkI I) : fC ρ base n F xTc vwCl xTys D dA la gJ (fbz bsJ znJ (fKc wz_2212a) I) xm_346 [.inr (.inr (some 740)), .inl x1] I (fun I' r => ∃ z, r = some (.inl z) ∧ ((0 ≤ z ∧ z ≤ 1) ∧ (I 740 9 ≤ I' 740 9 ∧ I' 740 9 ≤ I' 740 10 ∧ I' 740 10 ≤ I' 740 8)) ∧ (sBe I I' (I 740 17) (I 740 16)) ∧ (rd1 I I' z) ∧ (pP 2 2 x1 I I' z) ∧ (dkI I') ∧ (rdU I I' z)) := cg_M_both (d := 6) mi_363 ⟨rfl, rfl, rfl⟩ (fun h0 ha1 hp0 hp1 hp2 hp3 hp4 hp5 => ct_M_test_2f0c5 h0 ha1 hp0 hp1 (by omega) hp3 hp4 hp5) xin_346 x6_346 h0 ha1 hp0 hp1 hp2 hp3 hp4 hp5
theorem ct_M_either_78820 {I : fH} {x1 : Int} (h0 : fB bsJ I) (ha1 : ((-1) ≤ x1 ∧ x1 ≤ 5)) (hp0 : I 740 9 ≤ I 740 10 ∧ I 740 10 ≤ I 740 8) (hp1 : 0 ≤ I 740 16 ∧ I 740 16 ≤ I 740 9) (hp2 : 6 ≤ I 740 14 + I 740 15) (hp3 : laP (I 740 17)) (hp4 : 0 ≤ I 740 18 ∧ I 740 18 ≤ I 740 9) (hp5 : dkI I) : fC ρ base n F xTc vwCl xTys D dA la gJ (fbz bsJ znJ (fKc wz_2212a) I) xm_329 [.inr (.inr (some 740)), .inl x1] I (fun I' r => ∃ z, r = some (.inl z) ∧ ((0 ≤ z ∧ z ≤ 1) ∧ (I 740 9 ≤ I' 740 9 ∧ I' 740 9 ≤ I' 740 10 ∧ I' 740 10 ≤ I' 740 8)) ∧ (sBe I I' (I 740 17) (I 740 16)) ∧ (rd1 I I' z) ∧ (pP 1 1 x1 I I' z) ∧ (dkI I') ∧ (rdU I I' z)) := cg_M_either (d := 6) mi_346 ⟨rfl, rfl, rfl⟩ (fun h0 ha1 hp0 hp1 hp2 hp3 hp4 hp5 => ct_M_both_8337f h0 ha1 hp0 hp1 (by omega) hp3 hp4 hp5) xin_329 x6_329 h0 ha1 hp0 hp1 hp2 hp3 hp4 hp5
theorem ct_M_part0_283cb {I : fH} {x1 : Int} (h0 : fB bsJ I) (ha1 : ((-1) ≤ x1 ∧ x1 ≤ 5)) (hp0 : I 740 9 ≤ I 740 10 ∧ I 740 10 ≤ I 740 8) (hp1 : 0 ≤ I 740 16 ∧ I 740 16 ≤ I 740 9) (hp2 : 5 ≤ I 740 14 + I 740 15) (hp3 : laP (I 740 17)) (hp4 : 0 ≤ I 740 18 ∧ I 740 18 ≤ I 740 9) (hp5 : dkI I) : fC ρ base n F xTc vwCl xTys D dA la gJ (fbz bsJ znJ (fKc wz_2212a) I) xm_415 [.inr (.inr (some 740)), .inl x1] I (fun I' r => ∃ z, r = some (.inl z) ∧ ((0 ≤ z ∧ z ≤ 1) ∧ (I 740 9 ≤ I' 740 9 ∧ I' 740 9 ≤ I' 740 10 ∧ I' 740 10 ≤ I' 740 8)) ∧ (sBe I I' (I 740 17) (I 740 16)) ∧ (rd1 I I' z) ∧ (pP 6 7 x1 I I' z) ∧ (dkI I') ∧ (rdU I I' z)) := cg_M_part0 (d := 5) mi_329 ⟨rfl, rfl, rfl⟩ (fun h0 ha1 hp0 hp1 hp2 hp3 hp4 hp5 => ct_M_either_78820 h0 ha1 hp0 hp1 (by omega) hp3 hp4 hp5) mi_414 ⟨rfl, rfl, rfl⟩ (fun h0 ha1 hp0 hp1 hp2 hp3 hp4 hp5 => ct_M_part0_f40af h0 ha1 hp0 hp1 (by omega) hp3 hp4 hp5) xin_415 x6_415 h0 ha1 hp0 hp1 hp2 hp3 hp4 hp5
theorem ct_M_term_ed399 {I : fH} {x1 : Int} (h0 : fB bsJ I) (ha1 : ((-1) ≤ x1 ∧ x1 ≤ 5)) (hp0 : I 740 9 ≤ I 740 10 ∧ I 740 10 ≤ I 740 8) (hp1 : 0 ≤ I 740 16 ∧ I 740 16 ≤ I 740 9) (hp2 : 5 ≤ I 740 14 + I 740 15) (hp3 : laP (I 740 17)) (hp4 : 0 ≤ I 740 18 ∧ I 740 18 ≤ I 740 9) (hp5 : dkI I) : fC ρ base n F xTc vwCl xTys D dA la gJ (fbz bsJ znJ (fKc wz_2212a) I) xm_398 [.inr (.inr (some 740)), .inl x1] I (fun I' r => ∃ z, r = some (.inl z) ∧ ((0 ≤ z ∧ z ≤ 1) ∧ (I 740 9 ≤ I' 740 9 ∧ I' 740 9 ≤ I' 740 10 ∧ I' 740 10 ≤ I' 740 8)) ∧ (sBe I I' (I 740 17) (I 740 16)) ∧ (rd1 I I' z) ∧ (pP 5 5 x1 I I' z) ∧ (dkI I') ∧ (rdU I I' z)) := cg_M_term (d := 5) mi_415 ⟨rfl, rfl, rfl⟩ (fun h0 ha1 hp0 hp1 hp2 hp3 hp4 hp5 => ct_M_part0_283cb h0 ha1 hp0 hp1 (by omega) hp3 hp4 hp5) xin_398 x6_398 h0 ha1 hp0 hp1 hp2 hp3 hp4 hp5
theorem ct_M_sum_26326 {I : fH} {x1 : Int} (h0 : fB bsJ I) (ha1 : ((-1) ≤ x1 ∧ x1 ≤ 5)) (hp0 : I 740 9 ≤ I 740 10 ∧ I 740 10 ≤ I 740 8) (hp1 : 0 ≤ I 740 16 ∧ I 740 16 ≤ I 740 9) (hp2 : 5 ≤ I 740 14 + I 740 15) (hp3 : laP (I 740 17)) (hp4 : 0 ≤ I 740 18 ∧ I 740 18 ≤ I 740 9) (hp5 : dkI I) : fC ρ base n F xTc vwCl xTys D dA la gJ (fbz bsJ znJ (fKc wz_2212a) I) xm_381 [.inr (.inr (some 740)), .inl x1] I (fun I' r => ∃ z, r = some (.inl z) ∧ ((0 ≤ z ∧ z ≤ 1) ∧ (I 740 9 ≤ I' 740 9 ∧ I' 740 9 ≤ I' 740 10 ∧ I' 740 10 ≤ I' 740 8)) ∧ (sBe I I' (I 740 17) (I 740 16)) ∧ (rd1 I I' z) ∧ (pP 4 4 x1 I I' z) ∧ (dkI I') ∧ (rdU I I' z)) := cg_M_sum (d := 5) mi_398 ⟨rfl, rfl, rfl⟩ (fun h0 ha1 hp0 hp1 hp2 hp3 hp4 hp5 => ct_M_term_ed399 h0 ha1 hp0 hp1 (by omega) hp3 hp4 hp5) xin_381 x6_381 h0 ha1 hp0 hp1 hp2 hp3 hp4 hp5
theorem ct_M_test_f1b75 {I : fH} {x1 : Int} (h0 : fB bsJ I) (ha1 : ((-1) ≤ x1 ∧ x1 ≤ 5)) (hp0 : I 740 9 ≤ I 740 10 ∧ I 740 10 ≤ I 740 8) (hp1 : 0 ≤ I 740 16 ∧ I 740 16 ≤ I 740 9) (hp2 : 5 ≤ I 740 14 + I 740 15) (hp3 : laP (I 740 17)) (hp4 : 0 ≤ I 740 18 ∧ I 740 18 ≤ I 740 9) (hp5 : dkI I) : fC ρ base n F xTc vwCl xTys D dA la gJ (fbz bsJ znJ (fKc wz_2212a) I) xm_364 [.inr (.inr (some 740)), .inl x1] I (fun I' r => ∃ z, r = some (.inl z) ∧ ((0 ≤ z ∧ z ≤ 1) ∧ (I 740 9 ≤ I' 740 9 ∧ I' 740 9 ≤ I' 740 10 ∧ I' 740 10 ≤ I' 740 8)) ∧ (sBe I I' (I 740 17) (I 740 16)) ∧ (rd1 I I' z) ∧ (pP 3 3 x1 I I' z) ∧ (dkI I') ∧ (rdU I I' z)) := cg_M_test (d := 5) mi_381 ⟨rfl, rfl, rfl⟩ (fun h0 ha1 hp0 hp1 hp2 hp3 hp4 hp5 => ct_M_sum_26326 h0 ha1 hp0 hp1 (by omega) hp3 hp4 hp5) xin_364 x6_364 h0 ha1 hp0 hp1 hp2 hp3 hp4 hp5
theorem ct_M_both_b081a {I : fH} {x1 : Int} (h0 : fB bsJ I) (ha1 : ((-1) ≤ x1 ∧ x1 ≤ 5)) (hp0 : I 740 9 ≤ I 740 10 ∧ I 740 10 ≤ I 740 8) (hp1 : 0 ≤ I 740 16 ∧ I 740 16 ≤ I 740 9) (hp2 : 5 ≤ I 740 14 + I 740 15) (hp3 : laP (I 740 17)) (hp4 : 0 ≤ I 740 18 ∧ I 740 18 ≤ I 740 9) (hp5 : dkI I) : fC ρ base n F xTc vwCl xTys D dA la gJ (fbz bsJ znJ (fKc wz_2212a) I) xm_347 [.inr (.inr (some 740)), .inl x1] I (fun I' r => ∃ z, r = some (.inl z) ∧ ((0 ≤ z ∧ z ≤ 1) ∧ (I 740 9 ≤ I' 740 9 ∧ I' 740 9 ≤ I' 740 10 ∧ I' 740 10 ≤ I' 740 8)) ∧ (sBe I I' (I 740 17) (I 740 16)) ∧ (rd1 I I' z) ∧ (pP 2 2 x1 I I' z) ∧ (dkI I') ∧ (rdU I I' z)) := cg_M_both (d := 5) mi_364 ⟨rfl, rfl, rfl⟩ (fun h0 ha1 hp0 hp1 hp2 hp3 hp4 hp5 => ct_M_test_f1b75 h0 ha1 hp0 hp1 (by omega) hp3 hp4 hp5) xin_347 x6_347 h0 ha1 hp0 hp1 hp2 hp3 hp4 hp5
theorem ct_M_either_42d13 {I : fH} {x1 : Int} (h0 : fB bsJ I) (ha1 : ((-1) ≤ x1 ∧ x1 ≤ 5)) (hp0 : I 740 9 ≤ I 740 10 ∧ I 740 10 ≤ I 740 8) (hp1 : 0 ≤ I 740 16 ∧ I 740 16 ≤ I 740 9) (hp2 : 5 ≤ I 740 14 + I 740 15) (hp3 : laP (I 740 17)) (hp4 : 0 ≤ I 740 18 ∧ I 740 18 ≤ I 740 9) (hp5 : dkI I) : fC ρ base n F xTc vwCl xTys D dA la gJ (fbz bsJ znJ (fKc wz_2212a) I) xm_330 [.inr (.inr (some 740)), .inl x1] I (fun I' r => ∃ z, r = some (.inl z) ∧ ((0 ≤ z ∧ z ≤ 1) ∧ (I 740 9 ≤ I' 740 9 ∧ I' 740 9 ≤ I' 740 10 ∧ I' 740 10 ≤ I' 740 8)) ∧ (sBe I I' (I 740 17) (I 740 16)) ∧ (rd1 I I' z) ∧ (pP 1 1 x1 I I' z) ∧ (dkI I') ∧ (rdU I I' z)) := cg_M_either (d := 5) mi_347 ⟨rfl, rfl, rfl⟩ (fun h0 ha1 hp0 hp1 hp2 hp3 hp4 hp5 => ct_M_both_b081a h0 ha1 hp0 hp1 (by omega) hp3 hp4 hp5) xin_330 x6_330 h0 ha1 hp0 hp1 hp2 hp3 hp4 hp5
theorem ct_M_part0_9ea9f {I : fH} {x1 : Int} (h0 : fB bsJ I) (ha1 : ((-1) ≤ x1 ∧ x1 ≤ 5)) (hp0 : I 740 9 ≤ I 740 10 ∧ I 740 10 ≤ I 740 8) (hp1 : 0 ≤ I 740 16 ∧ I 740 16 ≤ I 740 9) (hp2 : 4 ≤ I 740 14 + I 740 15) (hp3 : laP (I 740 17)) (hp4 : 0 ≤ I 740 18 ∧ I 740 18 ≤ I 740 9) (hp5 : dkI I) : fC ρ base n F xTc vwCl xTys D dA la gJ (fbz bsJ znJ (fKc wz_2212a) I) xm_416 [.inr (.inr (some 740)), .inl x1] I (fun I' r => ∃ z, r = some (.inl z) ∧ ((0 ≤ z ∧ z ≤ 1) ∧ (I 740 9 ≤ I' 740 9 ∧ I' 740 9 ≤ I' 740 10 ∧ I' 740 10 ≤ I' 740 8)) ∧ (sBe I I' (I 740 17) (I 740 16)) ∧ (rd1 I I' z) ∧ (pP 6 7 x1 I I' z) ∧ (dkI I') ∧ (rdU I I' z)) := cg_M_part0 (d := 4) mi_330 ⟨rfl, rfl, rfl⟩ (fun h0 ha1 hp0 hp1 hp2 hp3 hp4 hp5 => ct_M_either_42d13 h0 ha1 hp0 hp1 (by omega) hp3 hp4 hp5) mi_415 ⟨rfl, rfl, rfl⟩ (fun h0 ha1 hp0 hp1 hp2 hp3 hp4 hp5 => ct_M_part0_283cb h0 ha1 hp0 hp1 (by omega) hp3 hp4 hp5) xin_416 x6_416 h0 ha1 hp0 hp1 hp2 hp3 hp4 hp5
theorem ct_M_term_7185f {I : fH} {x1 : Int} (h0 : fB bsJ I) (ha1 : ((-1) ≤ x1 ∧ x1 ≤ 5)) (hp0 : I 740 9 ≤ I 740 10 ∧ I 740 10 ≤ I 740 8) (hp1 : 0 ≤ I 740 16 ∧ I 740 16 ≤ I 740 9) (hp2 : 4 ≤ I 740 14 + I 740 15) (hp3 : laP (I 740 17)) (hp4 : 0 ≤ I 740 18 ∧ I 740 18 ≤ I 740 9) (hp5 : dkI I) : fC ρ base n F xTc vwCl xTys D dA la gJ (fbz bsJ znJ (fKc wz_2212a) I) xm_399 [.inr (.inr (some 740)), .inl x1] I (fun I' r => ∃ z, r = some (.inl z) ∧ ((0 ≤ z ∧ z ≤ 1) ∧ (I 740 9 ≤ I' 740 9 ∧ I' 740 9 ≤ I' 740 10 ∧ I' 740 10 ≤ I' 740 8)) ∧ (sBe I I' (I 740 17) (I 740 16)) ∧ (rd1 I I' z) ∧ (pP 5 5 x1 I I' z) ∧ (dkI I') ∧ (rdU I I' z)) := cg_M_term (d := 4) mi_416 ⟨rfl, rfl, rfl⟩ (fun h0 ha1 hp0 hp1 hp2 hp3 hp4 hp5 => ct_M_part0_9ea9f h0 ha1 hp0 hp1 (by omega) hp3 hp4 hp5) xin_399 x6_399 h0 ha1 hp0 hp1 hp2 hp3 hp4 hp5
theorem ct_M_sum_e90b0 {I : fH} {x1 : Int} (h0 : fB bsJ I) (ha1 : ((-1) ≤ x1 ∧ x1 ≤ 5)) (hp0 : I 740 9 ≤ I 740 10 ∧ I 740 10 ≤ I 740 8) (hp1 : 0 ≤ I 740 16 ∧ I 740 16 ≤ I 740 9) (hp2 : 4 ≤ I 740 14 + I 740 15) (hp3 : laP (I 740 17)) (hp4 : 0 ≤ I 740 18 ∧ I 740 18 ≤ I 740 9) (hp5 : dkI I) : fC ρ base n F xTc vwCl xTys D dA la gJ (fbz bsJ znJ (fKc wz_2212a) I) xm_382 [.inr (.inr (some 740)), .inl x1] I (fun I' r => ∃ z, r = some (.inl z) ∧ ((0 ≤ z ∧ z ≤ 1) ∧ (I 740 9 ≤ I' 740 9 ∧ I' 740 9 ≤ I' 740 10 ∧ I' 740 10 ≤ I' 740 8)) ∧ (sBe I I' (I 740 17) (I 740 16)) ∧ (rd1 I I' z) ∧ (pP 4 4 x1 I I' z) ∧ (dkI I') ∧ (rdU I I' z)) := cg_M_sum (d := 4) mi_399 ⟨rfl, rfl, rfl⟩ (fun h0 ha1 hp0 hp1 hp2 hp3 hp4 hp5 => ct_M_term_7185f h0 ha1 hp0 hp1 (by omega) hp3 hp4 hp5) xin_382 x6_382 h0 ha1 hp0 hp1 hp2 hp3 hp4 hp5
theorem ct_M_test_a2d79 {I : fH} {x1 : Int} (h0 : fB bsJ I) (ha1 : ((-1) ≤ x1 ∧ x1 ≤ 5)) (hp0 : I 740 9 ≤ I 740 10 ∧ I 740 10 ≤ I 740 8) (hp1 : 0 ≤ I 740 16 ∧ I 740 16 ≤ I 740 9) (hp2 : 4 ≤ I 740 14 + I 740 15) (hp3 : laP (I 740 17)) (hp4 : 0 ≤ I 740 18 ∧ I 740 18 ≤ I 740 9) (hp5 : dkI I) : fC ρ base n F xTc vwCl xTys D dA la gJ (fbz bsJ znJ (fKc wz_2212a) I) xm_365 [.inr (.inr (some 740)), .inl x1] I (fun I' r => ∃ z, r = some (.inl z) ∧ ((0 ≤ z ∧ z ≤ 1) ∧ (I 740 9 ≤ I' 740 9 ∧ I' 740 9 ≤ I' 740 10 ∧ I' 740 10 ≤ I' 740 8)) ∧ (sBe I I' (I 740 17) (I 740 16)) ∧ (rd1 I I' z) ∧ (pP 3 3 x1 I I' z) ∧ (dkI I') ∧ (rdU I I' z)) := cg_M_test (d := 4) mi_382 ⟨rfl, rfl, rfl⟩ (fun h0 ha1 hp0 hp1 hp2 hp3 hp4 hp5 => ct_M_sum_e90b0 h0 ha1 hp0 hp1 (by omega) hp3 hp4 hp5) xin_365 x6_365 h0 ha1 hp0 hp1 hp2 hp3 hp4 hp5
theorem ct_M_both_d4d0f {I : fH} {x1 : Int} (h0 : fB bsJ I) (ha1 : ((-1) ≤ x1 ∧ x1 ≤ 5)) (hp0 : I 740 9 ≤ I 740 10 ∧ I 740 10 ≤ I 740 8) (hp1 : 0 ≤ I 740 16 ∧ I 740 16 ≤ I 740 9) (hp2 : 4 ≤ I 740 14 + I 740 15) (hp3 : laP (I 740 17)) (hp4 : 0 ≤ I 740 18 ∧ I 740 18 ≤ I 740 9) (hp5 : dkI I) : fC ρ base n F xTc vwCl xTys D dA la gJ (fbz bsJ znJ (fKc wz_2212a) I) xm_348 [.inr (.inr (some 740)), .inl x1] I (fun I' r => ∃ z, r = some (.inl z) ∧ ((0 ≤ z ∧ z ≤ 1) ∧ (I 740 9 ≤ I' 740 9 ∧ I' 740 9 ≤ I' 740 10 ∧ I' 740 10 ≤ I' 740 8)) ∧ (sBe I I' (I 740 17) (I 740 16)) ∧ (rd1 I I' z) ∧ (pP 2 2 x1 I I' z) ∧ (dkI I') ∧ (rdU I I' z)) := cg_M_both (d := 4) mi_365 ⟨rfl, rfl, rfl⟩ (fun h0 ha1 hp0 hp1 hp2 hp3 hp4 hp5 => ct_M_test_a2d79 h0 ha1 hp0 hp1 (by omega) hp3 hp4 hp5) xin_348 x6_348 h0 ha1 hp0 hp1 hp2 hp3 hp4 hp5
theorem ct_M_either_3429b {I : fH} {x1 : Int} (h0 : fB bsJ I) (ha1 : ((-1) ≤ x1 ∧ x1 ≤ 5)) (hp0 : I 740 9 ≤ I 740 10 ∧ I 740 10 ≤ I 740 8) (hp1 : 0 ≤ I 740 16 ∧ I 740 16 ≤ I 740 9) (hp2 : 4 ≤ I 740 14 + I 740 15) (hp3 : laP (I 740 17)) (hp4 : 0 ≤ I 740 18 ∧ I 740 18 ≤ I 740 9) (hp5 : dkI I) : fC ρ base n F xTc vwCl xTys D dA la gJ (fbz bsJ znJ (fKc wz_2212a) I) xm_331 [.inr (.inr (some 740)), .inl x1] I (fun I' r => ∃ z, r = some (.inl z) ∧ ((0 ≤ z ∧ z ≤ 1) ∧ (I 740 9 ≤ I' 740 9 ∧ I' 740 9 ≤ I' 740 10 ∧ I' 740 10 ≤ I' 740 8)) ∧ (sBe I I' (I 740 17) (I 740 16)) ∧ (rd1 I I' z) ∧ (pP 1 1 x1 I I' z) ∧ (dkI I') ∧ (rdU I I' z)) := cg_M_either (d := 4) mi_348 ⟨rfl, rfl, rfl⟩ (fun h0 ha1 hp0 hp1 hp2 hp3 hp4 hp5 => ct_M_both_d4d0f h0 ha1 hp0 hp1 (by omega) hp3 hp4 hp5) xin_331 x6_331 h0 ha1 hp0 hp1 hp2 hp3 hp4 hp5
theorem ct_M_part0_136e6 {I : fH} {x1 : Int} (h0 : fB bsJ I) (ha1 : ((-1) ≤ x1 ∧ x1 ≤ 5)) (hp0 : I 740 9 ≤ I 740 10 ∧ I 740 10 ≤ I 740 8) (hp1 : 0 ≤ I 740 16 ∧ I 740 16 ≤ I 740 9) (hp2 : 3 ≤ I 740 14 + I 740 15) (hp3 : laP (I 740 17)) (hp4 : 0 ≤ I 740 18 ∧ I 740 18 ≤ I 740 9) (hp5 : dkI I) : fC ρ base n F xTc vwCl xTys D dA la gJ (fbz bsJ znJ (fKc wz_2212a) I) xm_417 [.inr (.inr (some 740)), .inl x1] I (fun I' r => ∃ z, r = some (.inl z) ∧ ((0 ≤ z ∧ z ≤ 1) ∧ (I 740 9 ≤ I' 740 9 ∧ I' 740 9 ≤ I' 740 10 ∧ I' 740 10 ≤ I' 740 8)) ∧ (sBe I I' (I 740 17) (I 740 16)) ∧ (rd1 I I' z) ∧ (pP 6 7 x1 I I' z) ∧ (dkI I') ∧ (rdU I I' z)) := cg_M_part0 (d := 3) mi_331 ⟨rfl, rfl, rfl⟩ (fun h0 ha1 hp0 hp1 hp2 hp3 hp4 hp5 => ct_M_either_3429b h0 ha1 hp0 hp1 (by omega) hp3 hp4 hp5) mi_416 ⟨rfl, rfl, rfl⟩ (fun h0 ha1 hp0 hp1 hp2 hp3 hp4 hp5 => ct_M_part0_9ea9f h0 ha1 hp0 hp1 (by omega) hp3 hp4 hp5) xin_417 x6_417 h0 ha1 hp0 hp1 hp2 hp3 hp4 hp5
theorem ct_M_term_1d3bf {I : fH} {x1 : Int} (h0 : fB bsJ I) (ha1 : ((-1) ≤ x1 ∧ x1 ≤ 5)) (hp0 : I 740 9 ≤ I 740 10 ∧ I 740 10 ≤ I 740 8) (hp1 : 0 ≤ I 740 16 ∧ I 740 16 ≤ I 740 9) (hp2 : 3 ≤ I 740 14 + I 740 15) (hp3 : laP (I 740 17)) (hp4 : 0 ≤ I 740 18 ∧ I 740 18 ≤ I 740 9) (hp5 : dkI I) : fC ρ base n F xTc vwCl xTys D dA la gJ (fbz bsJ znJ (fKc wz_2212a) I) xm_400 [.inr (.inr (some 740)), .inl x1] I (fun I' r => ∃ z, r = some (.inl z) ∧ ((0 ≤ z ∧ z ≤ 1) ∧ (I 740 9 ≤ I' 740 9 ∧ I' 740 9 ≤ I' 740 10 ∧ I' 740 10 ≤ I' 740 8)) ∧ (sBe I I' (I 740 17) (I 740 16)) ∧ (rd1 I I' z) ∧ (pP 5 5 x1 I I' z) ∧ (dkI I') ∧ (rdU I I' z)) := cg_M_term (d := 3) mi_417 ⟨rfl, rfl, rfl⟩ (fun h0 ha1 hp0 hp1 hp2 hp3 hp4 hp5 => ct_M_part0_136e6 h0 ha1 hp0 hp1 (by omega) hp3 hp4 hp5) xin_400 x6_400 h0 ha1 hp0 hp1 hp2 hp3 hp4 hp5
theorem ct_M_sum_75f99 {I : fH} {x1 : Int} (h0 : fB bsJ I) (ha1 : ((-1) ≤ x1 ∧ x1 ≤ 5)) (hp0 : I 740 9 ≤ I 740 10 ∧ I 740 10 ≤ I 740 8) (hp1 : 0 ≤ I 740 16 ∧ I 740 16 ≤ I 740 9) (hp2 : 3 ≤ I 740 14 + I 740 15) (hp3 : laP (I 740 17)) (hp4 : 0 ≤ I 740 18 ∧ I 740 18 ≤ I 740 9) (hp5 : dkI I) : fC ρ base n F xTc vwCl xTys D dA la gJ (fbz bsJ znJ (fKc wz_2212a) I) xm_383 [.inr (.inr (some 740)), .inl x1] I (fun I' r => ∃ z, r = some (.inl z) ∧ ((0 ≤ z ∧ z ≤ 1) ∧ (I 740 9 ≤ I' 740 9 ∧ I' 740 9 ≤ I' 740 10 ∧ I' 740 10 ≤ I' 740 8)) ∧ (sBe I I' (I 740 17) (I 740 16)) ∧ (rd1 I I' z) ∧ (pP 4 4 x1 I I' z) ∧ (dkI I') ∧ (rdU I I' z)) := cg_M_sum (d := 3) mi_400 ⟨rfl, rfl, rfl⟩ (fun h0 ha1 hp0 hp1 hp2 hp3 hp4 hp5 => ct_M_term_1d3bf h0 ha1 hp0 hp1 (by omega) hp3 hp4 hp5) xin_383 x6_383 h0 ha1 hp0 hp1 hp2 hp3 hp4 hp5
theorem ct_M_test_e4d89 {I : fH} {x1 : Int} (h0 : fB bsJ I) (ha1 : ((-1) ≤ x1 ∧ x1 ≤ 5)) (hp0 : I 740 9 ≤ I 740 10 ∧ I 740 10 ≤ I 740 8) (hp1 : 0 ≤ I 740 16 ∧ I 740 16 ≤ I 740 9) (hp2 : 3 ≤ I 740 14 + I 740 15) (hp3 : laP (I 740 17)) (hp4 : 0 ≤ I 740 18 ∧ I 740 18 ≤ I 740 9) (hp5 : dkI I) : fC ρ base n F xTc vwCl xTys D dA la gJ (fbz bsJ znJ (fKc wz_2212a) I) xm_366 [.inr (.inr (some 740)), .inl x1] I (fun I' r => ∃ z, r = some (.inl z) ∧ ((0 ≤ z ∧ z ≤ 1) ∧ (I 740 9 ≤ I' 740 9 ∧ I' 740 9 ≤ I' 740 10 ∧ I' 740 10 ≤ I' 740 8)) ∧ (sBe I I' (I 740 17) (I 740 16)) ∧ (rd1 I I' z) ∧ (pP 3 3 x1 I I' z) ∧ (dkI I') ∧ (rdU I I' z)) := cg_M_test (d := 3) mi_383 ⟨rfl, rfl, rfl⟩ (fun h0 ha1 hp0 hp1 hp2 hp3 hp4 hp5 => ct_M_sum_75f99 h0 ha1 hp0 hp1 (by omega) hp3 hp4 hp5) xin_366 x6_366 h0 ha1 hp0 hp1 hp2 hp3 hp4 hp5
theorem ct_M_both_519a3 {I : fH} {x1 : Int} (h0 : fB bsJ I) (ha1 : ((-1) ≤ x1 ∧ x1 ≤ 5)) (hp0 : I 740 9 ≤ I 740 10 ∧ I 740 10 ≤ I 740 8) (hp1 : 0 ≤ I 740 16 ∧ I 740 16 ≤ I 740 9) (hp2 : 3 ≤ I 740 14 + I 740 15) (hp3 : laP (I 740 17)) (hp4 : 0 ≤ I 740 18 ∧ I 740 18 ≤ I 740 9) (hp5 : dkI I) : fC ρ base n F xTc vwCl xTys D dA la gJ (fbz bsJ znJ (fKc wz_2212a) I) xm_349 [.inr (.inr (some 740)), .inl x1] I (fun I' r => ∃ z, r = some (.inl z) ∧ ((0 ≤ z ∧ z ≤ 1) ∧ (I 740 9 ≤ I' 740 9 ∧ I' 740 9 ≤ I' 740 10 ∧ I' 740 10 ≤ I' 740 8)) ∧ (sBe I I' (I 740 17) (I 740 16)) ∧ (rd1 I I' z) ∧ (pP 2 2 x1 I I' z) ∧ (dkI I') ∧ (rdU I I' z)) := cg_M_both (d := 3) mi_366 ⟨rfl, rfl, rfl⟩ (fun h0 ha1 hp0 hp1 hp2 hp3 hp4 hp5 => ct_M_test_e4d89 h0 ha1 hp0 hp1 (by omega) hp3 hp4 hp5) xin_349 x6_349 h0 ha1 hp0 hp1 hp2 hp3 hp4 hp5
theorem ct_M_either_26828 {I : fH} {x1 : Int} (h0 : fB bsJ I) (ha1 : ((-1) ≤ x1 ∧ x1 ≤ 5)) (hp0 : I 740 9 ≤ I 740 10 ∧ I 740 10 ≤ I 740 8) (hp1 : 0 ≤ I 740 16 ∧ I 740 16 ≤ I 740 9) (hp2 : 3 ≤ I 740 14 + I 740 15) (hp3 : laP (I 740 17)) (hp4 : 0 ≤ I 740 18 ∧ I 740 18 ≤ I 740 9) (hp5 : dkI I) : fC ρ base n F xTc vwCl xTys D dA la gJ (fbz bsJ znJ (fKc wz_2212a) I) xm_332 [.inr (.inr (some 740)), .inl x1] I (fun I' r => ∃ z, r = some (.inl z) ∧ ((0 ≤ z ∧ z ≤ 1) ∧ (I 740 9 ≤ I' 740 9 ∧ I' 740 9 ≤ I' 740 10 ∧ I' 740 10 ≤ I' 740 8)) ∧ (sBe I I' (I 740 17) (I 740 16)) ∧ (rd1 I I' z) ∧ (pP 1 1 x1 I I' z) ∧ (dkI I') ∧ (rdU I I' z)) := cg_M_either (d := 3) mi_349 ⟨rfl, rfl, rfl⟩ (fun h0 ha1 hp0 hp1 hp2 hp3 hp4 hp5 => ct_M_both_519a3 h0 ha1 hp0 hp1 (by omega) hp3 hp4 hp5) xin_332 x6_332 h0 ha1 hp0 hp1 hp2 hp3 hp4 hp5
theorem ct_M_part0_2bc24 {I : fH} {x1 : Int} (h0 : fB bsJ I) (ha1 : ((-1) ≤ x1 ∧ x1 ≤ 5)) (hp0 : I 740 9 ≤ I 740 10 ∧ I 740 10 ≤ I 740 8) (hp1 : 0 ≤ I 740 16 ∧ I 740 16 ≤ I 740 9) (hp2 : 2 ≤ I 740 14 + I 740 15) (hp3 : laP (I 740 17)) (hp4 : 0 ≤ I 740 18 ∧ I 740 18 ≤ I 740 9) (hp5 : dkI I) : fC ρ base n F xTc vwCl xTys D dA la gJ (fbz bsJ znJ (fKc wz_2212a) I) xm_418 [.inr (.inr (some 740)), .inl x1] I (fun I' r => ∃ z, r = some (.inl z) ∧ ((0 ≤ z ∧ z ≤ 1) ∧ (I 740 9 ≤ I' 740 9 ∧ I' 740 9 ≤ I' 740 10 ∧ I' 740 10 ≤ I' 740 8)) ∧ (sBe I I' (I 740 17) (I 740 16)) ∧ (rd1 I I' z) ∧ (pP 6 7 x1 I I' z) ∧ (dkI I') ∧ (rdU I I' z)) := cg_M_part0 (d := 2) mi_332 ⟨rfl, rfl, rfl⟩ (fun h0 ha1 hp0 hp1 hp2 hp3 hp4 hp5 => ct_M_either_26828 h0 ha1 hp0 hp1 (by omega) hp3 hp4 hp5) mi_417 ⟨rfl, rfl, rfl⟩ (fun h0 ha1 hp0 hp1 hp2 hp3 hp4 hp5 => ct_M_part0_136e6 h0 ha1 hp0 hp1 (by omega) hp3 hp4 hp5) xin_418 x6_418 h0 ha1 hp0 hp1 hp2 hp3 hp4 hp5
theorem ct_M_term_44a55 {I : fH} {x1 : Int} (h0 : fB bsJ I) (ha1 : ((-1) ≤ x1 ∧ x1 ≤ 5)) (hp0 : I 740 9 ≤ I 740 10 ∧ I 740 10 ≤ I 740 8) (hp1 : 0 ≤ I 740 16 ∧ I 740 16 ≤ I 740 9) (hp2 : 2 ≤ I 740 14 + I 740 15) (hp3 : laP (I 740 17)) (hp4 : 0 ≤ I 740 18 ∧ I 740 18 ≤ I 740 9) (hp5 : dkI I) : fC ρ base n F xTc vwCl xTys D dA la gJ (fbz bsJ znJ (fKc wz_2212a) I) xm_401 [.inr (.inr (some 740)), .inl x1] I (fun I' r => ∃ z, r = some (.inl z) ∧ ((0 ≤ z ∧ z ≤ 1) ∧ (I 740 9 ≤ I' 740 9 ∧ I' 740 9 ≤ I' 740 10 ∧ I' 740 10 ≤ I' 740 8)) ∧ (sBe I I' (I 740 17) (I 740 16)) ∧ (rd1 I I' z) ∧ (pP 5 5 x1 I I' z) ∧ (dkI I') ∧ (rdU I I' z)) := cg_M_term (d := 2) mi_418 ⟨rfl, rfl, rfl⟩ (fun h0 ha1 hp0 hp1 hp2 hp3 hp4 hp5 => ct_M_part0_2bc24 h0 ha1 hp0 hp1 (by omega) hp3 hp4 hp5) xin_401 x6_401 h0 ha1 hp0 hp1 hp2 hp3 hp4 hp5
theorem ct_M_sum_b6b16 {I : fH} {x1 : Int} (h0 : fB bsJ I) (ha1 : ((-1) ≤ x1 ∧ x1 ≤ 5)) (hp0 : I 740 9 ≤ I 740 10 ∧ I 740 10 ≤ I 740 8) (hp1 : 0 ≤ I 740 16 ∧ I 740 16 ≤ I 740 9) (hp2 : 2 ≤ I 740 14 + I 740 15) (hp3 : laP (I 740 17)) (hp4 : 0 ≤ I 740 18 ∧ I 740 18 ≤ I 740 9) (hp5 : dkI I) : fC ρ base n F xTc vwCl xTys D dA la gJ (fbz bsJ znJ (fKc wz_2212a) I) xm_384 [.inr (.inr (some 740)), .inl x1] I (fun I' r => ∃ z, r = some (.inl z) ∧ ((0 ≤ z ∧ z ≤ 1) ∧ (I 740 9 ≤ I' 740 9 ∧ I' 740 9 ≤ I' 740 10 ∧ I' 740 10 ≤ I' 740 8)) ∧ (sBe I I' (I 740 17) (I 740 16)) ∧ (rd1 I I' z) ∧ (pP 4 4 x1 I I' z) ∧ (dkI I') ∧ (rdU I I' z)) := cg_M_sum (d := 2) mi_401 ⟨rfl, rfl, rfl⟩ (fun h0 ha1 hp0 hp1 hp2 hp3 hp4 hp5 => ct_M_term_44a55 h0 ha1 hp0 hp1 (by omega) hp3 hp4 hp5) xin_384 x6_384 h0 ha1 hp0 hp1 hp2 hp3 hp4 hp5
theorem ct_M_test_aa09e {I : fH} {x1 : Int} (h0 : fB bsJ I) (ha1 : ((-1) ≤ x1 ∧ x1 ≤ 5)) (hp0 : I 740 9 ≤ I 740 10 ∧ I 740 10 ≤ I 740 8) (hp1 : 0 ≤ I 740 16 ∧ I 740 16 ≤ I 740 9) (hp2 : 2 ≤ I 740 14 + I 740 15) (hp3 : laP (I 740 17)) (hp4 : 0 ≤ I 740 18 ∧ I 740 18 ≤ I 740 9) (hp5 : dkI I) : fC ρ base n F xTc vwCl xTys D dA la gJ (fbz bsJ znJ (fKc wz_2212a) I) xm_367 [.inr (.inr (some 740)), .inl x1] I (fun I' r => ∃ z, r = some (.inl z) ∧ ((0 ≤ z ∧ z ≤ 1) ∧ (I 740 9 ≤ I' 740 9 ∧ I' 740 9 ≤ I' 740 10 ∧ I' 740 10 ≤ I' 740 8)) ∧ (sBe I I' (I 740 17) (I 740 16)) ∧ (rd1 I I' z) ∧ (pP 3 3 x1 I I' z) ∧ (dkI I') ∧ (rdU I I' z)) := cg_M_test (d := 2) mi_384 ⟨rfl, rfl, rfl⟩ (fun h0 ha1 hp0 hp1 hp2 hp3 hp4 hp5 => ct_M_sum_b6b16 h0 ha1 hp0 hp1 (by omega) hp3 hp4 hp5) xin_367 x6_367 h0 ha1 hp0 hp1 hp2 hp3 hp4 hp5
theorem ct_M_both_56bfd {I : fH} {x1 : Int} (h0 : fB bsJ I) (ha1 : ((-1) ≤ x1 ∧ x1 ≤ 5)) (hp0 : I 740 9 ≤ I 740 10 ∧ I 740 10 ≤ I 740 8) (hp1 : 0 ≤ I 740 16 ∧ I 740 16 ≤ I 740 9) (hp2 : 2 ≤ I 740 14 + I 740 15) (hp3 : laP (I 740 17)) (hp4 : 0 ≤ I 740 18 ∧ I 740 18 ≤ I 740 9) (hp5 : dkI I) : fC ρ base n F xTc vwCl xTys D dA la gJ (fbz bsJ znJ (fKc wz_2212a) I) xm_350 [.inr (.inr (some 740)), .inl x1] I (fun I' r => ∃ z, r = some (.inl z) ∧ ((0 ≤ z ∧ z ≤ 1) ∧ (I 740 9 ≤ I' 740 9 ∧ I' 740 9 ≤ I' 740 10 ∧ I' 740 10 ≤ I' 740 8)) ∧ (sBe I I' (I 740 17) (I 740 16)) ∧ (rd1 I I' z) ∧ (pP 2 2 x1 I I' z) ∧ (dkI I') ∧ (rdU I I' z)) := cg_M_both (d := 2) mi_367 ⟨rfl, rfl, rfl⟩ (fun h0 ha1 hp0 hp1 hp2 hp3 hp4 hp5 => ct_M_test_aa09e h0 ha1 hp0 hp1 (by omega) hp3 hp4 hp5) xin_350 x6_350 h0 ha1 hp0 hp1 hp2 hp3 hp4 hp5
theorem ct_M_either_833ee {I : fH} {x1 : Int} (h0 : fB bsJ I) (ha1 : ((-1) ≤ x1 ∧ x1 ≤ 5)) (hp0 : I 740 9 ≤ I 740 10 ∧ I 740 10 ≤ I 740 8) (hp1 : 0 ≤ I 740 16 ∧ I 740 16 ≤ I 740 9) (hp2 : 2 ≤ I 740 14 + I 740 15) (hp3 : laP (I 740 17)) (hp4 : 0 ≤ I 740 18 ∧ I 740 18 ≤ I 740 9) (hp5 : dkI I) : fC ρ base n F xTc vwCl xTys D dA la gJ (fbz bsJ znJ (fKc wz_2212a) I) xm_333 [.inr (.inr (some 740)), .inl x1] I (fun I' r => ∃ z, r = some (.inl z) ∧ ((0 ≤ z ∧ z ≤ 1) ∧ (I 740 9 ≤ I' 740 9 ∧ I' 740 9 ≤ I' 740 10 ∧ I' 740 10 ≤ I' 740 8)) ∧ (sBe I I' (I 740 17) (I 740 16)) ∧ (rd1 I I' z) ∧ (pP 1 1 x1 I I' z) ∧ (dkI I') ∧ (rdU I I' z)) := cg_M_either (d := 2) mi_350 ⟨rfl, rfl, rfl⟩ (fun h0 ha1 hp0 hp1 hp2 hp3 hp4 hp5 => ct_M_both_56bfd h0 ha1 hp0 hp1 (by omega) hp3 hp4 hp5) xin_333 x6_333 h0 ha1 hp0 hp1 hp2 hp3 hp4 hp5
theorem ct_M_part0_f397b {I : fH} {x1 : Int} (h0 : fB bsJ I) (ha1 : ((-1) ≤ x1 ∧ x1 ≤ 5)) (hp0 : I 740 9 ≤ I 740 10 ∧ I 740 10 ≤ I 740 8) (hp1 : 0 ≤ I 740 16 ∧ I 740 16 ≤ I 740 9) (hp2 : 1 ≤ I 740 14 + I 740 15) (hp3 : laP (I 740 17)) (hp4 : 0 ≤ I 740 18 ∧ I 740 18 ≤ I 740 9) (hp5 : dkI I) : fC ρ base n F xTc vwCl xTys D dA la gJ (fbz bsJ znJ (fKc wz_2212a) I) xm_419 [.inr (.inr (some 740)), .inl x1] I (fun I' r => ∃ z, r = some (.inl z) ∧ ((0 ≤ z ∧ z ≤ 1) ∧ (I 740 9 ≤ I' 740 9 ∧ I' 740 9 ≤ I' 740 10 ∧ I' 740 10 ≤ I' 740 8)) ∧ (sBe I I' (I 740 17) (I 740 16)) ∧ (rd1 I I' z) ∧ (pP 6 7 x1 I I' z) ∧ (dkI I') ∧ (rdU I I' z)) := cg_M_part0 (d := 1) mi_333 ⟨rfl, rfl, rfl⟩ (fun h0 ha1 hp0 hp1 hp2 hp3 hp4 hp5 => ct_M_either_833ee h0 ha1 hp0 hp1 (by omega) hp3 hp4 hp5) mi_418 ⟨rfl, rfl, rfl⟩ (fun h0 ha1 hp0 hp1 hp2 hp3 hp4 hp5 => ct_M_part0_2bc24 h0 ha1 hp0 hp1 (by omega) hp3 hp4 hp5) xin_419 x6_419 h0 ha1 hp0 hp1 hp2 hp3 hp4 hp5
theorem ct_M_term_3d895 {I : fH} {x1 : Int} (h0 : fB bsJ I) (ha1 : ((-1) ≤ x1 ∧ x1 ≤ 5)) (hp0 : I 740 9 ≤ I 740 10 ∧ I 740 10 ≤ I 740 8) (hp1 : 0 ≤ I 740 16 ∧ I 740 16 ≤ I 740 9) (hp2 : 1 ≤ I 740 14 + I 740 15) (hp3 : laP (I 740 17)) (hp4 : 0 ≤ I 740 18 ∧ I 740 18 ≤ I 740 9) (hp5 : dkI I) : fC ρ base n F xTc vwCl xTys D dA la gJ (fbz bsJ znJ (fKc wz_2212a) I) xm_402 [.inr (.inr (some 740)), .inl x1] I (fun I' r => ∃ z, r = some (.inl z) ∧ ((0 ≤ z ∧ z ≤ 1) ∧ (I 740 9 ≤ I' 740 9 ∧ I' 740 9 ≤ I' 740 10 ∧ I' 740 10 ≤ I' 740 8)) ∧ (sBe I I' (I 740 17) (I 740 16)) ∧ (rd1 I I' z) ∧ (pP 5 5 x1 I I' z) ∧ (dkI I') ∧ (rdU I I' z)) := cg_M_term (d := 1) mi_419 ⟨rfl, rfl, rfl⟩ (fun h0 ha1 hp0 hp1 hp2 hp3 hp4 hp5 => ct_M_part0_f397b h0 ha1 hp0 hp1 (by omega) hp3 hp4 hp5) xin_402 x6_402 h0 ha1 hp0 hp1 hp2 hp3 hp4 hp5
theorem ct_M_sum_dd3dc {I : fH} {x1 : Int} (h0 : fB bsJ I) (ha1 : ((-1) ≤ x1 ∧ x1 ≤ 5)) (hp0 : I 740 9 ≤ I 740 10 ∧ I 740 10 ≤ I 740 8) (hp1 : 0 ≤ I 740 16 ∧ I 740 16 ≤ I 740 9) (hp2 : 1 ≤ I 740 14 + I 740 15) (hp3 : laP (I 740 17)) (hp4 : 0 ≤ I 740 18 ∧ I 740 18 ≤ I 740 9) (hp5 : dkI I) : fC ρ base n F xTc vwCl xTys D dA la gJ (fbz bsJ znJ (fKc wz_2212a) I) xm_385 [.inr (.inr (some 740)), .inl x1] I (fun I' r => ∃ z, r = some (.inl z) ∧ ((0 ≤ z ∧ z ≤ 1) ∧ (I 740 9 ≤ I' 740 9 ∧ I' 740 9 ≤ I' 740 10 ∧ I' 740 10 ≤ I' 740 8)) ∧ (sBe I I' (I 740 17) (I 740 16)) ∧ (rd1 I I' z) ∧ (pP 4 4 x1 I I' z) ∧ (dkI I') ∧ (rdU I I' z)) := cg_M_sum (d := 1) mi_402 ⟨rfl, rfl, rfl⟩ (fun h0 ha1 hp0 hp1 hp2 hp3 hp4 hp5 => ct_M_term_3d895 h0 ha1 hp0 hp1 (by omega) hp3 hp4 hp5) xin_385 x6_385 h0 ha1 hp0 hp1 hp2 hp3 hp4 hp5
theorem ct_M_test_fd36d {I : fH} {x1 : Int} (h0 : fB bsJ I) (ha1 : ((-1) ≤ x1 ∧ x1 ≤ 5)) (hp0 : I 740 9 ≤ I 740 10 ∧ I 740 10 ≤ I 740 8) (hp1 : 0 ≤ I 740 16 ∧ I 740 16 ≤ I 740 9) (hp2 : 1 ≤ I 740 14 + I 740 15) (hp3 : laP (I 740 17)) (hp4 : 0 ≤ I 740 18 ∧ I 740 18 ≤ I 740 9) (hp5 : dkI I) : fC ρ base n F xTc vwCl xTys D dA la gJ (fbz bsJ znJ (fKc wz_2212a) I) xm_368 [.inr (.inr (some 740)), .inl x1] I (fun I' r => ∃ z, r = some (.inl z) ∧ ((0 ≤ z ∧ z ≤ 1) ∧ (I 740 9 ≤ I' 740 9 ∧ I' 740 9 ≤ I' 740 10 ∧ I' 740 10 ≤ I' 740 8)) ∧ (sBe I I' (I 740 17) (I 740 16)) ∧ (rd1 I I' z) ∧ (pP 3 3 x1 I I' z) ∧ (dkI I') ∧ (rdU I I' z)) := cg_M_test (d := 1) mi_385 ⟨rfl, rfl, rfl⟩ (fun h0 ha1 hp0 hp1 hp2 hp3 hp4 hp5 => ct_M_sum_dd3dc h0 ha1 hp0 hp1 (by omega) hp3 hp4 hp5) xin_368 x6_368 h0 ha1 hp0 hp1 hp2 hp3 hp4 hp5
theorem ct_M_both_5e4b8 {I : fH} {x1 : Int} (h0 : fB bsJ I) (ha1 : ((-1) ≤ x1 ∧ x1 ≤ 5)) (hp0 : I 740 9 ≤ I 740 10 ∧ I 740 10 ≤ I 740 8) (hp1 : 0 ≤ I 740 16 ∧ I 740 16 ≤ I 740 9) (hp2 : 1 ≤ I 740 14 + I 740 15) (hp3 : laP (I 740 17)) (hp4 : 0 ≤ I 740 18 ∧ I 740 18 ≤ I 740 9) (hp5 : dkI I) : fC ρ base n F xTc vwCl xTys D dA la gJ (fbz bsJ znJ (fKc wz_2212a) I) xm_351 [.inr (.inr (some 740)), .inl x1] I (fun I' r => ∃ z, r = some (.inl z) ∧ ((0 ≤ z ∧ z ≤ 1) ∧ (I 740 9 ≤ I' 740 9 ∧ I' 740 9 ≤ I' 740 10 ∧ I' 740 10 ≤ I' 740 8)) ∧ (sBe I I' (I 740 17) (I 740 16)) ∧ (rd1 I I' z) ∧ (pP 2 2 x1 I I' z) ∧ (dkI I') ∧ (rdU I I' z)) := cg_M_both (d := 1) mi_368 ⟨rfl, rfl, rfl⟩ (fun h0 ha1 hp0 hp1 hp2 hp3 hp4 hp5 => ct_M_test_fd36d h0 ha1 hp0 hp1 (by omega) hp3 hp4 hp5) xin_351 x6_351 h0 ha1 hp0 hp1 hp2 hp3 hp4 hp5
theorem ct_M_either_caa15 {I : fH} {x1 : Int} (h0 : fB bsJ I) (ha1 : ((-1) ≤ x1 ∧ x1 ≤ 5)) (hp0 : I 740 9 ≤ I 740 10 ∧ I 740 10 ≤ I 740 8) (hp1 : 0 ≤ I 740 16 ∧ I 740 16 ≤ I 740 9) (hp2 : 1 ≤ I 740 14 + I 740 15) (hp3 : laP (I 740 17)) (hp4 : 0 ≤ I 740 18 ∧ I 740 18 ≤ I 740 9) (hp5 : dkI I) : fC ρ base n F xTc vwCl xTys D dA la gJ (fbz bsJ znJ (fKc wz_2212a) I) xm_334 [.inr (.inr (some 740)), .inl x1] I (fun I' r => ∃ z, r = some (.inl z) ∧ ((0 ≤ z ∧ z ≤ 1) ∧ (I 740 9 ≤ I' 740 9 ∧ I' 740 9 ≤ I' 740 10 ∧ I' 740 10 ≤ I' 740 8)) ∧ (sBe I I' (I 740 17) (I 740 16)) ∧ (rd1 I I' z) ∧ (pP 1 1 x1 I I' z) ∧ (dkI I') ∧ (rdU I I' z)) := cg_M_either (d := 1) mi_351 ⟨rfl, rfl, rfl⟩ (fun h0 ha1 hp0 hp1 hp2 hp3 hp4 hp5 => ct_M_both_5e4b8 h0 ha1 hp0 hp1 (by omega) hp3 hp4 hp5) xin_334 x6_334 h0 ha1 hp0 hp1 hp2 hp3 hp4 hp5
theorem ct_M_part0_e39c0 {I : fH} {x1 : Int} (h0 : fB bsJ I) (ha1 : ((-1) ≤ x1 ∧ x1 ≤ 5)) (hp0 : I 740 9 ≤ I 740 10 ∧ I 740 10 ≤ I 740 8) (hp1 : 0 ≤ I 740 16 ∧ I 740 16 ≤ I 740 9) (hp2 : 0 ≤ I 740 14 + I 740 15) (hp3 : laP (I 740 17)) (hp4 : 0 ≤ I 740 18 ∧ I 740 18 ≤ I 740 9) (hp5 : dkI I) : fC ρ base n F xTc vwCl xTys D dA la gJ (fbz bsJ znJ (fKc wz_2212a) I) xm_420 [.inr (.inr (some 740)), .inl x1] I (fun I' r => ∃ z, r = some (.inl z) ∧ ((0 ≤ z ∧ z ≤ 1) ∧ (I 740 9 ≤ I' 740 9 ∧ I' 740 9 ≤ I' 740 10 ∧ I' 740 10 ≤ I' 740 8)) ∧ (sBe I I' (I 740 17) (I 740 16)) ∧ (rd1 I I' z) ∧ (pP 6 7 x1 I I' z) ∧ (dkI I') ∧ (rdU I I' z)) := cg_M_part0 (d := 0) mi_334 ⟨rfl, rfl, rfl⟩ (fun h0 ha1 hp0 hp1 hp2 hp3 hp4 hp5 => ct_M_either_caa15 h0 ha1 hp0 hp1 (by omega) hp3 hp4 hp5) mi_419 ⟨rfl, rfl, rfl⟩ (fun h0 ha1 hp0 hp1 hp2 hp3 hp4 hp5 => ct_M_part0_f397b h0 ha1 hp0 hp1 (by omega) hp3 hp4 hp5) xin_420 x6_420 h0 ha1 hp0 hp1 hp2 hp3 hp4 hp5
theorem ct_M_term_10b65 {I : fH} {x1 : Int} (h0 : fB bsJ I) (ha1 : ((-1) ≤ x1 ∧ x1 ≤ 5)) (hp0 : I 740 9 ≤ I 740 10 ∧ I 740 10 ≤ I 740 8) (hp1 : 0 ≤ I 740 16 ∧ I 740 16 ≤ I 740 9) (hp2 : 0 ≤ I 740 14 + I 740 15) (hp3 : laP (I 740 17)) (hp4 : 0 ≤ I 740 18 ∧ I 740 18 ≤ I 740 9) (hp5 : dkI I) : fC ρ base n F xTc vwCl xTys D dA la gJ (fbz bsJ znJ (fKc wz_2212a) I) xm_403 [.inr (.inr (some 740)), .inl x1] I (fun I' r => ∃ z, r = some (.inl z) ∧ ((0 ≤ z ∧ z ≤ 1) ∧ (I 740 9 ≤ I' 740 9 ∧ I' 740 9 ≤ I' 740 10 ∧ I' 740 10 ≤ I' 740 8)) ∧ (sBe I I' (I 740 17) (I 740 16)) ∧ (rd1 I I' z) ∧ (pP 5 5 x1 I I' z) ∧ (dkI I') ∧ (rdU I I' z)) := cg_M_term (d := 0) mi_420 ⟨rfl, rfl, rfl⟩ (fun h0 ha1 hp0 hp1 hp2 hp3 hp4 hp5 => ct_M_part0_e39c0 h0 ha1 hp0 hp1 (by omega) hp3 hp4 hp5) xin_403 x6_403 h0 ha1 hp0 hp1 hp2 hp3 hp4 hp5
theorem ct_M_sum_387c3 {I : fH} {x1 : Int} (h0 : fB bsJ I) (ha1 : ((-1) ≤ x1 ∧ x1 ≤ 5)) (hp0 : I 740 9 ≤ I 740 10 ∧ I 740 10 ≤ I 740 8) (hp1 : 0 ≤ I 740 16 ∧ I 740 16 ≤ I 740 9) (hp2 : 0 ≤ I 740 14 + I 740 15) (hp3 : laP (I 740 17)) (hp4 : 0 ≤ I 740 18 ∧ I 740 18 ≤ I 740 9) (hp5 : dkI I) : fC ρ base n F xTc vwCl xTys D dA la gJ (fbz bsJ znJ (fKc wz_2212a) I) xm_386 [.inr (.inr (some 740)), .inl x1] I (fun I' r => ∃ z, r = some (.inl z) ∧ ((0 ≤ z ∧ z ≤ 1) ∧ (I 740 9 ≤ I' 740 9 ∧ I' 740 9 ≤ I' 740 10 ∧ I' 740 10 ≤ I' 740 8)) ∧ (sBe I I' (I 740 17) (I 740 16)) ∧ (rd1 I I' z) ∧ (pP 4 4 x1 I I' z) ∧ (dkI I') ∧ (rdU I I' z)) := cg_M_sum (d := 0) mi_403 ⟨rfl, rfl, rfl⟩ (fun h0 ha1 hp0 hp1 hp2 hp3 hp4 hp5 => ct_M_term_10b65 h0 ha1 hp0 hp1 (by omega) hp3 hp4 hp5) xin_386 x6_386 h0 ha1 hp0 hp1 hp2 hp3 hp4 hp5
theorem ct_M_test_e5db5 {I : fH} {x1 : Int} (h0 : fB bsJ I) (ha1 : ((-1) ≤ x1 ∧ x1 ≤ 5)) (hp0 : I 740 9 ≤ I 740 10 ∧ I 740 10 ≤ I 740 8) (hp1 : 0 ≤ I 740 16 ∧ I 740 16 ≤ I 740 9) (hp2 : 0 ≤ I 740 14 + I 740 15) (hp3 : laP (I 740 17)) (hp4 : 0 ≤ I 740 18 ∧ I 740 18 ≤ I 740 9) (hp5 : dkI I) : fC ρ base n F xTc vwCl xTys D dA la gJ (fbz bsJ znJ (fKc wz_2212a) I) xm_369 [.inr (.inr (some 740)), .inl x1] I (fun I' r => ∃ z, r = some (.inl z) ∧ ((0 ≤ z ∧ z ≤ 1) ∧ (I 740 9 ≤ I' 740 9 ∧ I' 740 9 ≤ I' 740 10 ∧ I' 740 10 ≤ I' 740 8)) ∧ (sBe I I' (I 740 17) (I 740 16)) ∧ (rd1 I I' z) ∧ (pP 3 3 x1 I I' z) ∧ (dkI I') ∧ (rdU I I' z)) := cg_M_test (d := 0) mi_386 ⟨rfl, rfl, rfl⟩ (fun h0 ha1 hp0 hp1 hp2 hp3 hp4 hp5 => ct_M_sum_387c3 h0 ha1 hp0 hp1 (by omega) hp3 hp4 hp5) xin_369 x6_369 h0 ha1 hp0 hp1 hp2 hp3 hp4 hp5
theorem ct_M_both_efb4f {I : fH} {x1 : Int} (h0 : fB bsJ I) (ha1 : ((-1) ≤ x1 ∧ x1 ≤ 5)) (hp0 : I 740 9 ≤ I 740 10 ∧ I 740 10 ≤ I 740 8) (hp1 : 0 ≤ I 740 16 ∧ I 740 16 ≤ I 740 9) (hp2 : 0 ≤ I 740 14 + I 740 15) (hp3 : laP (I 740 17)) (hp4 : 0 ≤ I 740 18 ∧ I 740 18 ≤ I 740 9) (hp5 : dkI I) : fC ρ base n F xTc vwCl xTys D dA la gJ (fbz bsJ znJ (fKc wz_2212a) I) xm_352 [.inr (.inr (some 740)), .inl x1] I (fun I' r => ∃ z, r = some (.inl z) ∧ ((0 ≤ z ∧ z ≤ 1) ∧ (I 740 9 ≤ I' 740 9 ∧ I' 740 9 ≤ I' 740 10 ∧ I' 740 10 ≤ I' 740 8)) ∧ (sBe I I' (I 740 17) (I 740 16)) ∧ (rd1 I I' z) ∧ (pP 2 2 x1 I I' z) ∧ (dkI I') ∧ (rdU I I' z)) := cg_M_both (d := 0) mi_369 ⟨rfl, rfl, rfl⟩ (fun h0 ha1 hp0 hp1 hp2 hp3 hp4 hp5 => ct_M_test_e5db5 h0 ha1 hp0 hp1 (by omega) hp3 hp4 hp5) xin_352 x6_352 h0 ha1 hp0 hp1 hp2 hp3 hp4 hp5
theorem ct_M_either_c00e3 {I : fH} {x1 : Int} (h0 : fB bsJ I) (ha1 : ((-1) ≤ x1 ∧ x1 ≤ 5)) (hp0 : I 740 9 ≤ I 740 10 ∧ I 740 10 ≤ I 740 8) (hp1 : 0 ≤ I 740 16 ∧ I 740 16 ≤ I 740 9) (hp2 : 0 ≤ I 740 14 + I 740 15) (hp3 : laP (I 740 17)) (hp4 : 0 ≤ I 740 18 ∧ I 740 18 ≤ I 740 9) (hp5 : dkI I) : fC ρ base n F xTc vwCl xTys D dA la gJ (fbz bsJ znJ (fKc wz_2212a) I) xm_335 [.inr (.inr (some 740)), .inl x1] I (fun I' r => ∃ z, r = some (.inl z) ∧ ((0 ≤ z ∧ z ≤ 1) ∧ (I 740 9 ≤ I' 740 9 ∧ I' 740 9 ≤ I' 740 10 ∧ I' 740 10 ≤ I' 740 8)) ∧ (sBe I I' (I 740 17) (I 740 16)) ∧ (rd1 I I' z) ∧ (pP 1 1 x1 I I' z) ∧ (dkI I') ∧ (rdU I I' z)) := cg_M_either (d := 0) mi_352 ⟨rfl, rfl, rfl⟩ (fun h0 ha1 hp0 hp1 hp2 hp3 hp4 hp5 => ct_M_both_efb4f h0 ha1 hp0 hp1 (by omega) hp3 hp4 hp5) xin_335 x6_335 h0 ha1 hp0 hp1 hp2 hp3 hp4 hp5
set_option maxRecDepth 8000 in
theorem ct_M_isWordAt_4e115 {I : fH} {x1 : Int} {x2 : Int} {x3 : Int} {x4 : Int} {x5 : Int} (h0 : fB bsJ I) (ha1 : (98 ≤ x1 ∧ x1 ≤ 118)) (ha2 : (97 ≤ x2 ∧ x2 ≤ 112)) (ha3 : (97 ≤ x3 ∧ x3 ≤ 116)) (ha4 : (100 ≤ x4 ∧ x4 ≤ 116)) (ha5 : (0 ≤ x5 ∧ x5 ≤ 104)) (hp0 : I 740 9 ≤ I 740 10 ∧ I 740 10 ≤ 96) : fC ρ base n F xTc vwCl xTys D dA la gJ (fbz bsJ znJ (fKc []) I) xm_318 [.inr (.inr (some 740)), .inl x1, .inl x2, .inl x3, .inl x4, .inl x5] I (fun _ r => ∃ z, r = some (.inl z) ∧ (0 ≤ z ∧ z ≤ 1) ∧ ((z = 1 ∧ isW (I 740 11) (I 740 9) (I 740 10) (I 747) x1 x2 x3 x4 x5) ∨ (z = 0 ∧ ¬ isW (I 740 11) (I 740 9) (I 740 10) (I 747) x1 x2 x3 x4 x5))) := by
  have hW : fzs [] (fKc []) := fKc_ok _
  refine f_meth (rb := rbJ) (J := []) 1 400 xG xin_318 x6_318 okJ (fB_self h0) ?_ ?_
  · exact fun q h => absurd h List.not_mem_nil
  · have hB0 := fB_self (zn := znJ) (K := fKc []) h0
    refine And.intro (by first | exact fi_ ha5.1 ha5.2 rfl | omega) (And.intro ?_ ?_)
    · intro c1
      refine And.intro ⟨rfl, by decide, by decide⟩ (fgetf fb_740_11 h0 hB0 ?_)
      intro z2 lz2 uz2 qz2
      refine And.intro (And.intro (by first | exact fi_ lz2 uz2 rfl | omega) (by first | exact ⟨by decide, by decide⟩ | omega)) (And.intro ?_ ?_)
      · intro c3
        refine And.intro (by omega) (And.intro ?_ ?_)
        · intro c4
          refine And.intro (⟨by omega, by omega⟩) ?_
          exact ⟨_, rfl, by omega, (by first | exact Or.inl ⟨by omega, by unfold isW; omega⟩ | exact Or.inr ⟨by omega, by unfold isW; omega⟩)⟩
        · intro c5
          refine And.intro (by first | exact fi_ ha5.1 ha5.2 rfl | omega) (And.intro ?_ ?_)
          · intro c6
            refine And.intro (⟨by decide, by decide⟩) ?_
            exact ⟨_, rfl, (by first | exact ⟨by decide, by decide⟩ | omega), (by first | exact Or.inl ⟨by omega, by unfold isW; omega⟩ | exact Or.inr ⟨by omega, by unfold isW; omega⟩)⟩
          · intro c7
            refine And.intro ⟨rfl, by decide, by decide⟩ ?_
            refine And.intro ⟨rfl, by decide, by decide⟩ (fgetf fb_740_9 h0 hB0 ?_)
            intro z8 lz8 uz8 qz8
            refine fload rL_747_747_0_95_1_0 h0 hB0 (by omega) ?_
            intro z9 lz9 uz9 qz9
            have w120 := fld_at qz9 (I 740 9 + 4).toNat (by omega)
            refine And.intro (And.intro (by first | exact fi_ lz9 uz9 rfl | omega) (by first | exact fi_ ha5.1 ha5.2 rfl | omega)) (And.intro ?_ ?_)
            · intro c10
              refine And.intro (⟨by omega, by omega⟩) ?_
              exact ⟨_, rfl, by omega, (by first | exact Or.inl ⟨by omega, by unfold isW; omega⟩ | exact Or.inr ⟨by omega, by unfold isW; omega⟩)⟩
            · intro c11
              refine And.intro (⟨by decide, by decide⟩) ?_
              exact ⟨_, rfl, (by first | exact ⟨by decide, by decide⟩ | omega), (by first | exact Or.inl ⟨by omega, by unfold isW; omega⟩ | exact Or.inr ⟨by omega, by unfold isW; omega⟩)⟩
      · intro c12
        refine And.intro ⟨rfl, by decide, by decide⟩ (fgetf fb_740_10 h0 hB0 ?_)
        intro z13 lz13 uz13 qz13
        refine And.intro ⟨rfl, by decide, by decide⟩ (fgetf fb_740_9 h0 hB0 ?_)
        intro z14 lz14 uz14 qz14
        refine And.intro (by omega) (And.intro ?_ ?_)
        · intro c15
          refine And.intro (by omega) (And.intro ?_ ?_)
          · intro c16
            refine And.intro (⟨by omega, by omega⟩) ?_
            exact ⟨_, rfl, by omega, (by first | exact Or.inl ⟨by omega, by unfold isW; omega⟩ | exact Or.inr ⟨by omega, by unfold isW; omega⟩)⟩
          · intro c17
            refine And.intro (by first | exact fi_ ha5.1 ha5.2 rfl | omega) (And.intro ?_ ?_)
            · intro c18
              refine And.intro (⟨by decide, by decide⟩) ?_
              exact ⟨_, rfl, (by first | exact ⟨by decide, by decide⟩ | omega), (by first | exact Or.inl ⟨by omega, by unfold isW; omega⟩ | exact Or.inr ⟨by omega, by unfold isW; omega⟩)⟩
            · intro c19
              refine And.intro ⟨rfl, by decide, by decide⟩ ?_
              refine And.intro ⟨rfl, by decide, by decide⟩ (fgetf fb_740_9 h0 hB0 ?_)
              intro z20 lz20 uz20 qz20
              refine fload rL_747_747_0_95_1_0 h0 hB0 (by omega) ?_
              intro z21 lz21 uz21 qz21
              have w120 := fld_at qz21 (I 740 9 + 4).toNat (by omega)
              refine And.intro (And.intro (by first | exact fi_ lz21 uz21 rfl | omega) (by first | exact fi_ ha5.1 ha5.2 rfl | omega)) (And.intro ?_ ?_)
              · intro c22
                refine And.intro (⟨by omega, by omega⟩) ?_
                exact ⟨_, rfl, by omega, (by first | exact Or.inl ⟨by omega, by unfold isW; omega⟩ | exact Or.inr ⟨by omega, by unfold isW; omega⟩)⟩
              · intro c23
                refine And.intro (⟨by decide, by decide⟩) ?_
                exact ⟨_, rfl, (by first | exact ⟨by decide, by decide⟩ | omega), (by first | exact Or.inl ⟨by omega, by unfold isW; omega⟩ | exact Or.inr ⟨by omega, by unfold isW; omega⟩)⟩
        · intro c24
          refine And.intro ⟨rfl, by decide, by decide⟩ ?_
          refine And.intro ⟨rfl, by decide, by decide⟩ (fgetf fb_740_9 h0 hB0 ?_)
          intro z25 lz25 uz25 qz25
          refine fload rL_747_747_0_95_1_0 h0 hB0 (by omega) ?_
          intro z26 lz26 uz26 qz26
          have w42 := fld_at qz26 (I 740 9).toNat (by omega)
          refine And.intro (And.intro (by first | exact fi_ lz26 uz26 rfl | omega) (by first | exact fi_ ha1.1 ha1.2 rfl | omega)) (And.intro ?_ ?_)
          · intro c27
            refine And.intro (by omega) (And.intro ?_ ?_)
            · intro c28
              refine And.intro (⟨by omega, by omega⟩) ?_
              exact ⟨_, rfl, by omega, (by first | exact Or.inl ⟨by omega, by unfold isW; omega⟩ | exact Or.inr ⟨by omega, by unfold isW; omega⟩)⟩
            · intro c29
              refine And.intro (by first | exact fi_ ha5.1 ha5.2 rfl | omega) (And.intro ?_ ?_)
              · intro c30
                refine And.intro (⟨by decide, by decide⟩) ?_
                exact ⟨_, rfl, (by first | exact ⟨by decide, by decide⟩ | omega), (by first | exact Or.inl ⟨by omega, by unfold isW; omega⟩ | exact Or.inr ⟨by omega, by unfold isW; omega⟩)⟩
              · intro c31
                refine And.intro ⟨rfl, by decide, by decide⟩ ?_
                refine And.intro ⟨rfl, by decide, by decide⟩ (fgetf fb_740_9 h0 hB0 ?_)
                intro z32 lz32 uz32 qz32
                refine fload rL_747_747_0_95_1_0 h0 hB0 (by omega) ?_
                intro z33 lz33 uz33 qz33
                have w120 := fld_at qz33 (I 740 9 + 4).toNat (by omega)
                refine And.intro (And.intro (by first | exact fi_ lz33 uz33 rfl | omega) (by first | exact fi_ ha5.1 ha5.2 rfl | omega)) (And.intro ?_ ?_)
                · intro c34
                  refine And.intro (⟨by omega, by omega⟩) ?_
                  exact ⟨_, rfl, by omega, (by first | exact Or.inl ⟨by omega, by unfold isW; omega⟩ | exact Or.inr ⟨by omega, by unfold isW; omega⟩)⟩
                · intro c35
                  refine And.intro (⟨by decide, by decide⟩) ?_
                  exact ⟨_, rfl, (by first | exact ⟨by decide, by decide⟩ | omega), (by first | exact Or.inl ⟨by omega, by unfold isW; omega⟩ | exact Or.inr ⟨by omega, by unfold isW; omega⟩)⟩
          · intro c36
            refine And.intro ⟨rfl, by decide, by decide⟩ ?_
            refine And.intro ⟨rfl, by decide, by decide⟩ (fgetf fb_740_9 h0 hB0 ?_)
            intro z37 lz37 uz37 qz37
            refine fload rL_747_747_0_95_1_0 h0 hB0 (by omega) ?_
            intro z38 lz38 uz38 qz38
            have w57 := fld_at qz38 (I 740 9 + 1).toNat (by omega)
            refine And.intro (And.intro (by first | exact fi_ lz38 uz38 rfl | omega) (by first | exact fi_ ha2.1 ha2.2 rfl | omega)) (And.intro ?_ ?_)
            · intro c39
              refine And.intro (by omega) (And.intro ?_ ?_)
              · intro c40
                refine And.intro (⟨by omega, by omega⟩) ?_
                exact ⟨_, rfl, by omega, (by first | exact Or.inl ⟨by omega, by unfold isW; omega⟩ | exact Or.inr ⟨by omega, by unfold isW; omega⟩)⟩
              · intro c41
                refine And.intro (by first | exact fi_ ha5.1 ha5.2 rfl | omega) (And.intro ?_ ?_)
                · intro c42
                  refine And.intro (⟨by decide, by decide⟩) ?_
                  exact ⟨_, rfl, (by first | exact ⟨by decide, by decide⟩ | omega), (by first | exact Or.inl ⟨by omega, by unfold isW; omega⟩ | exact Or.inr ⟨by omega, by unfold isW; omega⟩)⟩
                · intro c43
                  refine And.intro ⟨rfl, by decide, by decide⟩ ?_
                  refine And.intro ⟨rfl, by decide, by decide⟩ (fgetf fb_740_9 h0 hB0 ?_)
                  intro z44 lz44 uz44 qz44
                  refine fload rL_747_747_0_95_1_0 h0 hB0 (by omega) ?_
                  intro z45 lz45 uz45 qz45
                  have w120 := fld_at qz45 (I 740 9 + 4).toNat (by omega)
                  refine And.intro (And.intro (by first | exact fi_ lz45 uz45 rfl | omega) (by first | exact fi_ ha5.1 ha5.2 rfl | omega)) (And.intro ?_ ?_)
                  · intro c46
                    refine And.intro (⟨by omega, by omega⟩) ?_
                    exact ⟨_, rfl, by omega, (by first | exact Or.inl ⟨by omega, by unfold isW; omega⟩ | exact Or.inr ⟨by omega, by unfold isW; omega⟩)⟩
                  · intro c47
                    refine And.intro (⟨by decide, by decide⟩) ?_
                    exact ⟨_, rfl, (by first | exact ⟨by decide, by decide⟩ | omega), (by first | exact Or.inl ⟨by omega, by unfold isW; omega⟩ | exact Or.inr ⟨by omega, by unfold isW; omega⟩)⟩
            · intro c48
              refine And.intro ⟨rfl, by decide, by decide⟩ ?_
              refine And.intro ⟨rfl, by decide, by decide⟩ (fgetf fb_740_9 h0 hB0 ?_)
              intro z49 lz49 uz49 qz49
              refine fload rL_747_747_0_95_1_0 h0 hB0 (by omega) ?_
              intro z50 lz50 uz50 qz50
              have w72 := fld_at qz50 (I 740 9 + 2).toNat (by omega)
              refine And.intro (And.intro (by first | exact fi_ lz50 uz50 rfl | omega) (by first | exact fi_ ha3.1 ha3.2 rfl | omega)) (And.intro ?_ ?_)
              · intro c51
                refine And.intro (by omega) (And.intro ?_ ?_)
                · intro c52
                  refine And.intro (⟨by omega, by omega⟩) ?_
                  exact ⟨_, rfl, by omega, (by first | exact Or.inl ⟨by omega, by unfold isW; omega⟩ | exact Or.inr ⟨by omega, by unfold isW; omega⟩)⟩
                · intro c53
                  refine And.intro (by first | exact fi_ ha5.1 ha5.2 rfl | omega) (And.intro ?_ ?_)
                  · intro c54
                    refine And.intro (⟨by decide, by decide⟩) ?_
                    exact ⟨_, rfl, (by first | exact ⟨by decide, by decide⟩ | omega), (by first | exact Or.inl ⟨by omega, by unfold isW; omega⟩ | exact Or.inr ⟨by omega, by unfold isW; omega⟩)⟩
                  · intro c55
                    refine And.intro ⟨rfl, by decide, by decide⟩ ?_
                    refine And.intro ⟨rfl, by decide, by decide⟩ (fgetf fb_740_9 h0 hB0 ?_)
                    intro z56 lz56 uz56 qz56
                    refine fload rL_747_747_0_95_1_0 h0 hB0 (by omega) ?_
                    intro z57 lz57 uz57 qz57
                    have w120 := fld_at qz57 (I 740 9 + 4).toNat (by omega)
                    refine And.intro (And.intro (by first | exact fi_ lz57 uz57 rfl | omega) (by first | exact fi_ ha5.1 ha5.2 rfl | omega)) (And.intro ?_ ?_)
                    · intro c58
                      refine And.intro (⟨by omega, by omega⟩) ?_
                      exact ⟨_, rfl, by omega, (by first | exact Or.inl ⟨by omega, by unfold isW; omega⟩ | exact Or.inr ⟨by omega, by unfold isW; omega⟩)⟩
                    · intro c59
                      refine And.intro (⟨by decide, by decide⟩) ?_
                      exact ⟨_, rfl, (by first | exact ⟨by decide, by decide⟩ | omega), (by first | exact Or.inl ⟨by omega, by unfold isW; omega⟩ | exact Or.inr ⟨by omega, by unfold isW; omega⟩)⟩
              · intro c60
                refine And.intro ⟨rfl, by decide, by decide⟩ ?_
                refine And.intro ⟨rfl, by decide, by decide⟩ (fgetf fb_740_9 h0 hB0 ?_)
                intro z61 lz61 uz61 qz61
                refine fload rL_747_747_0_95_1_0 h0 hB0 (by omega) ?_
                intro z62 lz62 uz62 qz62
                have w87 := fld_at qz62 (I 740 9 + 3).toNat (by omega)
                refine And.intro (And.intro (by first | exact fi_ lz62 uz62 rfl | omega) (by first | exact fi_ ha4.1 ha4.2 rfl | omega)) (And.intro ?_ ?_)
                · intro c63
                  refine And.intro (by omega) (And.intro ?_ ?_)
                  · intro c64
                    refine And.intro (⟨by omega, by omega⟩) ?_
                    exact ⟨_, rfl, by omega, (by first | exact Or.inl ⟨by omega, by unfold isW; omega⟩ | exact Or.inr ⟨by omega, by unfold isW; omega⟩)⟩
                  · intro c65
                    refine And.intro (by first | exact fi_ ha5.1 ha5.2 rfl | omega) (And.intro ?_ ?_)
                    · intro c66
                      refine And.intro (⟨by decide, by decide⟩) ?_
                      exact ⟨_, rfl, (by first | exact ⟨by decide, by decide⟩ | omega), (by first | exact Or.inl ⟨by omega, by unfold isW; omega⟩ | exact Or.inr ⟨by omega, by unfold isW; omega⟩)⟩
                    · intro c67
                      refine And.intro ⟨rfl, by decide, by decide⟩ ?_
                      refine And.intro ⟨rfl, by decide, by decide⟩ (fgetf fb_740_9 h0 hB0 ?_)
                      intro z68 lz68 uz68 qz68
                      refine fload rL_747_747_0_95_1_0 h0 hB0 (by omega) ?_
                      intro z69 lz69 uz69 qz69
                      have w120 := fld_at qz69 (I 740 9 + 4).toNat (by omega)
                      refine And.intro (And.intro (by first | exact fi_ lz69 uz69 rfl | omega) (by first | exact fi_ ha5.1 ha5.2 rfl | omega)) (And.intro ?_ ?_)
                      · intro c70
                        refine And.intro (⟨by omega, by omega⟩) ?_
                        exact ⟨_, rfl, by omega, (by first | exact Or.inl ⟨by omega, by unfold isW; omega⟩ | exact Or.inr ⟨by omega, by unfold isW; omega⟩)⟩
                      · intro c71
                        refine And.intro (⟨by decide, by decide⟩) ?_
                        exact ⟨_, rfl, (by first | exact ⟨by decide, by decide⟩ | omega), (by first | exact Or.inl ⟨by omega, by unfold isW; omega⟩ | exact Or.inr ⟨by omega, by unfold isW; omega⟩)⟩
                · intro c72
                  refine And.intro (by first | exact ⟨by decide, by decide⟩ | omega) (And.intro ?_ ?_)
                  · intro c73
                    refine And.intro (⟨by omega, by omega⟩) ?_
                    exact ⟨_, rfl, by omega, (by first | exact Or.inl ⟨by omega, by unfold isW; omega⟩ | exact Or.inr ⟨by omega, by unfold isW; omega⟩)⟩
                  · intro c74
                    refine And.intro (by first | exact fi_ ha5.1 ha5.2 rfl | omega) (And.intro ?_ ?_)
                    · intro c75
                      refine And.intro (⟨by decide, by decide⟩) ?_
                      exact ⟨_, rfl, (by first | exact ⟨by decide, by decide⟩ | omega), (by first | exact Or.inl ⟨by omega, by unfold isW; omega⟩ | exact Or.inr ⟨by omega, by unfold isW; omega⟩)⟩
                    · intro c76
                      refine And.intro ⟨rfl, by decide, by decide⟩ ?_
                      refine And.intro ⟨rfl, by decide, by decide⟩ (fgetf fb_740_9 h0 hB0 ?_)
                      intro z77 lz77 uz77 qz77
                      refine fload rL_747_747_0_95_1_0 h0 hB0 (by omega) ?_
                      intro z78 lz78 uz78 qz78
                      have w120 := fld_at qz78 (I 740 9 + 4).toNat (by omega)
                      refine And.intro (And.intro (by first | exact fi_ lz78 uz78 rfl | omega) (by first | exact fi_ ha5.1 ha5.2 rfl | omega)) (And.intro ?_ ?_)
                      · intro c79
                        refine And.intro (⟨by omega, by omega⟩) ?_
                        exact ⟨_, rfl, by omega, (by first | exact Or.inl ⟨by omega, by unfold isW; omega⟩ | exact Or.inr ⟨by omega, by unfold isW; omega⟩)⟩
                      · intro c80
                        refine And.intro (⟨by decide, by decide⟩) ?_
                        exact ⟨_, rfl, (by first | exact ⟨by decide, by decide⟩ | omega), (by first | exact Or.inl ⟨by omega, by unfold isW; omega⟩ | exact Or.inr ⟨by omega, by unfold isW; omega⟩)⟩
    · intro c81
      refine And.intro ⟨rfl, by decide, by decide⟩ (fgetf fb_740_11 h0 hB0 ?_)
      intro z82 lz82 uz82 qz82
      refine And.intro (And.intro (by first | exact fi_ lz82 uz82 rfl | omega) (by first | exact ⟨by decide, by decide⟩ | omega)) (And.intro ?_ ?_)
      · intro c83
        refine And.intro (by omega) (And.intro ?_ ?_)
        · intro c84
          refine And.intro (⟨by omega, by omega⟩) ?_
          exact ⟨_, rfl, by omega, (by first | exact Or.inl ⟨by omega, by unfold isW; omega⟩ | exact Or.inr ⟨by omega, by unfold isW; omega⟩)⟩
        · intro c85
          refine And.intro (by first | exact fi_ ha5.1 (Int.le_trans (Int.le_of_eq c81) (Int.le_refl _)) rfl | omega) (And.intro ?_ ?_)
          · intro c86
            refine And.intro (⟨by decide, by decide⟩) ?_
            exact ⟨_, rfl, (by first | exact ⟨by decide, by decide⟩ | omega), (by first | exact Or.inl ⟨by omega, by unfold isW; omega⟩ | exact Or.inr ⟨by omega, by unfold isW; omega⟩)⟩
          · intro c87
            refine And.intro ⟨rfl, by decide, by decide⟩ ?_
            refine And.intro ⟨rfl, by decide, by decide⟩ (fgetf fb_740_9 h0 hB0 ?_)
            intro z88 lz88 uz88 qz88
            refine fload rL_747_747_0_95_1_0 h0 hB0 (by omega) ?_
            intro z89 lz89 uz89 qz89
            have w120 := fld_at qz89 (I 740 9 + 4).toNat (by omega)
            refine And.intro (And.intro (by first | exact fi_ lz89 uz89 rfl | omega) (by first | exact fi_ ha5.1 (Int.le_trans (Int.le_of_eq c81) (Int.le_refl _)) rfl | omega)) (And.intro ?_ ?_)
            · intro c90
              refine And.intro (⟨by omega, by omega⟩) ?_
              exact ⟨_, rfl, by omega, (by first | exact Or.inl ⟨by omega, by unfold isW; omega⟩ | exact Or.inr ⟨by omega, by unfold isW; omega⟩)⟩
            · intro c91
              refine And.intro (⟨by decide, by decide⟩) ?_
              exact ⟨_, rfl, (by first | exact ⟨by decide, by decide⟩ | omega), (by first | exact Or.inl ⟨by omega, by unfold isW; omega⟩ | exact Or.inr ⟨by omega, by unfold isW; omega⟩)⟩
      · intro c92
        refine And.intro ⟨rfl, by decide, by decide⟩ (fgetf fb_740_10 h0 hB0 ?_)
        intro z93 lz93 uz93 qz93
        refine And.intro ⟨rfl, by decide, by decide⟩ (fgetf fb_740_9 h0 hB0 ?_)
        intro z94 lz94 uz94 qz94
        refine And.intro (by omega) (And.intro ?_ ?_)
        · intro c95
          refine And.intro (by omega) (And.intro ?_ ?_)
          · intro c96
            refine And.intro (⟨by omega, by omega⟩) ?_
            exact ⟨_, rfl, by omega, (by first | exact Or.inl ⟨by omega, by unfold isW; omega⟩ | exact Or.inr ⟨by omega, by unfold isW; omega⟩)⟩
          · intro c97
            refine And.intro (by first | exact fi_ ha5.1 (Int.le_trans (Int.le_of_eq c81) (Int.le_refl _)) rfl | omega) (And.intro ?_ ?_)
            · intro c98
              refine And.intro (⟨by decide, by decide⟩) ?_
              exact ⟨_, rfl, (by first | exact ⟨by decide, by decide⟩ | omega), (by first | exact Or.inl ⟨by omega, by unfold isW; omega⟩ | exact Or.inr ⟨by omega, by unfold isW; omega⟩)⟩
            · intro c99
              refine And.intro ⟨rfl, by decide, by decide⟩ ?_
              refine And.intro ⟨rfl, by decide, by decide⟩ (fgetf fb_740_9 h0 hB0 ?_)
              intro z100 lz100 uz100 qz100
              refine fload rL_747_747_0_95_1_0 h0 hB0 (by omega) ?_
              intro z101 lz101 uz101 qz101
              have w120 := fld_at qz101 (I 740 9 + 4).toNat (by omega)
              refine And.intro (And.intro (by first | exact fi_ lz101 uz101 rfl | omega) (by first | exact fi_ ha5.1 (Int.le_trans (Int.le_of_eq c81) (Int.le_refl _)) rfl | omega)) (And.intro ?_ ?_)
              · intro c102
                refine And.intro (⟨by omega, by omega⟩) ?_
                exact ⟨_, rfl, by omega, (by first | exact Or.inl ⟨by omega, by unfold isW; omega⟩ | exact Or.inr ⟨by omega, by unfold isW; omega⟩)⟩
              · intro c103
                refine And.intro (⟨by decide, by decide⟩) ?_
                exact ⟨_, rfl, (by first | exact ⟨by decide, by decide⟩ | omega), (by first | exact Or.inl ⟨by omega, by unfold isW; omega⟩ | exact Or.inr ⟨by omega, by unfold isW; omega⟩)⟩
        · intro c104
          refine And.intro ⟨rfl, by decide, by decide⟩ ?_
          refine And.intro ⟨rfl, by decide, by decide⟩ (fgetf fb_740_9 h0 hB0 ?_)
          intro z105 lz105 uz105 qz105
          refine fload rL_747_747_0_95_1_0 h0 hB0 (by omega) ?_
          intro z106 lz106 uz106 qz106
          have w42 := fld_at qz106 (I 740 9).toNat (by omega)
          refine And.intro (And.intro (by first | exact fi_ lz106 uz106 rfl | omega) (by first | exact fi_ ha1.1 ha1.2 rfl | omega)) (And.intro ?_ ?_)
          · intro c107
            refine And.intro (by omega) (And.intro ?_ ?_)
            · intro c108
              refine And.intro (⟨by omega, by omega⟩) ?_
              exact ⟨_, rfl, by omega, (by first | exact Or.inl ⟨by omega, by unfold isW; omega⟩ | exact Or.inr ⟨by omega, by unfold isW; omega⟩)⟩
            · intro c109
              refine And.intro (by first | exact fi_ ha5.1 (Int.le_trans (Int.le_of_eq c81) (Int.le_refl _)) rfl | omega) (And.intro ?_ ?_)
              · intro c110
                refine And.intro (⟨by decide, by decide⟩) ?_
                exact ⟨_, rfl, (by first | exact ⟨by decide, by decide⟩ | omega), (by first | exact Or.inl ⟨by omega, by unfold isW; omega⟩ | exact Or.inr ⟨by omega, by unfold isW; omega⟩)⟩
              · intro c111
                refine And.intro ⟨rfl, by decide, by decide⟩ ?_
                refine And.intro ⟨rfl, by decide, by decide⟩ (fgetf fb_740_9 h0 hB0 ?_)
                intro z112 lz112 uz112 qz112
                refine fload rL_747_747_0_95_1_0 h0 hB0 (by omega) ?_
                intro z113 lz113 uz113 qz113
                have w120 := fld_at qz113 (I 740 9 + 4).toNat (by omega)
                refine And.intro (And.intro (by first | exact fi_ lz113 uz113 rfl | omega) (by first | exact fi_ ha5.1 (Int.le_trans (Int.le_of_eq c81) (Int.le_refl _)) rfl | omega)) (And.intro ?_ ?_)
                · intro c114
                  refine And.intro (⟨by omega, by omega⟩) ?_
                  exact ⟨_, rfl, by omega, (by first | exact Or.inl ⟨by omega, by unfold isW; omega⟩ | exact Or.inr ⟨by omega, by unfold isW; omega⟩)⟩
                · intro c115
                  refine And.intro (⟨by decide, by decide⟩) ?_
                  exact ⟨_, rfl, (by first | exact ⟨by decide, by decide⟩ | omega), (by first | exact Or.inl ⟨by omega, by unfold isW; omega⟩ | exact Or.inr ⟨by omega, by unfold isW; omega⟩)⟩
          · intro c116
            refine And.intro ⟨rfl, by decide, by decide⟩ ?_
            refine And.intro ⟨rfl, by decide, by decide⟩ (fgetf fb_740_9 h0 hB0 ?_)
            intro z117 lz117 uz117 qz117
            refine fload rL_747_747_0_95_1_0 h0 hB0 (by omega) ?_
            intro z118 lz118 uz118 qz118
            have w57 := fld_at qz118 (I 740 9 + 1).toNat (by omega)
            refine And.intro (And.intro (by first | exact fi_ lz118 uz118 rfl | omega) (by first | exact fi_ ha2.1 ha2.2 rfl | omega)) (And.intro ?_ ?_)
            · intro c119
              refine And.intro (by omega) (And.intro ?_ ?_)
              · intro c120
                refine And.intro (⟨by omega, by omega⟩) ?_
                exact ⟨_, rfl, by omega, (by first | exact Or.inl ⟨by omega, by unfold isW; omega⟩ | exact Or.inr ⟨by omega, by unfold isW; omega⟩)⟩
              · intro c121
                refine And.intro (by first | exact fi_ ha5.1 (Int.le_trans (Int.le_of_eq c81) (Int.le_refl _)) rfl | omega) (And.intro ?_ ?_)
                · intro c122
                  refine And.intro (⟨by decide, by decide⟩) ?_
                  exact ⟨_, rfl, (by first | exact ⟨by decide, by decide⟩ | omega), (by first | exact Or.inl ⟨by omega, by unfold isW; omega⟩ | exact Or.inr ⟨by omega, by unfold isW; omega⟩)⟩
                · intro c123
                  refine And.intro ⟨rfl, by decide, by decide⟩ ?_
                  refine And.intro ⟨rfl, by decide, by decide⟩ (fgetf fb_740_9 h0 hB0 ?_)
                  intro z124 lz124 uz124 qz124
                  refine fload rL_747_747_0_95_1_0 h0 hB0 (by omega) ?_
                  intro z125 lz125 uz125 qz125
                  have w120 := fld_at qz125 (I 740 9 + 4).toNat (by omega)
                  refine And.intro (And.intro (by first | exact fi_ lz125 uz125 rfl | omega) (by first | exact fi_ ha5.1 (Int.le_trans (Int.le_of_eq c81) (Int.le_refl _)) rfl | omega)) (And.intro ?_ ?_)
                  · intro c126
                    refine And.intro (⟨by omega, by omega⟩) ?_
                    exact ⟨_, rfl, by omega, (by first | exact Or.inl ⟨by omega, by unfold isW; omega⟩ | exact Or.inr ⟨by omega, by unfold isW; omega⟩)⟩
                  · intro c127
                    refine And.intro (⟨by decide, by decide⟩) ?_
                    exact ⟨_, rfl, (by first | exact ⟨by decide, by decide⟩ | omega), (by first | exact Or.inl ⟨by omega, by unfold isW; omega⟩ | exact Or.inr ⟨by omega, by unfold isW; omega⟩)⟩
            · intro c128
              refine And.intro ⟨rfl, by decide, by decide⟩ ?_
              refine And.intro ⟨rfl, by decide, by decide⟩ (fgetf fb_740_9 h0 hB0 ?_)
              intro z129 lz129 uz129 qz129
              refine fload rL_747_747_0_95_1_0 h0 hB0 (by omega) ?_
              intro z130 lz130 uz130 qz130
              have w72 := fld_at qz130 (I 740 9 + 2).toNat (by omega)
              refine And.intro (And.intro (by first | exact fi_ lz130 uz130 rfl | omega) (by first | exact fi_ ha3.1 ha3.2 rfl | omega)) (And.intro ?_ ?_)
              · intro c131
                refine And.intro (by omega) (And.intro ?_ ?_)
                · intro c132
                  refine And.intro (⟨by omega, by omega⟩) ?_
                  exact ⟨_, rfl, by omega, (by first | exact Or.inl ⟨by omega, by unfold isW; omega⟩ | exact Or.inr ⟨by omega, by unfold isW; omega⟩)⟩
                · intro c133
                  refine And.intro (by first | exact fi_ ha5.1 (Int.le_trans (Int.le_of_eq c81) (Int.le_refl _)) rfl | omega) (And.intro ?_ ?_)
                  · intro c134
                    refine And.intro (⟨by decide, by decide⟩) ?_
                    exact ⟨_, rfl, (by first | exact ⟨by decide, by decide⟩ | omega), (by first | exact Or.inl ⟨by omega, by unfold isW; omega⟩ | exact Or.inr ⟨by omega, by unfold isW; omega⟩)⟩
                  · intro c135
                    refine And.intro ⟨rfl, by decide, by decide⟩ ?_
                    refine And.intro ⟨rfl, by decide, by decide⟩ (fgetf fb_740_9 h0 hB0 ?_)
                    intro z136 lz136 uz136 qz136
                    refine fload rL_747_747_0_95_1_0 h0 hB0 (by omega) ?_
                    intro z137 lz137 uz137 qz137
                    have w120 := fld_at qz137 (I 740 9 + 4).toNat (by omega)
                    refine And.intro (And.intro (by first | exact fi_ lz137 uz137 rfl | omega) (by first | exact fi_ ha5.1 (Int.le_trans (Int.le_of_eq c81) (Int.le_refl _)) rfl | omega)) (And.intro ?_ ?_)
                    · intro c138
                      refine And.intro (⟨by omega, by omega⟩) ?_
                      exact ⟨_, rfl, by omega, (by first | exact Or.inl ⟨by omega, by unfold isW; omega⟩ | exact Or.inr ⟨by omega, by unfold isW; omega⟩)⟩
                    · intro c139
                      refine And.intro (⟨by decide, by decide⟩) ?_
                      exact ⟨_, rfl, (by first | exact ⟨by decide, by decide⟩ | omega), (by first | exact Or.inl ⟨by omega, by unfold isW; omega⟩ | exact Or.inr ⟨by omega, by unfold isW; omega⟩)⟩
              · intro c140
                refine And.intro ⟨rfl, by decide, by decide⟩ ?_
                refine And.intro ⟨rfl, by decide, by decide⟩ (fgetf fb_740_9 h0 hB0 ?_)
                intro z141 lz141 uz141 qz141
                refine fload rL_747_747_0_95_1_0 h0 hB0 (by omega) ?_
                intro z142 lz142 uz142 qz142
                have w87 := fld_at qz142 (I 740 9 + 3).toNat (by omega)
                refine And.intro (And.intro (by first | exact fi_ lz142 uz142 rfl | omega) (by first | exact fi_ ha4.1 ha4.2 rfl | omega)) (And.intro ?_ ?_)
                · intro c143
                  refine And.intro (by omega) (And.intro ?_ ?_)
                  · intro c144
                    refine And.intro (⟨by omega, by omega⟩) ?_
                    exact ⟨_, rfl, by omega, (by first | exact Or.inl ⟨by omega, by unfold isW; omega⟩ | exact Or.inr ⟨by omega, by unfold isW; omega⟩)⟩
                  · intro c145
                    refine And.intro (by first | exact fi_ ha5.1 (Int.le_trans (Int.le_of_eq c81) (Int.le_refl _)) rfl | omega) (And.intro ?_ ?_)
                    · intro c146
                      refine And.intro (⟨by decide, by decide⟩) ?_
                      exact ⟨_, rfl, (by first | exact ⟨by decide, by decide⟩ | omega), (by first | exact Or.inl ⟨by omega, by unfold isW; omega⟩ | exact Or.inr ⟨by omega, by unfold isW; omega⟩)⟩
                    · intro c147
                      refine And.intro ⟨rfl, by decide, by decide⟩ ?_
                      refine And.intro ⟨rfl, by decide, by decide⟩ (fgetf fb_740_9 h0 hB0 ?_)
                      intro z148 lz148 uz148 qz148
                      refine fload rL_747_747_0_95_1_0 h0 hB0 (by omega) ?_
                      intro z149 lz149 uz149 qz149
                      have w120 := fld_at qz149 (I 740 9 + 4).toNat (by omega)
                      refine And.intro (And.intro (by first | exact fi_ lz149 uz149 rfl | omega) (by first | exact fi_ ha5.1 (Int.le_trans (Int.le_of_eq c81) (Int.le_refl _)) rfl | omega)) (And.intro ?_ ?_)
                      · intro c150
                        refine And.intro (⟨by omega, by omega⟩) ?_
                        exact ⟨_, rfl, by omega, (by first | exact Or.inl ⟨by omega, by unfold isW; omega⟩ | exact Or.inr ⟨by omega, by unfold isW; omega⟩)⟩
                      · intro c151
                        refine And.intro (⟨by decide, by decide⟩) ?_
                        exact ⟨_, rfl, (by first | exact ⟨by decide, by decide⟩ | omega), (by first | exact Or.inl ⟨by omega, by unfold isW; omega⟩ | exact Or.inr ⟨by omega, by unfold isW; omega⟩)⟩
                · intro c152
                  refine And.intro (by first | exact ⟨by decide, by decide⟩ | omega) (And.intro ?_ ?_)
                  · intro c153
                    refine And.intro (⟨by omega, by omega⟩) ?_
                    exact ⟨_, rfl, by omega, (by first | exact Or.inl ⟨by omega, by unfold isW; omega⟩ | exact Or.inr ⟨by omega, by unfold isW; omega⟩)⟩
                  · intro c154
                    refine And.intro (by first | exact fi_ ha5.1 (Int.le_trans (Int.le_of_eq c81) (Int.le_refl _)) rfl | omega) (And.intro ?_ ?_)
                    · intro c155
                      refine And.intro (⟨by decide, by decide⟩) ?_
                      exact ⟨_, rfl, (by first | exact ⟨by decide, by decide⟩ | omega), (by first | exact Or.inl ⟨by omega, by unfold isW; omega⟩ | exact Or.inr ⟨by omega, by unfold isW; omega⟩)⟩
                    · intro c156
                      refine And.intro ⟨rfl, by decide, by decide⟩ ?_
                      refine And.intro ⟨rfl, by decide, by decide⟩ (fgetf fb_740_9 h0 hB0 ?_)
                      intro z157 lz157 uz157 qz157
                      refine fload rL_747_747_0_95_1_0 h0 hB0 (by omega) ?_
                      intro z158 lz158 uz158 qz158
                      have w120 := fld_at qz158 (I 740 9 + 4).toNat (by omega)
                      refine And.intro (And.intro (by first | exact fi_ lz158 uz158 rfl | omega) (by first | exact fi_ ha5.1 (Int.le_trans (Int.le_of_eq c81) (Int.le_refl _)) rfl | omega)) (And.intro ?_ ?_)
                      · intro c159
                        refine And.intro (⟨by omega, by omega⟩) ?_
                        exact ⟨_, rfl, by omega, (by first | exact Or.inl ⟨by omega, by unfold isW; omega⟩ | exact Or.inr ⟨by omega, by unfold isW; omega⟩)⟩
                      · intro c160
                        refine And.intro (⟨by decide, by decide⟩) ?_
                        exact ⟨_, rfl, (by first | exact ⟨by decide, by decide⟩ | omega), (by first | exact Or.inl ⟨by omega, by unfold isW; omega⟩ | exact Or.inr ⟨by omega, by unfold isW; omega⟩)⟩
set_option maxRecDepth 8000 in
theorem ct_M_key_09703 {I : fH}  (h0 : fB bsJ I) (hp0 : I 740 9 ≤ I 740 10 ∧ I 740 10 ≤ 96) : fC ρ base n F xTc vwCl xTys D dA la gJ (fbz bsJ znJ (fKc []) I) xm_317 [.inr (.inr (some 740))] I (fun _ r => ∃ z, r = some (.inl z) ∧ ((-1) ≤ z ∧ z ≤ 5) ∧ (kyP (I 740 11) (I 740 9) (I 740 10) (I 747) z)) := by
  have hW : fzs [] (fKc []) := fKc_ok _
  refine f_meth (rb := rbJ) (J := []) 1 400 xG xin_317 x6_317 okJ (fB_self h0) ?_ ?_
  · exact fun q h => absurd h List.not_mem_nil
  · have hB0 := fB_self (zn := znJ) (K := fKc []) h0
    have b1 := fBd fb_740_9 (fBz h0 hB0)
    refine Exists.intro xm_318 (And.intro mi_318 (And.intro ⟨rfl, rfl, rfl, rfl⟩ (And.intro rfl ?_)))
    refine fcallp hB0 (ct_M_isWordAt_4e115 (fBz h0 hB0) (by first | exact ⟨by decide, by decide⟩ | omega) (by first | exact ⟨by decide, by decide⟩ | omega) (by first | exact ⟨by decide, by decide⟩ | omega) (by first | exact ⟨by decide, by decide⟩ | omega) (by first | exact ⟨by decide, by decide⟩ | omega) (by omega)) ?_
    rintro _ ⟨z2, rfl, hz2, g0z2⟩
    have k0 := kw_5 (i := 0) rfl (by omega) (by decide) g0z2
    refine And.intro (by omega) (And.intro ?_ ?_)
    · intro c3
      refine Exists.intro xm_318 (And.intro mi_318 (And.intro ⟨rfl, rfl, rfl, rfl⟩ (And.intro rfl ?_)))
      refine fcallp hB0 (ct_M_isWordAt_4e115 (fBz h0 hB0) (by first | exact ⟨by decide, by decide⟩ | omega) (by first | exact ⟨by decide, by decide⟩ | omega) (by first | exact ⟨by decide, by decide⟩ | omega) (by first | exact ⟨by decide, by decide⟩ | omega) (by first | exact ⟨by decide, by decide⟩ | omega) (by omega)) ?_
      rintro _ ⟨z4, rfl, hz4, g0z4⟩
      have k1 := kw_4 (i := 1) rfl (by omega) g0z4
      refine And.intro (by omega) (And.intro ?_ ?_)
      · intro c5
        refine Exists.intro xm_318 (And.intro mi_318 (And.intro ⟨rfl, rfl, rfl, rfl⟩ (And.intro rfl ?_)))
        refine fcallp hB0 (ct_M_isWordAt_4e115 (fBz h0 hB0) (by first | exact ⟨by decide, by decide⟩ | omega) (by first | exact ⟨by decide, by decide⟩ | omega) (by first | exact ⟨by decide, by decide⟩ | omega) (by first | exact ⟨by decide, by decide⟩ | omega) (by first | exact ⟨by decide, by decide⟩ | omega) (by omega)) ?_
        rintro _ ⟨z6, rfl, hz6, g0z6⟩
        have k2 := kw_4 (i := 2) rfl (by omega) g0z6
        refine And.intro (by omega) (And.intro ?_ ?_)
        · intro c7
          refine Exists.intro xm_318 (And.intro mi_318 (And.intro ⟨rfl, rfl, rfl, rfl⟩ (And.intro rfl ?_)))
          refine fcallp hB0 (ct_M_isWordAt_4e115 (fBz h0 hB0) (by first | exact ⟨by decide, by decide⟩ | omega) (by first | exact ⟨by decide, by decide⟩ | omega) (by first | exact ⟨by decide, by decide⟩ | omega) (by first | exact ⟨by decide, by decide⟩ | omega) (by first | exact ⟨by decide, by decide⟩ | omega) (by omega)) ?_
          rintro _ ⟨z8, rfl, hz8, g0z8⟩
          have k3 := kw_5 (i := 3) rfl (by omega) (by decide) g0z8
          refine And.intro (by omega) (And.intro ?_ ?_)
          · intro c9
            refine Exists.intro xm_318 (And.intro mi_318 (And.intro ⟨rfl, rfl, rfl, rfl⟩ (And.intro rfl ?_)))
            refine fcallp hB0 (ct_M_isWordAt_4e115 (fBz h0 hB0) (by first | exact ⟨by decide, by decide⟩ | omega) (by first | exact ⟨by decide, by decide⟩ | omega) (by first | exact ⟨by decide, by decide⟩ | omega) (by first | exact ⟨by decide, by decide⟩ | omega) (by first | exact ⟨by decide, by decide⟩ | omega) (by omega)) ?_
            rintro _ ⟨z10, rfl, hz10, g0z10⟩
            have k4 := kw_4 (i := 4) rfl (by omega) g0z10
            refine And.intro (by omega) (And.intro ?_ ?_)
            · intro c11
              refine Exists.intro xm_318 (And.intro mi_318 (And.intro ⟨rfl, rfl, rfl, rfl⟩ (And.intro rfl ?_)))
              refine fcallp hB0 (ct_M_isWordAt_4e115 (fBz h0 hB0) (by first | exact ⟨by decide, by decide⟩ | omega) (by first | exact ⟨by decide, by decide⟩ | omega) (by first | exact ⟨by decide, by decide⟩ | omega) (by first | exact ⟨by decide, by decide⟩ | omega) (by first | exact ⟨by decide, by decide⟩ | omega) (by omega)) ?_
              rintro _ ⟨z12, rfl, hz12, g0z12⟩
              have k5 := kw_4 (i := 5) rfl (by omega) g0z12
              refine And.intro (by omega) (And.intro ?_ ?_)
              · intro c13
                refine And.intro (True.intro) ?_
                exact ⟨_, rfl, by omega, (by first | exact ky_is 0 (by decide) (by omega) (kw_y k0 (by omega)) ltz_0 | exact ky_is 1 (by decide) (by omega) (kw_y k1 (by omega)) (ltz_s ltz_0 (kw_n k0 (by omega))) | exact ky_is 2 (by decide) (by omega) (kw_y k2 (by omega)) (ltz_s (ltz_s ltz_0 (kw_n k0 (by omega))) (kw_n k1 (by omega))) | exact ky_is 3 (by decide) (by omega) (kw_y k3 (by omega)) (ltz_s (ltz_s (ltz_s ltz_0 (kw_n k0 (by omega))) (kw_n k1 (by omega))) (kw_n k2 (by omega))) | exact ky_is 4 (by decide) (by omega) (kw_y k4 (by omega)) (ltz_s (ltz_s (ltz_s (ltz_s ltz_0 (kw_n k0 (by omega))) (kw_n k1 (by omega))) (kw_n k2 (by omega))) (kw_n k3 (by omega))) | exact ky_is 5 (by decide) (by omega) (kw_y k5 (by omega)) (ltz_s (ltz_s (ltz_s (ltz_s (ltz_s ltz_0 (kw_n k0 (by omega))) (kw_n k1 (by omega))) (kw_n k2 (by omega))) (kw_n k3 (by omega))) (kw_n k4 (by omega))) | exact Or.inl ⟨by omega, (ltz_s (ltz_s (ltz_s (ltz_s (ltz_s (ltz_s ltz_0 (kw_n k0 (by omega))) (kw_n k1 (by omega))) (kw_n k2 (by omega))) (kw_n k3 (by omega))) (kw_n k4 (by omega))) (kw_n k5 (by omega)))⟩)⟩
              · intro c14
                refine And.intro (True.intro) ?_
                exact ⟨_, rfl, (by first | exact ⟨by decide, by decide⟩ | omega), (by first | exact ky_is 0 (by decide) (by omega) (kw_y k0 (by omega)) ltz_0 | exact ky_is 1 (by decide) (by omega) (kw_y k1 (by omega)) (ltz_s ltz_0 (kw_n k0 (by omega))) | exact ky_is 2 (by decide) (by omega) (kw_y k2 (by omega)) (ltz_s (ltz_s ltz_0 (kw_n k0 (by omega))) (kw_n k1 (by omega))) | exact ky_is 3 (by decide) (by omega) (kw_y k3 (by omega)) (ltz_s (ltz_s (ltz_s ltz_0 (kw_n k0 (by omega))) (kw_n k1 (by omega))) (kw_n k2 (by omega))) | exact ky_is 4 (by decide) (by omega) (kw_y k4 (by omega)) (ltz_s (ltz_s (ltz_s (ltz_s ltz_0 (kw_n k0 (by omega))) (kw_n k1 (by omega))) (kw_n k2 (by omega))) (kw_n k3 (by omega))) | exact ky_is 5 (by decide) (by omega) (kw_y k5 (by omega)) (ltz_s (ltz_s (ltz_s (ltz_s (ltz_s ltz_0 (kw_n k0 (by omega))) (kw_n k1 (by omega))) (kw_n k2 (by omega))) (kw_n k3 (by omega))) (kw_n k4 (by omega))) | exact Or.inl ⟨by omega, (ltz_s (ltz_s (ltz_s (ltz_s (ltz_s (ltz_s ltz_0 (kw_n k0 (by omega))) (kw_n k1 (by omega))) (kw_n k2 (by omega))) (kw_n k3 (by omega))) (kw_n k4 (by omega))) (kw_n k5 (by omega)))⟩)⟩
            · intro c15
              refine And.intro (True.intro) ?_
              exact ⟨_, rfl, (by first | exact ⟨by decide, by decide⟩ | omega), (by first | exact ky_is 0 (by decide) (by omega) (kw_y k0 (by omega)) ltz_0 | exact ky_is 1 (by decide) (by omega) (kw_y k1 (by omega)) (ltz_s ltz_0 (kw_n k0 (by omega))) | exact ky_is 2 (by decide) (by omega) (kw_y k2 (by omega)) (ltz_s (ltz_s ltz_0 (kw_n k0 (by omega))) (kw_n k1 (by omega))) | exact ky_is 3 (by decide) (by omega) (kw_y k3 (by omega)) (ltz_s (ltz_s (ltz_s ltz_0 (kw_n k0 (by omega))) (kw_n k1 (by omega))) (kw_n k2 (by omega))) | exact ky_is 4 (by decide) (by omega) (kw_y k4 (by omega)) (ltz_s (ltz_s (ltz_s (ltz_s ltz_0 (kw_n k0 (by omega))) (kw_n k1 (by omega))) (kw_n k2 (by omega))) (kw_n k3 (by omega))) | exact ky_is 5 (by decide) (by omega) (kw_y k5 (by omega)) (ltz_s (ltz_s (ltz_s (ltz_s (ltz_s ltz_0 (kw_n k0 (by omega))) (kw_n k1 (by omega))) (kw_n k2 (by omega))) (kw_n k3 (by omega))) (kw_n k4 (by omega))) | exact Or.inl ⟨by omega, (ltz_s (ltz_s (ltz_s (ltz_s (ltz_s (ltz_s ltz_0 (kw_n k0 (by omega))) (kw_n k1 (by omega))) (kw_n k2 (by omega))) (kw_n k3 (by omega))) (kw_n k4 (by omega))) (kw_n k5 (by omega)))⟩)⟩
          · intro c16
            refine And.intro (True.intro) ?_
            exact ⟨_, rfl, (by first | exact ⟨by decide, by decide⟩ | omega), (by first | exact ky_is 0 (by decide) (by omega) (kw_y k0 (by omega)) ltz_0 | exact ky_is 1 (by decide) (by omega) (kw_y k1 (by omega)) (ltz_s ltz_0 (kw_n k0 (by omega))) | exact ky_is 2 (by decide) (by omega) (kw_y k2 (by omega)) (ltz_s (ltz_s ltz_0 (kw_n k0 (by omega))) (kw_n k1 (by omega))) | exact ky_is 3 (by decide) (by omega) (kw_y k3 (by omega)) (ltz_s (ltz_s (ltz_s ltz_0 (kw_n k0 (by omega))) (kw_n k1 (by omega))) (kw_n k2 (by omega))) | exact ky_is 4 (by decide) (by omega) (kw_y k4 (by omega)) (ltz_s (ltz_s (ltz_s (ltz_s ltz_0 (kw_n k0 (by omega))) (kw_n k1 (by omega))) (kw_n k2 (by omega))) (kw_n k3 (by omega))) | exact ky_is 5 (by decide) (by omega) (kw_y k5 (by omega)) (ltz_s (ltz_s (ltz_s (ltz_s (ltz_s ltz_0 (kw_n k0 (by omega))) (kw_n k1 (by omega))) (kw_n k2 (by omega))) (kw_n k3 (by omega))) (kw_n k4 (by omega))) | exact Or.inl ⟨by omega, (ltz_s (ltz_s (ltz_s (ltz_s (ltz_s (ltz_s ltz_0 (kw_n k0 (by omega))) (kw_n k1 (by omega))) (kw_n k2 (by omega))) (kw_n k3 (by omega))) (kw_n k4 (by omega))) (kw_n k5 (by omega)))⟩)⟩
        · intro c17
          refine And.intro (True.intro) ?_
          exact ⟨_, rfl, (by first | exact ⟨by decide, by decide⟩ | omega), (by first | exact ky_is 0 (by decide) (by omega) (kw_y k0 (by omega)) ltz_0 | exact ky_is 1 (by decide) (by omega) (kw_y k1 (by omega)) (ltz_s ltz_0 (kw_n k0 (by omega))) | exact ky_is 2 (by decide) (by omega) (kw_y k2 (by omega)) (ltz_s (ltz_s ltz_0 (kw_n k0 (by omega))) (kw_n k1 (by omega))) | exact ky_is 3 (by decide) (by omega) (kw_y k3 (by omega)) (ltz_s (ltz_s (ltz_s ltz_0 (kw_n k0 (by omega))) (kw_n k1 (by omega))) (kw_n k2 (by omega))) | exact ky_is 4 (by decide) (by omega) (kw_y k4 (by omega)) (ltz_s (ltz_s (ltz_s (ltz_s ltz_0 (kw_n k0 (by omega))) (kw_n k1 (by omega))) (kw_n k2 (by omega))) (kw_n k3 (by omega))) | exact ky_is 5 (by decide) (by omega) (kw_y k5 (by omega)) (ltz_s (ltz_s (ltz_s (ltz_s (ltz_s ltz_0 (kw_n k0 (by omega))) (kw_n k1 (by omega))) (kw_n k2 (by omega))) (kw_n k3 (by omega))) (kw_n k4 (by omega))) | exact Or.inl ⟨by omega, (ltz_s (ltz_s (ltz_s (ltz_s (ltz_s (ltz_s ltz_0 (kw_n k0 (by omega))) (kw_n k1 (by omega))) (kw_n k2 (by omega))) (kw_n k3 (by omega))) (kw_n k4 (by omega))) (kw_n k5 (by omega)))⟩)⟩
      · intro c18
        refine And.intro (True.intro) ?_
        exact ⟨_, rfl, (by first | exact ⟨by decide, by decide⟩ | omega), (by first | exact ky_is 0 (by decide) (by omega) (kw_y k0 (by omega)) ltz_0 | exact ky_is 1 (by decide) (by omega) (kw_y k1 (by omega)) (ltz_s ltz_0 (kw_n k0 (by omega))) | exact ky_is 2 (by decide) (by omega) (kw_y k2 (by omega)) (ltz_s (ltz_s ltz_0 (kw_n k0 (by omega))) (kw_n k1 (by omega))) | exact ky_is 3 (by decide) (by omega) (kw_y k3 (by omega)) (ltz_s (ltz_s (ltz_s ltz_0 (kw_n k0 (by omega))) (kw_n k1 (by omega))) (kw_n k2 (by omega))) | exact ky_is 4 (by decide) (by omega) (kw_y k4 (by omega)) (ltz_s (ltz_s (ltz_s (ltz_s ltz_0 (kw_n k0 (by omega))) (kw_n k1 (by omega))) (kw_n k2 (by omega))) (kw_n k3 (by omega))) | exact ky_is 5 (by decide) (by omega) (kw_y k5 (by omega)) (ltz_s (ltz_s (ltz_s (ltz_s (ltz_s ltz_0 (kw_n k0 (by omega))) (kw_n k1 (by omega))) (kw_n k2 (by omega))) (kw_n k3 (by omega))) (kw_n k4 (by omega))) | exact Or.inl ⟨by omega, (ltz_s (ltz_s (ltz_s (ltz_s (ltz_s (ltz_s ltz_0 (kw_n k0 (by omega))) (kw_n k1 (by omega))) (kw_n k2 (by omega))) (kw_n k3 (by omega))) (kw_n k4 (by omega))) (kw_n k5 (by omega)))⟩)⟩
    · intro c19
      refine And.intro (True.intro) ?_
      exact ⟨_, rfl, (by first | exact ⟨by decide, by decide⟩ | omega), (by first | exact ky_is 0 (by decide) (by omega) (kw_y k0 (by omega)) ltz_0 | exact ky_is 1 (by decide) (by omega) (kw_y k1 (by omega)) (ltz_s ltz_0 (kw_n k0 (by omega))) | exact ky_is 2 (by decide) (by omega) (kw_y k2 (by omega)) (ltz_s (ltz_s ltz_0 (kw_n k0 (by omega))) (kw_n k1 (by omega))) | exact ky_is 3 (by decide) (by omega) (kw_y k3 (by omega)) (ltz_s (ltz_s (ltz_s ltz_0 (kw_n k0 (by omega))) (kw_n k1 (by omega))) (kw_n k2 (by omega))) | exact ky_is 4 (by decide) (by omega) (kw_y k4 (by omega)) (ltz_s (ltz_s (ltz_s (ltz_s ltz_0 (kw_n k0 (by omega))) (kw_n k1 (by omega))) (kw_n k2 (by omega))) (kw_n k3 (by omega))) | exact ky_is 5 (by decide) (by omega) (kw_y k5 (by omega)) (ltz_s (ltz_s (ltz_s (ltz_s (ltz_s ltz_0 (kw_n k0 (by omega))) (kw_n k1 (by omega))) (kw_n k2 (by omega))) (kw_n k3 (by omega))) (kw_n k4 (by omega))) | exact Or.inl ⟨by omega, (ltz_s (ltz_s (ltz_s (ltz_s (ltz_s (ltz_s ltz_0 (kw_n k0 (by omega))) (kw_n k1 (by omega))) (kw_n k2 (by omega))) (kw_n k3 (by omega))) (kw_n k4 (by omega))) (kw_n k5 (by omega)))⟩)⟩
end CT

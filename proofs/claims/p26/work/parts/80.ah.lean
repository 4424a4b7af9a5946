/-! contracts (written by gen95.py) -/
theorem x6_373 : f60c xTc xTys xm_373 = true := by decide +kernel
theorem x6_356 : f60c xTc xTys xm_356 = true := by decide +kernel
theorem x6_339 : f60c xTc xTys xm_339 = true := by decide +kernel
theorem x6_322 : f60c xTc xTys xm_322 = true := by decide +kernel
theorem x6_408 : f60c xTc xTys xm_408 = true := by decide +kernel
theorem x6_391 : f60c xTc xTys xm_391 = true := by decide +kernel
theorem x6_374 : f60c xTc xTys xm_374 = true := by decide +kernel
theorem x6_357 : f60c xTc xTys xm_357 = true := by decide +kernel
theorem x6_340 : f60c xTc xTys xm_340 = true := by decide +kernel
theorem x6_323 : f60c xTc xTys xm_323 = true := by decide +kernel
section CT
variable {ρ : Nat → Int32} {base n : Nat} {F : Nat → Prop} {D : va_G} {dA : Nat → ClassId} {la : Launch}
abbrev jc_M_sum_81519_10 (I0 : fH) : Nat → fL → List fV → fH → Prop := fun m lv st I => ∃ (y1 : Int), lv = [(0, .inr (.inr (some 740))), (1, .inl y1)] ∧ st = [] ∧ ((((-1) ≤ y1 ∧ y1 ≤ 5) ∧ (I0 740 9 ≤ I 740 9) ∧ (I 740 9 ≤ I 740 10) ∧ (I 740 10 ≤ I 740 8) ∧ (I 740 11 = 0 ∨ I 740 9 < I 740 10) ∧ (I0 740 16 ≤ I 740 16) ∧ (I 740 16 - I0 740 16 ≤ I 740 9 - I0 740 9) ∧ (I 740 14 = I0 740 14) ∧ (I 740 15 = I0 740 15)) ∧ (sBe I0 I (I0 740 17) (I0 740 16)) ∧ (sOne I (I0 740 17) (I0 740 16) (I 740 16))) ∧ m = (1 + 1 * (96 - I 740 9) : Int).toNat
set_option maxRecDepth 8000 in
theorem ct_M_sum_81519 {I : fH} {x1 : Int} (h0 : fB bsJ I) (ha1 : ((-1) ≤ x1 ∧ x1 ≤ 5)) (hp0 : I 740 9 ≤ I 740 10 ∧ I 740 10 ≤ I 740 8 ∧ (I 740 11 = 0 ∨ I 740 9 < I 740 10)) (hp1 : 0 ≤ I 740 16 ∧ I 740 16 ≤ I 740 9) (hp2 : 13 ≤ I 740 14 + I 740 15) (hp3 : (1215 ≤ I 740 17 ∧ I 740 17 ≤ 3415 ∧ (I 740 17 - 1215) % 200 = 0) ∨ I 740 17 = 4700) : fC ρ base n F xTc vwCl xTys D dA la gJ (fbz bsJ znJ (fKc wz_2212a) I) xm_373 [.inr (.inr (some 740)), .inl x1] I (fun I' r => ∃ z, r = some (.inl z) ∧ ((0 ≤ z ∧ z ≤ 1) ∧ (I 740 9 ≤ I' 740 9 ∧ I' 740 9 ≤ I' 740 10 ∧ I' 740 10 ≤ I' 740 8 ∧ (I' 740 11 = 0 ∨ I' 740 9 < I' 740 10) ∧ (z = 1 → I 740 16 ≤ I' 740 16 ∧ I' 740 16 - I 740 16 ≤ I' 740 9 - I 740 9 ∧ I' 740 14 = I 740 14 ∧ I' 740 15 = I 740 15))) ∧ (sBe I I' (I 740 17) (I 740 16)) ∧ (z = 1 → sOne I' (I 740 17) (I 740 16) (I' 740 16))) := by
  have hW : fzs wz_2212a (fKc wz_2212a) := fKc_ok _
  refine f_meth (rb := rbJ) (J := [(10, (jc_M_sum_81519_10 I))]) 98 400 xG xin_373 x6_373 okJ (fB_self h0) ?_ ?_
  · refine List.forall_mem_cons.mpr ⟨?_, fun q h => absurd h List.not_mem_nil⟩
    · rintro m _ _ I1 hB1 ⟨y1, rfl, rfl, ⟨hb, hx0, hx1⟩, hm⟩
      have k1 := fBz_eq hB1 (a := 740) (j := 8) (by decide +kernel)
      have k2 := fBz_eq hB1 (a := 740) (j := 17) (by decide +kernel)
      have b3 := fBd fb_740_8 (fBz h0 hB1)
      have b4 := fBd fb_740_14 (fBz h0 hB1)
      have b5 := fBd fb_740_15 (fBz h0 hB1)
      refine Exists.intro xm_423 (And.intro mi_423 (And.intro ⟨rfl, rfl, rfl, rfl⟩ (And.intro rfl ?_)))
      refine fcallp hB1 (ct_M_isSign_90da9 (fBz h0 hB1) (by omega)) ?_
      rintro _ ⟨z6, rfl, hz6⟩
      refine And.intro (by omega) (And.intro ?_ ?_)
      · intro c7
        refine And.intro ⟨rfl, by decide, by decide⟩ (fgetf fb_740_13 h0 hB1 ?_)
        intro z8 lz8 uz8 qz8
        refine Exists.intro xm_314 (And.intro mi_314 (And.intro ⟨rfl, rfl, rfl, rfl⟩ (And.intro rfl ?_)))
        refine fcall _ h0 (fzs_sub (by decide +kernel) hW) hB1 (ct_M_next_c8003 (fBz h0 hB1) (by omega)) ?_
        rintro IhB10 _ hB10 fhB10 ⟨rfl, hz9⟩
        have t11 := fhB10 740 14 (by decide +kernel)
        have t12 := fhB10 740 15 (by decide +kernel)
        have t13 := fhB10 740 16 (by decide +kernel)
        have k14 := fBz_eq hB10 (a := 740) (j := 8) (by decide +kernel)
        have k15 := fBz_eq hB10 (a := 740) (j := 17) (by decide +kernel)
        refine Exists.intro xm_390 (And.intro mi_390 (And.intro ⟨rfl, rfl, rfl, rfl⟩ (And.intro rfl ?_)))
        refine fcall _ h0 (fzs_sub (by decide +kernel) hW) hB10 (ct_M_term_9fe76 (fBz h0 hB10) (by omega) (by omega) (by omega) (by omega) (by omega)) ?_
        rintro IhB17 _ hB17 fhB17 ⟨z16, rfl, hz16, g0z16, g1z16⟩
        have k18 := fBz_eq hB17 (a := 740) (j := 8) (by decide +kernel)
        have k19 := fBz_eq hB17 (a := 740) (j := 17) (by decide +kernel)
        refine And.intro (by omega) (And.intro ?_ ?_)
        · intro c20
          refine Exists.intro xm_421 (And.intro mi_421 (And.intro ⟨rfl, rfl, rfl, rfl⟩ (And.intro rfl ?_)))
          refine fcall _ h0 (fzs_sub (by decide +kernel) hW) hB17 (ct_M_step_2c704 (fBz h0 hB17) (by omega) (by omega) (by omega) (by omega)) ?_
          rintro IhB22 _ hB22 fhB22 ⟨rfl, hz21, g0z21⟩
          have t23 := fhB22 740 9 (by decide +kernel)
          have t24 := fhB22 740 10 (by decide +kernel)
          have t25 := fhB22 740 11 (by decide +kernel)
          have t26 := fhB22 740 13 (by decide +kernel)
          have t27 := fhB22 740 14 (by decide +kernel)
          have t28 := fhB22 740 15 (by decide +kernel)
          have k29 := fBz_eq hB22 (a := 740) (j := 8) (by decide +kernel)
          have k30 := fBz_eq hB22 (a := 740) (j := 17) (by decide +kernel)
          exact fcutJ (I := IhB22) (j := (jc_M_sum_81519_10 I)) (lv' := [(0, .inr (.inr (some 740))), (1, .inl _)]) (And.intro rfl (And.intro rfl True.intro)) ⟨_, rfl, rfl, ⟨by omega, (par_be hx0 (fFr_S fhB10 (by decide +kernel)) g0z16 g0z21 (by omega) (by omega) (by omega) (by omega)), (par_one (by omega) hx1 (fFr_S fhB10 (by decide +kernel)) g0z16 (g1z16 (by omega)) g0z21 (by omega) (by omega) (by omega) (by omega) (by omega) (by omega))⟩, rfl⟩ (by omega)
        · intro c31
          refine And.intro (⟨by omega, by omega⟩) ?_
          exact ⟨_, rfl, by omega, (par_bel hx0 (fFr_S fhB10 (by decide +kernel)) g0z16 (by omega) (by omega)), (fun q => absurd q (by omega))⟩
      · intro c32
        refine Exists.intro xm_423 (And.intro mi_423 (And.intro ⟨rfl, rfl, rfl, rfl⟩ (And.intro rfl ?_)))
        refine fcallp hB1 (ct_M_isSign_90da9 (fBz h0 hB1) (by omega)) ?_
        rintro _ ⟨z33, rfl, hz33⟩
        refine And.intro (by omega) (And.intro ?_ ?_)
        · intro c34
          refine And.intro (⟨by omega, by omega⟩) ?_
          exact ⟨_, rfl, by omega, hx0, (fun _ => hx1)⟩
        · intro c35
          refine And.intro ⟨rfl, by decide, by decide⟩ (fgetf fb_740_13 h0 hB1 ?_)
          intro z36 lz36 uz36 qz36
          refine Exists.intro xm_314 (And.intro mi_314 (And.intro ⟨rfl, rfl, rfl, rfl⟩ (And.intro rfl ?_)))
          refine fcall _ h0 (fzs_sub (by decide +kernel) hW) hB1 (ct_M_next_c8003 (fBz h0 hB1) (by omega)) ?_
          rintro IhB38 _ hB38 fhB38 ⟨rfl, hz37⟩
          have t39 := fhB38 740 14 (by decide +kernel)
          have t40 := fhB38 740 15 (by decide +kernel)
          have t41 := fhB38 740 16 (by decide +kernel)
          have k42 := fBz_eq hB38 (a := 740) (j := 8) (by decide +kernel)
          have k43 := fBz_eq hB38 (a := 740) (j := 17) (by decide +kernel)
          refine Exists.intro xm_390 (And.intro mi_390 (And.intro ⟨rfl, rfl, rfl, rfl⟩ (And.intro rfl ?_)))
          refine fcall _ h0 (fzs_sub (by decide +kernel) hW) hB38 (ct_M_term_9fe76 (fBz h0 hB38) (by omega) (by omega) (by omega) (by omega) (by omega)) ?_
          rintro IhB45 _ hB45 fhB45 ⟨z44, rfl, hz44, g0z44, g1z44⟩
          have k46 := fBz_eq hB45 (a := 740) (j := 8) (by decide +kernel)
          have k47 := fBz_eq hB45 (a := 740) (j := 17) (by decide +kernel)
          refine And.intro (by omega) (And.intro ?_ ?_)
          · intro c48
            refine Exists.intro xm_421 (And.intro mi_421 (And.intro ⟨rfl, rfl, rfl, rfl⟩ (And.intro rfl ?_)))
            refine fcall _ h0 (fzs_sub (by decide +kernel) hW) hB45 (ct_M_step_2c704 (fBz h0 hB45) (by omega) (by omega) (by omega) (by omega)) ?_
            rintro IhB50 _ hB50 fhB50 ⟨rfl, hz49, g0z49⟩
            have t51 := fhB50 740 9 (by decide +kernel)
            have t52 := fhB50 740 10 (by decide +kernel)
            have t53 := fhB50 740 11 (by decide +kernel)
            have t54 := fhB50 740 13 (by decide +kernel)
            have t55 := fhB50 740 14 (by decide +kernel)
            have t56 := fhB50 740 15 (by decide +kernel)
            have k57 := fBz_eq hB50 (a := 740) (j := 8) (by decide +kernel)
            have k58 := fBz_eq hB50 (a := 740) (j := 17) (by decide +kernel)
            exact fcutJ (I := IhB50) (j := (jc_M_sum_81519_10 I)) (lv' := [(0, .inr (.inr (some 740))), (1, .inl _)]) (And.intro rfl (And.intro rfl True.intro)) ⟨_, rfl, rfl, ⟨by omega, (par_be hx0 (fFr_S fhB38 (by decide +kernel)) g0z44 g0z49 (by omega) (by omega) (by omega) (by omega)), (par_one (by omega) hx1 (fFr_S fhB38 (by decide +kernel)) g0z44 (g1z44 (by omega)) g0z49 (by omega) (by omega) (by omega) (by omega) (by omega) (by omega))⟩, rfl⟩ (by omega)
          · intro c59
            refine And.intro (⟨by omega, by omega⟩) ?_
            exact ⟨_, rfl, by omega, (par_bel hx0 (fFr_S fhB38 (by decide +kernel)) g0z44 (by omega) (by omega)), (fun q => absurd q (by omega))⟩
  · have hB0 := fB_self (zn := znJ) (K := fKc wz_2212a) h0
    have b60 := fBd fb_740_8 (fBz h0 hB0)
    have b61 := fBd fb_740_14 (fBz h0 hB0)
    have b62 := fBd fb_740_15 (fBz h0 hB0)
    refine Exists.intro xm_390 (And.intro mi_390 (And.intro ⟨rfl, rfl, rfl, rfl⟩ (And.intro rfl ?_)))
    refine fcall _ h0 (fzs_sub (by decide +kernel) hW) hB0 (ct_M_term_9fe76 (fBz h0 hB0) (by omega) (by omega) (by omega) (by omega) (by omega)) ?_
    rintro IhB64 _ hB64 fhB64 ⟨z63, rfl, hz63, g0z63, g1z63⟩
    have k65 := fBz_eq hB64 (a := 740) (j := 8) (by decide +kernel)
    have k66 := fBz_eq hB64 (a := 740) (j := 17) (by decide +kernel)
    refine And.intro (by omega) (And.intro ?_ ?_)
    · intro c67
      exact fcutJ (I := IhB64) (j := (jc_M_sum_81519_10 I)) (lv' := [(0, .inr (.inr (some 740))), (1, .inl _)]) (And.intro rfl (And.intro rfl True.intro)) ⟨_, rfl, rfl, ⟨by omega, g0z63, (g1z63 (by omega))⟩, rfl⟩ (by omega)
    · intro c68
      refine And.intro (⟨by omega, by omega⟩) ?_
      exact ⟨_, rfl, by omega, g0z63, (fun q => absurd q (by omega))⟩
set_option maxRecDepth 8000 in
theorem ct_M_test_35c6b {I : fH} {x1 : Int} (h0 : fB bsJ I) (ha1 : ((-1) ≤ x1 ∧ x1 ≤ 5)) (hp0 : I 740 9 ≤ I 740 10 ∧ I 740 10 ≤ I 740 8 ∧ (I 740 11 = 0 ∨ I 740 9 < I 740 10)) (hp1 : 0 ≤ I 740 16 ∧ I 740 16 ≤ I 740 9) (hp2 : 13 ≤ I 740 14 + I 740 15) (hp3 : (1215 ≤ I 740 17 ∧ I 740 17 ≤ 3415 ∧ (I 740 17 - 1215) % 200 = 0) ∨ I 740 17 = 4700) : fC ρ base n F xTc vwCl xTys D dA la gJ (fbz bsJ znJ (fKc wz_2212a) I) xm_356 [.inr (.inr (some 740)), .inl x1] I (fun I' r => ∃ z, r = some (.inl z) ∧ ((0 ≤ z ∧ z ≤ 1) ∧ (I 740 9 ≤ I' 740 9 ∧ I' 740 9 ≤ I' 740 10 ∧ I' 740 10 ≤ I' 740 8 ∧ (I' 740 11 = 0 ∨ I' 740 9 < I' 740 10) ∧ (z = 1 → I 740 16 ≤ I' 740 16 ∧ I' 740 16 - I 740 16 ≤ I' 740 9 - I 740 9 ∧ I' 740 14 = I 740 14 ∧ I' 740 15 = I 740 15))) ∧ (sBe I I' (I 740 17) (I 740 16)) ∧ (z = 1 → sOne I' (I 740 17) (I 740 16) (I' 740 16))) := by
  have hW : fzs wz_2212a (fKc wz_2212a) := fKc_ok _
  refine f_meth (rb := rbJ) (J := []) 1 400 xG xin_356 x6_356 okJ (fB_self h0) ?_ ?_
  · exact fun q h => absurd h List.not_mem_nil
  · have hB0 := fB_self (zn := znJ) (K := fKc wz_2212a) h0
    have b1 := fBd fb_740_8 (fBz h0 hB0)
    have b2 := fBd fb_740_14 (fBz h0 hB0)
    have b3 := fBd fb_740_15 (fBz h0 hB0)
    refine Exists.intro xm_373 (And.intro mi_373 (And.intro ⟨rfl, rfl, rfl, rfl⟩ (And.intro rfl ?_)))
    refine fcall _ h0 (fzs_sub (by decide +kernel) hW) hB0 (ct_M_sum_81519 (fBz h0 hB0) (by omega) (by omega) (by omega) (by omega) (by omega)) ?_
    rintro IhB5 _ hB5 fhB5 ⟨z4, rfl, hz4, g0z4, g1z4⟩
    have k6 := fBz_eq hB5 (a := 740) (j := 8) (by decide +kernel)
    have k7 := fBz_eq hB5 (a := 740) (j := 17) (by decide +kernel)
    refine And.intro (by omega) (And.intro ?_ ?_)
    · intro c8
      refine Exists.intro xm_423 (And.intro mi_423 (And.intro ⟨rfl, rfl, rfl, rfl⟩ (And.intro rfl ?_)))
      refine fcallp hB5 (ct_M_isSign_90da9 (fBz h0 hB5) (by omega)) ?_
      rintro _ ⟨z9, rfl, hz9⟩
      refine And.intro (by omega) (And.intro ?_ ?_)
      · intro c10
        refine And.intro ⟨rfl, by decide, by decide⟩ (fgetf fb_740_13 h0 hB5 ?_)
        intro z11 lz11 uz11 qz11
        refine Exists.intro xm_314 (And.intro mi_314 (And.intro ⟨rfl, rfl, rfl, rfl⟩ (And.intro rfl ?_)))
        refine fcall _ h0 (fzs_sub (by decide +kernel) hW) hB5 (ct_M_next_c8003 (fBz h0 hB5) (by omega)) ?_
        rintro IhB13 _ hB13 fhB13 ⟨rfl, hz12⟩
        have t14 := fhB13 740 14 (by decide +kernel)
        have t15 := fhB13 740 15 (by decide +kernel)
        have t16 := fhB13 740 16 (by decide +kernel)
        have k17 := fBz_eq hB13 (a := 740) (j := 8) (by decide +kernel)
        have k18 := fBz_eq hB13 (a := 740) (j := 17) (by decide +kernel)
        refine Exists.intro xm_373 (And.intro mi_373 (And.intro ⟨rfl, rfl, rfl, rfl⟩ (And.intro rfl ?_)))
        refine fcall _ h0 (fzs_sub (by decide +kernel) hW) hB13 (ct_M_sum_81519 (fBz h0 hB13) (by omega) (by omega) (by omega) (by omega) (by omega)) ?_
        rintro IhB20 _ hB20 fhB20 ⟨z19, rfl, hz19, g0z19, g1z19⟩
        have k21 := fBz_eq hB20 (a := 740) (j := 8) (by decide +kernel)
        have k22 := fBz_eq hB20 (a := 740) (j := 17) (by decide +kernel)
        refine And.intro (by omega) (And.intro ?_ ?_)
        · intro c23
          refine Exists.intro xm_421 (And.intro mi_421 (And.intro ⟨rfl, rfl, rfl, rfl⟩ (And.intro rfl ?_)))
          refine fcall _ h0 (fzs_sub (by decide +kernel) hW) hB20 (ct_M_step_2c704 (fBz h0 hB20) (by omega) (by omega) (by omega) (by omega)) ?_
          rintro IhB25 _ hB25 fhB25 ⟨rfl, hz24, g0z24⟩
          have t26 := fhB25 740 9 (by decide +kernel)
          have t27 := fhB25 740 10 (by decide +kernel)
          have t28 := fhB25 740 11 (by decide +kernel)
          have t29 := fhB25 740 13 (by decide +kernel)
          have t30 := fhB25 740 14 (by decide +kernel)
          have t31 := fhB25 740 15 (by decide +kernel)
          have k32 := fBz_eq hB25 (a := 740) (j := 8) (by decide +kernel)
          have k33 := fBz_eq hB25 (a := 740) (j := 17) (by decide +kernel)
          refine And.intro (⟨by omega, by omega⟩) ?_
          exact ⟨_, rfl, by omega, (by first | exact par_be g0z4 (fFr_S fhB13 (by decide +kernel)) g0z19 g0z24 (by omega) (by omega) (by omega) (by omega) | exact g0z4), (fun _ => by first | exact par_one (by omega) (g1z4 (by omega)) (fFr_S fhB13 (by decide +kernel)) g0z19 (g1z19 (by omega)) g0z24 (by omega) (by omega) (by omega) (by omega) (by omega) (by omega) | exact g1z4 (by omega))⟩
        · intro c34
          refine And.intro (⟨by omega, by omega⟩) ?_
          exact ⟨_, rfl, by omega, (par_bel g0z4 (fFr_S fhB13 (by decide +kernel)) g0z19 (by omega) (by omega)), (fun q => absurd q (by omega))⟩
      · intro c35
        refine Exists.intro xm_423 (And.intro mi_423 (And.intro ⟨rfl, rfl, rfl, rfl⟩ (And.intro rfl ?_)))
        refine fcallp hB5 (ct_M_isSign_90da9 (fBz h0 hB5) (by omega)) ?_
        rintro _ ⟨z36, rfl, hz36⟩
        refine And.intro (by omega) (And.intro ?_ ?_)
        · intro c37
          refine And.intro ⟨rfl, by decide, by decide⟩ (fgetf fb_740_13 h0 hB5 ?_)
          intro z38 lz38 uz38 qz38
          refine Exists.intro xm_314 (And.intro mi_314 (And.intro ⟨rfl, rfl, rfl, rfl⟩ (And.intro rfl ?_)))
          refine fcall _ h0 (fzs_sub (by decide +kernel) hW) hB5 (ct_M_next_c8003 (fBz h0 hB5) (by omega)) ?_
          rintro IhB40 _ hB40 fhB40 ⟨rfl, hz39⟩
          have t41 := fhB40 740 14 (by decide +kernel)
          have t42 := fhB40 740 15 (by decide +kernel)
          have t43 := fhB40 740 16 (by decide +kernel)
          have k44 := fBz_eq hB40 (a := 740) (j := 8) (by decide +kernel)
          have k45 := fBz_eq hB40 (a := 740) (j := 17) (by decide +kernel)
          refine Exists.intro xm_373 (And.intro mi_373 (And.intro ⟨rfl, rfl, rfl, rfl⟩ (And.intro rfl ?_)))
          refine fcall _ h0 (fzs_sub (by decide +kernel) hW) hB40 (ct_M_sum_81519 (fBz h0 hB40) (by omega) (by omega) (by omega) (by omega) (by omega)) ?_
          rintro IhB47 _ hB47 fhB47 ⟨z46, rfl, hz46, g0z46, g1z46⟩
          have k48 := fBz_eq hB47 (a := 740) (j := 8) (by decide +kernel)
          have k49 := fBz_eq hB47 (a := 740) (j := 17) (by decide +kernel)
          refine And.intro (by omega) (And.intro ?_ ?_)
          · intro c50
            refine Exists.intro xm_421 (And.intro mi_421 (And.intro ⟨rfl, rfl, rfl, rfl⟩ (And.intro rfl ?_)))
            refine fcall _ h0 (fzs_sub (by decide +kernel) hW) hB47 (ct_M_step_2c704 (fBz h0 hB47) (by omega) (by omega) (by omega) (by omega)) ?_
            rintro IhB52 _ hB52 fhB52 ⟨rfl, hz51, g0z51⟩
            have t53 := fhB52 740 9 (by decide +kernel)
            have t54 := fhB52 740 10 (by decide +kernel)
            have t55 := fhB52 740 11 (by decide +kernel)
            have t56 := fhB52 740 13 (by decide +kernel)
            have t57 := fhB52 740 14 (by decide +kernel)
            have t58 := fhB52 740 15 (by decide +kernel)
            have k59 := fBz_eq hB52 (a := 740) (j := 8) (by decide +kernel)
            have k60 := fBz_eq hB52 (a := 740) (j := 17) (by decide +kernel)
            refine And.intro (⟨by omega, by omega⟩) ?_
            exact ⟨_, rfl, by omega, (by first | exact par_be g0z4 (fFr_S fhB40 (by decide +kernel)) g0z46 g0z51 (by omega) (by omega) (by omega) (by omega) | exact g0z4), (fun _ => by first | exact par_one (by omega) (g1z4 (by omega)) (fFr_S fhB40 (by decide +kernel)) g0z46 (g1z46 (by omega)) g0z51 (by omega) (by omega) (by omega) (by omega) (by omega) (by omega) | exact g1z4 (by omega))⟩
          · intro c61
            refine And.intro (⟨by omega, by omega⟩) ?_
            exact ⟨_, rfl, by omega, (par_bel g0z4 (fFr_S fhB40 (by decide +kernel)) g0z46 (by omega) (by omega)), (fun q => absurd q (by omega))⟩
        · intro c62
          refine Exists.intro xm_423 (And.intro mi_423 (And.intro ⟨rfl, rfl, rfl, rfl⟩ (And.intro rfl ?_)))
          refine fcallp hB5 (ct_M_isSign_90da9 (fBz h0 hB5) (by omega)) ?_
          rintro _ ⟨z63, rfl, hz63⟩
          refine And.intro (by omega) (And.intro ?_ ?_)
          · intro c64
            refine And.intro (⟨by omega, by omega⟩) ?_
            exact ⟨_, rfl, by omega, (by first | exact par_be g0z4 (fFr_S fhB40 (by decide +kernel)) g0z46 g0z51 (by omega) (by omega) (by omega) (by omega) | exact g0z4), (fun _ => by first | exact par_one (by omega) (g1z4 (by omega)) (fFr_S fhB40 (by decide +kernel)) g0z46 (g1z46 (by omega)) g0z51 (by omega) (by omega) (by omega) (by omega) (by omega) (by omega) | exact g1z4 (by omega))⟩
          · intro c65
            refine And.intro ⟨rfl, by decide, by decide⟩ (fgetf fb_740_13 h0 hB5 ?_)
            intro z66 lz66 uz66 qz66
            refine Exists.intro xm_314 (And.intro mi_314 (And.intro ⟨rfl, rfl, rfl, rfl⟩ (And.intro rfl ?_)))
            refine fcall _ h0 (fzs_sub (by decide +kernel) hW) hB5 (ct_M_next_c8003 (fBz h0 hB5) (by omega)) ?_
            rintro IhB68 _ hB68 fhB68 ⟨rfl, hz67⟩
            have t69 := fhB68 740 14 (by decide +kernel)
            have t70 := fhB68 740 15 (by decide +kernel)
            have t71 := fhB68 740 16 (by decide +kernel)
            have k72 := fBz_eq hB68 (a := 740) (j := 8) (by decide +kernel)
            have k73 := fBz_eq hB68 (a := 740) (j := 17) (by decide +kernel)
            refine Exists.intro xm_373 (And.intro mi_373 (And.intro ⟨rfl, rfl, rfl, rfl⟩ (And.intro rfl ?_)))
            refine fcall _ h0 (fzs_sub (by decide +kernel) hW) hB68 (ct_M_sum_81519 (fBz h0 hB68) (by omega) (by omega) (by omega) (by omega) (by omega)) ?_
            rintro IhB75 _ hB75 fhB75 ⟨z74, rfl, hz74, g0z74, g1z74⟩
            have k76 := fBz_eq hB75 (a := 740) (j := 8) (by decide +kernel)
            have k77 := fBz_eq hB75 (a := 740) (j := 17) (by decide +kernel)
            refine And.intro (by omega) (And.intro ?_ ?_)
            · intro c78
              refine Exists.intro xm_421 (And.intro mi_421 (And.intro ⟨rfl, rfl, rfl, rfl⟩ (And.intro rfl ?_)))
              refine fcall _ h0 (fzs_sub (by decide +kernel) hW) hB75 (ct_M_step_2c704 (fBz h0 hB75) (by omega) (by omega) (by omega) (by omega)) ?_
              rintro IhB80 _ hB80 fhB80 ⟨rfl, hz79, g0z79⟩
              have t81 := fhB80 740 9 (by decide +kernel)
              have t82 := fhB80 740 10 (by decide +kernel)
              have t83 := fhB80 740 11 (by decide +kernel)
              have t84 := fhB80 740 13 (by decide +kernel)
              have t85 := fhB80 740 14 (by decide +kernel)
              have t86 := fhB80 740 15 (by decide +kernel)
              have k87 := fBz_eq hB80 (a := 740) (j := 8) (by decide +kernel)
              have k88 := fBz_eq hB80 (a := 740) (j := 17) (by decide +kernel)
              refine And.intro (⟨by omega, by omega⟩) ?_
              exact ⟨_, rfl, by omega, (by first | exact par_be g0z4 (fFr_S fhB68 (by decide +kernel)) g0z74 g0z79 (by omega) (by omega) (by omega) (by omega) | exact g0z4), (fun _ => by first | exact par_one (by omega) (g1z4 (by omega)) (fFr_S fhB68 (by decide +kernel)) g0z74 (g1z74 (by omega)) g0z79 (by omega) (by omega) (by omega) (by omega) (by omega) (by omega) | exact g1z4 (by omega))⟩
            · intro c89
              refine And.intro (⟨by omega, by omega⟩) ?_
              exact ⟨_, rfl, by omega, (par_bel g0z4 (fFr_S fhB68 (by decide +kernel)) g0z74 (by omega) (by omega)), (fun q => absurd q (by omega))⟩
    · intro c90
      refine And.intro (⟨by omega, by omega⟩) ?_
      exact ⟨_, rfl, by omega, g0z4, (fun q => absurd q (by omega))⟩
abbrev jc_M_both_630a5_10 (I0 : fH) : Nat → fL → List fV → fH → Prop := fun m lv st I => ∃ (y1 : Int), lv = [(0, .inr (.inr (some 740))), (1, .inl y1)] ∧ st = [] ∧ ((((-1) ≤ y1 ∧ y1 ≤ 5) ∧ (I0 740 9 ≤ I 740 9) ∧ (I 740 9 ≤ I 740 10) ∧ (I 740 10 ≤ I 740 8) ∧ (I 740 11 = 0 ∨ I 740 9 < I 740 10) ∧ (I0 740 16 ≤ I 740 16) ∧ (I 740 16 - I0 740 16 ≤ I 740 9 - I0 740 9) ∧ (I 740 14 = I0 740 14) ∧ (I 740 15 = I0 740 15)) ∧ (sBe I0 I (I0 740 17) (I0 740 16)) ∧ (sOne I (I0 740 17) (I0 740 16) (I 740 16))) ∧ m = (1 + 1 * (96 - I 740 9) : Int).toNat
set_option maxRecDepth 8000 in
theorem ct_M_both_630a5 {I : fH} {x1 : Int} (h0 : fB bsJ I) (ha1 : ((-1) ≤ x1 ∧ x1 ≤ 5)) (hp0 : I 740 9 ≤ I 740 10 ∧ I 740 10 ≤ I 740 8 ∧ (I 740 11 = 0 ∨ I 740 9 < I 740 10)) (hp1 : 0 ≤ I 740 16 ∧ I 740 16 ≤ I 740 9) (hp2 : 13 ≤ I 740 14 + I 740 15) (hp3 : (1215 ≤ I 740 17 ∧ I 740 17 ≤ 3415 ∧ (I 740 17 - 1215) % 200 = 0) ∨ I 740 17 = 4700) : fC ρ base n F xTc vwCl xTys D dA la gJ (fbz bsJ znJ (fKc wz_2212a) I) xm_339 [.inr (.inr (some 740)), .inl x1] I (fun I' r => ∃ z, r = some (.inl z) ∧ ((0 ≤ z ∧ z ≤ 1) ∧ (I 740 9 ≤ I' 740 9 ∧ I' 740 9 ≤ I' 740 10 ∧ I' 740 10 ≤ I' 740 8 ∧ (I' 740 11 = 0 ∨ I' 740 9 < I' 740 10) ∧ (z = 1 → I 740 16 ≤ I' 740 16 ∧ I' 740 16 - I 740 16 ≤ I' 740 9 - I 740 9 ∧ I' 740 14 = I 740 14 ∧ I' 740 15 = I 740 15))) ∧ (sBe I I' (I 740 17) (I 740 16)) ∧ (z = 1 → sOne I' (I 740 17) (I 740 16) (I' 740 16))) := by
  have hW : fzs wz_2212a (fKc wz_2212a) := fKc_ok _
  refine f_meth (rb := rbJ) (J := [(10, (jc_M_both_630a5_10 I))]) 98 400 xG xin_339 x6_339 okJ (fB_self h0) ?_ ?_
  · refine List.forall_mem_cons.mpr ⟨?_, fun q h => absurd h List.not_mem_nil⟩
    · rintro m _ _ I1 hB1 ⟨y1, rfl, rfl, ⟨hb, hx0, hx1⟩, hm⟩
      have k1 := fBz_eq hB1 (a := 740) (j := 8) (by decide +kernel)
      have k2 := fBz_eq hB1 (a := 740) (j := 17) (by decide +kernel)
      have b3 := fBd fb_740_8 (fBz h0 hB1)
      have b4 := fBd fb_740_14 (fBz h0 hB1)
      have b5 := fBd fb_740_15 (fBz h0 hB1)
      refine Exists.intro xm_423 (And.intro mi_423 (And.intro ⟨rfl, rfl, rfl, rfl⟩ (And.intro rfl ?_)))
      refine fcallp hB1 (ct_M_isSign_90da9 (fBz h0 hB1) (by omega)) ?_
      rintro _ ⟨z6, rfl, hz6⟩
      refine And.intro (by omega) (And.intro ?_ ?_)
      · intro c7
        refine And.intro (⟨by omega, by omega⟩) ?_
        exact ⟨_, rfl, by omega, hx0, (fun _ => hx1)⟩
      · intro c8
        refine Exists.intro xm_314 (And.intro mi_314 (And.intro ⟨rfl, rfl, rfl, rfl⟩ (And.intro rfl ?_)))
        refine fcall _ h0 (fzs_sub (by decide +kernel) hW) hB1 (ct_M_next_c8003 (fBz h0 hB1) (by omega)) ?_
        rintro IhB10 _ hB10 fhB10 ⟨rfl, hz9⟩
        have t11 := fhB10 740 14 (by decide +kernel)
        have t12 := fhB10 740 15 (by decide +kernel)
        have t13 := fhB10 740 16 (by decide +kernel)
        have k14 := fBz_eq hB10 (a := 740) (j := 8) (by decide +kernel)
        have k15 := fBz_eq hB10 (a := 740) (j := 17) (by decide +kernel)
        refine Exists.intro xm_356 (And.intro mi_356 (And.intro ⟨rfl, rfl, rfl, rfl⟩ (And.intro rfl ?_)))
        refine fcall _ h0 (fzs_sub (by decide +kernel) hW) hB10 (ct_M_test_35c6b (fBz h0 hB10) (by omega) (by omega) (by omega) (by omega) (by omega)) ?_
        rintro IhB17 _ hB17 fhB17 ⟨z16, rfl, hz16, g0z16, g1z16⟩
        have k18 := fBz_eq hB17 (a := 740) (j := 8) (by decide +kernel)
        have k19 := fBz_eq hB17 (a := 740) (j := 17) (by decide +kernel)
        refine And.intro (by omega) (And.intro ?_ ?_)
        · intro c20
          refine Exists.intro xm_421 (And.intro mi_421 (And.intro ⟨rfl, rfl, rfl, rfl⟩ (And.intro rfl ?_)))
          refine fcall _ h0 (fzs_sub (by decide +kernel) hW) hB17 (ct_M_step_2c704 (fBz h0 hB17) (by omega) (by omega) (by omega) (by omega)) ?_
          rintro IhB22 _ hB22 fhB22 ⟨rfl, hz21, g0z21⟩
          have t23 := fhB22 740 9 (by decide +kernel)
          have t24 := fhB22 740 10 (by decide +kernel)
          have t25 := fhB22 740 11 (by decide +kernel)
          have t26 := fhB22 740 13 (by decide +kernel)
          have t27 := fhB22 740 14 (by decide +kernel)
          have t28 := fhB22 740 15 (by decide +kernel)
          have k29 := fBz_eq hB22 (a := 740) (j := 8) (by decide +kernel)
          have k30 := fBz_eq hB22 (a := 740) (j := 17) (by decide +kernel)
          exact fcutJ (I := IhB22) (j := (jc_M_both_630a5_10 I)) (lv' := [(0, .inr (.inr (some 740))), (1, .inl _)]) (And.intro rfl (And.intro rfl True.intro)) ⟨_, rfl, rfl, ⟨by omega, (par_be hx0 (fFr_S fhB10 (by decide +kernel)) g0z16 g0z21 (by omega) (by omega) (by omega) (by omega)), (par_one (by omega) hx1 (fFr_S fhB10 (by decide +kernel)) g0z16 (g1z16 (by omega)) g0z21 (by omega) (by omega) (by omega) (by omega) (by omega) (by omega))⟩, rfl⟩ (by omega)
        · intro c31
          refine And.intro (⟨by omega, by omega⟩) ?_
          exact ⟨_, rfl, by omega, (par_bel hx0 (fFr_S fhB10 (by decide +kernel)) g0z16 (by omega) (by omega)), (fun q => absurd q (by omega))⟩
  · have hB0 := fB_self (zn := znJ) (K := fKc wz_2212a) h0
    have b32 := fBd fb_740_8 (fBz h0 hB0)
    have b33 := fBd fb_740_14 (fBz h0 hB0)
    have b34 := fBd fb_740_15 (fBz h0 hB0)
    refine Exists.intro xm_356 (And.intro mi_356 (And.intro ⟨rfl, rfl, rfl, rfl⟩ (And.intro rfl ?_)))
    refine fcall _ h0 (fzs_sub (by decide +kernel) hW) hB0 (ct_M_test_35c6b (fBz h0 hB0) (by omega) (by omega) (by omega) (by omega) (by omega)) ?_
    rintro IhB36 _ hB36 fhB36 ⟨z35, rfl, hz35, g0z35, g1z35⟩
    have k37 := fBz_eq hB36 (a := 740) (j := 8) (by decide +kernel)
    have k38 := fBz_eq hB36 (a := 740) (j := 17) (by decide +kernel)
    refine And.intro (by omega) (And.intro ?_ ?_)
    · intro c39
      exact fcutJ (I := IhB36) (j := (jc_M_both_630a5_10 I)) (lv' := [(0, .inr (.inr (some 740))), (1, .inl _)]) (And.intro rfl (And.intro rfl True.intro)) ⟨_, rfl, rfl, ⟨by omega, g0z35, (g1z35 (by omega))⟩, rfl⟩ (by omega)
    · intro c40
      refine And.intro (⟨by omega, by omega⟩) ?_
      exact ⟨_, rfl, by omega, g0z35, (fun q => absurd q (by omega))⟩
abbrev jc_M_either_9440d_10 (I0 : fH) : Nat → fL → List fV → fH → Prop := fun m lv st I => ∃ (y1 : Int), lv = [(0, .inr (.inr (some 740))), (1, .inl y1)] ∧ st = [] ∧ ((((-1) ≤ y1 ∧ y1 ≤ 5) ∧ (I0 740 9 ≤ I 740 9) ∧ (I 740 9 ≤ I 740 10) ∧ (I 740 10 ≤ I 740 8) ∧ (I 740 11 = 0 ∨ I 740 9 < I 740 10) ∧ (I0 740 16 ≤ I 740 16) ∧ (I 740 16 - I0 740 16 ≤ I 740 9 - I0 740 9) ∧ (I 740 14 = I0 740 14) ∧ (I 740 15 = I0 740 15)) ∧ (sBe I0 I (I0 740 17) (I0 740 16)) ∧ (sOne I (I0 740 17) (I0 740 16) (I 740 16))) ∧ m = (1 + 1 * (96 - I 740 9) : Int).toNat
set_option maxRecDepth 8000 in
theorem ct_M_either_9440d {I : fH} {x1 : Int} (h0 : fB bsJ I) (ha1 : ((-1) ≤ x1 ∧ x1 ≤ 5)) (hp0 : I 740 9 ≤ I 740 10 ∧ I 740 10 ≤ I 740 8 ∧ (I 740 11 = 0 ∨ I 740 9 < I 740 10)) (hp1 : 0 ≤ I 740 16 ∧ I 740 16 ≤ I 740 9) (hp2 : 13 ≤ I 740 14 + I 740 15) (hp3 : (1215 ≤ I 740 17 ∧ I 740 17 ≤ 3415 ∧ (I 740 17 - 1215) % 200 = 0) ∨ I 740 17 = 4700) : fC ρ base n F xTc vwCl xTys D dA la gJ (fbz bsJ znJ (fKc wz_2212a) I) xm_322 [.inr (.inr (some 740)), .inl x1] I (fun I' r => ∃ z, r = some (.inl z) ∧ ((0 ≤ z ∧ z ≤ 1) ∧ (I 740 9 ≤ I' 740 9 ∧ I' 740 9 ≤ I' 740 10 ∧ I' 740 10 ≤ I' 740 8 ∧ (I' 740 11 = 0 ∨ I' 740 9 < I' 740 10) ∧ (z = 1 → I 740 16 ≤ I' 740 16 ∧ I' 740 16 - I 740 16 ≤ I' 740 9 - I 740 9 ∧ I' 740 14 = I 740 14 ∧ I' 740 15 = I 740 15))) ∧ (sBe I I' (I 740 17) (I 740 16)) ∧ (z = 1 → sOne I' (I 740 17) (I 740 16) (I' 740 16))) := by
  have hW : fzs wz_2212a (fKc wz_2212a) := fKc_ok _
  refine f_meth (rb := rbJ) (J := [(10, (jc_M_either_9440d_10 I))]) 98 400 xG xin_322 x6_322 okJ (fB_self h0) ?_ ?_
  · refine List.forall_mem_cons.mpr ⟨?_, fun q h => absurd h List.not_mem_nil⟩
    · rintro m _ _ I1 hB1 ⟨y1, rfl, rfl, ⟨hb, hx0, hx1⟩, hm⟩
      have k1 := fBz_eq hB1 (a := 740) (j := 8) (by decide +kernel)
      have k2 := fBz_eq hB1 (a := 740) (j := 17) (by decide +kernel)
      have b3 := fBd fb_740_8 (fBz h0 hB1)
      have b4 := fBd fb_740_14 (fBz h0 hB1)
      have b5 := fBd fb_740_15 (fBz h0 hB1)
      refine Exists.intro xm_423 (And.intro mi_423 (And.intro ⟨rfl, rfl, rfl, rfl⟩ (And.intro rfl ?_)))
      refine fcallp hB1 (ct_M_isSign_90da9 (fBz h0 hB1) (by omega)) ?_
      rintro _ ⟨z6, rfl, hz6⟩
      refine And.intro (by omega) (And.intro ?_ ?_)
      · intro c7
        refine And.intro (⟨by omega, by omega⟩) ?_
        exact ⟨_, rfl, by omega, hx0, (fun _ => hx1)⟩
      · intro c8
        refine Exists.intro xm_314 (And.intro mi_314 (And.intro ⟨rfl, rfl, rfl, rfl⟩ (And.intro rfl ?_)))
        refine fcall _ h0 (fzs_sub (by decide +kernel) hW) hB1 (ct_M_next_c8003 (fBz h0 hB1) (by omega)) ?_
        rintro IhB10 _ hB10 fhB10 ⟨rfl, hz9⟩
        have t11 := fhB10 740 14 (by decide +kernel)
        have t12 := fhB10 740 15 (by decide +kernel)
        have t13 := fhB10 740 16 (by decide +kernel)
        have k14 := fBz_eq hB10 (a := 740) (j := 8) (by decide +kernel)
        have k15 := fBz_eq hB10 (a := 740) (j := 17) (by decide +kernel)
        refine Exists.intro xm_339 (And.intro mi_339 (And.intro ⟨rfl, rfl, rfl, rfl⟩ (And.intro rfl ?_)))
        refine fcall _ h0 (fzs_sub (by decide +kernel) hW) hB10 (ct_M_both_630a5 (fBz h0 hB10) (by omega) (by omega) (by omega) (by omega) (by omega)) ?_
        rintro IhB17 _ hB17 fhB17 ⟨z16, rfl, hz16, g0z16, g1z16⟩
        have k18 := fBz_eq hB17 (a := 740) (j := 8) (by decide +kernel)
        have k19 := fBz_eq hB17 (a := 740) (j := 17) (by decide +kernel)
        refine And.intro (by omega) (And.intro ?_ ?_)
        · intro c20
          refine Exists.intro xm_421 (And.intro mi_421 (And.intro ⟨rfl, rfl, rfl, rfl⟩ (And.intro rfl ?_)))
          refine fcall _ h0 (fzs_sub (by decide +kernel) hW) hB17 (ct_M_step_2c704 (fBz h0 hB17) (by omega) (by omega) (by omega) (by omega)) ?_
          rintro IhB22 _ hB22 fhB22 ⟨rfl, hz21, g0z21⟩
          have t23 := fhB22 740 9 (by decide +kernel)
          have t24 := fhB22 740 10 (by decide +kernel)
          have t25 := fhB22 740 11 (by decide +kernel)
          have t26 := fhB22 740 13 (by decide +kernel)
          have t27 := fhB22 740 14 (by decide +kernel)
          have t28 := fhB22 740 15 (by decide +kernel)
          have k29 := fBz_eq hB22 (a := 740) (j := 8) (by decide +kernel)
          have k30 := fBz_eq hB22 (a := 740) (j := 17) (by decide +kernel)
          exact fcutJ (I := IhB22) (j := (jc_M_either_9440d_10 I)) (lv' := [(0, .inr (.inr (some 740))), (1, .inl _)]) (And.intro rfl (And.intro rfl True.intro)) ⟨_, rfl, rfl, ⟨by omega, (par_be hx0 (fFr_S fhB10 (by decide +kernel)) g0z16 g0z21 (by omega) (by omega) (by omega) (by omega)), (par_one (by omega) hx1 (fFr_S fhB10 (by decide +kernel)) g0z16 (g1z16 (by omega)) g0z21 (by omega) (by omega) (by omega) (by omega) (by omega) (by omega))⟩, rfl⟩ (by omega)
        · intro c31
          refine And.intro (⟨by omega, by omega⟩) ?_
          exact ⟨_, rfl, by omega, (par_bel hx0 (fFr_S fhB10 (by decide +kernel)) g0z16 (by omega) (by omega)), (fun q => absurd q (by omega))⟩
  · have hB0 := fB_self (zn := znJ) (K := fKc wz_2212a) h0
    have b32 := fBd fb_740_8 (fBz h0 hB0)
    have b33 := fBd fb_740_14 (fBz h0 hB0)
    have b34 := fBd fb_740_15 (fBz h0 hB0)
    refine Exists.intro xm_339 (And.intro mi_339 (And.intro ⟨rfl, rfl, rfl, rfl⟩ (And.intro rfl ?_)))
    refine fcall _ h0 (fzs_sub (by decide +kernel) hW) hB0 (ct_M_both_630a5 (fBz h0 hB0) (by omega) (by omega) (by omega) (by omega) (by omega)) ?_
    rintro IhB36 _ hB36 fhB36 ⟨z35, rfl, hz35, g0z35, g1z35⟩
    have k37 := fBz_eq hB36 (a := 740) (j := 8) (by decide +kernel)
    have k38 := fBz_eq hB36 (a := 740) (j := 17) (by decide +kernel)
    refine And.intro (by omega) (And.intro ?_ ?_)
    · intro c39
      exact fcutJ (I := IhB36) (j := (jc_M_either_9440d_10 I)) (lv' := [(0, .inr (.inr (some 740))), (1, .inl _)]) (And.intro rfl (And.intro rfl True.intro)) ⟨_, rfl, rfl, ⟨by omega, g0z35, (g1z35 (by omega))⟩, rfl⟩ (by omega)
    · intro c40
      refine And.intro (⟨by omega, by omega⟩) ?_
      exact ⟨_, rfl, by omega, g0z35, (fun q => absurd q (by omega))⟩
set_option maxRecDepth 8000 in
theorem ct_M_part0_30850 {I : fH} {x1 : Int} (h0 : fB bsJ I) (ha1 : ((-1) ≤ x1 ∧ x1 ≤ 5)) (hp0 : I 740 9 ≤ I 740 10 ∧ I 740 10 ≤ I 740 8 ∧ (I 740 11 = 0 ∨ I 740 9 < I 740 10)) (hp1 : 0 ≤ I 740 16 ∧ I 740 16 ≤ I 740 9) (hp2 : 12 ≤ I 740 14 + I 740 15) (hp3 : (1215 ≤ I 740 17 ∧ I 740 17 ≤ 3415 ∧ (I 740 17 - 1215) % 200 = 0) ∨ I 740 17 = 4700) : fC ρ base n F xTc vwCl xTys D dA la gJ (fbz bsJ znJ (fKc wz_2212a) I) xm_408 [.inr (.inr (some 740)), .inl x1] I (fun I' r => ∃ z, r = some (.inl z) ∧ ((0 ≤ z ∧ z ≤ 1) ∧ (I 740 9 ≤ I' 740 9 ∧ I' 740 9 ≤ I' 740 10 ∧ I' 740 10 ≤ I' 740 8 ∧ (I' 740 11 = 0 ∨ I' 740 9 < I' 740 10) ∧ (z = 1 → I 740 16 ≤ I' 740 16 ∧ I' 740 16 - I 740 16 ≤ I' 740 9 - I 740 9 ∧ I' 740 14 = I 740 14 ∧ I' 740 15 = I 740 15))) ∧ (sBe I I' (I 740 17) (I 740 16)) ∧ (z = 1 → sOne I' (I 740 17) (I 740 16) (I' 740 16))) := by
  have hW : fzs wz_2212a (fKc wz_2212a) := fKc_ok _
  refine f_meth (rb := rbJ) (J := []) 1 400 xG xin_408 x6_408 okJ (fB_self h0) ?_ ?_
  · exact fun q h => absurd h List.not_mem_nil
  · have hB0 := fB_self (zn := znJ) (K := fKc wz_2212a) h0
    have b1 := fBd fb_740_8 (fBz h0 hB0)
    have b2 := fBd fb_740_14 (fBz h0 hB0)
    have b3 := fBd fb_740_15 (fBz h0 hB0)
    refine And.intro ⟨rfl, by decide, by decide⟩ (fgetf fb_740_11 h0 hB0 ?_)
    intro z4 lz4 uz4 qz4
    refine And.intro (by omega) (And.intro ?_ ?_)
    · intro c5
      refine And.intro ⟨rfl, by decide, by decide⟩ (fgetf fb_740_11 h0 hB0 ?_)
      intro z6 lz6 uz6 qz6
      refine And.intro (by omega) (And.intro ?_ ?_)
      · intro c7
        refine Exists.intro xm_423 (And.intro mi_423 (And.intro ⟨rfl, rfl, rfl, rfl⟩ (And.intro rfl ?_)))
        refine fcallp hB0 (ct_M_isSign_90da9 (fBz h0 hB0) (by omega)) ?_
        rintro _ ⟨z8, rfl, hz8⟩
        refine And.intro (by omega) (And.intro ?_ ?_)
        · intro c9
          refine Exists.intro xm_423 (And.intro mi_423 (And.intro ⟨rfl, rfl, rfl, rfl⟩ (And.intro rfl ?_)))
          refine fcallp hB0 (ct_M_isSign_90da9 (fBz h0 hB0) (by omega)) ?_
          rintro _ ⟨z10, rfl, hz10⟩
          refine And.intro (by omega) (And.intro ?_ ?_)
          · intro c11
            refine And.intro (⟨by omega, by omega⟩) ?_
            exact ⟨_, rfl, by omega, sBe_refl, (fun q => absurd q (by omega))⟩
          · intro c12
            refine And.intro ⟨rfl, by decide, by decide⟩ (fgetf fb_740_14 h0 hB0 ?_)
            intro z13 lz13 uz13 qz13
            refine And.intro (by omega) (And.intro ?_ ?_)
            · intro c14
              refine And.intro ⟨rfl, by decide, by decide⟩ (fgetf fb_740_14 h0 hB0 ?_)
              intro z15 lz15 uz15 qz15
              refine And.intro ⟨rfl, by decide, by decide⟩ (And.intro rfl (And.intro (Or.inl rfl) (fputf fb_740_14 (by decide +kernel) hW (by omega) ?_)))
              intro IhB16 ehB16 hB16
              have t17 : IhB16 740 9 = I 740 9 := (congrFun (congrFun ehB16 740) 9).trans (fup_ne (by omega))
              have t18 : IhB16 740 10 = I 740 10 := (congrFun (congrFun ehB16 740) 10).trans (fup_ne (by omega))
              have t19 : IhB16 740 11 = I 740 11 := (congrFun (congrFun ehB16 740) 11).trans (fup_ne (by omega))
              have t20 : IhB16 740 13 = I 740 13 := (congrFun (congrFun ehB16 740) 13).trans (fup_ne (by omega))
              have t21 := fup_at ehB16 14 (by omega)
              have t22 : IhB16 740 15 = I 740 15 := (congrFun (congrFun ehB16 740) 15).trans (fup_ne (by omega))
              have t23 : IhB16 740 16 = I 740 16 := (congrFun (congrFun ehB16 740) 16).trans (fup_ne (by omega))
              have k24 := fBz_eq hB16 (a := 740) (j := 8) (by decide +kernel)
              have k25 := fBz_eq hB16 (a := 740) (j := 17) (by decide +kernel)
              refine Exists.intro xm_314 (And.intro mi_314 (And.intro ⟨rfl, rfl, rfl, rfl⟩ (And.intro rfl ?_)))
              refine fcall _ h0 (fzs_sub (by decide +kernel) hW) hB16 (ct_M_next_c8003 (fBz h0 hB16) (by omega)) ?_
              rintro IhB27 _ hB27 fhB27 ⟨rfl, hz26⟩
              have t28 := fhB27 740 14 (by decide +kernel)
              have t29 := fhB27 740 15 (by decide +kernel)
              have t30 := fhB27 740 16 (by decide +kernel)
              have k31 := fBz_eq hB27 (a := 740) (j := 8) (by decide +kernel)
              have k32 := fBz_eq hB27 (a := 740) (j := 17) (by decide +kernel)
              refine Exists.intro xm_322 (And.intro mi_322 (And.intro ⟨rfl, rfl, rfl, rfl⟩ (And.intro rfl ?_)))
              refine fcall _ h0 (fzs_sub (by decide +kernel) hW) hB27 (ct_M_either_9440d (fBz h0 hB27) (by omega) (by omega) (by omega) (by omega) (by omega)) ?_
              rintro IhB34 _ hB34 fhB34 ⟨z33, rfl, hz33, g0z33, g1z33⟩
              have k35 := fBz_eq hB34 (a := 740) (j := 8) (by decide +kernel)
              have k36 := fBz_eq hB34 (a := 740) (j := 17) (by decide +kernel)
              refine And.intro (by omega) (And.intro ?_ ?_)
              · intro c37
                refine And.intro (⟨by omega, by omega⟩) ?_
                exact ⟨_, rfl, by omega, (par_be0 (fun j => (fFr_S fhB27 (by decide +kernel) j).trans (fup_other ehB16 741 j (Or.inl (by decide)))) g0z33 (by omega) (by omega)), (fun q => absurd q (by omega))⟩
              · intro c38
                refine Exists.intro xm_423 (And.intro mi_423 (And.intro ⟨rfl, rfl, rfl, rfl⟩ (And.intro rfl ?_)))
                refine fcallp hB34 (ct_M_isSign_90da9 (fBz h0 hB34) (by omega)) ?_
                rintro _ ⟨z39, rfl, hz39⟩
                refine And.intro (by omega) (And.intro ?_ ?_)
                · intro c40
                  refine And.intro ⟨rfl, by decide, by decide⟩ (fgetf fb_740_14 h0 hB34 ?_)
                  intro z41 lz41 uz41 qz41
                  refine And.intro ⟨rfl, by decide, by decide⟩ (And.intro rfl (And.intro (Or.inl rfl) (fputf fb_740_14 (by decide +kernel) hW (by omega) ?_)))
                  intro IhB42 ehB42 hB42
                  have t43 : IhB42 740 9 = IhB34 740 9 := (congrFun (congrFun ehB42 740) 9).trans (fup_ne (by omega))
                  have t44 : IhB42 740 10 = IhB34 740 10 := (congrFun (congrFun ehB42 740) 10).trans (fup_ne (by omega))
                  have t45 : IhB42 740 11 = IhB34 740 11 := (congrFun (congrFun ehB42 740) 11).trans (fup_ne (by omega))
                  have t46 : IhB42 740 13 = IhB34 740 13 := (congrFun (congrFun ehB42 740) 13).trans (fup_ne (by omega))
                  have t47 := fup_at ehB42 14 (by omega)
                  have t48 : IhB42 740 15 = IhB34 740 15 := (congrFun (congrFun ehB42 740) 15).trans (fup_ne (by omega))
                  have t49 : IhB42 740 16 = IhB34 740 16 := (congrFun (congrFun ehB42 740) 16).trans (fup_ne (by omega))
                  have k50 := fBz_eq hB42 (a := 740) (j := 8) (by decide +kernel)
                  have k51 := fBz_eq hB42 (a := 740) (j := 17) (by decide +kernel)
                  refine Exists.intro xm_314 (And.intro mi_314 (And.intro ⟨rfl, rfl, rfl, rfl⟩ (And.intro rfl ?_)))
                  refine fcall _ h0 (fzs_sub (by decide +kernel) hW) hB42 (ct_M_next_c8003 (fBz h0 hB42) (by omega)) ?_
                  rintro IhB53 _ hB53 fhB53 ⟨rfl, hz52⟩
                  have t54 := fhB53 740 14 (by decide +kernel)
                  have t55 := fhB53 740 15 (by decide +kernel)
                  have t56 := fhB53 740 16 (by decide +kernel)
                  have k57 := fBz_eq hB53 (a := 740) (j := 8) (by decide +kernel)
                  have k58 := fBz_eq hB53 (a := 740) (j := 17) (by decide +kernel)
                  refine And.intro (⟨by omega, by omega⟩) ?_
                  exact ⟨_, rfl, by omega, (par_par (M3 := IhB53 740 16) (by omega) (fun j => (fFr_S fhB27 (by decide +kernel) j).trans (fup_other ehB16 741 j (Or.inl (by decide)))) g0z33 (g1z33 (by omega)) (fun j => (fFr_S fhB53 (by decide +kernel) j).trans (fup_other ehB42 741 j (Or.inl (by decide)))) (by omega) (by omega) (by omega)).1, (fun _ => (par_par (M3 := IhB53 740 16) (by omega) (fun j => (fFr_S fhB27 (by decide +kernel) j).trans (fup_other ehB16 741 j (Or.inl (by decide)))) g0z33 (g1z33 (by omega)) (fun j => (fFr_S fhB53 (by decide +kernel) j).trans (fup_other ehB42 741 j (Or.inl (by decide)))) (by omega) (by omega) (by omega)).2)⟩
                · intro c59
                  refine And.intro (⟨by omega, by omega⟩) ?_
                  exact ⟨_, rfl, by omega, (par_be0 (fun j => (fFr_S fhB27 (by decide +kernel) j).trans (fup_other ehB16 741 j (Or.inl (by decide)))) g0z33 (by omega) (by omega)), (fun q => absurd q (by omega))⟩
            · intro c60
              refine And.intro (⟨by omega, by omega⟩) ?_
              exact ⟨_, rfl, by omega, sBe_refl, (fun q => absurd q (by omega))⟩
        · intro c61
          refine And.intro ⟨rfl, by decide, by decide⟩ (fgetf fb_740_15 h0 hB0 ?_)
          intro z62 lz62 uz62 qz62
          refine And.intro (by omega) (And.intro ?_ ?_)
          · intro c63
            refine Exists.intro xm_423 (And.intro mi_423 (And.intro ⟨rfl, rfl, rfl, rfl⟩ (And.intro rfl ?_)))
            refine fcallp hB0 (ct_M_isSign_90da9 (fBz h0 hB0) (by omega)) ?_
            rintro _ ⟨z64, rfl, hz64⟩
            refine And.intro (by omega) (And.intro ?_ ?_)
            · intro c65
              refine And.intro (⟨by omega, by omega⟩) ?_
              exact ⟨_, rfl, by omega, sBe_refl, (fun q => absurd q (by omega))⟩
            · intro c66
              refine And.intro ⟨rfl, by decide, by decide⟩ (fgetf fb_740_14 h0 hB0 ?_)
              intro z67 lz67 uz67 qz67
              refine And.intro (by omega) (And.intro ?_ ?_)
              · intro c68
                refine And.intro ⟨rfl, by decide, by decide⟩ (fgetf fb_740_14 h0 hB0 ?_)
                intro z69 lz69 uz69 qz69
                refine And.intro ⟨rfl, by decide, by decide⟩ (And.intro rfl (And.intro (Or.inl rfl) (fputf fb_740_14 (by decide +kernel) hW (by omega) ?_)))
                intro IhB70 ehB70 hB70
                have t71 : IhB70 740 9 = I 740 9 := (congrFun (congrFun ehB70 740) 9).trans (fup_ne (by omega))
                have t72 : IhB70 740 10 = I 740 10 := (congrFun (congrFun ehB70 740) 10).trans (fup_ne (by omega))
                have t73 : IhB70 740 11 = I 740 11 := (congrFun (congrFun ehB70 740) 11).trans (fup_ne (by omega))
                have t74 : IhB70 740 13 = I 740 13 := (congrFun (congrFun ehB70 740) 13).trans (fup_ne (by omega))
                have t75 := fup_at ehB70 14 (by omega)
                have t76 : IhB70 740 15 = I 740 15 := (congrFun (congrFun ehB70 740) 15).trans (fup_ne (by omega))
                have t77 : IhB70 740 16 = I 740 16 := (congrFun (congrFun ehB70 740) 16).trans (fup_ne (by omega))
                have k78 := fBz_eq hB70 (a := 740) (j := 8) (by decide +kernel)
                have k79 := fBz_eq hB70 (a := 740) (j := 17) (by decide +kernel)
                refine Exists.intro xm_314 (And.intro mi_314 (And.intro ⟨rfl, rfl, rfl, rfl⟩ (And.intro rfl ?_)))
                refine fcall _ h0 (fzs_sub (by decide +kernel) hW) hB70 (ct_M_next_c8003 (fBz h0 hB70) (by omega)) ?_
                rintro IhB81 _ hB81 fhB81 ⟨rfl, hz80⟩
                have t82 := fhB81 740 14 (by decide +kernel)
                have t83 := fhB81 740 15 (by decide +kernel)
                have t84 := fhB81 740 16 (by decide +kernel)
                have k85 := fBz_eq hB81 (a := 740) (j := 8) (by decide +kernel)
                have k86 := fBz_eq hB81 (a := 740) (j := 17) (by decide +kernel)
                refine Exists.intro xm_322 (And.intro mi_322 (And.intro ⟨rfl, rfl, rfl, rfl⟩ (And.intro rfl ?_)))
                refine fcall _ h0 (fzs_sub (by decide +kernel) hW) hB81 (ct_M_either_9440d (fBz h0 hB81) (by omega) (by omega) (by omega) (by omega) (by omega)) ?_
                rintro IhB88 _ hB88 fhB88 ⟨z87, rfl, hz87, g0z87, g1z87⟩
                have k89 := fBz_eq hB88 (a := 740) (j := 8) (by decide +kernel)
                have k90 := fBz_eq hB88 (a := 740) (j := 17) (by decide +kernel)
                refine And.intro (by omega) (And.intro ?_ ?_)
                · intro c91
                  refine And.intro (⟨by omega, by omega⟩) ?_
                  exact ⟨_, rfl, by omega, (par_be0 (fun j => (fFr_S fhB81 (by decide +kernel) j).trans (fup_other ehB70 741 j (Or.inl (by decide)))) g0z87 (by omega) (by omega)), (fun q => absurd q (by omega))⟩
                · intro c92
                  refine Exists.intro xm_423 (And.intro mi_423 (And.intro ⟨rfl, rfl, rfl, rfl⟩ (And.intro rfl ?_)))
                  refine fcallp hB88 (ct_M_isSign_90da9 (fBz h0 hB88) (by omega)) ?_
                  rintro _ ⟨z93, rfl, hz93⟩
                  refine And.intro (by omega) (And.intro ?_ ?_)
                  · intro c94
                    refine And.intro ⟨rfl, by decide, by decide⟩ (fgetf fb_740_14 h0 hB88 ?_)
                    intro z95 lz95 uz95 qz95
                    refine And.intro ⟨rfl, by decide, by decide⟩ (And.intro rfl (And.intro (Or.inl rfl) (fputf fb_740_14 (by decide +kernel) hW (by omega) ?_)))
                    intro IhB96 ehB96 hB96
                    have t97 : IhB96 740 9 = IhB88 740 9 := (congrFun (congrFun ehB96 740) 9).trans (fup_ne (by omega))
                    have t98 : IhB96 740 10 = IhB88 740 10 := (congrFun (congrFun ehB96 740) 10).trans (fup_ne (by omega))
                    have t99 : IhB96 740 11 = IhB88 740 11 := (congrFun (congrFun ehB96 740) 11).trans (fup_ne (by omega))
                    have t100 : IhB96 740 13 = IhB88 740 13 := (congrFun (congrFun ehB96 740) 13).trans (fup_ne (by omega))
                    have t101 := fup_at ehB96 14 (by omega)
                    have t102 : IhB96 740 15 = IhB88 740 15 := (congrFun (congrFun ehB96 740) 15).trans (fup_ne (by omega))
                    have t103 : IhB96 740 16 = IhB88 740 16 := (congrFun (congrFun ehB96 740) 16).trans (fup_ne (by omega))
                    have k104 := fBz_eq hB96 (a := 740) (j := 8) (by decide +kernel)
                    have k105 := fBz_eq hB96 (a := 740) (j := 17) (by decide +kernel)
                    refine Exists.intro xm_314 (And.intro mi_314 (And.intro ⟨rfl, rfl, rfl, rfl⟩ (And.intro rfl ?_)))
                    refine fcall _ h0 (fzs_sub (by decide +kernel) hW) hB96 (ct_M_next_c8003 (fBz h0 hB96) (by omega)) ?_
                    rintro IhB107 _ hB107 fhB107 ⟨rfl, hz106⟩
                    have t108 := fhB107 740 14 (by decide +kernel)
                    have t109 := fhB107 740 15 (by decide +kernel)
                    have t110 := fhB107 740 16 (by decide +kernel)
                    have k111 := fBz_eq hB107 (a := 740) (j := 8) (by decide +kernel)
                    have k112 := fBz_eq hB107 (a := 740) (j := 17) (by decide +kernel)
                    refine And.intro (⟨by omega, by omega⟩) ?_
                    exact ⟨_, rfl, by omega, (par_par (M3 := IhB107 740 16) (by omega) (fun j => (fFr_S fhB81 (by decide +kernel) j).trans (fup_other ehB70 741 j (Or.inl (by decide)))) g0z87 (g1z87 (by omega)) (fun j => (fFr_S fhB107 (by decide +kernel) j).trans (fup_other ehB96 741 j (Or.inl (by decide)))) (by omega) (by omega) (by omega)).1, (fun _ => (par_par (M3 := IhB107 740 16) (by omega) (fun j => (fFr_S fhB81 (by decide +kernel) j).trans (fup_other ehB70 741 j (Or.inl (by decide)))) g0z87 (g1z87 (by omega)) (fun j => (fFr_S fhB107 (by decide +kernel) j).trans (fup_other ehB96 741 j (Or.inl (by decide)))) (by omega) (by omega) (by omega)).2)⟩
                  · intro c113
                    refine And.intro (⟨by omega, by omega⟩) ?_
                    exact ⟨_, rfl, by omega, (par_be0 (fun j => (fFr_S fhB81 (by decide +kernel) j).trans (fup_other ehB70 741 j (Or.inl (by decide)))) g0z87 (by omega) (by omega)), (fun q => absurd q (by omega))⟩
              · intro c114
                refine And.intro (⟨by omega, by omega⟩) ?_
                exact ⟨_, rfl, by omega, sBe_refl, (fun q => absurd q (by omega))⟩
          · intro c115
            refine And.intro ⟨rfl, by decide, by decide⟩ (fgetf fb_740_15 h0 hB0 ?_)
            intro z116 lz116 uz116 qz116
            refine And.intro ⟨rfl, by decide, by decide⟩ (And.intro rfl (And.intro (Or.inl rfl) (fputf fb_740_15 (by decide +kernel) hW (by omega) ?_)))
            intro IhB117 ehB117 hB117
            have t118 : IhB117 740 9 = I 740 9 := (congrFun (congrFun ehB117 740) 9).trans (fup_ne (by omega))
            have t119 : IhB117 740 10 = I 740 10 := (congrFun (congrFun ehB117 740) 10).trans (fup_ne (by omega))
            have t120 : IhB117 740 11 = I 740 11 := (congrFun (congrFun ehB117 740) 11).trans (fup_ne (by omega))
            have t121 : IhB117 740 13 = I 740 13 := (congrFun (congrFun ehB117 740) 13).trans (fup_ne (by omega))
            have t122 : IhB117 740 14 = I 740 14 := (congrFun (congrFun ehB117 740) 14).trans (fup_ne (by omega))
            have t123 := fup_at ehB117 15 (by omega)
            have t124 : IhB117 740 16 = I 740 16 := (congrFun (congrFun ehB117 740) 16).trans (fup_ne (by omega))
            have k125 := fBz_eq hB117 (a := 740) (j := 8) (by decide +kernel)
            have k126 := fBz_eq hB117 (a := 740) (j := 17) (by decide +kernel)
            refine Exists.intro xm_314 (And.intro mi_314 (And.intro ⟨rfl, rfl, rfl, rfl⟩ (And.intro rfl ?_)))
            refine fcall _ h0 (fzs_sub (by decide +kernel) hW) hB117 (ct_M_next_c8003 (fBz h0 hB117) (by omega)) ?_
            rintro IhB128 _ hB128 fhB128 ⟨rfl, hz127⟩
            have t129 := fhB128 740 14 (by decide +kernel)
            have t130 := fhB128 740 15 (by decide +kernel)
            have t131 := fhB128 740 16 (by decide +kernel)
            have k132 := fBz_eq hB128 (a := 740) (j := 8) (by decide +kernel)
            have k133 := fBz_eq hB128 (a := 740) (j := 17) (by decide +kernel)
            refine Exists.intro xm_407 (And.intro mi_407 (And.intro ⟨rfl, rfl, rfl, rfl⟩ (And.intro rfl ?_)))
            refine fcall _ h0 (fzs_sub (by decide +kernel) hW) hB128 (ct_M_part0_ded0c (fBz h0 hB128) (by omega) (by omega) (by omega) (by omega) (by omega)) ?_
            rintro IhB135 _ hB135 fhB135 ⟨z134, rfl, hz134, g0z134, g1z134⟩
            have k136 := fBz_eq hB135 (a := 740) (j := 8) (by decide +kernel)
            have k137 := fBz_eq hB135 (a := 740) (j := 17) (by decide +kernel)
            refine And.intro (by omega) (And.intro ?_ ?_)
            · intro c138
              refine And.intro ⟨rfl, by decide, by decide⟩ (fgetf fb_740_15 h0 hB135 ?_)
              intro z139 lz139 uz139 qz139
              refine And.intro ⟨rfl, by decide, by decide⟩ (And.intro rfl (And.intro (Or.inl rfl) (fputf fb_740_15 (by decide +kernel) hW (by omega) ?_)))
              intro IhB140 ehB140 hB140
              have t141 : IhB140 740 9 = IhB135 740 9 := (congrFun (congrFun ehB140 740) 9).trans (fup_ne (by omega))
              have t142 : IhB140 740 10 = IhB135 740 10 := (congrFun (congrFun ehB140 740) 10).trans (fup_ne (by omega))
              have t143 : IhB140 740 11 = IhB135 740 11 := (congrFun (congrFun ehB140 740) 11).trans (fup_ne (by omega))
              have t144 : IhB140 740 13 = IhB135 740 13 := (congrFun (congrFun ehB140 740) 13).trans (fup_ne (by omega))
              have t145 : IhB140 740 14 = IhB135 740 14 := (congrFun (congrFun ehB140 740) 14).trans (fup_ne (by omega))
              have t146 := fup_at ehB140 15 (by omega)
              have t147 : IhB140 740 16 = IhB135 740 16 := (congrFun (congrFun ehB140 740) 16).trans (fup_ne (by omega))
              have k148 := fBz_eq hB140 (a := 740) (j := 8) (by decide +kernel)
              have k149 := fBz_eq hB140 (a := 740) (j := 17) (by decide +kernel)
              refine Exists.intro xm_421 (And.intro mi_421 (And.intro ⟨rfl, rfl, rfl, rfl⟩ (And.intro rfl ?_)))
              refine fcall _ h0 (fzs_sub (by decide +kernel) hW) hB140 (ct_M_step_2c704 (fBz h0 hB140) (by omega) (by omega) (by omega) (by omega)) ?_
              rintro IhB151 _ hB151 fhB151 ⟨rfl, hz150, g0z150⟩
              have t152 := fhB151 740 9 (by decide +kernel)
              have t153 := fhB151 740 10 (by decide +kernel)
              have t154 := fhB151 740 11 (by decide +kernel)
              have t155 := fhB151 740 13 (by decide +kernel)
              have t156 := fhB151 740 14 (by decide +kernel)
              have t157 := fhB151 740 15 (by decide +kernel)
              have k158 := fBz_eq hB151 (a := 740) (j := 8) (by decide +kernel)
              have k159 := fBz_eq hB151 (a := 740) (j := 17) (by decide +kernel)
              refine And.intro (⟨by omega, by omega⟩) ?_
              exact ⟨_, rfl, by omega, (par_not (M3 := IhB151 740 16) (by omega) (fun j => (fFr_S fhB128 (by decide +kernel) j).trans (fup_other ehB117 741 j (Or.inl (by decide)))) g0z134 (g1z134 (by omega)) (fun j => fup_other ehB140 741 j (Or.inl (by decide))) g0z150 (by omega) (by omega) (by omega) (by omega) (by omega) (by omega)).1, (fun _ => (par_not (M3 := IhB151 740 16) (by omega) (fun j => (fFr_S fhB128 (by decide +kernel) j).trans (fup_other ehB117 741 j (Or.inl (by decide)))) g0z134 (g1z134 (by omega)) (fun j => fup_other ehB140 741 j (Or.inl (by decide))) g0z150 (by omega) (by omega) (by omega) (by omega) (by omega) (by omega)).2)⟩
            · intro c160
              refine And.intro (⟨by omega, by omega⟩) ?_
              exact ⟨_, rfl, by omega, (par_be0 (fun j => (fFr_S fhB128 (by decide +kernel) j).trans (fup_other ehB117 741 j (Or.inl (by decide)))) g0z134 (by omega) (by omega)), (fun q => absurd q (by omega))⟩
      · intro c161
        refine And.intro ⟨rfl, by decide, by decide⟩ (fgetf fb_740_13 h0 hB0 ?_)
        intro z162 lz162 uz162 qz162
        refine And.intro (by omega) (And.intro ?_ ?_)
        · intro c163
          refine Exists.intro xm_423 (And.intro mi_423 (And.intro ⟨rfl, rfl, rfl, rfl⟩ (And.intro rfl ?_)))
          refine fcallp hB0 (ct_M_isSign_90da9 (fBz h0 hB0) (by omega)) ?_
          rintro _ ⟨z164, rfl, hz164⟩
          refine And.intro (by omega) (And.intro ?_ ?_)
          · intro c165
            refine Exists.intro xm_423 (And.intro mi_423 (And.intro ⟨rfl, rfl, rfl, rfl⟩ (And.intro rfl ?_)))
            refine fcallp hB0 (ct_M_isSign_90da9 (fBz h0 hB0) (by omega)) ?_
            rintro _ ⟨z166, rfl, hz166⟩
            refine And.intro (by omega) (And.intro ?_ ?_)
            · intro c167
              refine And.intro (⟨by omega, by omega⟩) ?_
              exact ⟨_, rfl, by omega, sBe_refl, (fun q => absurd q (by omega))⟩
            · intro c168
              refine And.intro ⟨rfl, by decide, by decide⟩ (fgetf fb_740_14 h0 hB0 ?_)
              intro z169 lz169 uz169 qz169
              refine And.intro (by omega) (And.intro ?_ ?_)
              · intro c170
                refine And.intro ⟨rfl, by decide, by decide⟩ (fgetf fb_740_14 h0 hB0 ?_)
                intro z171 lz171 uz171 qz171
                refine And.intro ⟨rfl, by decide, by decide⟩ (And.intro rfl (And.intro (Or.inl rfl) (fputf fb_740_14 (by decide +kernel) hW (by omega) ?_)))
                intro IhB172 ehB172 hB172
                have t173 : IhB172 740 9 = I 740 9 := (congrFun (congrFun ehB172 740) 9).trans (fup_ne (by omega))
                have t174 : IhB172 740 10 = I 740 10 := (congrFun (congrFun ehB172 740) 10).trans (fup_ne (by omega))
                have t175 : IhB172 740 11 = I 740 11 := (congrFun (congrFun ehB172 740) 11).trans (fup_ne (by omega))
                have t176 : IhB172 740 13 = I 740 13 := (congrFun (congrFun ehB172 740) 13).trans (fup_ne (by omega))
                have t177 := fup_at ehB172 14 (by omega)
                have t178 : IhB172 740 15 = I 740 15 := (congrFun (congrFun ehB172 740) 15).trans (fup_ne (by omega))
                have t179 : IhB172 740 16 = I 740 16 := (congrFun (congrFun ehB172 740) 16).trans (fup_ne (by omega))
                have k180 := fBz_eq hB172 (a := 740) (j := 8) (by decide +kernel)
                have k181 := fBz_eq hB172 (a := 740) (j := 17) (by decide +kernel)
                refine Exists.intro xm_314 (And.intro mi_314 (And.intro ⟨rfl, rfl, rfl, rfl⟩ (And.intro rfl ?_)))
                refine fcall _ h0 (fzs_sub (by decide +kernel) hW) hB172 (ct_M_next_c8003 (fBz h0 hB172) (by omega)) ?_
                rintro IhB183 _ hB183 fhB183 ⟨rfl, hz182⟩
                have t184 := fhB183 740 14 (by decide +kernel)
                have t185 := fhB183 740 15 (by decide +kernel)
                have t186 := fhB183 740 16 (by decide +kernel)
                have k187 := fBz_eq hB183 (a := 740) (j := 8) (by decide +kernel)
                have k188 := fBz_eq hB183 (a := 740) (j := 17) (by decide +kernel)
                refine Exists.intro xm_322 (And.intro mi_322 (And.intro ⟨rfl, rfl, rfl, rfl⟩ (And.intro rfl ?_)))
                refine fcall _ h0 (fzs_sub (by decide +kernel) hW) hB183 (ct_M_either_9440d (fBz h0 hB183) (by omega) (by omega) (by omega) (by omega) (by omega)) ?_
                rintro IhB190 _ hB190 fhB190 ⟨z189, rfl, hz189, g0z189, g1z189⟩
                have k191 := fBz_eq hB190 (a := 740) (j := 8) (by decide +kernel)
                have k192 := fBz_eq hB190 (a := 740) (j := 17) (by decide +kernel)
                refine And.intro (by omega) (And.intro ?_ ?_)
                · intro c193
                  refine And.intro (⟨by omega, by omega⟩) ?_
                  exact ⟨_, rfl, by omega, (par_be0 (fun j => (fFr_S fhB183 (by decide +kernel) j).trans (fup_other ehB172 741 j (Or.inl (by decide)))) g0z189 (by omega) (by omega)), (fun q => absurd q (by omega))⟩
                · intro c194
                  refine Exists.intro xm_423 (And.intro mi_423 (And.intro ⟨rfl, rfl, rfl, rfl⟩ (And.intro rfl ?_)))
                  refine fcallp hB190 (ct_M_isSign_90da9 (fBz h0 hB190) (by omega)) ?_
                  rintro _ ⟨z195, rfl, hz195⟩
                  refine And.intro (by omega) (And.intro ?_ ?_)
                  · intro c196
                    refine And.intro ⟨rfl, by decide, by decide⟩ (fgetf fb_740_14 h0 hB190 ?_)
                    intro z197 lz197 uz197 qz197
                    refine And.intro ⟨rfl, by decide, by decide⟩ (And.intro rfl (And.intro (Or.inl rfl) (fputf fb_740_14 (by decide +kernel) hW (by omega) ?_)))
                    intro IhB198 ehB198 hB198
                    have t199 : IhB198 740 9 = IhB190 740 9 := (congrFun (congrFun ehB198 740) 9).trans (fup_ne (by omega))
                    have t200 : IhB198 740 10 = IhB190 740 10 := (congrFun (congrFun ehB198 740) 10).trans (fup_ne (by omega))
                    have t201 : IhB198 740 11 = IhB190 740 11 := (congrFun (congrFun ehB198 740) 11).trans (fup_ne (by omega))
                    have t202 : IhB198 740 13 = IhB190 740 13 := (congrFun (congrFun ehB198 740) 13).trans (fup_ne (by omega))
                    have t203 := fup_at ehB198 14 (by omega)
                    have t204 : IhB198 740 15 = IhB190 740 15 := (congrFun (congrFun ehB198 740) 15).trans (fup_ne (by omega))
                    have t205 : IhB198 740 16 = IhB190 740 16 := (congrFun (congrFun ehB198 740) 16).trans (fup_ne (by omega))
                    have k206 := fBz_eq hB198 (a := 740) (j := 8) (by decide +kernel)
                    have k207 := fBz_eq hB198 (a := 740) (j := 17) (by decide +kernel)
                    refine Exists.intro xm_314 (And.intro mi_314 (And.intro ⟨rfl, rfl, rfl, rfl⟩ (And.intro rfl ?_)))
                    refine fcall _ h0 (fzs_sub (by decide +kernel) hW) hB198 (ct_M_next_c8003 (fBz h0 hB198) (by omega)) ?_
                    rintro IhB209 _ hB209 fhB209 ⟨rfl, hz208⟩
                    have t210 := fhB209 740 14 (by decide +kernel)
                    have t211 := fhB209 740 15 (by decide +kernel)
                    have t212 := fhB209 740 16 (by decide +kernel)
                    have k213 := fBz_eq hB209 (a := 740) (j := 8) (by decide +kernel)
                    have k214 := fBz_eq hB209 (a := 740) (j := 17) (by decide +kernel)
                    refine And.intro (⟨by omega, by omega⟩) ?_
                    exact ⟨_, rfl, by omega, (par_par (M3 := IhB209 740 16) (by omega) (fun j => (fFr_S fhB183 (by decide +kernel) j).trans (fup_other ehB172 741 j (Or.inl (by decide)))) g0z189 (g1z189 (by omega)) (fun j => (fFr_S fhB209 (by decide +kernel) j).trans (fup_other ehB198 741 j (Or.inl (by decide)))) (by omega) (by omega) (by omega)).1, (fun _ => (par_par (M3 := IhB209 740 16) (by omega) (fun j => (fFr_S fhB183 (by decide +kernel) j).trans (fup_other ehB172 741 j (Or.inl (by decide)))) g0z189 (g1z189 (by omega)) (fun j => (fFr_S fhB209 (by decide +kernel) j).trans (fup_other ehB198 741 j (Or.inl (by decide)))) (by omega) (by omega) (by omega)).2)⟩
                  · intro c215
                    refine And.intro (⟨by omega, by omega⟩) ?_
                    exact ⟨_, rfl, by omega, (par_be0 (fun j => (fFr_S fhB183 (by decide +kernel) j).trans (fup_other ehB172 741 j (Or.inl (by decide)))) g0z189 (by omega) (by omega)), (fun q => absurd q (by omega))⟩
              · intro c216
                refine And.intro (⟨by omega, by omega⟩) ?_
                exact ⟨_, rfl, by omega, sBe_refl, (fun q => absurd q (by omega))⟩
          · intro c217
            refine And.intro ⟨rfl, by decide, by decide⟩ (fgetf fb_740_15 h0 hB0 ?_)
            intro z218 lz218 uz218 qz218
            refine And.intro (by omega) (And.intro ?_ ?_)
            · intro c219
              refine Exists.intro xm_423 (And.intro mi_423 (And.intro ⟨rfl, rfl, rfl, rfl⟩ (And.intro rfl ?_)))
              refine fcallp hB0 (ct_M_isSign_90da9 (fBz h0 hB0) (by omega)) ?_
              rintro _ ⟨z220, rfl, hz220⟩
              refine And.intro (by omega) (And.intro ?_ ?_)
              · intro c221
                refine And.intro (⟨by omega, by omega⟩) ?_
                exact ⟨_, rfl, by omega, sBe_refl, (fun q => absurd q (by omega))⟩
              · intro c222
                refine And.intro ⟨rfl, by decide, by decide⟩ (fgetf fb_740_14 h0 hB0 ?_)
                intro z223 lz223 uz223 qz223
                refine And.intro (by omega) (And.intro ?_ ?_)
                · intro c224
                  refine And.intro ⟨rfl, by decide, by decide⟩ (fgetf fb_740_14 h0 hB0 ?_)
                  intro z225 lz225 uz225 qz225
                  refine And.intro ⟨rfl, by decide, by decide⟩ (And.intro rfl (And.intro (Or.inl rfl) (fputf fb_740_14 (by decide +kernel) hW (by omega) ?_)))
                  intro IhB226 ehB226 hB226
                  have t227 : IhB226 740 9 = I 740 9 := (congrFun (congrFun ehB226 740) 9).trans (fup_ne (by omega))
                  have t228 : IhB226 740 10 = I 740 10 := (congrFun (congrFun ehB226 740) 10).trans (fup_ne (by omega))
                  have t229 : IhB226 740 11 = I 740 11 := (congrFun (congrFun ehB226 740) 11).trans (fup_ne (by omega))
                  have t230 : IhB226 740 13 = I 740 13 := (congrFun (congrFun ehB226 740) 13).trans (fup_ne (by omega))
                  have t231 := fup_at ehB226 14 (by omega)
                  have t232 : IhB226 740 15 = I 740 15 := (congrFun (congrFun ehB226 740) 15).trans (fup_ne (by omega))
                  have t233 : IhB226 740 16 = I 740 16 := (congrFun (congrFun ehB226 740) 16).trans (fup_ne (by omega))
                  have k234 := fBz_eq hB226 (a := 740) (j := 8) (by decide +kernel)
                  have k235 := fBz_eq hB226 (a := 740) (j := 17) (by decide +kernel)
                  refine Exists.intro xm_314 (And.intro mi_314 (And.intro ⟨rfl, rfl, rfl, rfl⟩ (And.intro rfl ?_)))
                  refine fcall _ h0 (fzs_sub (by decide +kernel) hW) hB226 (ct_M_next_c8003 (fBz h0 hB226) (by omega)) ?_
                  rintro IhB237 _ hB237 fhB237 ⟨rfl, hz236⟩
                  have t238 := fhB237 740 14 (by decide +kernel)
                  have t239 := fhB237 740 15 (by decide +kernel)
                  have t240 := fhB237 740 16 (by decide +kernel)
                  have k241 := fBz_eq hB237 (a := 740) (j := 8) (by decide +kernel)
                  have k242 := fBz_eq hB237 (a := 740) (j := 17) (by decide +kernel)
                  refine Exists.intro xm_322 (And.intro mi_322 (And.intro ⟨rfl, rfl, rfl, rfl⟩ (And.intro rfl ?_)))
                  refine fcall _ h0 (fzs_sub (by decide +kernel) hW) hB237 (ct_M_either_9440d (fBz h0 hB237) (by omega) (by omega) (by omega) (by omega) (by omega)) ?_
                  rintro IhB244 _ hB244 fhB244 ⟨z243, rfl, hz243, g0z243, g1z243⟩
                  have k245 := fBz_eq hB244 (a := 740) (j := 8) (by decide +kernel)
                  have k246 := fBz_eq hB244 (a := 740) (j := 17) (by decide +kernel)
                  refine And.intro (by omega) (And.intro ?_ ?_)
                  · intro c247
                    refine And.intro (⟨by omega, by omega⟩) ?_
                    exact ⟨_, rfl, by omega, (par_be0 (fun j => (fFr_S fhB237 (by decide +kernel) j).trans (fup_other ehB226 741 j (Or.inl (by decide)))) g0z243 (by omega) (by omega)), (fun q => absurd q (by omega))⟩
                  · intro c248
                    refine Exists.intro xm_423 (And.intro mi_423 (And.intro ⟨rfl, rfl, rfl, rfl⟩ (And.intro rfl ?_)))
                    refine fcallp hB244 (ct_M_isSign_90da9 (fBz h0 hB244) (by omega)) ?_
                    rintro _ ⟨z249, rfl, hz249⟩
                    refine And.intro (by omega) (And.intro ?_ ?_)
                    · intro c250
                      refine And.intro ⟨rfl, by decide, by decide⟩ (fgetf fb_740_14 h0 hB244 ?_)
                      intro z251 lz251 uz251 qz251
                      refine And.intro ⟨rfl, by decide, by decide⟩ (And.intro rfl (And.intro (Or.inl rfl) (fputf fb_740_14 (by decide +kernel) hW (by omega) ?_)))
                      intro IhB252 ehB252 hB252
                      have t253 : IhB252 740 9 = IhB244 740 9 := (congrFun (congrFun ehB252 740) 9).trans (fup_ne (by omega))
                      have t254 : IhB252 740 10 = IhB244 740 10 := (congrFun (congrFun ehB252 740) 10).trans (fup_ne (by omega))
                      have t255 : IhB252 740 11 = IhB244 740 11 := (congrFun (congrFun ehB252 740) 11).trans (fup_ne (by omega))
                      have t256 : IhB252 740 13 = IhB244 740 13 := (congrFun (congrFun ehB252 740) 13).trans (fup_ne (by omega))
                      have t257 := fup_at ehB252 14 (by omega)
                      have t258 : IhB252 740 15 = IhB244 740 15 := (congrFun (congrFun ehB252 740) 15).trans (fup_ne (by omega))
                      have t259 : IhB252 740 16 = IhB244 740 16 := (congrFun (congrFun ehB252 740) 16).trans (fup_ne (by omega))
                      have k260 := fBz_eq hB252 (a := 740) (j := 8) (by decide +kernel)
                      have k261 := fBz_eq hB252 (a := 740) (j := 17) (by decide +kernel)
                      refine Exists.intro xm_314 (And.intro mi_314 (And.intro ⟨rfl, rfl, rfl, rfl⟩ (And.intro rfl ?_)))
                      refine fcall _ h0 (fzs_sub (by decide +kernel) hW) hB252 (ct_M_next_c8003 (fBz h0 hB252) (by omega)) ?_
                      rintro IhB263 _ hB263 fhB263 ⟨rfl, hz262⟩
                      have t264 := fhB263 740 14 (by decide +kernel)
                      have t265 := fhB263 740 15 (by decide +kernel)
                      have t266 := fhB263 740 16 (by decide +kernel)
                      have k267 := fBz_eq hB263 (a := 740) (j := 8) (by decide +kernel)
                      have k268 := fBz_eq hB263 (a := 740) (j := 17) (by decide +kernel)
                      refine And.intro (⟨by omega, by omega⟩) ?_
                      exact ⟨_, rfl, by omega, (par_par (M3 := IhB263 740 16) (by omega) (fun j => (fFr_S fhB237 (by decide +kernel) j).trans (fup_other ehB226 741 j (Or.inl (by decide)))) g0z243 (g1z243 (by omega)) (fun j => (fFr_S fhB263 (by decide +kernel) j).trans (fup_other ehB252 741 j (Or.inl (by decide)))) (by omega) (by omega) (by omega)).1, (fun _ => (par_par (M3 := IhB263 740 16) (by omega) (fun j => (fFr_S fhB237 (by decide +kernel) j).trans (fup_other ehB226 741 j (Or.inl (by decide)))) g0z243 (g1z243 (by omega)) (fun j => (fFr_S fhB263 (by decide +kernel) j).trans (fup_other ehB252 741 j (Or.inl (by decide)))) (by omega) (by omega) (by omega)).2)⟩
                    · intro c269
                      refine And.intro (⟨by omega, by omega⟩) ?_
                      exact ⟨_, rfl, by omega, (par_be0 (fun j => (fFr_S fhB237 (by decide +kernel) j).trans (fup_other ehB226 741 j (Or.inl (by decide)))) g0z243 (by omega) (by omega)), (fun q => absurd q (by omega))⟩
                · intro c270
                  refine And.intro (⟨by omega, by omega⟩) ?_
                  exact ⟨_, rfl, by omega, sBe_refl, (fun q => absurd q (by omega))⟩
            · intro c271
              refine And.intro ⟨rfl, by decide, by decide⟩ (fgetf fb_740_15 h0 hB0 ?_)
              intro z272 lz272 uz272 qz272
              refine And.intro ⟨rfl, by decide, by decide⟩ (And.intro rfl (And.intro (Or.inl rfl) (fputf fb_740_15 (by decide +kernel) hW (by omega) ?_)))
              intro IhB273 ehB273 hB273
              have t274 : IhB273 740 9 = I 740 9 := (congrFun (congrFun ehB273 740) 9).trans (fup_ne (by omega))
              have t275 : IhB273 740 10 = I 740 10 := (congrFun (congrFun ehB273 740) 10).trans (fup_ne (by omega))
              have t276 : IhB273 740 11 = I 740 11 := (congrFun (congrFun ehB273 740) 11).trans (fup_ne (by omega))
              have t277 : IhB273 740 13 = I 740 13 := (congrFun (congrFun ehB273 740) 13).trans (fup_ne (by omega))
              have t278 : IhB273 740 14 = I 740 14 := (congrFun (congrFun ehB273 740) 14).trans (fup_ne (by omega))
              have t279 := fup_at ehB273 15 (by omega)
              have t280 : IhB273 740 16 = I 740 16 := (congrFun (congrFun ehB273 740) 16).trans (fup_ne (by omega))
              have k281 := fBz_eq hB273 (a := 740) (j := 8) (by decide +kernel)
              have k282 := fBz_eq hB273 (a := 740) (j := 17) (by decide +kernel)
              refine Exists.intro xm_314 (And.intro mi_314 (And.intro ⟨rfl, rfl, rfl, rfl⟩ (And.intro rfl ?_)))
              refine fcall _ h0 (fzs_sub (by decide +kernel) hW) hB273 (ct_M_next_c8003 (fBz h0 hB273) (by omega)) ?_
              rintro IhB284 _ hB284 fhB284 ⟨rfl, hz283⟩
              have t285 := fhB284 740 14 (by decide +kernel)
              have t286 := fhB284 740 15 (by decide +kernel)
              have t287 := fhB284 740 16 (by decide +kernel)
              have k288 := fBz_eq hB284 (a := 740) (j := 8) (by decide +kernel)
              have k289 := fBz_eq hB284 (a := 740) (j := 17) (by decide +kernel)
              refine Exists.intro xm_407 (And.intro mi_407 (And.intro ⟨rfl, rfl, rfl, rfl⟩ (And.intro rfl ?_)))
              refine fcall _ h0 (fzs_sub (by decide +kernel) hW) hB284 (ct_M_part0_ded0c (fBz h0 hB284) (by omega) (by omega) (by omega) (by omega) (by omega)) ?_
              rintro IhB291 _ hB291 fhB291 ⟨z290, rfl, hz290, g0z290, g1z290⟩
              have k292 := fBz_eq hB291 (a := 740) (j := 8) (by decide +kernel)
              have k293 := fBz_eq hB291 (a := 740) (j := 17) (by decide +kernel)
              refine And.intro (by omega) (And.intro ?_ ?_)
              · intro c294
                refine And.intro ⟨rfl, by decide, by decide⟩ (fgetf fb_740_15 h0 hB291 ?_)
                intro z295 lz295 uz295 qz295
                refine And.intro ⟨rfl, by decide, by decide⟩ (And.intro rfl (And.intro (Or.inl rfl) (fputf fb_740_15 (by decide +kernel) hW (by omega) ?_)))
                intro IhB296 ehB296 hB296
                have t297 : IhB296 740 9 = IhB291 740 9 := (congrFun (congrFun ehB296 740) 9).trans (fup_ne (by omega))
                have t298 : IhB296 740 10 = IhB291 740 10 := (congrFun (congrFun ehB296 740) 10).trans (fup_ne (by omega))
                have t299 : IhB296 740 11 = IhB291 740 11 := (congrFun (congrFun ehB296 740) 11).trans (fup_ne (by omega))
                have t300 : IhB296 740 13 = IhB291 740 13 := (congrFun (congrFun ehB296 740) 13).trans (fup_ne (by omega))
                have t301 : IhB296 740 14 = IhB291 740 14 := (congrFun (congrFun ehB296 740) 14).trans (fup_ne (by omega))
                have t302 := fup_at ehB296 15 (by omega)
                have t303 : IhB296 740 16 = IhB291 740 16 := (congrFun (congrFun ehB296 740) 16).trans (fup_ne (by omega))
                have k304 := fBz_eq hB296 (a := 740) (j := 8) (by decide +kernel)
                have k305 := fBz_eq hB296 (a := 740) (j := 17) (by decide +kernel)
                refine Exists.intro xm_421 (And.intro mi_421 (And.intro ⟨rfl, rfl, rfl, rfl⟩ (And.intro rfl ?_)))
                refine fcall _ h0 (fzs_sub (by decide +kernel) hW) hB296 (ct_M_step_2c704 (fBz h0 hB296) (by omega) (by omega) (by omega) (by omega)) ?_
                rintro IhB307 _ hB307 fhB307 ⟨rfl, hz306, g0z306⟩
                have t308 := fhB307 740 9 (by decide +kernel)
                have t309 := fhB307 740 10 (by decide +kernel)
                have t310 := fhB307 740 11 (by decide +kernel)
                have t311 := fhB307 740 13 (by decide +kernel)
                have t312 := fhB307 740 14 (by decide +kernel)
                have t313 := fhB307 740 15 (by decide +kernel)
                have k314 := fBz_eq hB307 (a := 740) (j := 8) (by decide +kernel)
                have k315 := fBz_eq hB307 (a := 740) (j := 17) (by decide +kernel)
                refine And.intro (⟨by omega, by omega⟩) ?_
                exact ⟨_, rfl, by omega, (par_not (M3 := IhB307 740 16) (by omega) (fun j => (fFr_S fhB284 (by decide +kernel) j).trans (fup_other ehB273 741 j (Or.inl (by decide)))) g0z290 (g1z290 (by omega)) (fun j => fup_other ehB296 741 j (Or.inl (by decide))) g0z306 (by omega) (by omega) (by omega) (by omega) (by omega) (by omega)).1, (fun _ => (par_not (M3 := IhB307 740 16) (by omega) (fun j => (fFr_S fhB284 (by decide +kernel) j).trans (fup_other ehB273 741 j (Or.inl (by decide)))) g0z290 (g1z290 (by omega)) (fun j => fup_other ehB296 741 j (Or.inl (by decide))) g0z306 (by omega) (by omega) (by omega) (by omega) (by omega) (by omega)).2)⟩
              · intro c316
                refine And.intro (⟨by omega, by omega⟩) ?_
                exact ⟨_, rfl, by omega, (par_be0 (fun j => (fFr_S fhB284 (by decide +kernel) j).trans (fup_other ehB273 741 j (Or.inl (by decide)))) g0z290 (by omega) (by omega)), (fun q => absurd q (by omega))⟩
        · intro c317
          refine And.intro ⟨rfl, by decide, by decide⟩ (fgetf fb_740_13 h0 hB0 ?_)
          intro z318 lz318 uz318 qz318
          refine Exists.intro xm_422 (And.intro mi_422 (And.intro ⟨rfl, rfl, rfl, rfl⟩ (And.intro True.intro ?_)))
          refine fcallp hB0 (ct_M_isName_49450 (fBz h0 hB0) (by omega) (by omega)) ?_
          rintro _ ⟨z319, rfl, hz319⟩
          refine And.intro (by omega) (And.intro ?_ ?_)
          · intro c320
            refine Exists.intro xm_423 (And.intro mi_423 (And.intro ⟨rfl, rfl, rfl, rfl⟩ (And.intro rfl ?_)))
            refine fcallp hB0 (ct_M_isSign_90da9 (fBz h0 hB0) (by omega)) ?_
            rintro _ ⟨z321, rfl, hz321⟩
            refine And.intro (by omega) (And.intro ?_ ?_)
            · intro c322
              refine Exists.intro xm_423 (And.intro mi_423 (And.intro ⟨rfl, rfl, rfl, rfl⟩ (And.intro rfl ?_)))
              refine fcallp hB0 (ct_M_isSign_90da9 (fBz h0 hB0) (by omega)) ?_
              rintro _ ⟨z323, rfl, hz323⟩
              refine And.intro (by omega) (And.intro ?_ ?_)
              · intro c324
                refine And.intro (⟨by omega, by omega⟩) ?_
                exact ⟨_, rfl, by omega, sBe_refl, (fun q => absurd q (by omega))⟩
              · intro c325
                refine And.intro ⟨rfl, by decide, by decide⟩ (fgetf fb_740_14 h0 hB0 ?_)
                intro z326 lz326 uz326 qz326
                refine And.intro (by omega) (And.intro ?_ ?_)
                · intro c327
                  refine And.intro ⟨rfl, by decide, by decide⟩ (fgetf fb_740_14 h0 hB0 ?_)
                  intro z328 lz328 uz328 qz328
                  refine And.intro ⟨rfl, by decide, by decide⟩ (And.intro rfl (And.intro (Or.inl rfl) (fputf fb_740_14 (by decide +kernel) hW (by omega) ?_)))
                  intro IhB329 ehB329 hB329
                  have t330 : IhB329 740 9 = I 740 9 := (congrFun (congrFun ehB329 740) 9).trans (fup_ne (by omega))
                  have t331 : IhB329 740 10 = I 740 10 := (congrFun (congrFun ehB329 740) 10).trans (fup_ne (by omega))
                  have t332 : IhB329 740 11 = I 740 11 := (congrFun (congrFun ehB329 740) 11).trans (fup_ne (by omega))
                  have t333 : IhB329 740 13 = I 740 13 := (congrFun (congrFun ehB329 740) 13).trans (fup_ne (by omega))
                  have t334 := fup_at ehB329 14 (by omega)
                  have t335 : IhB329 740 15 = I 740 15 := (congrFun (congrFun ehB329 740) 15).trans (fup_ne (by omega))
                  have t336 : IhB329 740 16 = I 740 16 := (congrFun (congrFun ehB329 740) 16).trans (fup_ne (by omega))
                  have k337 := fBz_eq hB329 (a := 740) (j := 8) (by decide +kernel)
                  have k338 := fBz_eq hB329 (a := 740) (j := 17) (by decide +kernel)
                  refine Exists.intro xm_314 (And.intro mi_314 (And.intro ⟨rfl, rfl, rfl, rfl⟩ (And.intro rfl ?_)))
                  refine fcall _ h0 (fzs_sub (by decide +kernel) hW) hB329 (ct_M_next_c8003 (fBz h0 hB329) (by omega)) ?_
                  rintro IhB340 _ hB340 fhB340 ⟨rfl, hz339⟩
                  have t341 := fhB340 740 14 (by decide +kernel)
                  have t342 := fhB340 740 15 (by decide +kernel)
                  have t343 := fhB340 740 16 (by decide +kernel)
                  have k344 := fBz_eq hB340 (a := 740) (j := 8) (by decide +kernel)
                  have k345 := fBz_eq hB340 (a := 740) (j := 17) (by decide +kernel)
                  refine Exists.intro xm_322 (And.intro mi_322 (And.intro ⟨rfl, rfl, rfl, rfl⟩ (And.intro rfl ?_)))
                  refine fcall _ h0 (fzs_sub (by decide +kernel) hW) hB340 (ct_M_either_9440d (fBz h0 hB340) (by omega) (by omega) (by omega) (by omega) (by omega)) ?_
                  rintro IhB347 _ hB347 fhB347 ⟨z346, rfl, hz346, g0z346, g1z346⟩
                  have k348 := fBz_eq hB347 (a := 740) (j := 8) (by decide +kernel)
                  have k349 := fBz_eq hB347 (a := 740) (j := 17) (by decide +kernel)
                  refine And.intro (by omega) (And.intro ?_ ?_)
                  · intro c350
                    refine And.intro (⟨by omega, by omega⟩) ?_
                    exact ⟨_, rfl, by omega, (par_be0 (fun j => (fFr_S fhB340 (by decide +kernel) j).trans (fup_other ehB329 741 j (Or.inl (by decide)))) g0z346 (by omega) (by omega)), (fun q => absurd q (by omega))⟩
                  · intro c351
                    refine Exists.intro xm_423 (And.intro mi_423 (And.intro ⟨rfl, rfl, rfl, rfl⟩ (And.intro rfl ?_)))
                    refine fcallp hB347 (ct_M_isSign_90da9 (fBz h0 hB347) (by omega)) ?_
                    rintro _ ⟨z352, rfl, hz352⟩
                    refine And.intro (by omega) (And.intro ?_ ?_)
                    · intro c353
                      refine And.intro ⟨rfl, by decide, by decide⟩ (fgetf fb_740_14 h0 hB347 ?_)
                      intro z354 lz354 uz354 qz354
                      refine And.intro ⟨rfl, by decide, by decide⟩ (And.intro rfl (And.intro (Or.inl rfl) (fputf fb_740_14 (by decide +kernel) hW (by omega) ?_)))
                      intro IhB355 ehB355 hB355
                      have t356 : IhB355 740 9 = IhB347 740 9 := (congrFun (congrFun ehB355 740) 9).trans (fup_ne (by omega))
                      have t357 : IhB355 740 10 = IhB347 740 10 := (congrFun (congrFun ehB355 740) 10).trans (fup_ne (by omega))
                      have t358 : IhB355 740 11 = IhB347 740 11 := (congrFun (congrFun ehB355 740) 11).trans (fup_ne (by omega))
                      have t359 : IhB355 740 13 = IhB347 740 13 := (congrFun (congrFun ehB355 740) 13).trans (fup_ne (by omega))
                      have t360 := fup_at ehB355 14 (by omega)
                      have t361 : IhB355 740 15 = IhB347 740 15 := (congrFun (congrFun ehB355 740) 15).trans (fup_ne (by omega))
                      have t362 : IhB355 740 16 = IhB347 740 16 := (congrFun (congrFun ehB355 740) 16).trans (fup_ne (by omega))
                      have k363 := fBz_eq hB355 (a := 740) (j := 8) (by decide +kernel)
                      have k364 := fBz_eq hB355 (a := 740) (j := 17) (by decide +kernel)
                      refine Exists.intro xm_314 (And.intro mi_314 (And.intro ⟨rfl, rfl, rfl, rfl⟩ (And.intro rfl ?_)))
                      refine fcall _ h0 (fzs_sub (by decide +kernel) hW) hB355 (ct_M_next_c8003 (fBz h0 hB355) (by omega)) ?_
                      rintro IhB366 _ hB366 fhB366 ⟨rfl, hz365⟩
                      have t367 := fhB366 740 14 (by decide +kernel)
                      have t368 := fhB366 740 15 (by decide +kernel)
                      have t369 := fhB366 740 16 (by decide +kernel)
                      have k370 := fBz_eq hB366 (a := 740) (j := 8) (by decide +kernel)
                      have k371 := fBz_eq hB366 (a := 740) (j := 17) (by decide +kernel)
                      refine And.intro (⟨by omega, by omega⟩) ?_
                      exact ⟨_, rfl, by omega, (par_par (M3 := IhB366 740 16) (by omega) (fun j => (fFr_S fhB340 (by decide +kernel) j).trans (fup_other ehB329 741 j (Or.inl (by decide)))) g0z346 (g1z346 (by omega)) (fun j => (fFr_S fhB366 (by decide +kernel) j).trans (fup_other ehB355 741 j (Or.inl (by decide)))) (by omega) (by omega) (by omega)).1, (fun _ => (par_par (M3 := IhB366 740 16) (by omega) (fun j => (fFr_S fhB340 (by decide +kernel) j).trans (fup_other ehB329 741 j (Or.inl (by decide)))) g0z346 (g1z346 (by omega)) (fun j => (fFr_S fhB366 (by decide +kernel) j).trans (fup_other ehB355 741 j (Or.inl (by decide)))) (by omega) (by omega) (by omega)).2)⟩
                    · intro c372
                      refine And.intro (⟨by omega, by omega⟩) ?_
                      exact ⟨_, rfl, by omega, (par_be0 (fun j => (fFr_S fhB340 (by decide +kernel) j).trans (fup_other ehB329 741 j (Or.inl (by decide)))) g0z346 (by omega) (by omega)), (fun q => absurd q (by omega))⟩
                · intro c373
                  refine And.intro (⟨by omega, by omega⟩) ?_
                  exact ⟨_, rfl, by omega, sBe_refl, (fun q => absurd q (by omega))⟩
            · intro c374
              refine And.intro ⟨rfl, by decide, by decide⟩ (fgetf fb_740_15 h0 hB0 ?_)
              intro z375 lz375 uz375 qz375
              refine And.intro (by omega) (And.intro ?_ ?_)
              · intro c376
                refine Exists.intro xm_423 (And.intro mi_423 (And.intro ⟨rfl, rfl, rfl, rfl⟩ (And.intro rfl ?_)))
                refine fcallp hB0 (ct_M_isSign_90da9 (fBz h0 hB0) (by omega)) ?_
                rintro _ ⟨z377, rfl, hz377⟩
                refine And.intro (by omega) (And.intro ?_ ?_)
                · intro c378
                  refine And.intro (⟨by omega, by omega⟩) ?_
                  exact ⟨_, rfl, by omega, sBe_refl, (fun q => absurd q (by omega))⟩
                · intro c379
                  refine And.intro ⟨rfl, by decide, by decide⟩ (fgetf fb_740_14 h0 hB0 ?_)
                  intro z380 lz380 uz380 qz380
                  refine And.intro (by omega) (And.intro ?_ ?_)
                  · intro c381
                    refine And.intro ⟨rfl, by decide, by decide⟩ (fgetf fb_740_14 h0 hB0 ?_)
                    intro z382 lz382 uz382 qz382
                    refine And.intro ⟨rfl, by decide, by decide⟩ (And.intro rfl (And.intro (Or.inl rfl) (fputf fb_740_14 (by decide +kernel) hW (by omega) ?_)))
                    intro IhB383 ehB383 hB383
                    have t384 : IhB383 740 9 = I 740 9 := (congrFun (congrFun ehB383 740) 9).trans (fup_ne (by omega))
                    have t385 : IhB383 740 10 = I 740 10 := (congrFun (congrFun ehB383 740) 10).trans (fup_ne (by omega))
                    have t386 : IhB383 740 11 = I 740 11 := (congrFun (congrFun ehB383 740) 11).trans (fup_ne (by omega))
                    have t387 : IhB383 740 13 = I 740 13 := (congrFun (congrFun ehB383 740) 13).trans (fup_ne (by omega))
                    have t388 := fup_at ehB383 14 (by omega)
                    have t389 : IhB383 740 15 = I 740 15 := (congrFun (congrFun ehB383 740) 15).trans (fup_ne (by omega))
                    have t390 : IhB383 740 16 = I 740 16 := (congrFun (congrFun ehB383 740) 16).trans (fup_ne (by omega))
                    have k391 := fBz_eq hB383 (a := 740) (j := 8) (by decide +kernel)
                    have k392 := fBz_eq hB383 (a := 740) (j := 17) (by decide +kernel)
                    refine Exists.intro xm_314 (And.intro mi_314 (And.intro ⟨rfl, rfl, rfl, rfl⟩ (And.intro rfl ?_)))
                    refine fcall _ h0 (fzs_sub (by decide +kernel) hW) hB383 (ct_M_next_c8003 (fBz h0 hB383) (by omega)) ?_
                    rintro IhB394 _ hB394 fhB394 ⟨rfl, hz393⟩
                    have t395 := fhB394 740 14 (by decide +kernel)
                    have t396 := fhB394 740 15 (by decide +kernel)
                    have t397 := fhB394 740 16 (by decide +kernel)
                    have k398 := fBz_eq hB394 (a := 740) (j := 8) (by decide +kernel)
                    have k399 := fBz_eq hB394 (a := 740) (j := 17) (by decide +kernel)
                    refine Exists.intro xm_322 (And.intro mi_322 (And.intro ⟨rfl, rfl, rfl, rfl⟩ (And.intro rfl ?_)))
                    refine fcall _ h0 (fzs_sub (by decide +kernel) hW) hB394 (ct_M_either_9440d (fBz h0 hB394) (by omega) (by omega) (by omega) (by omega) (by omega)) ?_
                    rintro IhB401 _ hB401 fhB401 ⟨z400, rfl, hz400, g0z400, g1z400⟩
                    have k402 := fBz_eq hB401 (a := 740) (j := 8) (by decide +kernel)
                    have k403 := fBz_eq hB401 (a := 740) (j := 17) (by decide +kernel)
                    refine And.intro (by omega) (And.intro ?_ ?_)
                    · intro c404
                      refine And.intro (⟨by omega, by omega⟩) ?_
                      exact ⟨_, rfl, by omega, (par_be0 (fun j => (fFr_S fhB394 (by decide +kernel) j).trans (fup_other ehB383 741 j (Or.inl (by decide)))) g0z400 (by omega) (by omega)), (fun q => absurd q (by omega))⟩
                    · intro c405
                      refine Exists.intro xm_423 (And.intro mi_423 (And.intro ⟨rfl, rfl, rfl, rfl⟩ (And.intro rfl ?_)))
                      refine fcallp hB401 (ct_M_isSign_90da9 (fBz h0 hB401) (by omega)) ?_
                      rintro _ ⟨z406, rfl, hz406⟩
                      refine And.intro (by omega) (And.intro ?_ ?_)
                      · intro c407
                        refine And.intro ⟨rfl, by decide, by decide⟩ (fgetf fb_740_14 h0 hB401 ?_)
                        intro z408 lz408 uz408 qz408
                        refine And.intro ⟨rfl, by decide, by decide⟩ (And.intro rfl (And.intro (Or.inl rfl) (fputf fb_740_14 (by decide +kernel) hW (by omega) ?_)))
                        intro IhB409 ehB409 hB409
                        have t410 : IhB409 740 9 = IhB401 740 9 := (congrFun (congrFun ehB409 740) 9).trans (fup_ne (by omega))
                        have t411 : IhB409 740 10 = IhB401 740 10 := (congrFun (congrFun ehB409 740) 10).trans (fup_ne (by omega))
                        have t412 : IhB409 740 11 = IhB401 740 11 := (congrFun (congrFun ehB409 740) 11).trans (fup_ne (by omega))
                        have t413 : IhB409 740 13 = IhB401 740 13 := (congrFun (congrFun ehB409 740) 13).trans (fup_ne (by omega))
                        have t414 := fup_at ehB409 14 (by omega)
                        have t415 : IhB409 740 15 = IhB401 740 15 := (congrFun (congrFun ehB409 740) 15).trans (fup_ne (by omega))
                        have t416 : IhB409 740 16 = IhB401 740 16 := (congrFun (congrFun ehB409 740) 16).trans (fup_ne (by omega))
                        have k417 := fBz_eq hB409 (a := 740) (j := 8) (by decide +kernel)
                        have k418 := fBz_eq hB409 (a := 740) (j := 17) (by decide +kernel)
                        refine Exists.intro xm_314 (And.intro mi_314 (And.intro ⟨rfl, rfl, rfl, rfl⟩ (And.intro rfl ?_)))
                        refine fcall _ h0 (fzs_sub (by decide +kernel) hW) hB409 (ct_M_next_c8003 (fBz h0 hB409) (by omega)) ?_
                        rintro IhB420 _ hB420 fhB420 ⟨rfl, hz419⟩
                        have t421 := fhB420 740 14 (by decide +kernel)
                        have t422 := fhB420 740 15 (by decide +kernel)
                        have t423 := fhB420 740 16 (by decide +kernel)
                        have k424 := fBz_eq hB420 (a := 740) (j := 8) (by decide +kernel)
                        have k425 := fBz_eq hB420 (a := 740) (j := 17) (by decide +kernel)
                        refine And.intro (⟨by omega, by omega⟩) ?_
                        exact ⟨_, rfl, by omega, (par_par (M3 := IhB420 740 16) (by omega) (fun j => (fFr_S fhB394 (by decide +kernel) j).trans (fup_other ehB383 741 j (Or.inl (by decide)))) g0z400 (g1z400 (by omega)) (fun j => (fFr_S fhB420 (by decide +kernel) j).trans (fup_other ehB409 741 j (Or.inl (by decide)))) (by omega) (by omega) (by omega)).1, (fun _ => (par_par (M3 := IhB420 740 16) (by omega) (fun j => (fFr_S fhB394 (by decide +kernel) j).trans (fup_other ehB383 741 j (Or.inl (by decide)))) g0z400 (g1z400 (by omega)) (fun j => (fFr_S fhB420 (by decide +kernel) j).trans (fup_other ehB409 741 j (Or.inl (by decide)))) (by omega) (by omega) (by omega)).2)⟩
                      · intro c426
                        refine And.intro (⟨by omega, by omega⟩) ?_
                        exact ⟨_, rfl, by omega, (par_be0 (fun j => (fFr_S fhB394 (by decide +kernel) j).trans (fup_other ehB383 741 j (Or.inl (by decide)))) g0z400 (by omega) (by omega)), (fun q => absurd q (by omega))⟩
                  · intro c427
                    refine And.intro (⟨by omega, by omega⟩) ?_
                    exact ⟨_, rfl, by omega, sBe_refl, (fun q => absurd q (by omega))⟩
              · intro c428
                refine And.intro ⟨rfl, by decide, by decide⟩ (fgetf fb_740_15 h0 hB0 ?_)
                intro z429 lz429 uz429 qz429
                refine And.intro ⟨rfl, by decide, by decide⟩ (And.intro rfl (And.intro (Or.inl rfl) (fputf fb_740_15 (by decide +kernel) hW (by omega) ?_)))
                intro IhB430 ehB430 hB430
                have t431 : IhB430 740 9 = I 740 9 := (congrFun (congrFun ehB430 740) 9).trans (fup_ne (by omega))
                have t432 : IhB430 740 10 = I 740 10 := (congrFun (congrFun ehB430 740) 10).trans (fup_ne (by omega))
                have t433 : IhB430 740 11 = I 740 11 := (congrFun (congrFun ehB430 740) 11).trans (fup_ne (by omega))
                have t434 : IhB430 740 13 = I 740 13 := (congrFun (congrFun ehB430 740) 13).trans (fup_ne (by omega))
                have t435 : IhB430 740 14 = I 740 14 := (congrFun (congrFun ehB430 740) 14).trans (fup_ne (by omega))
                have t436 := fup_at ehB430 15 (by omega)
                have t437 : IhB430 740 16 = I 740 16 := (congrFun (congrFun ehB430 740) 16).trans (fup_ne (by omega))
                have k438 := fBz_eq hB430 (a := 740) (j := 8) (by decide +kernel)
                have k439 := fBz_eq hB430 (a := 740) (j := 17) (by decide +kernel)
                refine Exists.intro xm_314 (And.intro mi_314 (And.intro ⟨rfl, rfl, rfl, rfl⟩ (And.intro rfl ?_)))
                refine fcall _ h0 (fzs_sub (by decide +kernel) hW) hB430 (ct_M_next_c8003 (fBz h0 hB430) (by omega)) ?_
                rintro IhB441 _ hB441 fhB441 ⟨rfl, hz440⟩
                have t442 := fhB441 740 14 (by decide +kernel)
                have t443 := fhB441 740 15 (by decide +kernel)
                have t444 := fhB441 740 16 (by decide +kernel)
                have k445 := fBz_eq hB441 (a := 740) (j := 8) (by decide +kernel)
                have k446 := fBz_eq hB441 (a := 740) (j := 17) (by decide +kernel)
                refine Exists.intro xm_407 (And.intro mi_407 (And.intro ⟨rfl, rfl, rfl, rfl⟩ (And.intro rfl ?_)))
                refine fcall _ h0 (fzs_sub (by decide +kernel) hW) hB441 (ct_M_part0_ded0c (fBz h0 hB441) (by omega) (by omega) (by omega) (by omega) (by omega)) ?_
                rintro IhB448 _ hB448 fhB448 ⟨z447, rfl, hz447, g0z447, g1z447⟩
                have k449 := fBz_eq hB448 (a := 740) (j := 8) (by decide +kernel)
                have k450 := fBz_eq hB448 (a := 740) (j := 17) (by decide +kernel)
                refine And.intro (by omega) (And.intro ?_ ?_)
                · intro c451
                  refine And.intro ⟨rfl, by decide, by decide⟩ (fgetf fb_740_15 h0 hB448 ?_)
                  intro z452 lz452 uz452 qz452
                  refine And.intro ⟨rfl, by decide, by decide⟩ (And.intro rfl (And.intro (Or.inl rfl) (fputf fb_740_15 (by decide +kernel) hW (by omega) ?_)))
                  intro IhB453 ehB453 hB453
                  have t454 : IhB453 740 9 = IhB448 740 9 := (congrFun (congrFun ehB453 740) 9).trans (fup_ne (by omega))
                  have t455 : IhB453 740 10 = IhB448 740 10 := (congrFun (congrFun ehB453 740) 10).trans (fup_ne (by omega))
                  have t456 : IhB453 740 11 = IhB448 740 11 := (congrFun (congrFun ehB453 740) 11).trans (fup_ne (by omega))
                  have t457 : IhB453 740 13 = IhB448 740 13 := (congrFun (congrFun ehB453 740) 13).trans (fup_ne (by omega))
                  have t458 : IhB453 740 14 = IhB448 740 14 := (congrFun (congrFun ehB453 740) 14).trans (fup_ne (by omega))
                  have t459 := fup_at ehB453 15 (by omega)
                  have t460 : IhB453 740 16 = IhB448 740 16 := (congrFun (congrFun ehB453 740) 16).trans (fup_ne (by omega))
                  have k461 := fBz_eq hB453 (a := 740) (j := 8) (by decide +kernel)
                  have k462 := fBz_eq hB453 (a := 740) (j := 17) (by decide +kernel)
                  refine Exists.intro xm_421 (And.intro mi_421 (And.intro ⟨rfl, rfl, rfl, rfl⟩ (And.intro rfl ?_)))
                  refine fcall _ h0 (fzs_sub (by decide +kernel) hW) hB453 (ct_M_step_2c704 (fBz h0 hB453) (by omega) (by omega) (by omega) (by omega)) ?_
                  rintro IhB464 _ hB464 fhB464 ⟨rfl, hz463, g0z463⟩
                  have t465 := fhB464 740 9 (by decide +kernel)
                  have t466 := fhB464 740 10 (by decide +kernel)
                  have t467 := fhB464 740 11 (by decide +kernel)
                  have t468 := fhB464 740 13 (by decide +kernel)
                  have t469 := fhB464 740 14 (by decide +kernel)
                  have t470 := fhB464 740 15 (by decide +kernel)
                  have k471 := fBz_eq hB464 (a := 740) (j := 8) (by decide +kernel)
                  have k472 := fBz_eq hB464 (a := 740) (j := 17) (by decide +kernel)
                  refine And.intro (⟨by omega, by omega⟩) ?_
                  exact ⟨_, rfl, by omega, (par_not (M3 := IhB464 740 16) (by omega) (fun j => (fFr_S fhB441 (by decide +kernel) j).trans (fup_other ehB430 741 j (Or.inl (by decide)))) g0z447 (g1z447 (by omega)) (fun j => fup_other ehB453 741 j (Or.inl (by decide))) g0z463 (by omega) (by omega) (by omega) (by omega) (by omega) (by omega)).1, (fun _ => (par_not (M3 := IhB464 740 16) (by omega) (fun j => (fFr_S fhB441 (by decide +kernel) j).trans (fup_other ehB430 741 j (Or.inl (by decide)))) g0z447 (g1z447 (by omega)) (fun j => fup_other ehB453 741 j (Or.inl (by decide))) g0z463 (by omega) (by omega) (by omega) (by omega) (by omega) (by omega)).2)⟩
                · intro c473
                  refine And.intro (⟨by omega, by omega⟩) ?_
                  exact ⟨_, rfl, by omega, (par_be0 (fun j => (fFr_S fhB441 (by decide +kernel) j).trans (fup_other ehB430 741 j (Or.inl (by decide)))) g0z447 (by omega) (by omega)), (fun q => absurd q (by omega))⟩
          · intro c474
            refine And.intro ⟨rfl, by decide, by decide⟩ (fgetf fb_740_13 h0 hB0 ?_)
            intro z475 lz475 uz475 qz475
            refine Exists.intro xm_421 (And.intro mi_421 (And.intro ⟨rfl, rfl, rfl, rfl⟩ (And.intro rfl ?_)))
            refine fcall _ h0 (fzs_sub (by decide +kernel) hW) hB0 (ct_M_step_2c704 (fBz h0 hB0) (by omega) (by omega) (by omega) (by omega)) ?_
            rintro IhB477 _ hB477 fhB477 ⟨rfl, hz476, g0z476⟩
            have t478 := fhB477 740 9 (by decide +kernel)
            have t479 := fhB477 740 10 (by decide +kernel)
            have t480 := fhB477 740 11 (by decide +kernel)
            have t481 := fhB477 740 13 (by decide +kernel)
            have t482 := fhB477 740 14 (by decide +kernel)
            have t483 := fhB477 740 15 (by decide +kernel)
            have k484 := fBz_eq hB477 (a := 740) (j := 8) (by decide +kernel)
            have k485 := fBz_eq hB477 (a := 740) (j := 17) (by decide +kernel)
            refine And.intro ⟨rfl, by decide, by decide⟩ (fgetf fb_740_18 h0 hB477 ?_)
            intro z486 lz486 uz486 qz486
            intro z487 hz487 ez487 bz487
            clear ez487
            try replace bz487 := bz487 (by omega)
            refine And.intro ⟨rfl, by decide, by decide⟩ (And.intro rfl (And.intro (Or.inl rfl) (fputf fb_740_18 (by decide +kernel) hW (by omega) ?_)))
            intro IhB488 ehB488 hB488
            have t489 : IhB488 740 9 = IhB477 740 9 := (congrFun (congrFun ehB488 740) 9).trans (fup_ne (by omega))
            have t490 : IhB488 740 10 = IhB477 740 10 := (congrFun (congrFun ehB488 740) 10).trans (fup_ne (by omega))
            have t491 : IhB488 740 11 = IhB477 740 11 := (congrFun (congrFun ehB488 740) 11).trans (fup_ne (by omega))
            have t492 : IhB488 740 13 = IhB477 740 13 := (congrFun (congrFun ehB488 740) 13).trans (fup_ne (by omega))
            have t493 : IhB488 740 14 = IhB477 740 14 := (congrFun (congrFun ehB488 740) 14).trans (fup_ne (by omega))
            have t494 : IhB488 740 15 = IhB477 740 15 := (congrFun (congrFun ehB488 740) 15).trans (fup_ne (by omega))
            have t495 : IhB488 740 16 = IhB477 740 16 := (congrFun (congrFun ehB488 740) 16).trans (fup_ne (by omega))
            have t496 := fup_at ehB488 18 (by omega)
            have k497 := fBz_eq hB488 (a := 740) (j := 8) (by decide +kernel)
            have k498 := fBz_eq hB488 (a := 740) (j := 17) (by decide +kernel)
            refine Exists.intro xm_314 (And.intro mi_314 (And.intro ⟨rfl, rfl, rfl, rfl⟩ (And.intro rfl ?_)))
            refine fcall _ h0 (fzs_sub (by decide +kernel) hW) hB488 (ct_M_next_c8003 (fBz h0 hB488) (by omega)) ?_
            rintro IhB500 _ hB500 fhB500 ⟨rfl, hz499⟩
            have t501 := fhB500 740 14 (by decide +kernel)
            have t502 := fhB500 740 15 (by decide +kernel)
            have t503 := fhB500 740 16 (by decide +kernel)
            have t504 := fhB500 740 18 (by decide +kernel)
            have k505 := fBz_eq hB500 (a := 740) (j := 8) (by decide +kernel)
            have k506 := fBz_eq hB500 (a := 740) (j := 17) (by decide +kernel)
            refine And.intro (⟨by omega, by omega⟩) ?_
            exact ⟨_, rfl, by omega, (par_leaf (M := IhB500 740 16) (by omega) (by omega) g0z476 (fun j => (fFr_S fhB500 (by decide +kernel) j).trans (fup_other ehB488 741 j (Or.inl (by decide)))) (by omega) (by omega)).1, (fun _ => (par_leaf (M := IhB500 740 16) (by omega) (by omega) g0z476 (fun j => (fFr_S fhB500 (by decide +kernel) j).trans (fup_other ehB488 741 j (Or.inl (by decide)))) (by omega) (by omega)).2)⟩
    · intro c507
      refine And.intro ⟨rfl, by decide, by decide⟩ (fgetf fb_740_12 h0 hB0 ?_)
      intro z508 lz508 uz508 qz508
      refine Exists.intro xm_421 (And.intro mi_421 (And.intro ⟨rfl, rfl, rfl, rfl⟩ (And.intro rfl ?_)))
      refine fcall _ h0 (fzs_sub (by decide +kernel) hW) hB0 (ct_M_step_2c704 (fBz h0 hB0) (by omega) (by omega) (by omega) (by omega)) ?_
      rintro IhB510 _ hB510 fhB510 ⟨rfl, hz509, g0z509⟩
      have t511 := fhB510 740 9 (by decide +kernel)
      have t512 := fhB510 740 10 (by decide +kernel)
      have t513 := fhB510 740 11 (by decide +kernel)
      have t514 := fhB510 740 12 (by decide +kernel)
      have t515 := fhB510 740 13 (by decide +kernel)
      have t516 := fhB510 740 14 (by decide +kernel)
      have t517 := fhB510 740 15 (by decide +kernel)
      have k518 := fBz_eq hB510 (a := 740) (j := 8) (by decide +kernel)
      have k519 := fBz_eq hB510 (a := 740) (j := 17) (by decide +kernel)
      refine And.intro ⟨rfl, by decide, by decide⟩ (fgetf fb_740_18 h0 hB510 ?_)
      intro z520 lz520 uz520 qz520
      intro z521 hz521 ez521 bz521
      clear ez521
      try replace bz521 := bz521 (by omega)
      refine And.intro ⟨rfl, by decide, by decide⟩ (And.intro rfl (And.intro (Or.inl rfl) (fputf fb_740_18 (by decide +kernel) hW (by omega) ?_)))
      intro IhB522 ehB522 hB522
      have t523 : IhB522 740 9 = IhB510 740 9 := (congrFun (congrFun ehB522 740) 9).trans (fup_ne (by omega))
      have t524 : IhB522 740 10 = IhB510 740 10 := (congrFun (congrFun ehB522 740) 10).trans (fup_ne (by omega))
      have t525 : IhB522 740 11 = IhB510 740 11 := (congrFun (congrFun ehB522 740) 11).trans (fup_ne (by omega))
      have t526 : IhB522 740 12 = IhB510 740 12 := (congrFun (congrFun ehB522 740) 12).trans (fup_ne (by omega))
      have t527 : IhB522 740 13 = IhB510 740 13 := (congrFun (congrFun ehB522 740) 13).trans (fup_ne (by omega))
      have t528 : IhB522 740 14 = IhB510 740 14 := (congrFun (congrFun ehB522 740) 14).trans (fup_ne (by omega))
      have t529 : IhB522 740 15 = IhB510 740 15 := (congrFun (congrFun ehB522 740) 15).trans (fup_ne (by omega))
      have t530 : IhB522 740 16 = IhB510 740 16 := (congrFun (congrFun ehB522 740) 16).trans (fup_ne (by omega))
      have t531 := fup_at ehB522 18 (by omega)
      have k532 := fBz_eq hB522 (a := 740) (j := 8) (by decide +kernel)
      have k533 := fBz_eq hB522 (a := 740) (j := 17) (by decide +kernel)
      refine Exists.intro xm_314 (And.intro mi_314 (And.intro ⟨rfl, rfl, rfl, rfl⟩ (And.intro rfl ?_)))
      refine fcall _ h0 (fzs_sub (by decide +kernel) hW) hB522 (ct_M_next_c8003 (fBz h0 hB522) (by omega)) ?_
      rintro IhB535 _ hB535 fhB535 ⟨rfl, hz534⟩
      have t536 := fhB535 740 14 (by decide +kernel)
      have t537 := fhB535 740 15 (by decide +kernel)
      have t538 := fhB535 740 16 (by decide +kernel)
      have t539 := fhB535 740 18 (by decide +kernel)
      have k540 := fBz_eq hB535 (a := 740) (j := 8) (by decide +kernel)
      have k541 := fBz_eq hB535 (a := 740) (j := 17) (by decide +kernel)
      refine And.intro (⟨by omega, by omega⟩) ?_
      exact ⟨_, rfl, by omega, (par_leaf (M := IhB535 740 16) (by omega) (by omega) g0z509 (fun j => (fFr_S fhB535 (by decide +kernel) j).trans (fup_other ehB522 741 j (Or.inl (by decide)))) (by omega) (by omega)).1, (fun _ => (par_leaf (M := IhB535 740 16) (by omega) (by omega) g0z509 (fun j => (fFr_S fhB535 (by decide +kernel) j).trans (fup_other ehB522 741 j (Or.inl (by decide)))) (by omega) (by omega)).2)⟩
abbrev jc_M_term_7e0ad_10 (I0 : fH) : Nat → fL → List fV → fH → Prop := fun m lv st I => ∃ (y1 : Int), lv = [(0, .inr (.inr (some 740))), (1, .inl y1)] ∧ st = [] ∧ ((((-1) ≤ y1 ∧ y1 ≤ 5) ∧ (I0 740 9 ≤ I 740 9) ∧ (I 740 9 ≤ I 740 10) ∧ (I 740 10 ≤ I 740 8) ∧ (I 740 11 = 0 ∨ I 740 9 < I 740 10) ∧ (I0 740 16 ≤ I 740 16) ∧ (I 740 16 - I0 740 16 ≤ I 740 9 - I0 740 9) ∧ (I 740 14 = I0 740 14) ∧ (I 740 15 = I0 740 15)) ∧ (sBe I0 I (I0 740 17) (I0 740 16)) ∧ (sOne I (I0 740 17) (I0 740 16) (I 740 16))) ∧ m = (1 + 1 * (96 - I 740 9) : Int).toNat
set_option maxRecDepth 8000 in
theorem ct_M_term_7e0ad {I : fH} {x1 : Int} (h0 : fB bsJ I) (ha1 : ((-1) ≤ x1 ∧ x1 ≤ 5)) (hp0 : I 740 9 ≤ I 740 10 ∧ I 740 10 ≤ I 740 8 ∧ (I 740 11 = 0 ∨ I 740 9 < I 740 10)) (hp1 : 0 ≤ I 740 16 ∧ I 740 16 ≤ I 740 9) (hp2 : 12 ≤ I 740 14 + I 740 15) (hp3 : (1215 ≤ I 740 17 ∧ I 740 17 ≤ 3415 ∧ (I 740 17 - 1215) % 200 = 0) ∨ I 740 17 = 4700) : fC ρ base n F xTc vwCl xTys D dA la gJ (fbz bsJ znJ (fKc wz_2212a) I) xm_391 [.inr (.inr (some 740)), .inl x1] I (fun I' r => ∃ z, r = some (.inl z) ∧ ((0 ≤ z ∧ z ≤ 1) ∧ (I 740 9 ≤ I' 740 9 ∧ I' 740 9 ≤ I' 740 10 ∧ I' 740 10 ≤ I' 740 8 ∧ (I' 740 11 = 0 ∨ I' 740 9 < I' 740 10) ∧ (z = 1 → I 740 16 ≤ I' 740 16 ∧ I' 740 16 - I 740 16 ≤ I' 740 9 - I 740 9 ∧ I' 740 14 = I 740 14 ∧ I' 740 15 = I 740 15))) ∧ (sBe I I' (I 740 17) (I 740 16)) ∧ (z = 1 → sOne I' (I 740 17) (I 740 16) (I' 740 16))) := by
  have hW : fzs wz_2212a (fKc wz_2212a) := fKc_ok _
  refine f_meth (rb := rbJ) (J := [(10, (jc_M_term_7e0ad_10 I))]) 98 400 xG xin_391 x6_391 okJ (fB_self h0) ?_ ?_
  · refine List.forall_mem_cons.mpr ⟨?_, fun q h => absurd h List.not_mem_nil⟩
    · rintro m _ _ I1 hB1 ⟨y1, rfl, rfl, ⟨hb, hx0, hx1⟩, hm⟩
      have k1 := fBz_eq hB1 (a := 740) (j := 8) (by decide +kernel)
      have k2 := fBz_eq hB1 (a := 740) (j := 17) (by decide +kernel)
      have b3 := fBd fb_740_8 (fBz h0 hB1)
      have b4 := fBd fb_740_14 (fBz h0 hB1)
      have b5 := fBd fb_740_15 (fBz h0 hB1)
      refine Exists.intro xm_423 (And.intro mi_423 (And.intro ⟨rfl, rfl, rfl, rfl⟩ (And.intro rfl ?_)))
      refine fcallp hB1 (ct_M_isSign_90da9 (fBz h0 hB1) (by omega)) ?_
      rintro _ ⟨z6, rfl, hz6⟩
      refine And.intro (by omega) (And.intro ?_ ?_)
      · intro c7
        refine And.intro ⟨rfl, by decide, by decide⟩ (fgetf fb_740_13 h0 hB1 ?_)
        intro z8 lz8 uz8 qz8
        refine Exists.intro xm_314 (And.intro mi_314 (And.intro ⟨rfl, rfl, rfl, rfl⟩ (And.intro rfl ?_)))
        refine fcall _ h0 (fzs_sub (by decide +kernel) hW) hB1 (ct_M_next_c8003 (fBz h0 hB1) (by omega)) ?_
        rintro IhB10 _ hB10 fhB10 ⟨rfl, hz9⟩
        have t11 := fhB10 740 14 (by decide +kernel)
        have t12 := fhB10 740 15 (by decide +kernel)
        have t13 := fhB10 740 16 (by decide +kernel)
        have k14 := fBz_eq hB10 (a := 740) (j := 8) (by decide +kernel)
        have k15 := fBz_eq hB10 (a := 740) (j := 17) (by decide +kernel)
        refine Exists.intro xm_408 (And.intro mi_408 (And.intro ⟨rfl, rfl, rfl, rfl⟩ (And.intro rfl ?_)))
        refine fcall _ h0 (fzs_sub (by decide +kernel) hW) hB10 (ct_M_part0_30850 (fBz h0 hB10) (by omega) (by omega) (by omega) (by omega) (by omega)) ?_
        rintro IhB17 _ hB17 fhB17 ⟨z16, rfl, hz16, g0z16, g1z16⟩
        have k18 := fBz_eq hB17 (a := 740) (j := 8) (by decide +kernel)
        have k19 := fBz_eq hB17 (a := 740) (j := 17) (by decide +kernel)
        refine And.intro (by omega) (And.intro ?_ ?_)
        · intro c20
          refine Exists.intro xm_421 (And.intro mi_421 (And.intro ⟨rfl, rfl, rfl, rfl⟩ (And.intro rfl ?_)))
          refine fcall _ h0 (fzs_sub (by decide +kernel) hW) hB17 (ct_M_step_2c704 (fBz h0 hB17) (by omega) (by omega) (by omega) (by omega)) ?_
          rintro IhB22 _ hB22 fhB22 ⟨rfl, hz21, g0z21⟩
          have t23 := fhB22 740 9 (by decide +kernel)
          have t24 := fhB22 740 10 (by decide +kernel)
          have t25 := fhB22 740 11 (by decide +kernel)
          have t26 := fhB22 740 13 (by decide +kernel)
          have t27 := fhB22 740 14 (by decide +kernel)
          have t28 := fhB22 740 15 (by decide +kernel)
          have k29 := fBz_eq hB22 (a := 740) (j := 8) (by decide +kernel)
          have k30 := fBz_eq hB22 (a := 740) (j := 17) (by decide +kernel)
          exact fcutJ (I := IhB22) (j := (jc_M_term_7e0ad_10 I)) (lv' := [(0, .inr (.inr (some 740))), (1, .inl _)]) (And.intro rfl (And.intro rfl True.intro)) ⟨_, rfl, rfl, ⟨by omega, (par_be hx0 (fFr_S fhB10 (by decide +kernel)) g0z16 g0z21 (by omega) (by omega) (by omega) (by omega)), (par_one (by omega) hx1 (fFr_S fhB10 (by decide +kernel)) g0z16 (g1z16 (by omega)) g0z21 (by omega) (by omega) (by omega) (by omega) (by omega) (by omega))⟩, rfl⟩ (by omega)
        · intro c31
          refine And.intro (⟨by omega, by omega⟩) ?_
          exact ⟨_, rfl, by omega, (par_bel hx0 (fFr_S fhB10 (by decide +kernel)) g0z16 (by omega) (by omega)), (fun q => absurd q (by omega))⟩
      · intro c32
        refine Exists.intro xm_423 (And.intro mi_423 (And.intro ⟨rfl, rfl, rfl, rfl⟩ (And.intro rfl ?_)))
        refine fcallp hB1 (ct_M_isSign_90da9 (fBz h0 hB1) (by omega)) ?_
        rintro _ ⟨z33, rfl, hz33⟩
        refine And.intro (by omega) (And.intro ?_ ?_)
        · intro c34
          refine And.intro (⟨by omega, by omega⟩) ?_
          exact ⟨_, rfl, by omega, hx0, (fun _ => hx1)⟩
        · intro c35
          refine And.intro ⟨rfl, by decide, by decide⟩ (fgetf fb_740_13 h0 hB1 ?_)
          intro z36 lz36 uz36 qz36
          refine Exists.intro xm_314 (And.intro mi_314 (And.intro ⟨rfl, rfl, rfl, rfl⟩ (And.intro rfl ?_)))
          refine fcall _ h0 (fzs_sub (by decide +kernel) hW) hB1 (ct_M_next_c8003 (fBz h0 hB1) (by omega)) ?_
          rintro IhB38 _ hB38 fhB38 ⟨rfl, hz37⟩
          have t39 := fhB38 740 14 (by decide +kernel)
          have t40 := fhB38 740 15 (by decide +kernel)
          have t41 := fhB38 740 16 (by decide +kernel)
          have k42 := fBz_eq hB38 (a := 740) (j := 8) (by decide +kernel)
          have k43 := fBz_eq hB38 (a := 740) (j := 17) (by decide +kernel)
          refine Exists.intro xm_408 (And.intro mi_408 (And.intro ⟨rfl, rfl, rfl, rfl⟩ (And.intro rfl ?_)))
          refine fcall _ h0 (fzs_sub (by decide +kernel) hW) hB38 (ct_M_part0_30850 (fBz h0 hB38) (by omega) (by omega) (by omega) (by omega) (by omega)) ?_
          rintro IhB45 _ hB45 fhB45 ⟨z44, rfl, hz44, g0z44, g1z44⟩
          have k46 := fBz_eq hB45 (a := 740) (j := 8) (by decide +kernel)
          have k47 := fBz_eq hB45 (a := 740) (j := 17) (by decide +kernel)
          refine And.intro (by omega) (And.intro ?_ ?_)
          · intro c48
            refine Exists.intro xm_421 (And.intro mi_421 (And.intro ⟨rfl, rfl, rfl, rfl⟩ (And.intro rfl ?_)))
            refine fcall _ h0 (fzs_sub (by decide +kernel) hW) hB45 (ct_M_step_2c704 (fBz h0 hB45) (by omega) (by omega) (by omega) (by omega)) ?_
            rintro IhB50 _ hB50 fhB50 ⟨rfl, hz49, g0z49⟩
            have t51 := fhB50 740 9 (by decide +kernel)
            have t52 := fhB50 740 10 (by decide +kernel)
            have t53 := fhB50 740 11 (by decide +kernel)
            have t54 := fhB50 740 13 (by decide +kernel)
            have t55 := fhB50 740 14 (by decide +kernel)
            have t56 := fhB50 740 15 (by decide +kernel)
            have k57 := fBz_eq hB50 (a := 740) (j := 8) (by decide +kernel)
            have k58 := fBz_eq hB50 (a := 740) (j := 17) (by decide +kernel)
            exact fcutJ (I := IhB50) (j := (jc_M_term_7e0ad_10 I)) (lv' := [(0, .inr (.inr (some 740))), (1, .inl _)]) (And.intro rfl (And.intro rfl True.intro)) ⟨_, rfl, rfl, ⟨by omega, (par_be hx0 (fFr_S fhB38 (by decide +kernel)) g0z44 g0z49 (by omega) (by omega) (by omega) (by omega)), (par_one (by omega) hx1 (fFr_S fhB38 (by decide +kernel)) g0z44 (g1z44 (by omega)) g0z49 (by omega) (by omega) (by omega) (by omega) (by omega) (by omega))⟩, rfl⟩ (by omega)
          · intro c59
            refine And.intro (⟨by omega, by omega⟩) ?_
            exact ⟨_, rfl, by omega, (par_bel hx0 (fFr_S fhB38 (by decide +kernel)) g0z44 (by omega) (by omega)), (fun q => absurd q (by omega))⟩
  · have hB0 := fB_self (zn := znJ) (K := fKc wz_2212a) h0
    have b60 := fBd fb_740_8 (fBz h0 hB0)
    have b61 := fBd fb_740_14 (fBz h0 hB0)
    have b62 := fBd fb_740_15 (fBz h0 hB0)
    refine Exists.intro xm_408 (And.intro mi_408 (And.intro ⟨rfl, rfl, rfl, rfl⟩ (And.intro rfl ?_)))
    refine fcall _ h0 (fzs_sub (by decide +kernel) hW) hB0 (ct_M_part0_30850 (fBz h0 hB0) (by omega) (by omega) (by omega) (by omega) (by omega)) ?_
    rintro IhB64 _ hB64 fhB64 ⟨z63, rfl, hz63, g0z63, g1z63⟩
    have k65 := fBz_eq hB64 (a := 740) (j := 8) (by decide +kernel)
    have k66 := fBz_eq hB64 (a := 740) (j := 17) (by decide +kernel)
    refine And.intro (by omega) (And.intro ?_ ?_)
    · intro c67
      exact fcutJ (I := IhB64) (j := (jc_M_term_7e0ad_10 I)) (lv' := [(0, .inr (.inr (some 740))), (1, .inl _)]) (And.intro rfl (And.intro rfl True.intro)) ⟨_, rfl, rfl, ⟨by omega, g0z63, (g1z63 (by omega))⟩, rfl⟩ (by omega)
    · intro c68
      refine And.intro (⟨by omega, by omega⟩) ?_
      exact ⟨_, rfl, by omega, g0z63, (fun q => absurd q (by omega))⟩
abbrev jc_M_sum_de2dd_10 (I0 : fH) : Nat → fL → List fV → fH → Prop := fun m lv st I => ∃ (y1 : Int), lv = [(0, .inr (.inr (some 740))), (1, .inl y1)] ∧ st = [] ∧ ((((-1) ≤ y1 ∧ y1 ≤ 5) ∧ (I0 740 9 ≤ I 740 9) ∧ (I 740 9 ≤ I 740 10) ∧ (I 740 10 ≤ I 740 8) ∧ (I 740 11 = 0 ∨ I 740 9 < I 740 10) ∧ (I0 740 16 ≤ I 740 16) ∧ (I 740 16 - I0 740 16 ≤ I 740 9 - I0 740 9) ∧ (I 740 14 = I0 740 14) ∧ (I 740 15 = I0 740 15)) ∧ (sBe I0 I (I0 740 17) (I0 740 16)) ∧ (sOne I (I0 740 17) (I0 740 16) (I 740 16))) ∧ m = (1 + 1 * (96 - I 740 9) : Int).toNat
set_option maxRecDepth 8000 in
theorem ct_M_sum_de2dd {I : fH} {x1 : Int} (h0 : fB bsJ I) (ha1 : ((-1) ≤ x1 ∧ x1 ≤ 5)) (hp0 : I 740 9 ≤ I 740 10 ∧ I 740 10 ≤ I 740 8 ∧ (I 740 11 = 0 ∨ I 740 9 < I 740 10)) (hp1 : 0 ≤ I 740 16 ∧ I 740 16 ≤ I 740 9) (hp2 : 12 ≤ I 740 14 + I 740 15) (hp3 : (1215 ≤ I 740 17 ∧ I 740 17 ≤ 3415 ∧ (I 740 17 - 1215) % 200 = 0) ∨ I 740 17 = 4700) : fC ρ base n F xTc vwCl xTys D dA la gJ (fbz bsJ znJ (fKc wz_2212a) I) xm_374 [.inr (.inr (some 740)), .inl x1] I (fun I' r => ∃ z, r = some (.inl z) ∧ ((0 ≤ z ∧ z ≤ 1) ∧ (I 740 9 ≤ I' 740 9 ∧ I' 740 9 ≤ I' 740 10 ∧ I' 740 10 ≤ I' 740 8 ∧ (I' 740 11 = 0 ∨ I' 740 9 < I' 740 10) ∧ (z = 1 → I 740 16 ≤ I' 740 16 ∧ I' 740 16 - I 740 16 ≤ I' 740 9 - I 740 9 ∧ I' 740 14 = I 740 14 ∧ I' 740 15 = I 740 15))) ∧ (sBe I I' (I 740 17) (I 740 16)) ∧ (z = 1 → sOne I' (I 740 17) (I 740 16) (I' 740 16))) := by
  have hW : fzs wz_2212a (fKc wz_2212a) := fKc_ok _
  refine f_meth (rb := rbJ) (J := [(10, (jc_M_sum_de2dd_10 I))]) 98 400 xG xin_374 x6_374 okJ (fB_self h0) ?_ ?_
  · refine List.forall_mem_cons.mpr ⟨?_, fun q h => absurd h List.not_mem_nil⟩
    · rintro m _ _ I1 hB1 ⟨y1, rfl, rfl, ⟨hb, hx0, hx1⟩, hm⟩
      have k1 := fBz_eq hB1 (a := 740) (j := 8) (by decide +kernel)
      have k2 := fBz_eq hB1 (a := 740) (j := 17) (by decide +kernel)
      have b3 := fBd fb_740_8 (fBz h0 hB1)
      have b4 := fBd fb_740_14 (fBz h0 hB1)
      have b5 := fBd fb_740_15 (fBz h0 hB1)
      refine Exists.intro xm_423 (And.intro mi_423 (And.intro ⟨rfl, rfl, rfl, rfl⟩ (And.intro rfl ?_)))
      refine fcallp hB1 (ct_M_isSign_90da9 (fBz h0 hB1) (by omega)) ?_
      rintro _ ⟨z6, rfl, hz6⟩
      refine And.intro (by omega) (And.intro ?_ ?_)
      · intro c7
        refine And.intro ⟨rfl, by decide, by decide⟩ (fgetf fb_740_13 h0 hB1 ?_)
        intro z8 lz8 uz8 qz8
        refine Exists.intro xm_314 (And.intro mi_314 (And.intro ⟨rfl, rfl, rfl, rfl⟩ (And.intro rfl ?_)))
        refine fcall _ h0 (fzs_sub (by decide +kernel) hW) hB1 (ct_M_next_c8003 (fBz h0 hB1) (by omega)) ?_
        rintro IhB10 _ hB10 fhB10 ⟨rfl, hz9⟩
        have t11 := fhB10 740 14 (by decide +kernel)
        have t12 := fhB10 740 15 (by decide +kernel)
        have t13 := fhB10 740 16 (by decide +kernel)
        have k14 := fBz_eq hB10 (a := 740) (j := 8) (by decide +kernel)
        have k15 := fBz_eq hB10 (a := 740) (j := 17) (by decide +kernel)
        refine Exists.intro xm_391 (And.intro mi_391 (And.intro ⟨rfl, rfl, rfl, rfl⟩ (And.intro rfl ?_)))
        refine fcall _ h0 (fzs_sub (by decide +kernel) hW) hB10 (ct_M_term_7e0ad (fBz h0 hB10) (by omega) (by omega) (by omega) (by omega) (by omega)) ?_
        rintro IhB17 _ hB17 fhB17 ⟨z16, rfl, hz16, g0z16, g1z16⟩
        have k18 := fBz_eq hB17 (a := 740) (j := 8) (by decide +kernel)
        have k19 := fBz_eq hB17 (a := 740) (j := 17) (by decide +kernel)
        refine And.intro (by omega) (And.intro ?_ ?_)
        · intro c20
          refine Exists.intro xm_421 (And.intro mi_421 (And.intro ⟨rfl, rfl, rfl, rfl⟩ (And.intro rfl ?_)))
          refine fcall _ h0 (fzs_sub (by decide +kernel) hW) hB17 (ct_M_step_2c704 (fBz h0 hB17) (by omega) (by omega) (by omega) (by omega)) ?_
          rintro IhB22 _ hB22 fhB22 ⟨rfl, hz21, g0z21⟩
          have t23 := fhB22 740 9 (by decide +kernel)
          have t24 := fhB22 740 10 (by decide +kernel)
          have t25 := fhB22 740 11 (by decide +kernel)
          have t26 := fhB22 740 13 (by decide +kernel)
          have t27 := fhB22 740 14 (by decide +kernel)
          have t28 := fhB22 740 15 (by decide +kernel)
          have k29 := fBz_eq hB22 (a := 740) (j := 8) (by decide +kernel)
          have k30 := fBz_eq hB22 (a := 740) (j := 17) (by decide +kernel)
          exact fcutJ (I := IhB22) (j := (jc_M_sum_de2dd_10 I)) (lv' := [(0, .inr (.inr (some 740))), (1, .inl _)]) (And.intro rfl (And.intro rfl True.intro)) ⟨_, rfl, rfl, ⟨by omega, (par_be hx0 (fFr_S fhB10 (by decide +kernel)) g0z16 g0z21 (by omega) (by omega) (by omega) (by omega)), (par_one (by omega) hx1 (fFr_S fhB10 (by decide +kernel)) g0z16 (g1z16 (by omega)) g0z21 (by omega) (by omega) (by omega) (by omega) (by omega) (by omega))⟩, rfl⟩ (by omega)
        · intro c31
          refine And.intro (⟨by omega, by omega⟩) ?_
          exact ⟨_, rfl, by omega, (par_bel hx0 (fFr_S fhB10 (by decide +kernel)) g0z16 (by omega) (by omega)), (fun q => absurd q (by omega))⟩
      · intro c32
        refine Exists.intro xm_423 (And.intro mi_423 (And.intro ⟨rfl, rfl, rfl, rfl⟩ (And.intro rfl ?_)))
        refine fcallp hB1 (ct_M_isSign_90da9 (fBz h0 hB1) (by omega)) ?_
        rintro _ ⟨z33, rfl, hz33⟩
        refine And.intro (by omega) (And.intro ?_ ?_)
        · intro c34
          refine And.intro (⟨by omega, by omega⟩) ?_
          exact ⟨_, rfl, by omega, hx0, (fun _ => hx1)⟩
        · intro c35
          refine And.intro ⟨rfl, by decide, by decide⟩ (fgetf fb_740_13 h0 hB1 ?_)
          intro z36 lz36 uz36 qz36
          refine Exists.intro xm_314 (And.intro mi_314 (And.intro ⟨rfl, rfl, rfl, rfl⟩ (And.intro rfl ?_)))
          refine fcall _ h0 (fzs_sub (by decide +kernel) hW) hB1 (ct_M_next_c8003 (fBz h0 hB1) (by omega)) ?_
          rintro IhB38 _ hB38 fhB38 ⟨rfl, hz37⟩
          have t39 := fhB38 740 14 (by decide +kernel)
          have t40 := fhB38 740 15 (by decide +kernel)
          have t41 := fhB38 740 16 (by decide +kernel)
          have k42 := fBz_eq hB38 (a := 740) (j := 8) (by decide +kernel)
          have k43 := fBz_eq hB38 (a := 740) (j := 17) (by decide +kernel)
          refine Exists.intro xm_391 (And.intro mi_391 (And.intro ⟨rfl, rfl, rfl, rfl⟩ (And.intro rfl ?_)))
          refine fcall _ h0 (fzs_sub (by decide +kernel) hW) hB38 (ct_M_term_7e0ad (fBz h0 hB38) (by omega) (by omega) (by omega) (by omega) (by omega)) ?_
          rintro IhB45 _ hB45 fhB45 ⟨z44, rfl, hz44, g0z44, g1z44⟩
          have k46 := fBz_eq hB45 (a := 740) (j := 8) (by decide +kernel)
          have k47 := fBz_eq hB45 (a := 740) (j := 17) (by decide +kernel)
          refine And.intro (by omega) (And.intro ?_ ?_)
          · intro c48
            refine Exists.intro xm_421 (And.intro mi_421 (And.intro ⟨rfl, rfl, rfl, rfl⟩ (And.intro rfl ?_)))
            refine fcall _ h0 (fzs_sub (by decide +kernel) hW) hB45 (ct_M_step_2c704 (fBz h0 hB45) (by omega) (by omega) (by omega) (by omega)) ?_
            rintro IhB50 _ hB50 fhB50 ⟨rfl, hz49, g0z49⟩
            have t51 := fhB50 740 9 (by decide +kernel)
            have t52 := fhB50 740 10 (by decide +kernel)
            have t53 := fhB50 740 11 (by decide +kernel)
            have t54 := fhB50 740 13 (by decide +kernel)
            have t55 := fhB50 740 14 (by decide +kernel)
            have t56 := fhB50 740 15 (by decide +kernel)
            have k57 := fBz_eq hB50 (a := 740) (j := 8) (by decide +kernel)
            have k58 := fBz_eq hB50 (a := 740) (j := 17) (by decide +kernel)
            exact fcutJ (I := IhB50) (j := (jc_M_sum_de2dd_10 I)) (lv' := [(0, .inr (.inr (some 740))), (1, .inl _)]) (And.intro rfl (And.intro rfl True.intro)) ⟨_, rfl, rfl, ⟨by omega, (par_be hx0 (fFr_S fhB38 (by decide +kernel)) g0z44 g0z49 (by omega) (by omega) (by omega) (by omega)), (par_one (by omega) hx1 (fFr_S fhB38 (by decide +kernel)) g0z44 (g1z44 (by omega)) g0z49 (by omega) (by omega) (by omega) (by omega) (by omega) (by omega))⟩, rfl⟩ (by omega)
          · intro c59
            refine And.intro (⟨by omega, by omega⟩) ?_
            exact ⟨_, rfl, by omega, (par_bel hx0 (fFr_S fhB38 (by decide +kernel)) g0z44 (by omega) (by omega)), (fun q => absurd q (by omega))⟩
  · have hB0 := fB_self (zn := znJ) (K := fKc wz_2212a) h0
    have b60 := fBd fb_740_8 (fBz h0 hB0)
    have b61 := fBd fb_740_14 (fBz h0 hB0)
    have b62 := fBd fb_740_15 (fBz h0 hB0)
    refine Exists.intro xm_391 (And.intro mi_391 (And.intro ⟨rfl, rfl, rfl, rfl⟩ (And.intro rfl ?_)))
    refine fcall _ h0 (fzs_sub (by decide +kernel) hW) hB0 (ct_M_term_7e0ad (fBz h0 hB0) (by omega) (by omega) (by omega) (by omega) (by omega)) ?_
    rintro IhB64 _ hB64 fhB64 ⟨z63, rfl, hz63, g0z63, g1z63⟩
    have k65 := fBz_eq hB64 (a := 740) (j := 8) (by decide +kernel)
    have k66 := fBz_eq hB64 (a := 740) (j := 17) (by decide +kernel)
    refine And.intro (by omega) (And.intro ?_ ?_)
    · intro c67
      exact fcutJ (I := IhB64) (j := (jc_M_sum_de2dd_10 I)) (lv' := [(0, .inr (.inr (some 740))), (1, .inl _)]) (And.intro rfl (And.intro rfl True.intro)) ⟨_, rfl, rfl, ⟨by omega, g0z63, (g1z63 (by omega))⟩, rfl⟩ (by omega)
    · intro c68
      refine And.intro (⟨by omega, by omega⟩) ?_
      exact ⟨_, rfl, by omega, g0z63, (fun q => absurd q (by omega))⟩
set_option maxRecDepth 8000 in
theorem ct_M_test_95df3 {I : fH} {x1 : Int} (h0 : fB bsJ I) (ha1 : ((-1) ≤ x1 ∧ x1 ≤ 5)) (hp0 : I 740 9 ≤ I 740 10 ∧ I 740 10 ≤ I 740 8 ∧ (I 740 11 = 0 ∨ I 740 9 < I 740 10)) (hp1 : 0 ≤ I 740 16 ∧ I 740 16 ≤ I 740 9) (hp2 : 12 ≤ I 740 14 + I 740 15) (hp3 : (1215 ≤ I 740 17 ∧ I 740 17 ≤ 3415 ∧ (I 740 17 - 1215) % 200 = 0) ∨ I 740 17 = 4700) : fC ρ base n F xTc vwCl xTys D dA la gJ (fbz bsJ znJ (fKc wz_2212a) I) xm_357 [.inr (.inr (some 740)), .inl x1] I (fun I' r => ∃ z, r = some (.inl z) ∧ ((0 ≤ z ∧ z ≤ 1) ∧ (I 740 9 ≤ I' 740 9 ∧ I' 740 9 ≤ I' 740 10 ∧ I' 740 10 ≤ I' 740 8 ∧ (I' 740 11 = 0 ∨ I' 740 9 < I' 740 10) ∧ (z = 1 → I 740 16 ≤ I' 740 16 ∧ I' 740 16 - I 740 16 ≤ I' 740 9 - I 740 9 ∧ I' 740 14 = I 740 14 ∧ I' 740 15 = I 740 15))) ∧ (sBe I I' (I 740 17) (I 740 16)) ∧ (z = 1 → sOne I' (I 740 17) (I 740 16) (I' 740 16))) := by
  have hW : fzs wz_2212a (fKc wz_2212a) := fKc_ok _
  refine f_meth (rb := rbJ) (J := []) 1 400 xG xin_357 x6_357 okJ (fB_self h0) ?_ ?_
  · exact fun q h => absurd h List.not_mem_nil
  · have hB0 := fB_self (zn := znJ) (K := fKc wz_2212a) h0
    have b1 := fBd fb_740_8 (fBz h0 hB0)
    have b2 := fBd fb_740_14 (fBz h0 hB0)
    have b3 := fBd fb_740_15 (fBz h0 hB0)
    refine Exists.intro xm_374 (And.intro mi_374 (And.intro ⟨rfl, rfl, rfl, rfl⟩ (And.intro rfl ?_)))
    refine fcall _ h0 (fzs_sub (by decide +kernel) hW) hB0 (ct_M_sum_de2dd (fBz h0 hB0) (by omega) (by omega) (by omega) (by omega) (by omega)) ?_
    rintro IhB5 _ hB5 fhB5 ⟨z4, rfl, hz4, g0z4, g1z4⟩
    have k6 := fBz_eq hB5 (a := 740) (j := 8) (by decide +kernel)
    have k7 := fBz_eq hB5 (a := 740) (j := 17) (by decide +kernel)
    refine And.intro (by omega) (And.intro ?_ ?_)
    · intro c8
      refine Exists.intro xm_423 (And.intro mi_423 (And.intro ⟨rfl, rfl, rfl, rfl⟩ (And.intro rfl ?_)))
      refine fcallp hB5 (ct_M_isSign_90da9 (fBz h0 hB5) (by omega)) ?_
      rintro _ ⟨z9, rfl, hz9⟩
      refine And.intro (by omega) (And.intro ?_ ?_)
      · intro c10
        refine And.intro ⟨rfl, by decide, by decide⟩ (fgetf fb_740_13 h0 hB5 ?_)
        intro z11 lz11 uz11 qz11
        refine Exists.intro xm_314 (And.intro mi_314 (And.intro ⟨rfl, rfl, rfl, rfl⟩ (And.intro rfl ?_)))
        refine fcall _ h0 (fzs_sub (by decide +kernel) hW) hB5 (ct_M_next_c8003 (fBz h0 hB5) (by omega)) ?_
        rintro IhB13 _ hB13 fhB13 ⟨rfl, hz12⟩
        have t14 := fhB13 740 14 (by decide +kernel)
        have t15 := fhB13 740 15 (by decide +kernel)
        have t16 := fhB13 740 16 (by decide +kernel)
        have k17 := fBz_eq hB13 (a := 740) (j := 8) (by decide +kernel)
        have k18 := fBz_eq hB13 (a := 740) (j := 17) (by decide +kernel)
        refine Exists.intro xm_374 (And.intro mi_374 (And.intro ⟨rfl, rfl, rfl, rfl⟩ (And.intro rfl ?_)))
        refine fcall _ h0 (fzs_sub (by decide +kernel) hW) hB13 (ct_M_sum_de2dd (fBz h0 hB13) (by omega) (by omega) (by omega) (by omega) (by omega)) ?_
        rintro IhB20 _ hB20 fhB20 ⟨z19, rfl, hz19, g0z19, g1z19⟩
        have k21 := fBz_eq hB20 (a := 740) (j := 8) (by decide +kernel)
        have k22 := fBz_eq hB20 (a := 740) (j := 17) (by decide +kernel)
        refine And.intro (by omega) (And.intro ?_ ?_)
        · intro c23
          refine Exists.intro xm_421 (And.intro mi_421 (And.intro ⟨rfl, rfl, rfl, rfl⟩ (And.intro rfl ?_)))
          refine fcall _ h0 (fzs_sub (by decide +kernel) hW) hB20 (ct_M_step_2c704 (fBz h0 hB20) (by omega) (by omega) (by omega) (by omega)) ?_
          rintro IhB25 _ hB25 fhB25 ⟨rfl, hz24, g0z24⟩
          have t26 := fhB25 740 9 (by decide +kernel)
          have t27 := fhB25 740 10 (by decide +kernel)
          have t28 := fhB25 740 11 (by decide +kernel)
          have t29 := fhB25 740 13 (by decide +kernel)
          have t30 := fhB25 740 14 (by decide +kernel)
          have t31 := fhB25 740 15 (by decide +kernel)
          have k32 := fBz_eq hB25 (a := 740) (j := 8) (by decide +kernel)
          have k33 := fBz_eq hB25 (a := 740) (j := 17) (by decide +kernel)
          refine And.intro (⟨by omega, by omega⟩) ?_
          exact ⟨_, rfl, by omega, (by first | exact par_be g0z4 (fFr_S fhB13 (by decide +kernel)) g0z19 g0z24 (by omega) (by omega) (by omega) (by omega) | exact g0z4), (fun _ => by first | exact par_one (by omega) (g1z4 (by omega)) (fFr_S fhB13 (by decide +kernel)) g0z19 (g1z19 (by omega)) g0z24 (by omega) (by omega) (by omega) (by omega) (by omega) (by omega) | exact g1z4 (by omega))⟩
        · intro c34
          refine And.intro (⟨by omega, by omega⟩) ?_
          exact ⟨_, rfl, by omega, (par_bel g0z4 (fFr_S fhB13 (by decide +kernel)) g0z19 (by omega) (by omega)), (fun q => absurd q (by omega))⟩
      · intro c35
        refine Exists.intro xm_423 (And.intro mi_423 (And.intro ⟨rfl, rfl, rfl, rfl⟩ (And.intro rfl ?_)))
        refine fcallp hB5 (ct_M_isSign_90da9 (fBz h0 hB5) (by omega)) ?_
        rintro _ ⟨z36, rfl, hz36⟩
        refine And.intro (by omega) (And.intro ?_ ?_)
        · intro c37
          refine And.intro ⟨rfl, by decide, by decide⟩ (fgetf fb_740_13 h0 hB5 ?_)
          intro z38 lz38 uz38 qz38
          refine Exists.intro xm_314 (And.intro mi_314 (And.intro ⟨rfl, rfl, rfl, rfl⟩ (And.intro rfl ?_)))
          refine fcall _ h0 (fzs_sub (by decide +kernel) hW) hB5 (ct_M_next_c8003 (fBz h0 hB5) (by omega)) ?_
          rintro IhB40 _ hB40 fhB40 ⟨rfl, hz39⟩
          have t41 := fhB40 740 14 (by decide +kernel)
          have t42 := fhB40 740 15 (by decide +kernel)
          have t43 := fhB40 740 16 (by decide +kernel)
          have k44 := fBz_eq hB40 (a := 740) (j := 8) (by decide +kernel)
          have k45 := fBz_eq hB40 (a := 740) (j := 17) (by decide +kernel)
          refine Exists.intro xm_374 (And.intro mi_374 (And.intro ⟨rfl, rfl, rfl, rfl⟩ (And.intro rfl ?_)))
          refine fcall _ h0 (fzs_sub (by decide +kernel) hW) hB40 (ct_M_sum_de2dd (fBz h0 hB40) (by omega) (by omega) (by omega) (by omega) (by omega)) ?_
          rintro IhB47 _ hB47 fhB47 ⟨z46, rfl, hz46, g0z46, g1z46⟩
          have k48 := fBz_eq hB47 (a := 740) (j := 8) (by decide +kernel)
          have k49 := fBz_eq hB47 (a := 740) (j := 17) (by decide +kernel)
          refine And.intro (by omega) (And.intro ?_ ?_)
          · intro c50
            refine Exists.intro xm_421 (And.intro mi_421 (And.intro ⟨rfl, rfl, rfl, rfl⟩ (And.intro rfl ?_)))
            refine fcall _ h0 (fzs_sub (by decide +kernel) hW) hB47 (ct_M_step_2c704 (fBz h0 hB47) (by omega) (by omega) (by omega) (by omega)) ?_
            rintro IhB52 _ hB52 fhB52 ⟨rfl, hz51, g0z51⟩
            have t53 := fhB52 740 9 (by decide +kernel)
            have t54 := fhB52 740 10 (by decide +kernel)
            have t55 := fhB52 740 11 (by decide +kernel)
            have t56 := fhB52 740 13 (by decide +kernel)
            have t57 := fhB52 740 14 (by decide +kernel)
            have t58 := fhB52 740 15 (by decide +kernel)
            have k59 := fBz_eq hB52 (a := 740) (j := 8) (by decide +kernel)
            have k60 := fBz_eq hB52 (a := 740) (j := 17) (by decide +kernel)
            refine And.intro (⟨by omega, by omega⟩) ?_
            exact ⟨_, rfl, by omega, (by first | exact par_be g0z4 (fFr_S fhB40 (by decide +kernel)) g0z46 g0z51 (by omega) (by omega) (by omega) (by omega) | exact g0z4), (fun _ => by first | exact par_one (by omega) (g1z4 (by omega)) (fFr_S fhB40 (by decide +kernel)) g0z46 (g1z46 (by omega)) g0z51 (by omega) (by omega) (by omega) (by omega) (by omega) (by omega) | exact g1z4 (by omega))⟩
          · intro c61
            refine And.intro (⟨by omega, by omega⟩) ?_
            exact ⟨_, rfl, by omega, (par_bel g0z4 (fFr_S fhB40 (by decide +kernel)) g0z46 (by omega) (by omega)), (fun q => absurd q (by omega))⟩
        · intro c62
          refine Exists.intro xm_423 (And.intro mi_423 (And.intro ⟨rfl, rfl, rfl, rfl⟩ (And.intro rfl ?_)))
          refine fcallp hB5 (ct_M_isSign_90da9 (fBz h0 hB5) (by omega)) ?_
          rintro _ ⟨z63, rfl, hz63⟩
          refine And.intro (by omega) (And.intro ?_ ?_)
          · intro c64
            refine And.intro (⟨by omega, by omega⟩) ?_
            exact ⟨_, rfl, by omega, (by first | exact par_be g0z4 (fFr_S fhB40 (by decide +kernel)) g0z46 g0z51 (by omega) (by omega) (by omega) (by omega) | exact g0z4), (fun _ => by first | exact par_one (by omega) (g1z4 (by omega)) (fFr_S fhB40 (by decide +kernel)) g0z46 (g1z46 (by omega)) g0z51 (by omega) (by omega) (by omega) (by omega) (by omega) (by omega) | exact g1z4 (by omega))⟩
          · intro c65
            refine And.intro ⟨rfl, by decide, by decide⟩ (fgetf fb_740_13 h0 hB5 ?_)
            intro z66 lz66 uz66 qz66
            refine Exists.intro xm_314 (And.intro mi_314 (And.intro ⟨rfl, rfl, rfl, rfl⟩ (And.intro rfl ?_)))
            refine fcall _ h0 (fzs_sub (by decide +kernel) hW) hB5 (ct_M_next_c8003 (fBz h0 hB5) (by omega)) ?_
            rintro IhB68 _ hB68 fhB68 ⟨rfl, hz67⟩
            have t69 := fhB68 740 14 (by decide +kernel)
            have t70 := fhB68 740 15 (by decide +kernel)
            have t71 := fhB68 740 16 (by decide +kernel)
            have k72 := fBz_eq hB68 (a := 740) (j := 8) (by decide +kernel)
            have k73 := fBz_eq hB68 (a := 740) (j := 17) (by decide +kernel)
            refine Exists.intro xm_374 (And.intro mi_374 (And.intro ⟨rfl, rfl, rfl, rfl⟩ (And.intro rfl ?_)))
            refine fcall _ h0 (fzs_sub (by decide +kernel) hW) hB68 (ct_M_sum_de2dd (fBz h0 hB68) (by omega) (by omega) (by omega) (by omega) (by omega)) ?_
            rintro IhB75 _ hB75 fhB75 ⟨z74, rfl, hz74, g0z74, g1z74⟩
            have k76 := fBz_eq hB75 (a := 740) (j := 8) (by decide +kernel)
            have k77 := fBz_eq hB75 (a := 740) (j := 17) (by decide +kernel)
            refine And.intro (by omega) (And.intro ?_ ?_)
            · intro c78
              refine Exists.intro xm_421 (And.intro mi_421 (And.intro ⟨rfl, rfl, rfl, rfl⟩ (And.intro rfl ?_)))
              refine fcall _ h0 (fzs_sub (by decide +kernel) hW) hB75 (ct_M_step_2c704 (fBz h0 hB75) (by omega) (by omega) (by omega) (by omega)) ?_
              rintro IhB80 _ hB80 fhB80 ⟨rfl, hz79, g0z79⟩
              have t81 := fhB80 740 9 (by decide +kernel)
              have t82 := fhB80 740 10 (by decide +kernel)
              have t83 := fhB80 740 11 (by decide +kernel)
              have t84 := fhB80 740 13 (by decide +kernel)
              have t85 := fhB80 740 14 (by decide +kernel)
              have t86 := fhB80 740 15 (by decide +kernel)
              have k87 := fBz_eq hB80 (a := 740) (j := 8) (by decide +kernel)
              have k88 := fBz_eq hB80 (a := 740) (j := 17) (by decide +kernel)
              refine And.intro (⟨by omega, by omega⟩) ?_
              exact ⟨_, rfl, by omega, (by first | exact par_be g0z4 (fFr_S fhB68 (by decide +kernel)) g0z74 g0z79 (by omega) (by omega) (by omega) (by omega) | exact g0z4), (fun _ => by first | exact par_one (by omega) (g1z4 (by omega)) (fFr_S fhB68 (by decide +kernel)) g0z74 (g1z74 (by omega)) g0z79 (by omega) (by omega) (by omega) (by omega) (by omega) (by omega) | exact g1z4 (by omega))⟩
            · intro c89
              refine And.intro (⟨by omega, by omega⟩) ?_
              exact ⟨_, rfl, by omega, (par_bel g0z4 (fFr_S fhB68 (by decide +kernel)) g0z74 (by omega) (by omega)), (fun q => absurd q (by omega))⟩
    · intro c90
      refine And.intro (⟨by omega, by omega⟩) ?_
      exact ⟨_, rfl, by omega, g0z4, (fun q => absurd q (by omega))⟩
abbrev jc_M_both_9476d_10 (I0 : fH) : Nat → fL → List fV → fH → Prop := fun m lv st I => ∃ (y1 : Int), lv = [(0, .inr (.inr (some 740))), (1, .inl y1)] ∧ st = [] ∧ ((((-1) ≤ y1 ∧ y1 ≤ 5) ∧ (I0 740 9 ≤ I 740 9) ∧ (I 740 9 ≤ I 740 10) ∧ (I 740 10 ≤ I 740 8) ∧ (I 740 11 = 0 ∨ I 740 9 < I 740 10) ∧ (I0 740 16 ≤ I 740 16) ∧ (I 740 16 - I0 740 16 ≤ I 740 9 - I0 740 9) ∧ (I 740 14 = I0 740 14) ∧ (I 740 15 = I0 740 15)) ∧ (sBe I0 I (I0 740 17) (I0 740 16)) ∧ (sOne I (I0 740 17) (I0 740 16) (I 740 16))) ∧ m = (1 + 1 * (96 - I 740 9) : Int).toNat
set_option maxRecDepth 8000 in
theorem ct_M_both_9476d {I : fH} {x1 : Int} (h0 : fB bsJ I) (ha1 : ((-1) ≤ x1 ∧ x1 ≤ 5)) (hp0 : I 740 9 ≤ I 740 10 ∧ I 740 10 ≤ I 740 8 ∧ (I 740 11 = 0 ∨ I 740 9 < I 740 10)) (hp1 : 0 ≤ I 740 16 ∧ I 740 16 ≤ I 740 9) (hp2 : 12 ≤ I 740 14 + I 740 15) (hp3 : (1215 ≤ I 740 17 ∧ I 740 17 ≤ 3415 ∧ (I 740 17 - 1215) % 200 = 0) ∨ I 740 17 = 4700) : fC ρ base n F xTc vwCl xTys D dA la gJ (fbz bsJ znJ (fKc wz_2212a) I) xm_340 [.inr (.inr (some 740)), .inl x1] I (fun I' r => ∃ z, r = some (.inl z) ∧ ((0 ≤ z ∧ z ≤ 1) ∧ (I 740 9 ≤ I' 740 9 ∧ I' 740 9 ≤ I' 740 10 ∧ I' 740 10 ≤ I' 740 8 ∧ (I' 740 11 = 0 ∨ I' 740 9 < I' 740 10) ∧ (z = 1 → I 740 16 ≤ I' 740 16 ∧ I' 740 16 - I 740 16 ≤ I' 740 9 - I 740 9 ∧ I' 740 14 = I 740 14 ∧ I' 740 15 = I 740 15))) ∧ (sBe I I' (I 740 17) (I 740 16)) ∧ (z = 1 → sOne I' (I 740 17) (I 740 16) (I' 740 16))) := by
  have hW : fzs wz_2212a (fKc wz_2212a) := fKc_ok _
  refine f_meth (rb := rbJ) (J := [(10, (jc_M_both_9476d_10 I))]) 98 400 xG xin_340 x6_340 okJ (fB_self h0) ?_ ?_
  · refine List.forall_mem_cons.mpr ⟨?_, fun q h => absurd h List.not_mem_nil⟩
    · rintro m _ _ I1 hB1 ⟨y1, rfl, rfl, ⟨hb, hx0, hx1⟩, hm⟩
      have k1 := fBz_eq hB1 (a := 740) (j := 8) (by decide +kernel)
      have k2 := fBz_eq hB1 (a := 740) (j := 17) (by decide +kernel)
      have b3 := fBd fb_740_8 (fBz h0 hB1)
      have b4 := fBd fb_740_14 (fBz h0 hB1)
      have b5 := fBd fb_740_15 (fBz h0 hB1)
      refine Exists.intro xm_423 (And.intro mi_423 (And.intro ⟨rfl, rfl, rfl, rfl⟩ (And.intro rfl ?_)))
      refine fcallp hB1 (ct_M_isSign_90da9 (fBz h0 hB1) (by omega)) ?_
      rintro _ ⟨z6, rfl, hz6⟩
      refine And.intro (by omega) (And.intro ?_ ?_)
      · intro c7
        refine And.intro (⟨by omega, by omega⟩) ?_
        exact ⟨_, rfl, by omega, hx0, (fun _ => hx1)⟩
      · intro c8
        refine Exists.intro xm_314 (And.intro mi_314 (And.intro ⟨rfl, rfl, rfl, rfl⟩ (And.intro rfl ?_)))
        refine fcall _ h0 (fzs_sub (by decide +kernel) hW) hB1 (ct_M_next_c8003 (fBz h0 hB1) (by omega)) ?_
        rintro IhB10 _ hB10 fhB10 ⟨rfl, hz9⟩
        have t11 := fhB10 740 14 (by decide +kernel)
        have t12 := fhB10 740 15 (by decide +kernel)
        have t13 := fhB10 740 16 (by decide +kernel)
        have k14 := fBz_eq hB10 (a := 740) (j := 8) (by decide +kernel)
        have k15 := fBz_eq hB10 (a := 740) (j := 17) (by decide +kernel)
        refine Exists.intro xm_357 (And.intro mi_357 (And.intro ⟨rfl, rfl, rfl, rfl⟩ (And.intro rfl ?_)))
        refine fcall _ h0 (fzs_sub (by decide +kernel) hW) hB10 (ct_M_test_95df3 (fBz h0 hB10) (by omega) (by omega) (by omega) (by omega) (by omega)) ?_
        rintro IhB17 _ hB17 fhB17 ⟨z16, rfl, hz16, g0z16, g1z16⟩
        have k18 := fBz_eq hB17 (a := 740) (j := 8) (by decide +kernel)
        have k19 := fBz_eq hB17 (a := 740) (j := 17) (by decide +kernel)
        refine And.intro (by omega) (And.intro ?_ ?_)
        · intro c20
          refine Exists.intro xm_421 (And.intro mi_421 (And.intro ⟨rfl, rfl, rfl, rfl⟩ (And.intro rfl ?_)))
          refine fcall _ h0 (fzs_sub (by decide +kernel) hW) hB17 (ct_M_step_2c704 (fBz h0 hB17) (by omega) (by omega) (by omega) (by omega)) ?_
          rintro IhB22 _ hB22 fhB22 ⟨rfl, hz21, g0z21⟩
          have t23 := fhB22 740 9 (by decide +kernel)
          have t24 := fhB22 740 10 (by decide +kernel)
          have t25 := fhB22 740 11 (by decide +kernel)
          have t26 := fhB22 740 13 (by decide +kernel)
          have t27 := fhB22 740 14 (by decide +kernel)
          have t28 := fhB22 740 15 (by decide +kernel)
          have k29 := fBz_eq hB22 (a := 740) (j := 8) (by decide +kernel)
          have k30 := fBz_eq hB22 (a := 740) (j := 17) (by decide +kernel)
          exact fcutJ (I := IhB22) (j := (jc_M_both_9476d_10 I)) (lv' := [(0, .inr (.inr (some 740))), (1, .inl _)]) (And.intro rfl (And.intro rfl True.intro)) ⟨_, rfl, rfl, ⟨by omega, (par_be hx0 (fFr_S fhB10 (by decide +kernel)) g0z16 g0z21 (by omega) (by omega) (by omega) (by omega)), (par_one (by omega) hx1 (fFr_S fhB10 (by decide +kernel)) g0z16 (g1z16 (by omega)) g0z21 (by omega) (by omega) (by omega) (by omega) (by omega) (by omega))⟩, rfl⟩ (by omega)
        · intro c31
          refine And.intro (⟨by omega, by omega⟩) ?_
          exact ⟨_, rfl, by omega, (par_bel hx0 (fFr_S fhB10 (by decide +kernel)) g0z16 (by omega) (by omega)), (fun q => absurd q (by omega))⟩
  · have hB0 := fB_self (zn := znJ) (K := fKc wz_2212a) h0
    have b32 := fBd fb_740_8 (fBz h0 hB0)
    have b33 := fBd fb_740_14 (fBz h0 hB0)
    have b34 := fBd fb_740_15 (fBz h0 hB0)
    refine Exists.intro xm_357 (And.intro mi_357 (And.intro ⟨rfl, rfl, rfl, rfl⟩ (And.intro rfl ?_)))
    refine fcall _ h0 (fzs_sub (by decide +kernel) hW) hB0 (ct_M_test_95df3 (fBz h0 hB0) (by omega) (by omega) (by omega) (by omega) (by omega)) ?_
    rintro IhB36 _ hB36 fhB36 ⟨z35, rfl, hz35, g0z35, g1z35⟩
    have k37 := fBz_eq hB36 (a := 740) (j := 8) (by decide +kernel)
    have k38 := fBz_eq hB36 (a := 740) (j := 17) (by decide +kernel)
    refine And.intro (by omega) (And.intro ?_ ?_)
    · intro c39
      exact fcutJ (I := IhB36) (j := (jc_M_both_9476d_10 I)) (lv' := [(0, .inr (.inr (some 740))), (1, .inl _)]) (And.intro rfl (And.intro rfl True.intro)) ⟨_, rfl, rfl, ⟨by omega, g0z35, (g1z35 (by omega))⟩, rfl⟩ (by omega)
    · intro c40
      refine And.intro (⟨by omega, by omega⟩) ?_
      exact ⟨_, rfl, by omega, g0z35, (fun q => absurd q (by omega))⟩
abbrev jc_M_either_00619_10 (I0 : fH) : Nat → fL → List fV → fH → Prop := fun m lv st I => ∃ (y1 : Int), lv = [(0, .inr (.inr (some 740))), (1, .inl y1)] ∧ st = [] ∧ ((((-1) ≤ y1 ∧ y1 ≤ 5) ∧ (I0 740 9 ≤ I 740 9) ∧ (I 740 9 ≤ I 740 10) ∧ (I 740 10 ≤ I 740 8) ∧ (I 740 11 = 0 ∨ I 740 9 < I 740 10) ∧ (I0 740 16 ≤ I 740 16) ∧ (I 740 16 - I0 740 16 ≤ I 740 9 - I0 740 9) ∧ (I 740 14 = I0 740 14) ∧ (I 740 15 = I0 740 15)) ∧ (sBe I0 I (I0 740 17) (I0 740 16)) ∧ (sOne I (I0 740 17) (I0 740 16) (I 740 16))) ∧ m = (1 + 1 * (96 - I 740 9) : Int).toNat
set_option maxRecDepth 8000 in
theorem ct_M_either_00619 {I : fH} {x1 : Int} (h0 : fB bsJ I) (ha1 : ((-1) ≤ x1 ∧ x1 ≤ 5)) (hp0 : I 740 9 ≤ I 740 10 ∧ I 740 10 ≤ I 740 8 ∧ (I 740 11 = 0 ∨ I 740 9 < I 740 10)) (hp1 : 0 ≤ I 740 16 ∧ I 740 16 ≤ I 740 9) (hp2 : 12 ≤ I 740 14 + I 740 15) (hp3 : (1215 ≤ I 740 17 ∧ I 740 17 ≤ 3415 ∧ (I 740 17 - 1215) % 200 = 0) ∨ I 740 17 = 4700) : fC ρ base n F xTc vwCl xTys D dA la gJ (fbz bsJ znJ (fKc wz_2212a) I) xm_323 [.inr (.inr (some 740)), .inl x1] I (fun I' r => ∃ z, r = some (.inl z) ∧ ((0 ≤ z ∧ z ≤ 1) ∧ (I 740 9 ≤ I' 740 9 ∧ I' 740 9 ≤ I' 740 10 ∧ I' 740 10 ≤ I' 740 8 ∧ (I' 740 11 = 0 ∨ I' 740 9 < I' 740 10) ∧ (z = 1 → I 740 16 ≤ I' 740 16 ∧ I' 740 16 - I 740 16 ≤ I' 740 9 - I 740 9 ∧ I' 740 14 = I 740 14 ∧ I' 740 15 = I 740 15))) ∧ (sBe I I' (I 740 17) (I 740 16)) ∧ (z = 1 → sOne I' (I 740 17) (I 740 16) (I' 740 16))) := by
  have hW : fzs wz_2212a (fKc wz_2212a) := fKc_ok _
  refine f_meth (rb := rbJ) (J := [(10, (jc_M_either_00619_10 I))]) 98 400 xG xin_323 x6_323 okJ (fB_self h0) ?_ ?_
  · refine List.forall_mem_cons.mpr ⟨?_, fun q h => absurd h List.not_mem_nil⟩
    · rintro m _ _ I1 hB1 ⟨y1, rfl, rfl, ⟨hb, hx0, hx1⟩, hm⟩
      have k1 := fBz_eq hB1 (a := 740) (j := 8) (by decide +kernel)
      have k2 := fBz_eq hB1 (a := 740) (j := 17) (by decide +kernel)
      have b3 := fBd fb_740_8 (fBz h0 hB1)
      have b4 := fBd fb_740_14 (fBz h0 hB1)
      have b5 := fBd fb_740_15 (fBz h0 hB1)
      refine Exists.intro xm_423 (And.intro mi_423 (And.intro ⟨rfl, rfl, rfl, rfl⟩ (And.intro rfl ?_)))
      refine fcallp hB1 (ct_M_isSign_90da9 (fBz h0 hB1) (by omega)) ?_
      rintro _ ⟨z6, rfl, hz6⟩
      refine And.intro (by omega) (And.intro ?_ ?_)
      · intro c7
        refine And.intro (⟨by omega, by omega⟩) ?_
        exact ⟨_, rfl, by omega, hx0, (fun _ => hx1)⟩
      · intro c8
        refine Exists.intro xm_314 (And.intro mi_314 (And.intro ⟨rfl, rfl, rfl, rfl⟩ (And.intro rfl ?_)))
        refine fcall _ h0 (fzs_sub (by decide +kernel) hW) hB1 (ct_M_next_c8003 (fBz h0 hB1) (by omega)) ?_
        rintro IhB10 _ hB10 fhB10 ⟨rfl, hz9⟩
        have t11 := fhB10 740 14 (by decide +kernel)
        have t12 := fhB10 740 15 (by decide +kernel)
        have t13 := fhB10 740 16 (by decide +kernel)
        have k14 := fBz_eq hB10 (a := 740) (j := 8) (by decide +kernel)
        have k15 := fBz_eq hB10 (a := 740) (j := 17) (by decide +kernel)
        refine Exists.intro xm_340 (And.intro mi_340 (And.intro ⟨rfl, rfl, rfl, rfl⟩ (And.intro rfl ?_)))
        refine fcall _ h0 (fzs_sub (by decide +kernel) hW) hB10 (ct_M_both_9476d (fBz h0 hB10) (by omega) (by omega) (by omega) (by omega) (by omega)) ?_
        rintro IhB17 _ hB17 fhB17 ⟨z16, rfl, hz16, g0z16, g1z16⟩
        have k18 := fBz_eq hB17 (a := 740) (j := 8) (by decide +kernel)
        have k19 := fBz_eq hB17 (a := 740) (j := 17) (by decide +kernel)
        refine And.intro (by omega) (And.intro ?_ ?_)
        · intro c20
          refine Exists.intro xm_421 (And.intro mi_421 (And.intro ⟨rfl, rfl, rfl, rfl⟩ (And.intro rfl ?_)))
          refine fcall _ h0 (fzs_sub (by decide +kernel) hW) hB17 (ct_M_step_2c704 (fBz h0 hB17) (by omega) (by omega) (by omega) (by omega)) ?_
          rintro IhB22 _ hB22 fhB22 ⟨rfl, hz21, g0z21⟩
          have t23 := fhB22 740 9 (by decide +kernel)
          have t24 := fhB22 740 10 (by decide +kernel)
          have t25 := fhB22 740 11 (by decide +kernel)
          have t26 := fhB22 740 13 (by decide +kernel)
          have t27 := fhB22 740 14 (by decide +kernel)
          have t28 := fhB22 740 15 (by decide +kernel)
          have k29 := fBz_eq hB22 (a := 740) (j := 8) (by decide +kernel)
          have k30 := fBz_eq hB22 (a := 740) (j := 17) (by decide +kernel)
          exact fcutJ (I := IhB22) (j := (jc_M_either_00619_10 I)) (lv' := [(0, .inr (.inr (some 740))), (1, .inl _)]) (And.intro rfl (And.intro rfl True.intro)) ⟨_, rfl, rfl, ⟨by omega, (par_be hx0 (fFr_S fhB10 (by decide +kernel)) g0z16 g0z21 (by omega) (by omega) (by omega) (by omega)), (par_one (by omega) hx1 (fFr_S fhB10 (by decide +kernel)) g0z16 (g1z16 (by omega)) g0z21 (by omega) (by omega) (by omega) (by omega) (by omega) (by omega))⟩, rfl⟩ (by omega)
        · intro c31
          refine And.intro (⟨by omega, by omega⟩) ?_
          exact ⟨_, rfl, by omega, (par_bel hx0 (fFr_S fhB10 (by decide +kernel)) g0z16 (by omega) (by omega)), (fun q => absurd q (by omega))⟩
  · have hB0 := fB_self (zn := znJ) (K := fKc wz_2212a) h0
    have b32 := fBd fb_740_8 (fBz h0 hB0)
    have b33 := fBd fb_740_14 (fBz h0 hB0)
    have b34 := fBd fb_740_15 (fBz h0 hB0)
    refine Exists.intro xm_340 (And.intro mi_340 (And.intro ⟨rfl, rfl, rfl, rfl⟩ (And.intro rfl ?_)))
    refine fcall _ h0 (fzs_sub (by decide +kernel) hW) hB0 (ct_M_both_9476d (fBz h0 hB0) (by omega) (by omega) (by omega) (by omega) (by omega)) ?_
    rintro IhB36 _ hB36 fhB36 ⟨z35, rfl, hz35, g0z35, g1z35⟩
    have k37 := fBz_eq hB36 (a := 740) (j := 8) (by decide +kernel)
    have k38 := fBz_eq hB36 (a := 740) (j := 17) (by decide +kernel)
    refine And.intro (by omega) (And.intro ?_ ?_)
    · intro c39
      exact fcutJ (I := IhB36) (j := (jc_M_either_00619_10 I)) (lv' := [(0, .inr (.inr (some 740))), (1, .inl _)]) (And.intro rfl (And.intro rfl True.intro)) ⟨_, rfl, rfl, ⟨by omega, g0z35, (g1z35 (by omega))⟩, rfl⟩ (by omega)
    · intro c40
      refine And.intro (⟨by omega, by omega⟩) ?_
      exact ⟨_, rfl, by omega, g0z35, (fun q => absurd q (by omega))⟩
end CT

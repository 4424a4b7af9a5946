set_option linter.all false
/-! contracts (written by gen95.py) -/
theorem x6_422 : f60c xTc xTys xm_422 = true := by decide +kernel
abbrev wz_2212a : List Nat := [12209, 12210, 12211, 12212, 12213, 12214, 12215, 12216, 12218, 20605, 20840]
theorem x6_404 : f60c xTc xTys xm_404 = true := by decide +kernel
theorem fb_740_14 : bsJ 740 14 = (0, 8) := by decide +kernel
theorem fb_740_15 : bsJ 740 15 = (0, 8) := by decide +kernel
theorem fb_740_18 : bsJ 740 18 = ((-2147483648), 2147483647) := by decide +kernel
theorem x6_387 : f60c xTc xTys xm_387 = true := by decide +kernel
theorem x6_370 : f60c xTc xTys xm_370 = true := by decide +kernel
theorem x6_353 : f60c xTc xTys xm_353 = true := by decide +kernel
theorem x6_336 : f60c xTc xTys xm_336 = true := by decide +kernel
theorem x6_319 : f60c xTc xTys xm_319 = true := by decide +kernel
theorem x6_405 : f60c xTc xTys xm_405 = true := by decide +kernel
theorem x6_388 : f60c xTc xTys xm_388 = true := by decide +kernel
theorem x6_371 : f60c xTc xTys xm_371 = true := by decide +kernel
theorem x6_354 : f60c xTc xTys xm_354 = true := by decide +kernel
section CT
variable {ρ : Nat → Int32} {base n : Nat} {F : Nat → Prop} {D : va_G} {dA : Nat → ClassId} {la : Launch}
set_option maxRecDepth 8000 in
theorem ct_M_isName_49450 {I : fH} {x0 : Int} {x1 : Int} (h0 : fB bsJ I) (ha0 : ((-1) ≤ x0 ∧ x0 ≤ 5)) (ha1 : ((-2147483648) ≤ x1 ∧ x1 ≤ 2147483647)) : fC ρ base n F xTc vwCl xTys D dA la gJ (fbz bsJ znJ (fKc []) I) xm_422 [.inl x0, .inl x1] I (fun _ r => ∃ z, r = some (.inl z) ∧ ((0 ≤ z ∧ z ≤ 1) ∧ (z = 1 → 97 ≤ x1 ∧ x1 ≤ 121))) := by
  have hW : fzs [] (fKc []) := fKc_ok _
  refine f_meth (rb := rbJ) (J := []) 1 400 xG xin_422 x6_422 okJ (fB_self h0) ?_ ?_
  · exact fun q h => absurd h List.not_mem_nil
  · have hB0 := fB_self (zn := znJ) (K := fKc []) h0
    refine And.intro (by first | exact fi_ ha1.1 ha1.2 rfl | omega) (And.intro ?_ ?_)
    · refine And.intro (fun ex => ?_) (And.intro (fun ex => ?_) (And.intro (fun ex => ?_) (And.intro (fun ex => ?_) (And.intro (fun ex => ?_) (And.intro (fun ex => ?_) (And.intro (fun ex => ?_) (And.intro (fun ex => ?_) (And.intro (fun ex => ?_) (And.intro (fun ex => ?_) (And.intro (fun ex => ?_) (And.intro (fun ex => ?_) (And.intro (fun ex => ?_) (And.intro (fun ex => ?_) (And.intro (fun ex => ?_) (And.intro (fun ex => ?_) (And.intro (fun ex => ?_) (And.intro (fun ex => ?_) (And.intro (fun ex => ?_) (And.intro (fun ex => ?_) (And.intro (fun ex => ?_) (And.intro (fun ex => ?_) (And.intro (fun ex => ?_) (And.intro (fun ex => ?_) (And.intro (fun ex => ?_) (True.intro)))))))))))))))))))))))))
      · skip
        refine And.intro (by first | exact fi_ ha0.1 ha0.2 rfl | omega) (And.intro ?_ ?_)
        · intro c1
          refine And.intro (⟨by decide, by decide⟩) ?_
          exact ⟨_, rfl, by omega⟩
        · intro c2
          refine And.intro (And.intro (by first | exact fi_ ha0.1 ha0.2 rfl | omega) (by first | exact ⟨by decide, by decide⟩ | omega)) (And.intro ?_ ?_)
          · intro c3
            refine And.intro (⟨by decide, by decide⟩) ?_
            exact ⟨_, rfl, by omega⟩
          · intro c4
            refine And.intro (And.intro (by first | exact fi_ ha0.1 ha0.2 rfl | omega) (by first | exact ⟨by decide, by decide⟩ | omega)) (And.intro ?_ ?_)
            · intro c5
              refine And.intro (⟨by omega, by omega⟩) ?_
              exact ⟨_, rfl, by omega⟩
            · intro c6
              refine And.intro (⟨by decide, by decide⟩) ?_
              exact ⟨_, rfl, by omega⟩
      · skip
        refine And.intro (⟨by decide, by decide⟩) ?_
        exact ⟨_, rfl, by omega⟩
      · skip
        refine And.intro (by first | exact fi_ ha0.1 ha0.2 rfl | omega) (And.intro ?_ ?_)
        · intro c7
          refine And.intro (⟨by decide, by decide⟩) ?_
          exact ⟨_, rfl, by omega⟩
        · intro c8
          refine And.intro (And.intro (by first | exact fi_ ha0.1 ha0.2 rfl | omega) (by first | exact ⟨by decide, by decide⟩ | omega)) (And.intro ?_ ?_)
          · intro c9
            refine And.intro (⟨by decide, by decide⟩) ?_
            exact ⟨_, rfl, by omega⟩
          · intro c10
            refine And.intro (And.intro (by first | exact fi_ ha0.1 ha0.2 rfl | omega) (by first | exact ⟨by decide, by decide⟩ | omega)) (And.intro ?_ ?_)
            · intro c11
              refine And.intro (⟨by omega, by omega⟩) ?_
              exact ⟨_, rfl, by omega⟩
            · intro c12
              refine And.intro (⟨by decide, by decide⟩) ?_
              exact ⟨_, rfl, by omega⟩
      · skip
        refine And.intro (⟨by decide, by decide⟩) ?_
        exact ⟨_, rfl, by omega⟩
      · skip
        refine And.intro (And.intro (by first | exact fi_ ha0.1 ha0.2 rfl | omega) (by first | exact ⟨by decide, by decide⟩ | omega)) (And.intro ?_ ?_)
        · intro c13
          refine And.intro (⟨by omega, by omega⟩) ?_
          exact ⟨_, rfl, by omega⟩
        · intro c14
          refine And.intro (⟨by decide, by decide⟩) ?_
          exact ⟨_, rfl, by omega⟩
      · skip
        refine And.intro (And.intro (by first | exact fi_ ha0.1 ha0.2 rfl | omega) (by first | exact ⟨by decide, by decide⟩ | omega)) (And.intro ?_ ?_)
        · intro c15
          refine And.intro (⟨by omega, by omega⟩) ?_
          exact ⟨_, rfl, by omega⟩
        · intro c16
          refine And.intro (⟨by decide, by decide⟩) ?_
          exact ⟨_, rfl, by omega⟩
      · skip
        refine And.intro (And.intro (by first | exact fi_ ha0.1 ha0.2 rfl | omega) (by first | exact ⟨by decide, by decide⟩ | omega)) (And.intro ?_ ?_)
        · intro c17
          refine And.intro (⟨by omega, by omega⟩) ?_
          exact ⟨_, rfl, by omega⟩
        · intro c18
          refine And.intro (⟨by decide, by decide⟩) ?_
          exact ⟨_, rfl, by omega⟩
      · skip
        refine And.intro (⟨by decide, by decide⟩) ?_
        exact ⟨_, rfl, by omega⟩
      · skip
        refine And.intro (⟨by decide, by decide⟩) ?_
        exact ⟨_, rfl, by omega⟩
      · skip
        refine And.intro (⟨by decide, by decide⟩) ?_
        exact ⟨_, rfl, by omega⟩
      · skip
        refine And.intro (And.intro (by first | exact fi_ ha0.1 ha0.2 rfl | omega) (by first | exact ⟨by decide, by decide⟩ | omega)) (And.intro ?_ ?_)
        · intro c19
          refine And.intro (⟨by omega, by omega⟩) ?_
          exact ⟨_, rfl, by omega⟩
        · intro c20
          refine And.intro (⟨by decide, by decide⟩) ?_
          exact ⟨_, rfl, by omega⟩
      · skip
        refine And.intro (And.intro (by first | exact fi_ ha0.1 ha0.2 rfl | omega) (by first | exact ⟨by decide, by decide⟩ | omega)) (And.intro ?_ ?_)
        · intro c21
          refine And.intro (⟨by omega, by omega⟩) ?_
          exact ⟨_, rfl, by omega⟩
        · intro c22
          refine And.intro (⟨by decide, by decide⟩) ?_
          exact ⟨_, rfl, by omega⟩
      · skip
        refine And.intro (And.intro (by first | exact fi_ ha0.1 ha0.2 rfl | omega) (by first | exact ⟨by decide, by decide⟩ | omega)) (And.intro ?_ ?_)
        · intro c23
          refine And.intro (⟨by omega, by omega⟩) ?_
          exact ⟨_, rfl, by omega⟩
        · intro c24
          refine And.intro (⟨by decide, by decide⟩) ?_
          exact ⟨_, rfl, by omega⟩
      · skip
        refine And.intro (And.intro (by first | exact fi_ ha0.1 ha0.2 rfl | omega) (by first | exact ⟨by decide, by decide⟩ | omega)) (And.intro ?_ ?_)
        · intro c25
          refine And.intro (⟨by decide, by decide⟩) ?_
          exact ⟨_, rfl, by omega⟩
        · intro c26
          refine And.intro (And.intro (by first | exact fi_ ha0.1 ha0.2 rfl | omega) (by first | exact ⟨by decide, by decide⟩ | omega)) (And.intro ?_ ?_)
          · intro c27
            refine And.intro (⟨by omega, by omega⟩) ?_
            exact ⟨_, rfl, by omega⟩
          · intro c28
            refine And.intro (⟨by decide, by decide⟩) ?_
            exact ⟨_, rfl, by omega⟩
      · skip
        refine And.intro (And.intro (by first | exact fi_ ha0.1 ha0.2 rfl | omega) (by first | exact ⟨by decide, by decide⟩ | omega)) (And.intro ?_ ?_)
        · intro c29
          refine And.intro (⟨by omega, by omega⟩) ?_
          exact ⟨_, rfl, by omega⟩
        · intro c30
          refine And.intro (⟨by decide, by decide⟩) ?_
          exact ⟨_, rfl, by omega⟩
      · skip
        refine And.intro (And.intro (by first | exact fi_ ha0.1 ha0.2 rfl | omega) (by first | exact ⟨by decide, by decide⟩ | omega)) (And.intro ?_ ?_)
        · intro c31
          refine And.intro (⟨by decide, by decide⟩) ?_
          exact ⟨_, rfl, by omega⟩
        · intro c32
          refine And.intro (And.intro (by first | exact fi_ ha0.1 ha0.2 rfl | omega) (by first | exact ⟨by decide, by decide⟩ | omega)) (And.intro ?_ ?_)
          · intro c33
            refine And.intro (⟨by omega, by omega⟩) ?_
            exact ⟨_, rfl, by omega⟩
          · intro c34
            refine And.intro (⟨by decide, by decide⟩) ?_
            exact ⟨_, rfl, by omega⟩
      · skip
        refine And.intro (⟨by decide, by decide⟩) ?_
        exact ⟨_, rfl, by omega⟩
      · skip
        refine And.intro (⟨by decide, by decide⟩) ?_
        exact ⟨_, rfl, by omega⟩
      · skip
        refine And.intro (by first | exact fi_ ha0.1 ha0.2 rfl | omega) (And.intro ?_ ?_)
        · intro c35
          refine And.intro (⟨by decide, by decide⟩) ?_
          exact ⟨_, rfl, by omega⟩
        · intro c36
          refine And.intro (And.intro (by first | exact fi_ ha0.1 ha0.2 rfl | omega) (by first | exact ⟨by decide, by decide⟩ | omega)) (And.intro ?_ ?_)
          · intro c37
            refine And.intro (⟨by decide, by decide⟩) ?_
            exact ⟨_, rfl, by omega⟩
          · intro c38
            refine And.intro (And.intro (by first | exact fi_ ha0.1 ha0.2 rfl | omega) (by first | exact ⟨by decide, by decide⟩ | omega)) (And.intro ?_ ?_)
            · intro c39
              refine And.intro (⟨by omega, by omega⟩) ?_
              exact ⟨_, rfl, by omega⟩
            · intro c40
              refine And.intro (⟨by decide, by decide⟩) ?_
              exact ⟨_, rfl, by omega⟩
      · skip
        refine And.intro (⟨by decide, by decide⟩) ?_
        exact ⟨_, rfl, by omega⟩
      · skip
        refine And.intro (And.intro (by first | exact fi_ ha0.1 ha0.2 rfl | omega) (by first | exact ⟨by decide, by decide⟩ | omega)) (And.intro ?_ ?_)
        · intro c41
          refine And.intro (⟨by omega, by omega⟩) ?_
          exact ⟨_, rfl, by omega⟩
        · intro c42
          refine And.intro (⟨by decide, by decide⟩) ?_
          exact ⟨_, rfl, by omega⟩
      · skip
        refine And.intro (⟨by decide, by decide⟩) ?_
        exact ⟨_, rfl, by omega⟩
      · skip
        refine And.intro (⟨by decide, by decide⟩) ?_
        exact ⟨_, rfl, by omega⟩
      · skip
        refine And.intro (⟨by decide, by decide⟩) ?_
        exact ⟨_, rfl, by omega⟩
      · skip
        refine And.intro (And.intro (by first | exact fi_ ha0.1 ha0.2 rfl | omega) (by first | exact ⟨by decide, by decide⟩ | omega)) (And.intro ?_ ?_)
        · intro c43
          refine And.intro (⟨by omega, by omega⟩) ?_
          exact ⟨_, rfl, by omega⟩
        · intro c44
          refine And.intro (⟨by decide, by decide⟩) ?_
          exact ⟨_, rfl, by omega⟩
    · intro c45
      refine And.intro (⟨by decide, by decide⟩) ?_
      exact ⟨_, rfl, by omega⟩
set_option maxRecDepth 8000 in
theorem ct_M_part0_cc4b8 {I : fH} {x1 : Int} (h0 : fB bsJ I) (ha1 : ((-1) ≤ x1 ∧ x1 ≤ 5)) (hp0 : I 740 9 ≤ I 740 10 ∧ I 740 10 ≤ I 740 8 ∧ (I 740 11 = 0 ∨ I 740 9 < I 740 10)) (hp1 : 0 ≤ I 740 16 ∧ I 740 16 ≤ I 740 9) (hp2 : 16 ≤ I 740 14 + I 740 15) (hp3 : (1215 ≤ I 740 17 ∧ I 740 17 ≤ 3415 ∧ (I 740 17 - 1215) % 200 = 0) ∨ I 740 17 = 4700) : fC ρ base n F xTc vwCl xTys D dA la gJ (fbz bsJ znJ (fKc wz_2212a) I) xm_404 [.inr (.inr (some 740)), .inl x1] I (fun I' r => ∃ z, r = some (.inl z) ∧ ((0 ≤ z ∧ z ≤ 1) ∧ (I 740 9 ≤ I' 740 9 ∧ I' 740 9 ≤ I' 740 10 ∧ I' 740 10 ≤ I' 740 8 ∧ (I' 740 11 = 0 ∨ I' 740 9 < I' 740 10) ∧ (z = 1 → I 740 16 ≤ I' 740 16 ∧ I' 740 16 - I 740 16 ≤ I' 740 9 - I 740 9 ∧ I' 740 14 = I 740 14 ∧ I' 740 15 = I 740 15))) ∧ (sBe I I' (I 740 17) (I 740 16)) ∧ (z = 1 → sOne I' (I 740 17) (I 740 16) (I' 740 16))) := by
  have hW : fzs wz_2212a (fKc wz_2212a) := fKc_ok _
  refine f_meth (rb := rbJ) (J := []) 1 400 xG xin_404 x6_404 okJ (fB_self h0) ?_ ?_
  · exact fun q h => absurd h List.not_mem_nil
  · have hB0 := fB_self (zn := znJ) (K := fKc wz_2212a) h0
    have b1 := fBd fb_740_8 (fBz h0 hB0)
    have b2 := fBd fb_740_14 (fBz h0 hB0)
    have b3 := fBd fb_740_15 (fBz h0 hB0)
    refine And.intro ⟨rfl, by decide, by decide⟩ (fgetf fb_740_11 h0 hB0 ?_)
    intro z4 lz4 uz4 qz4
    refine And.intro (And.intro (by first | exact fi_ lz4 uz4 rfl | omega) (by first | exact ⟨by decide, by decide⟩ | omega)) (And.intro ?_ ?_)
    · intro c5
      refine And.intro ⟨rfl, by decide, by decide⟩ (fgetf fb_740_11 h0 hB0 ?_)
      intro z6 lz6 uz6 qz6
      refine And.intro (And.intro (by first | exact fi_ lz6 uz6 rfl | omega) (by first | exact ⟨by decide, by decide⟩ | omega)) (And.intro ?_ ?_)
      · intro c7
        refine Exists.intro xm_423 (And.intro mi_423 (And.intro ⟨rfl, rfl, rfl, rfl⟩ (And.intro rfl ?_)))
        refine fcallp hB0 (ct_M_isSign_90da9 (fBz h0 hB0) (by first | exact ⟨by decide, by decide⟩ | omega)) ?_
        rintro _ ⟨z8, rfl, hz8⟩
        refine And.intro (by omega) (And.intro ?_ ?_)
        · intro c9
          refine Exists.intro xm_423 (And.intro mi_423 (And.intro ⟨rfl, rfl, rfl, rfl⟩ (And.intro rfl ?_)))
          refine fcallp hB0 (ct_M_isSign_90da9 (fBz h0 hB0) (by first | exact ⟨by decide, by decide⟩ | omega)) ?_
          rintro _ ⟨z10, rfl, hz10⟩
          refine And.intro (by omega) (And.intro ?_ ?_)
          · intro c11
            refine And.intro (⟨by decide, by decide⟩) ?_
            exact ⟨_, rfl, by omega, sBe_refl, (fun q => absurd q (by omega))⟩
          · intro c12
            refine And.intro ⟨rfl, by decide, by decide⟩ (fgetf fb_740_14 h0 hB0 ?_)
            intro z13 lz13 uz13 qz13
            refine And.intro (And.intro (by first | exact fi_ lz13 uz13 rfl | omega) (by first | exact ⟨by decide, by decide⟩ | omega)) (And.intro ?_ ?_)
            · intro c14
              refine And.intro ⟨rfl, by decide, by decide⟩ (fgetf fb_740_14 h0 hB0 ?_)
              intro z15 lz15 uz15 qz15
              refine And.intro ⟨rfl, by decide, by decide⟩ (And.intro rfl (And.intro (Or.inl rfl) (fputf fb_740_14 (by decide +kernel) hW (by omega) ?_)))
              intro IhB16 ehB16 hB16
              have t17 : IhB16 740 9 = I 740 9 := (congrFun (congrFun ehB16 740) 9).trans (fup_ne (by first | decide | omega))
              have t18 : IhB16 740 10 = I 740 10 := (congrFun (congrFun ehB16 740) 10).trans (fup_ne (by first | decide | omega))
              have t19 : IhB16 740 11 = I 740 11 := (congrFun (congrFun ehB16 740) 11).trans (fup_ne (by first | decide | omega))
              have t20 : IhB16 740 13 = I 740 13 := (congrFun (congrFun ehB16 740) 13).trans (fup_ne (by first | decide | omega))
              have t21 := fup_at ehB16 14 (by first | rfl | omega)
              have t22 : IhB16 740 15 = I 740 15 := (congrFun (congrFun ehB16 740) 15).trans (fup_ne (by first | decide | omega))
              have t23 : IhB16 740 16 = I 740 16 := (congrFun (congrFun ehB16 740) 16).trans (fup_ne (by first | decide | omega))
              have k24 := fBz_eq hB16 (a := 740) (j := 8) (by decide +kernel)
              have k25 := fBz_eq hB16 (a := 740) (j := 17) (by decide +kernel)
              refine Exists.intro xm_314 (And.intro mi_314 (And.intro ⟨rfl, rfl, rfl, rfl⟩ (And.intro rfl ?_)))
              refine fcall _ h0 (fzs_sub (by decide +kernel) hW) hB16 (ct_M_next_c8003 (fBz h0 hB16) (by omega)) ?_
              rintro IhB27 _ hB27 fhB27 ⟨rfl, hz26⟩
              have t28 := fhB27 740 14 (by decide +kernel)
              have t29 := fhB27 740 15 (by decide +kernel)
              have t30 := fhB27 740 16 (by decide +kernel)
              have k31 := fBz_eq hB27 (a := 740) (j := 8) (by decide +kernel)
              have k32 := fBz_eq hB27 (a := 740) (j := 17) (by decide +kernel)
              exfalso
              omega
            · intro c33
              refine And.intro (⟨by decide, by decide⟩) ?_
              exact ⟨_, rfl, by omega, sBe_refl, (fun q => absurd q (by omega))⟩
        · intro c34
          refine And.intro ⟨rfl, by decide, by decide⟩ (fgetf fb_740_15 h0 hB0 ?_)
          intro z35 lz35 uz35 qz35
          refine And.intro (And.intro (by first | exact fi_ lz35 uz35 rfl | omega) (by first | exact ⟨by decide, by decide⟩ | omega)) (And.intro ?_ ?_)
          · intro c36
            refine Exists.intro xm_423 (And.intro mi_423 (And.intro ⟨rfl, rfl, rfl, rfl⟩ (And.intro rfl ?_)))
            refine fcallp hB0 (ct_M_isSign_90da9 (fBz h0 hB0) (by first | exact ⟨by decide, by decide⟩ | omega)) ?_
            rintro _ ⟨z37, rfl, hz37⟩
            refine And.intro (by omega) (And.intro ?_ ?_)
            · intro c38
              refine And.intro (⟨by decide, by decide⟩) ?_
              exact ⟨_, rfl, by omega, sBe_refl, (fun q => absurd q (by omega))⟩
            · intro c39
              refine And.intro ⟨rfl, by decide, by decide⟩ (fgetf fb_740_14 h0 hB0 ?_)
              intro z40 lz40 uz40 qz40
              refine And.intro (And.intro (by first | exact fi_ lz40 uz40 rfl | omega) (by first | exact ⟨by decide, by decide⟩ | omega)) (And.intro ?_ ?_)
              · intro c41
                refine And.intro ⟨rfl, by decide, by decide⟩ (fgetf fb_740_14 h0 hB0 ?_)
                intro z42 lz42 uz42 qz42
                refine And.intro ⟨rfl, by decide, by decide⟩ (And.intro rfl (And.intro (Or.inl rfl) (fputf fb_740_14 (by decide +kernel) hW (by omega) ?_)))
                intro IhB43 ehB43 hB43
                have t44 : IhB43 740 9 = I 740 9 := (congrFun (congrFun ehB43 740) 9).trans (fup_ne (by first | decide | omega))
                have t45 : IhB43 740 10 = I 740 10 := (congrFun (congrFun ehB43 740) 10).trans (fup_ne (by first | decide | omega))
                have t46 : IhB43 740 11 = I 740 11 := (congrFun (congrFun ehB43 740) 11).trans (fup_ne (by first | decide | omega))
                have t47 : IhB43 740 13 = I 740 13 := (congrFun (congrFun ehB43 740) 13).trans (fup_ne (by first | decide | omega))
                have t48 := fup_at ehB43 14 (by first | rfl | omega)
                have t49 : IhB43 740 15 = I 740 15 := (congrFun (congrFun ehB43 740) 15).trans (fup_ne (by first | decide | omega))
                have t50 : IhB43 740 16 = I 740 16 := (congrFun (congrFun ehB43 740) 16).trans (fup_ne (by first | decide | omega))
                have k51 := fBz_eq hB43 (a := 740) (j := 8) (by decide +kernel)
                have k52 := fBz_eq hB43 (a := 740) (j := 17) (by decide +kernel)
                refine Exists.intro xm_314 (And.intro mi_314 (And.intro ⟨rfl, rfl, rfl, rfl⟩ (And.intro rfl ?_)))
                refine fcall _ h0 (fzs_sub (by decide +kernel) hW) hB43 (ct_M_next_c8003 (fBz h0 hB43) (by omega)) ?_
                rintro IhB54 _ hB54 fhB54 ⟨rfl, hz53⟩
                have t55 := fhB54 740 14 (by decide +kernel)
                have t56 := fhB54 740 15 (by decide +kernel)
                have t57 := fhB54 740 16 (by decide +kernel)
                have k58 := fBz_eq hB54 (a := 740) (j := 8) (by decide +kernel)
                have k59 := fBz_eq hB54 (a := 740) (j := 17) (by decide +kernel)
                exfalso
                omega
              · intro c60
                refine And.intro (⟨by decide, by decide⟩) ?_
                exact ⟨_, rfl, by omega, sBe_refl, (fun q => absurd q (by omega))⟩
          · intro c61
            refine And.intro ⟨rfl, by decide, by decide⟩ (fgetf fb_740_15 h0 hB0 ?_)
            intro z62 lz62 uz62 qz62
            refine And.intro ⟨rfl, by decide, by decide⟩ (And.intro rfl (And.intro (Or.inl rfl) (fputf fb_740_15 (by decide +kernel) hW (by omega) ?_)))
            intro IhB63 ehB63 hB63
            have t64 : IhB63 740 9 = I 740 9 := (congrFun (congrFun ehB63 740) 9).trans (fup_ne (by first | decide | omega))
            have t65 : IhB63 740 10 = I 740 10 := (congrFun (congrFun ehB63 740) 10).trans (fup_ne (by first | decide | omega))
            have t66 : IhB63 740 11 = I 740 11 := (congrFun (congrFun ehB63 740) 11).trans (fup_ne (by first | decide | omega))
            have t67 : IhB63 740 13 = I 740 13 := (congrFun (congrFun ehB63 740) 13).trans (fup_ne (by first | decide | omega))
            have t68 : IhB63 740 14 = I 740 14 := (congrFun (congrFun ehB63 740) 14).trans (fup_ne (by first | decide | omega))
            have t69 := fup_at ehB63 15 (by first | rfl | omega)
            have t70 : IhB63 740 16 = I 740 16 := (congrFun (congrFun ehB63 740) 16).trans (fup_ne (by first | decide | omega))
            have k71 := fBz_eq hB63 (a := 740) (j := 8) (by decide +kernel)
            have k72 := fBz_eq hB63 (a := 740) (j := 17) (by decide +kernel)
            refine Exists.intro xm_314 (And.intro mi_314 (And.intro ⟨rfl, rfl, rfl, rfl⟩ (And.intro rfl ?_)))
            refine fcall _ h0 (fzs_sub (by decide +kernel) hW) hB63 (ct_M_next_c8003 (fBz h0 hB63) (by omega)) ?_
            rintro IhB74 _ hB74 fhB74 ⟨rfl, hz73⟩
            have t75 := fhB74 740 14 (by decide +kernel)
            have t76 := fhB74 740 15 (by decide +kernel)
            have t77 := fhB74 740 16 (by decide +kernel)
            have k78 := fBz_eq hB74 (a := 740) (j := 8) (by decide +kernel)
            have k79 := fBz_eq hB74 (a := 740) (j := 17) (by decide +kernel)
            exfalso
            omega
      · intro c80
        refine And.intro ⟨rfl, by decide, by decide⟩ (fgetf fb_740_13 h0 hB0 ?_)
        intro z81 lz81 uz81 qz81
        refine And.intro (by first | exact fi_ lz81 uz81 rfl | omega) (And.intro ?_ ?_)
        · intro c82
          refine Exists.intro xm_423 (And.intro mi_423 (And.intro ⟨rfl, rfl, rfl, rfl⟩ (And.intro rfl ?_)))
          refine fcallp hB0 (ct_M_isSign_90da9 (fBz h0 hB0) (by first | exact ⟨by decide, by decide⟩ | omega)) ?_
          rintro _ ⟨z83, rfl, hz83⟩
          refine And.intro (by omega) (And.intro ?_ ?_)
          · intro c84
            refine Exists.intro xm_423 (And.intro mi_423 (And.intro ⟨rfl, rfl, rfl, rfl⟩ (And.intro rfl ?_)))
            refine fcallp hB0 (ct_M_isSign_90da9 (fBz h0 hB0) (by first | exact ⟨by decide, by decide⟩ | omega)) ?_
            rintro _ ⟨z85, rfl, hz85⟩
            refine And.intro (by omega) (And.intro ?_ ?_)
            · intro c86
              refine And.intro (⟨by decide, by decide⟩) ?_
              exact ⟨_, rfl, by omega, sBe_refl, (fun q => absurd q (by omega))⟩
            · intro c87
              refine And.intro ⟨rfl, by decide, by decide⟩ (fgetf fb_740_14 h0 hB0 ?_)
              intro z88 lz88 uz88 qz88
              refine And.intro (And.intro (by first | exact fi_ lz88 uz88 rfl | omega) (by first | exact ⟨by decide, by decide⟩ | omega)) (And.intro ?_ ?_)
              · intro c89
                refine And.intro ⟨rfl, by decide, by decide⟩ (fgetf fb_740_14 h0 hB0 ?_)
                intro z90 lz90 uz90 qz90
                refine And.intro ⟨rfl, by decide, by decide⟩ (And.intro rfl (And.intro (Or.inl rfl) (fputf fb_740_14 (by decide +kernel) hW (by omega) ?_)))
                intro IhB91 ehB91 hB91
                have t92 : IhB91 740 9 = I 740 9 := (congrFun (congrFun ehB91 740) 9).trans (fup_ne (by first | decide | omega))
                have t93 : IhB91 740 10 = I 740 10 := (congrFun (congrFun ehB91 740) 10).trans (fup_ne (by first | decide | omega))
                have t94 : IhB91 740 11 = I 740 11 := (congrFun (congrFun ehB91 740) 11).trans (fup_ne (by first | decide | omega))
                have t95 : IhB91 740 13 = I 740 13 := (congrFun (congrFun ehB91 740) 13).trans (fup_ne (by first | decide | omega))
                have t96 := fup_at ehB91 14 (by first | rfl | omega)
                have t97 : IhB91 740 15 = I 740 15 := (congrFun (congrFun ehB91 740) 15).trans (fup_ne (by first | decide | omega))
                have t98 : IhB91 740 16 = I 740 16 := (congrFun (congrFun ehB91 740) 16).trans (fup_ne (by first | decide | omega))
                have k99 := fBz_eq hB91 (a := 740) (j := 8) (by decide +kernel)
                have k100 := fBz_eq hB91 (a := 740) (j := 17) (by decide +kernel)
                refine Exists.intro xm_314 (And.intro mi_314 (And.intro ⟨rfl, rfl, rfl, rfl⟩ (And.intro rfl ?_)))
                refine fcall _ h0 (fzs_sub (by decide +kernel) hW) hB91 (ct_M_next_c8003 (fBz h0 hB91) (by omega)) ?_
                rintro IhB102 _ hB102 fhB102 ⟨rfl, hz101⟩
                have t103 := fhB102 740 14 (by decide +kernel)
                have t104 := fhB102 740 15 (by decide +kernel)
                have t105 := fhB102 740 16 (by decide +kernel)
                have k106 := fBz_eq hB102 (a := 740) (j := 8) (by decide +kernel)
                have k107 := fBz_eq hB102 (a := 740) (j := 17) (by decide +kernel)
                exfalso
                omega
              · intro c108
                refine And.intro (⟨by decide, by decide⟩) ?_
                exact ⟨_, rfl, by omega, sBe_refl, (fun q => absurd q (by omega))⟩
          · intro c109
            refine And.intro ⟨rfl, by decide, by decide⟩ (fgetf fb_740_15 h0 hB0 ?_)
            intro z110 lz110 uz110 qz110
            refine And.intro (And.intro (by first | exact fi_ lz110 uz110 rfl | omega) (by first | exact ⟨by decide, by decide⟩ | omega)) (And.intro ?_ ?_)
            · intro c111
              refine Exists.intro xm_423 (And.intro mi_423 (And.intro ⟨rfl, rfl, rfl, rfl⟩ (And.intro rfl ?_)))
              refine fcallp hB0 (ct_M_isSign_90da9 (fBz h0 hB0) (by first | exact ⟨by decide, by decide⟩ | omega)) ?_
              rintro _ ⟨z112, rfl, hz112⟩
              refine And.intro (by omega) (And.intro ?_ ?_)
              · intro c113
                refine And.intro (⟨by decide, by decide⟩) ?_
                exact ⟨_, rfl, by omega, sBe_refl, (fun q => absurd q (by omega))⟩
              · intro c114
                refine And.intro ⟨rfl, by decide, by decide⟩ (fgetf fb_740_14 h0 hB0 ?_)
                intro z115 lz115 uz115 qz115
                refine And.intro (And.intro (by first | exact fi_ lz115 uz115 rfl | omega) (by first | exact ⟨by decide, by decide⟩ | omega)) (And.intro ?_ ?_)
                · intro c116
                  refine And.intro ⟨rfl, by decide, by decide⟩ (fgetf fb_740_14 h0 hB0 ?_)
                  intro z117 lz117 uz117 qz117
                  refine And.intro ⟨rfl, by decide, by decide⟩ (And.intro rfl (And.intro (Or.inl rfl) (fputf fb_740_14 (by decide +kernel) hW (by omega) ?_)))
                  intro IhB118 ehB118 hB118
                  have t119 : IhB118 740 9 = I 740 9 := (congrFun (congrFun ehB118 740) 9).trans (fup_ne (by first | decide | omega))
                  have t120 : IhB118 740 10 = I 740 10 := (congrFun (congrFun ehB118 740) 10).trans (fup_ne (by first | decide | omega))
                  have t121 : IhB118 740 11 = I 740 11 := (congrFun (congrFun ehB118 740) 11).trans (fup_ne (by first | decide | omega))
                  have t122 : IhB118 740 13 = I 740 13 := (congrFun (congrFun ehB118 740) 13).trans (fup_ne (by first | decide | omega))
                  have t123 := fup_at ehB118 14 (by first | rfl | omega)
                  have t124 : IhB118 740 15 = I 740 15 := (congrFun (congrFun ehB118 740) 15).trans (fup_ne (by first | decide | omega))
                  have t125 : IhB118 740 16 = I 740 16 := (congrFun (congrFun ehB118 740) 16).trans (fup_ne (by first | decide | omega))
                  have k126 := fBz_eq hB118 (a := 740) (j := 8) (by decide +kernel)
                  have k127 := fBz_eq hB118 (a := 740) (j := 17) (by decide +kernel)
                  refine Exists.intro xm_314 (And.intro mi_314 (And.intro ⟨rfl, rfl, rfl, rfl⟩ (And.intro rfl ?_)))
                  refine fcall _ h0 (fzs_sub (by decide +kernel) hW) hB118 (ct_M_next_c8003 (fBz h0 hB118) (by omega)) ?_
                  rintro IhB129 _ hB129 fhB129 ⟨rfl, hz128⟩
                  have t130 := fhB129 740 14 (by decide +kernel)
                  have t131 := fhB129 740 15 (by decide +kernel)
                  have t132 := fhB129 740 16 (by decide +kernel)
                  have k133 := fBz_eq hB129 (a := 740) (j := 8) (by decide +kernel)
                  have k134 := fBz_eq hB129 (a := 740) (j := 17) (by decide +kernel)
                  exfalso
                  omega
                · intro c135
                  refine And.intro (⟨by decide, by decide⟩) ?_
                  exact ⟨_, rfl, by omega, sBe_refl, (fun q => absurd q (by omega))⟩
            · intro c136
              refine And.intro ⟨rfl, by decide, by decide⟩ (fgetf fb_740_15 h0 hB0 ?_)
              intro z137 lz137 uz137 qz137
              refine And.intro ⟨rfl, by decide, by decide⟩ (And.intro rfl (And.intro (Or.inl rfl) (fputf fb_740_15 (by decide +kernel) hW (by omega) ?_)))
              intro IhB138 ehB138 hB138
              have t139 : IhB138 740 9 = I 740 9 := (congrFun (congrFun ehB138 740) 9).trans (fup_ne (by first | decide | omega))
              have t140 : IhB138 740 10 = I 740 10 := (congrFun (congrFun ehB138 740) 10).trans (fup_ne (by first | decide | omega))
              have t141 : IhB138 740 11 = I 740 11 := (congrFun (congrFun ehB138 740) 11).trans (fup_ne (by first | decide | omega))
              have t142 : IhB138 740 13 = I 740 13 := (congrFun (congrFun ehB138 740) 13).trans (fup_ne (by first | decide | omega))
              have t143 : IhB138 740 14 = I 740 14 := (congrFun (congrFun ehB138 740) 14).trans (fup_ne (by first | decide | omega))
              have t144 := fup_at ehB138 15 (by first | rfl | omega)
              have t145 : IhB138 740 16 = I 740 16 := (congrFun (congrFun ehB138 740) 16).trans (fup_ne (by first | decide | omega))
              have k146 := fBz_eq hB138 (a := 740) (j := 8) (by decide +kernel)
              have k147 := fBz_eq hB138 (a := 740) (j := 17) (by decide +kernel)
              refine Exists.intro xm_314 (And.intro mi_314 (And.intro ⟨rfl, rfl, rfl, rfl⟩ (And.intro rfl ?_)))
              refine fcall _ h0 (fzs_sub (by decide +kernel) hW) hB138 (ct_M_next_c8003 (fBz h0 hB138) (by omega)) ?_
              rintro IhB149 _ hB149 fhB149 ⟨rfl, hz148⟩
              have t150 := fhB149 740 14 (by decide +kernel)
              have t151 := fhB149 740 15 (by decide +kernel)
              have t152 := fhB149 740 16 (by decide +kernel)
              have k153 := fBz_eq hB149 (a := 740) (j := 8) (by decide +kernel)
              have k154 := fBz_eq hB149 (a := 740) (j := 17) (by decide +kernel)
              exfalso
              omega
        · intro c155
          refine And.intro ⟨rfl, by decide, by decide⟩ (fgetf fb_740_13 h0 hB0 ?_)
          intro z156 lz156 uz156 qz156
          refine Exists.intro xm_422 (And.intro mi_422 (And.intro ⟨rfl, rfl, rfl, rfl⟩ (And.intro True.intro ?_)))
          refine fcallp hB0 (ct_M_isName_49450 (fBz h0 hB0) (by first | exact ⟨ha1.1, ha1.2⟩ | omega) (by first | exact ⟨lz156, uz156⟩ | omega)) ?_
          rintro _ ⟨z157, rfl, hz157⟩
          refine And.intro (by omega) (And.intro ?_ ?_)
          · intro c158
            refine Exists.intro xm_423 (And.intro mi_423 (And.intro ⟨rfl, rfl, rfl, rfl⟩ (And.intro rfl ?_)))
            refine fcallp hB0 (ct_M_isSign_90da9 (fBz h0 hB0) (by first | exact ⟨by decide, by decide⟩ | omega)) ?_
            rintro _ ⟨z159, rfl, hz159⟩
            refine And.intro (by omega) (And.intro ?_ ?_)
            · intro c160
              refine Exists.intro xm_423 (And.intro mi_423 (And.intro ⟨rfl, rfl, rfl, rfl⟩ (And.intro rfl ?_)))
              refine fcallp hB0 (ct_M_isSign_90da9 (fBz h0 hB0) (by first | exact ⟨by decide, by decide⟩ | omega)) ?_
              rintro _ ⟨z161, rfl, hz161⟩
              refine And.intro (by omega) (And.intro ?_ ?_)
              · intro c162
                refine And.intro (⟨by decide, by decide⟩) ?_
                exact ⟨_, rfl, by omega, sBe_refl, (fun q => absurd q (by omega))⟩
              · intro c163
                refine And.intro ⟨rfl, by decide, by decide⟩ (fgetf fb_740_14 h0 hB0 ?_)
                intro z164 lz164 uz164 qz164
                refine And.intro (And.intro (by first | exact fi_ lz164 uz164 rfl | omega) (by first | exact ⟨by decide, by decide⟩ | omega)) (And.intro ?_ ?_)
                · intro c165
                  refine And.intro ⟨rfl, by decide, by decide⟩ (fgetf fb_740_14 h0 hB0 ?_)
                  intro z166 lz166 uz166 qz166
                  refine And.intro ⟨rfl, by decide, by decide⟩ (And.intro rfl (And.intro (Or.inl rfl) (fputf fb_740_14 (by decide +kernel) hW (by omega) ?_)))
                  intro IhB167 ehB167 hB167
                  have t168 : IhB167 740 9 = I 740 9 := (congrFun (congrFun ehB167 740) 9).trans (fup_ne (by first | decide | omega))
                  have t169 : IhB167 740 10 = I 740 10 := (congrFun (congrFun ehB167 740) 10).trans (fup_ne (by first | decide | omega))
                  have t170 : IhB167 740 11 = I 740 11 := (congrFun (congrFun ehB167 740) 11).trans (fup_ne (by first | decide | omega))
                  have t171 : IhB167 740 13 = I 740 13 := (congrFun (congrFun ehB167 740) 13).trans (fup_ne (by first | decide | omega))
                  have t172 := fup_at ehB167 14 (by first | rfl | omega)
                  have t173 : IhB167 740 15 = I 740 15 := (congrFun (congrFun ehB167 740) 15).trans (fup_ne (by first | decide | omega))
                  have t174 : IhB167 740 16 = I 740 16 := (congrFun (congrFun ehB167 740) 16).trans (fup_ne (by first | decide | omega))
                  have k175 := fBz_eq hB167 (a := 740) (j := 8) (by decide +kernel)
                  have k176 := fBz_eq hB167 (a := 740) (j := 17) (by decide +kernel)
                  refine Exists.intro xm_314 (And.intro mi_314 (And.intro ⟨rfl, rfl, rfl, rfl⟩ (And.intro rfl ?_)))
                  refine fcall _ h0 (fzs_sub (by decide +kernel) hW) hB167 (ct_M_next_c8003 (fBz h0 hB167) (by omega)) ?_
                  rintro IhB178 _ hB178 fhB178 ⟨rfl, hz177⟩
                  have t179 := fhB178 740 14 (by decide +kernel)
                  have t180 := fhB178 740 15 (by decide +kernel)
                  have t181 := fhB178 740 16 (by decide +kernel)
                  have k182 := fBz_eq hB178 (a := 740) (j := 8) (by decide +kernel)
                  have k183 := fBz_eq hB178 (a := 740) (j := 17) (by decide +kernel)
                  exfalso
                  omega
                · intro c184
                  refine And.intro (⟨by decide, by decide⟩) ?_
                  exact ⟨_, rfl, by omega, sBe_refl, (fun q => absurd q (by omega))⟩
            · intro c185
              refine And.intro ⟨rfl, by decide, by decide⟩ (fgetf fb_740_15 h0 hB0 ?_)
              intro z186 lz186 uz186 qz186
              refine And.intro (And.intro (by first | exact fi_ lz186 uz186 rfl | omega) (by first | exact ⟨by decide, by decide⟩ | omega)) (And.intro ?_ ?_)
              · intro c187
                refine Exists.intro xm_423 (And.intro mi_423 (And.intro ⟨rfl, rfl, rfl, rfl⟩ (And.intro rfl ?_)))
                refine fcallp hB0 (ct_M_isSign_90da9 (fBz h0 hB0) (by first | exact ⟨by decide, by decide⟩ | omega)) ?_
                rintro _ ⟨z188, rfl, hz188⟩
                refine And.intro (by omega) (And.intro ?_ ?_)
                · intro c189
                  refine And.intro (⟨by decide, by decide⟩) ?_
                  exact ⟨_, rfl, by omega, sBe_refl, (fun q => absurd q (by omega))⟩
                · intro c190
                  refine And.intro ⟨rfl, by decide, by decide⟩ (fgetf fb_740_14 h0 hB0 ?_)
                  intro z191 lz191 uz191 qz191
                  refine And.intro (And.intro (by first | exact fi_ lz191 uz191 rfl | omega) (by first | exact ⟨by decide, by decide⟩ | omega)) (And.intro ?_ ?_)
                  · intro c192
                    refine And.intro ⟨rfl, by decide, by decide⟩ (fgetf fb_740_14 h0 hB0 ?_)
                    intro z193 lz193 uz193 qz193
                    refine And.intro ⟨rfl, by decide, by decide⟩ (And.intro rfl (And.intro (Or.inl rfl) (fputf fb_740_14 (by decide +kernel) hW (by omega) ?_)))
                    intro IhB194 ehB194 hB194
                    have t195 : IhB194 740 9 = I 740 9 := (congrFun (congrFun ehB194 740) 9).trans (fup_ne (by first | decide | omega))
                    have t196 : IhB194 740 10 = I 740 10 := (congrFun (congrFun ehB194 740) 10).trans (fup_ne (by first | decide | omega))
                    have t197 : IhB194 740 11 = I 740 11 := (congrFun (congrFun ehB194 740) 11).trans (fup_ne (by first | decide | omega))
                    have t198 : IhB194 740 13 = I 740 13 := (congrFun (congrFun ehB194 740) 13).trans (fup_ne (by first | decide | omega))
                    have t199 := fup_at ehB194 14 (by first | rfl | omega)
                    have t200 : IhB194 740 15 = I 740 15 := (congrFun (congrFun ehB194 740) 15).trans (fup_ne (by first | decide | omega))
                    have t201 : IhB194 740 16 = I 740 16 := (congrFun (congrFun ehB194 740) 16).trans (fup_ne (by first | decide | omega))
                    have k202 := fBz_eq hB194 (a := 740) (j := 8) (by decide +kernel)
                    have k203 := fBz_eq hB194 (a := 740) (j := 17) (by decide +kernel)
                    refine Exists.intro xm_314 (And.intro mi_314 (And.intro ⟨rfl, rfl, rfl, rfl⟩ (And.intro rfl ?_)))
                    refine fcall _ h0 (fzs_sub (by decide +kernel) hW) hB194 (ct_M_next_c8003 (fBz h0 hB194) (by omega)) ?_
                    rintro IhB205 _ hB205 fhB205 ⟨rfl, hz204⟩
                    have t206 := fhB205 740 14 (by decide +kernel)
                    have t207 := fhB205 740 15 (by decide +kernel)
                    have t208 := fhB205 740 16 (by decide +kernel)
                    have k209 := fBz_eq hB205 (a := 740) (j := 8) (by decide +kernel)
                    have k210 := fBz_eq hB205 (a := 740) (j := 17) (by decide +kernel)
                    exfalso
                    omega
                  · intro c211
                    refine And.intro (⟨by decide, by decide⟩) ?_
                    exact ⟨_, rfl, by omega, sBe_refl, (fun q => absurd q (by omega))⟩
              · intro c212
                refine And.intro ⟨rfl, by decide, by decide⟩ (fgetf fb_740_15 h0 hB0 ?_)
                intro z213 lz213 uz213 qz213
                refine And.intro ⟨rfl, by decide, by decide⟩ (And.intro rfl (And.intro (Or.inl rfl) (fputf fb_740_15 (by decide +kernel) hW (by omega) ?_)))
                intro IhB214 ehB214 hB214
                have t215 : IhB214 740 9 = I 740 9 := (congrFun (congrFun ehB214 740) 9).trans (fup_ne (by first | decide | omega))
                have t216 : IhB214 740 10 = I 740 10 := (congrFun (congrFun ehB214 740) 10).trans (fup_ne (by first | decide | omega))
                have t217 : IhB214 740 11 = I 740 11 := (congrFun (congrFun ehB214 740) 11).trans (fup_ne (by first | decide | omega))
                have t218 : IhB214 740 13 = I 740 13 := (congrFun (congrFun ehB214 740) 13).trans (fup_ne (by first | decide | omega))
                have t219 : IhB214 740 14 = I 740 14 := (congrFun (congrFun ehB214 740) 14).trans (fup_ne (by first | decide | omega))
                have t220 := fup_at ehB214 15 (by first | rfl | omega)
                have t221 : IhB214 740 16 = I 740 16 := (congrFun (congrFun ehB214 740) 16).trans (fup_ne (by first | decide | omega))
                have k222 := fBz_eq hB214 (a := 740) (j := 8) (by decide +kernel)
                have k223 := fBz_eq hB214 (a := 740) (j := 17) (by decide +kernel)
                refine Exists.intro xm_314 (And.intro mi_314 (And.intro ⟨rfl, rfl, rfl, rfl⟩ (And.intro rfl ?_)))
                refine fcall _ h0 (fzs_sub (by decide +kernel) hW) hB214 (ct_M_next_c8003 (fBz h0 hB214) (by omega)) ?_
                rintro IhB225 _ hB225 fhB225 ⟨rfl, hz224⟩
                have t226 := fhB225 740 14 (by decide +kernel)
                have t227 := fhB225 740 15 (by decide +kernel)
                have t228 := fhB225 740 16 (by decide +kernel)
                have k229 := fBz_eq hB225 (a := 740) (j := 8) (by decide +kernel)
                have k230 := fBz_eq hB225 (a := 740) (j := 17) (by decide +kernel)
                exfalso
                omega
          · intro c231
            refine And.intro ⟨rfl, by decide, by decide⟩ (fgetf fb_740_13 h0 hB0 ?_)
            intro z232 lz232 uz232 qz232
            refine Exists.intro xm_421 (And.intro mi_421 (And.intro ⟨rfl, rfl, rfl, rfl⟩ (And.intro rfl ?_)))
            refine fcall _ h0 (fzs_sub (by decide +kernel) hW) hB0 (ct_M_step_2c704 (fBz h0 hB0) (by first | exact ⟨by decide, by decide⟩ | omega) (by first | exact ⟨lz232, uz232⟩ | omega) (by omega) (by omega)) ?_
            rintro IhB234 _ hB234 fhB234 ⟨rfl, hz233, g0z233⟩
            have t235 := fhB234 740 9 (by decide +kernel)
            have t236 := fhB234 740 10 (by decide +kernel)
            have t237 := fhB234 740 11 (by decide +kernel)
            have t238 := fhB234 740 13 (by decide +kernel)
            have t239 := fhB234 740 14 (by decide +kernel)
            have t240 := fhB234 740 15 (by decide +kernel)
            have k241 := fBz_eq hB234 (a := 740) (j := 8) (by decide +kernel)
            have k242 := fBz_eq hB234 (a := 740) (j := 17) (by decide +kernel)
            refine And.intro ⟨rfl, by decide, by decide⟩ (fgetf fb_740_18 h0 hB234 ?_)
            intro z243 lz243 uz243 qz243
            intro z244 hz244 ez244 bz244
            clear ez244
            try replace bz244 := bz244 (by omega)
            refine And.intro ⟨rfl, by decide, by decide⟩ (And.intro rfl (And.intro (Or.inl rfl) (fputf fb_740_18 (by decide +kernel) hW (by omega) ?_)))
            intro IhB245 ehB245 hB245
            have t246 : IhB245 740 9 = IhB234 740 9 := (congrFun (congrFun ehB245 740) 9).trans (fup_ne (by first | decide | omega))
            have t247 : IhB245 740 10 = IhB234 740 10 := (congrFun (congrFun ehB245 740) 10).trans (fup_ne (by first | decide | omega))
            have t248 : IhB245 740 11 = IhB234 740 11 := (congrFun (congrFun ehB245 740) 11).trans (fup_ne (by first | decide | omega))
            have t249 : IhB245 740 13 = IhB234 740 13 := (congrFun (congrFun ehB245 740) 13).trans (fup_ne (by first | decide | omega))
            have t250 : IhB245 740 14 = IhB234 740 14 := (congrFun (congrFun ehB245 740) 14).trans (fup_ne (by first | decide | omega))
            have t251 : IhB245 740 15 = IhB234 740 15 := (congrFun (congrFun ehB245 740) 15).trans (fup_ne (by first | decide | omega))
            have t252 : IhB245 740 16 = IhB234 740 16 := (congrFun (congrFun ehB245 740) 16).trans (fup_ne (by first | decide | omega))
            have t253 := fup_at ehB245 18 (by first | rfl | omega)
            have k254 := fBz_eq hB245 (a := 740) (j := 8) (by decide +kernel)
            have k255 := fBz_eq hB245 (a := 740) (j := 17) (by decide +kernel)
            refine Exists.intro xm_314 (And.intro mi_314 (And.intro ⟨rfl, rfl, rfl, rfl⟩ (And.intro rfl ?_)))
            refine fcall _ h0 (fzs_sub (by decide +kernel) hW) hB245 (ct_M_next_c8003 (fBz h0 hB245) (by omega)) ?_
            rintro IhB257 _ hB257 fhB257 ⟨rfl, hz256⟩
            have t258 := fhB257 740 14 (by decide +kernel)
            have t259 := fhB257 740 15 (by decide +kernel)
            have t260 := fhB257 740 16 (by decide +kernel)
            have t261 := fhB257 740 18 (by decide +kernel)
            have k262 := fBz_eq hB257 (a := 740) (j := 8) (by decide +kernel)
            have k263 := fBz_eq hB257 (a := 740) (j := 17) (by decide +kernel)
            refine And.intro (⟨by decide, by decide⟩) ?_
            exact ⟨_, rfl, by omega, (par_leaf (M := IhB257 740 16) (by omega) (by omega) g0z233 (fun j => (fFr_S fhB257 (by decide +kernel) j).trans (fup_other ehB245 741 j (Or.inl (by decide)))) (by omega) (by omega)).1, (fun _ => (par_leaf (M := IhB257 740 16) (by omega) (by omega) g0z233 (fun j => (fFr_S fhB257 (by decide +kernel) j).trans (fup_other ehB245 741 j (Or.inl (by decide)))) (by omega) (by omega)).2)⟩
    · intro c264
      refine And.intro ⟨rfl, by decide, by decide⟩ (fgetf fb_740_12 h0 hB0 ?_)
      intro z265 lz265 uz265 qz265
      refine Exists.intro xm_421 (And.intro mi_421 (And.intro ⟨rfl, rfl, rfl, rfl⟩ (And.intro rfl ?_)))
      refine fcall _ h0 (fzs_sub (by decide +kernel) hW) hB0 (ct_M_step_2c704 (fBz h0 hB0) (by first | exact ⟨by decide, by decide⟩ | omega) (by first | exact ⟨lz265, uz265⟩ | omega) (by omega) (by omega)) ?_
      rintro IhB267 _ hB267 fhB267 ⟨rfl, hz266, g0z266⟩
      have t268 := fhB267 740 9 (by decide +kernel)
      have t269 := fhB267 740 10 (by decide +kernel)
      have t270 := fhB267 740 11 (by decide +kernel)
      have t271 := fhB267 740 12 (by decide +kernel)
      have t272 := fhB267 740 13 (by decide +kernel)
      have t273 := fhB267 740 14 (by decide +kernel)
      have t274 := fhB267 740 15 (by decide +kernel)
      have k275 := fBz_eq hB267 (a := 740) (j := 8) (by decide +kernel)
      have k276 := fBz_eq hB267 (a := 740) (j := 17) (by decide +kernel)
      refine And.intro ⟨rfl, by decide, by decide⟩ (fgetf fb_740_18 h0 hB267 ?_)
      intro z277 lz277 uz277 qz277
      intro z278 hz278 ez278 bz278
      clear ez278
      try replace bz278 := bz278 (by omega)
      refine And.intro ⟨rfl, by decide, by decide⟩ (And.intro rfl (And.intro (Or.inl rfl) (fputf fb_740_18 (by decide +kernel) hW (by omega) ?_)))
      intro IhB279 ehB279 hB279
      have t280 : IhB279 740 9 = IhB267 740 9 := (congrFun (congrFun ehB279 740) 9).trans (fup_ne (by first | decide | omega))
      have t281 : IhB279 740 10 = IhB267 740 10 := (congrFun (congrFun ehB279 740) 10).trans (fup_ne (by first | decide | omega))
      have t282 : IhB279 740 11 = IhB267 740 11 := (congrFun (congrFun ehB279 740) 11).trans (fup_ne (by first | decide | omega))
      have t283 : IhB279 740 12 = IhB267 740 12 := (congrFun (congrFun ehB279 740) 12).trans (fup_ne (by first | decide | omega))
      have t284 : IhB279 740 13 = IhB267 740 13 := (congrFun (congrFun ehB279 740) 13).trans (fup_ne (by first | decide | omega))
      have t285 : IhB279 740 14 = IhB267 740 14 := (congrFun (congrFun ehB279 740) 14).trans (fup_ne (by first | decide | omega))
      have t286 : IhB279 740 15 = IhB267 740 15 := (congrFun (congrFun ehB279 740) 15).trans (fup_ne (by first | decide | omega))
      have t287 : IhB279 740 16 = IhB267 740 16 := (congrFun (congrFun ehB279 740) 16).trans (fup_ne (by first | decide | omega))
      have t288 := fup_at ehB279 18 (by first | rfl | omega)
      have k289 := fBz_eq hB279 (a := 740) (j := 8) (by decide +kernel)
      have k290 := fBz_eq hB279 (a := 740) (j := 17) (by decide +kernel)
      refine Exists.intro xm_314 (And.intro mi_314 (And.intro ⟨rfl, rfl, rfl, rfl⟩ (And.intro rfl ?_)))
      refine fcall _ h0 (fzs_sub (by decide +kernel) hW) hB279 (ct_M_next_c8003 (fBz h0 hB279) (by omega)) ?_
      rintro IhB292 _ hB292 fhB292 ⟨rfl, hz291⟩
      have t293 := fhB292 740 14 (by decide +kernel)
      have t294 := fhB292 740 15 (by decide +kernel)
      have t295 := fhB292 740 16 (by decide +kernel)
      have t296 := fhB292 740 18 (by decide +kernel)
      have k297 := fBz_eq hB292 (a := 740) (j := 8) (by decide +kernel)
      have k298 := fBz_eq hB292 (a := 740) (j := 17) (by decide +kernel)
      refine And.intro (⟨by decide, by decide⟩) ?_
      exact ⟨_, rfl, by omega, (par_leaf (M := IhB292 740 16) (by omega) (by omega) g0z266 (fun j => (fFr_S fhB292 (by decide +kernel) j).trans (fup_other ehB279 741 j (Or.inl (by decide)))) (by omega) (by omega)).1, (fun _ => (par_leaf (M := IhB292 740 16) (by omega) (by omega) g0z266 (fun j => (fFr_S fhB292 (by decide +kernel) j).trans (fup_other ehB279 741 j (Or.inl (by decide)))) (by omega) (by omega)).2)⟩
abbrev jc_M_term_10b42_10 (I0 : fH) : Nat → fL → List fV → fH → Prop := fun m lv st I => ∃ (y1 : Int), lv = [(0, .inr (.inr (some 740))), (1, .inl y1)] ∧ st = [] ∧ ((((-1) ≤ y1 ∧ y1 ≤ 5) ∧ (I0 740 9 ≤ I 740 9) ∧ (I 740 9 ≤ I 740 10) ∧ (I 740 10 ≤ I 740 8) ∧ (I 740 11 = 0 ∨ I 740 9 < I 740 10) ∧ (I0 740 16 ≤ I 740 16) ∧ (I 740 16 - I0 740 16 ≤ I 740 9 - I0 740 9) ∧ (I 740 14 = I0 740 14) ∧ (I 740 15 = I0 740 15)) ∧ (sBe I0 I (I0 740 17) (I0 740 16)) ∧ (sOne I (I0 740 17) (I0 740 16) (I 740 16))) ∧ m = (1 + 1 * (96 - I 740 9) : Int).toNat
set_option maxRecDepth 8000 in
theorem ct_M_term_10b42 {I : fH} {x1 : Int} (h0 : fB bsJ I) (ha1 : ((-1) ≤ x1 ∧ x1 ≤ 5)) (hp0 : I 740 9 ≤ I 740 10 ∧ I 740 10 ≤ I 740 8 ∧ (I 740 11 = 0 ∨ I 740 9 < I 740 10)) (hp1 : 0 ≤ I 740 16 ∧ I 740 16 ≤ I 740 9) (hp2 : 16 ≤ I 740 14 + I 740 15) (hp3 : (1215 ≤ I 740 17 ∧ I 740 17 ≤ 3415 ∧ (I 740 17 - 1215) % 200 = 0) ∨ I 740 17 = 4700) : fC ρ base n F xTc vwCl xTys D dA la gJ (fbz bsJ znJ (fKc wz_2212a) I) xm_387 [.inr (.inr (some 740)), .inl x1] I (fun I' r => ∃ z, r = some (.inl z) ∧ ((0 ≤ z ∧ z ≤ 1) ∧ (I 740 9 ≤ I' 740 9 ∧ I' 740 9 ≤ I' 740 10 ∧ I' 740 10 ≤ I' 740 8 ∧ (I' 740 11 = 0 ∨ I' 740 9 < I' 740 10) ∧ (z = 1 → I 740 16 ≤ I' 740 16 ∧ I' 740 16 - I 740 16 ≤ I' 740 9 - I 740 9 ∧ I' 740 14 = I 740 14 ∧ I' 740 15 = I 740 15))) ∧ (sBe I I' (I 740 17) (I 740 16)) ∧ (z = 1 → sOne I' (I 740 17) (I 740 16) (I' 740 16))) := by
  have hW : fzs wz_2212a (fKc wz_2212a) := fKc_ok _
  refine f_meth (rb := rbJ) (J := [(10, (jc_M_term_10b42_10 I))]) 98 400 xG xin_387 x6_387 okJ (fB_self h0) ?_ ?_
  · refine List.forall_mem_cons.mpr ⟨?_, fun q h => absurd h List.not_mem_nil⟩
    · rintro m _ _ I1 hB1 ⟨y1, rfl, rfl, ⟨hb, hx0, hx1⟩, hm⟩
      have k1 := fBz_eq hB1 (a := 740) (j := 8) (by decide +kernel)
      have k2 := fBz_eq hB1 (a := 740) (j := 17) (by decide +kernel)
      have b3 := fBd fb_740_8 (fBz h0 hB1)
      have b4 := fBd fb_740_14 (fBz h0 hB1)
      have b5 := fBd fb_740_15 (fBz h0 hB1)
      refine Exists.intro xm_423 (And.intro mi_423 (And.intro ⟨rfl, rfl, rfl, rfl⟩ (And.intro rfl ?_)))
      refine fcallp hB1 (ct_M_isSign_90da9 (fBz h0 hB1) (by first | exact ⟨by decide, by decide⟩ | omega)) ?_
      rintro _ ⟨z6, rfl, hz6⟩
      refine And.intro (by omega) (And.intro ?_ ?_)
      · intro c7
        refine And.intro ⟨rfl, by decide, by decide⟩ (fgetf fb_740_13 h0 hB1 ?_)
        intro z8 lz8 uz8 qz8
        refine Exists.intro xm_314 (And.intro mi_314 (And.intro ⟨rfl, rfl, rfl, rfl⟩ (And.intro rfl ?_)))
        refine fcall _ h0 (fzs_sub (by decide +kernel) hW) hB1 (ct_M_next_c8003 (fBz h0 hB1) (by omega)) ?_
        rintro IhB10 _ hB10 fhB10 ⟨rfl, hz9⟩
        have t11 := fhB10 740 14 (by decide +kernel)
        have t12 := fhB10 740 15 (by decide +kernel)
        have t13 := fhB10 740 16 (by decide +kernel)
        have k14 := fBz_eq hB10 (a := 740) (j := 8) (by decide +kernel)
        have k15 := fBz_eq hB10 (a := 740) (j := 17) (by decide +kernel)
        refine Exists.intro xm_404 (And.intro mi_404 (And.intro ⟨rfl, rfl, rfl, rfl⟩ (And.intro rfl ?_)))
        refine fcall _ h0 (fzs_sub (by decide +kernel) hW) hB10 (ct_M_part0_cc4b8 (fBz h0 hB10) (by first | exact ⟨hb.1.1, hb.1.2⟩ | omega) (by omega) (by omega) (by omega) (by omega)) ?_
        rintro IhB17 _ hB17 fhB17 ⟨z16, rfl, hz16, g0z16, g1z16⟩
        have k18 := fBz_eq hB17 (a := 740) (j := 8) (by decide +kernel)
        have k19 := fBz_eq hB17 (a := 740) (j := 17) (by decide +kernel)
        refine And.intro (by omega) (And.intro ?_ ?_)
        · intro c20
          refine Exists.intro xm_421 (And.intro mi_421 (And.intro ⟨rfl, rfl, rfl, rfl⟩ (And.intro rfl ?_)))
          refine fcall _ h0 (fzs_sub (by decide +kernel) hW) hB17 (ct_M_step_2c704 (fBz h0 hB17) (by first | exact ⟨by decide, by decide⟩ | omega) (by first | exact ⟨lz8, uz8⟩ | omega) (by omega) (by omega)) ?_
          rintro IhB22 _ hB22 fhB22 ⟨rfl, hz21, g0z21⟩
          have t23 := fhB22 740 9 (by decide +kernel)
          have t24 := fhB22 740 10 (by decide +kernel)
          have t25 := fhB22 740 11 (by decide +kernel)
          have t26 := fhB22 740 13 (by decide +kernel)
          have t27 := fhB22 740 14 (by decide +kernel)
          have t28 := fhB22 740 15 (by decide +kernel)
          have k29 := fBz_eq hB22 (a := 740) (j := 8) (by decide +kernel)
          have k30 := fBz_eq hB22 (a := 740) (j := 17) (by decide +kernel)
          exact fcutJ (I := IhB22) (j := (jc_M_term_10b42_10 I)) (lv' := [(0, .inr (.inr (some 740))), (1, .inl _)]) (And.intro rfl (And.intro rfl True.intro)) ⟨_, rfl, rfl, ⟨by omega, (par_be hx0 (fFr_S fhB10 (by decide +kernel)) g0z16 g0z21 (by omega) (by omega) (by omega) (by omega)), (par_one (by omega) hx1 (fFr_S fhB10 (by decide +kernel)) g0z16 (g1z16 (by omega)) g0z21 (by omega) (by omega) (by omega) (by omega) (by omega) (by omega))⟩, rfl⟩ (by omega)
        · intro c31
          refine And.intro (⟨by decide, by decide⟩) ?_
          exact ⟨_, rfl, by omega, (par_bel hx0 (fFr_S fhB10 (by decide +kernel)) g0z16 (by omega) (by omega)), (fun q => absurd q (by omega))⟩
      · intro c32
        refine Exists.intro xm_423 (And.intro mi_423 (And.intro ⟨rfl, rfl, rfl, rfl⟩ (And.intro rfl ?_)))
        refine fcallp hB1 (ct_M_isSign_90da9 (fBz h0 hB1) (by first | exact ⟨by decide, by decide⟩ | omega)) ?_
        rintro _ ⟨z33, rfl, hz33⟩
        refine And.intro (by omega) (And.intro ?_ ?_)
        · intro c34
          refine And.intro (⟨by decide, by decide⟩) ?_
          exact ⟨_, rfl, by omega, hx0, (fun _ => hx1)⟩
        · intro c35
          refine And.intro ⟨rfl, by decide, by decide⟩ (fgetf fb_740_13 h0 hB1 ?_)
          intro z36 lz36 uz36 qz36
          refine Exists.intro xm_314 (And.intro mi_314 (And.intro ⟨rfl, rfl, rfl, rfl⟩ (And.intro rfl ?_)))
          refine fcall _ h0 (fzs_sub (by decide +kernel) hW) hB1 (ct_M_next_c8003 (fBz h0 hB1) (by omega)) ?_
          rintro IhB38 _ hB38 fhB38 ⟨rfl, hz37⟩
          have t39 := fhB38 740 14 (by decide +kernel)
          have t40 := fhB38 740 15 (by decide +kernel)
          have t41 := fhB38 740 16 (by decide +kernel)
          have k42 := fBz_eq hB38 (a := 740) (j := 8) (by decide +kernel)
          have k43 := fBz_eq hB38 (a := 740) (j := 17) (by decide +kernel)
          refine Exists.intro xm_404 (And.intro mi_404 (And.intro ⟨rfl, rfl, rfl, rfl⟩ (And.intro rfl ?_)))
          refine fcall _ h0 (fzs_sub (by decide +kernel) hW) hB38 (ct_M_part0_cc4b8 (fBz h0 hB38) (by first | exact ⟨hb.1.1, hb.1.2⟩ | omega) (by omega) (by omega) (by omega) (by omega)) ?_
          rintro IhB45 _ hB45 fhB45 ⟨z44, rfl, hz44, g0z44, g1z44⟩
          have k46 := fBz_eq hB45 (a := 740) (j := 8) (by decide +kernel)
          have k47 := fBz_eq hB45 (a := 740) (j := 17) (by decide +kernel)
          refine And.intro (by omega) (And.intro ?_ ?_)
          · intro c48
            refine Exists.intro xm_421 (And.intro mi_421 (And.intro ⟨rfl, rfl, rfl, rfl⟩ (And.intro rfl ?_)))
            refine fcall _ h0 (fzs_sub (by decide +kernel) hW) hB45 (ct_M_step_2c704 (fBz h0 hB45) (by first | exact ⟨by decide, by decide⟩ | omega) (by first | exact ⟨lz36, uz36⟩ | omega) (by omega) (by omega)) ?_
            rintro IhB50 _ hB50 fhB50 ⟨rfl, hz49, g0z49⟩
            have t51 := fhB50 740 9 (by decide +kernel)
            have t52 := fhB50 740 10 (by decide +kernel)
            have t53 := fhB50 740 11 (by decide +kernel)
            have t54 := fhB50 740 13 (by decide +kernel)
            have t55 := fhB50 740 14 (by decide +kernel)
            have t56 := fhB50 740 15 (by decide +kernel)
            have k57 := fBz_eq hB50 (a := 740) (j := 8) (by decide +kernel)
            have k58 := fBz_eq hB50 (a := 740) (j := 17) (by decide +kernel)
            exact fcutJ (I := IhB50) (j := (jc_M_term_10b42_10 I)) (lv' := [(0, .inr (.inr (some 740))), (1, .inl _)]) (And.intro rfl (And.intro rfl True.intro)) ⟨_, rfl, rfl, ⟨by omega, (par_be hx0 (fFr_S fhB38 (by decide +kernel)) g0z44 g0z49 (by omega) (by omega) (by omega) (by omega)), (par_one (by omega) hx1 (fFr_S fhB38 (by decide +kernel)) g0z44 (g1z44 (by omega)) g0z49 (by omega) (by omega) (by omega) (by omega) (by omega) (by omega))⟩, rfl⟩ (by omega)
          · intro c59
            refine And.intro (⟨by decide, by decide⟩) ?_
            exact ⟨_, rfl, by omega, (par_bel hx0 (fFr_S fhB38 (by decide +kernel)) g0z44 (by omega) (by omega)), (fun q => absurd q (by omega))⟩
  · have hB0 := fB_self (zn := znJ) (K := fKc wz_2212a) h0
    have b60 := fBd fb_740_8 (fBz h0 hB0)
    have b61 := fBd fb_740_14 (fBz h0 hB0)
    have b62 := fBd fb_740_15 (fBz h0 hB0)
    refine Exists.intro xm_404 (And.intro mi_404 (And.intro ⟨rfl, rfl, rfl, rfl⟩ (And.intro rfl ?_)))
    refine fcall _ h0 (fzs_sub (by decide +kernel) hW) hB0 (ct_M_part0_cc4b8 (fBz h0 hB0) (by first | exact ⟨ha1.1, ha1.2⟩ | omega) (by omega) (by omega) (by omega) (by omega)) ?_
    rintro IhB64 _ hB64 fhB64 ⟨z63, rfl, hz63, g0z63, g1z63⟩
    have k65 := fBz_eq hB64 (a := 740) (j := 8) (by decide +kernel)
    have k66 := fBz_eq hB64 (a := 740) (j := 17) (by decide +kernel)
    refine And.intro (by omega) (And.intro ?_ ?_)
    · intro c67
      exact fcutJ (I := IhB64) (j := (jc_M_term_10b42_10 I)) (lv' := [(0, .inr (.inr (some 740))), (1, .inl _)]) (And.intro rfl (And.intro rfl True.intro)) ⟨_, rfl, rfl, ⟨by omega, g0z63, (g1z63 (by omega))⟩, rfl⟩ (by omega)
    · intro c68
      refine And.intro (⟨by decide, by decide⟩) ?_
      exact ⟨_, rfl, by omega, g0z63, (fun q => absurd q (by omega))⟩
abbrev jc_M_sum_87c34_10 (I0 : fH) : Nat → fL → List fV → fH → Prop := fun m lv st I => ∃ (y1 : Int), lv = [(0, .inr (.inr (some 740))), (1, .inl y1)] ∧ st = [] ∧ ((((-1) ≤ y1 ∧ y1 ≤ 5) ∧ (I0 740 9 ≤ I 740 9) ∧ (I 740 9 ≤ I 740 10) ∧ (I 740 10 ≤ I 740 8) ∧ (I 740 11 = 0 ∨ I 740 9 < I 740 10) ∧ (I0 740 16 ≤ I 740 16) ∧ (I 740 16 - I0 740 16 ≤ I 740 9 - I0 740 9) ∧ (I 740 14 = I0 740 14) ∧ (I 740 15 = I0 740 15)) ∧ (sBe I0 I (I0 740 17) (I0 740 16)) ∧ (sOne I (I0 740 17) (I0 740 16) (I 740 16))) ∧ m = (1 + 1 * (96 - I 740 9) : Int).toNat
set_option maxRecDepth 8000 in
theorem ct_M_sum_87c34 {I : fH} {x1 : Int} (h0 : fB bsJ I) (ha1 : ((-1) ≤ x1 ∧ x1 ≤ 5)) (hp0 : I 740 9 ≤ I 740 10 ∧ I 740 10 ≤ I 740 8 ∧ (I 740 11 = 0 ∨ I 740 9 < I 740 10)) (hp1 : 0 ≤ I 740 16 ∧ I 740 16 ≤ I 740 9) (hp2 : 16 ≤ I 740 14 + I 740 15) (hp3 : (1215 ≤ I 740 17 ∧ I 740 17 ≤ 3415 ∧ (I 740 17 - 1215) % 200 = 0) ∨ I 740 17 = 4700) : fC ρ base n F xTc vwCl xTys D dA la gJ (fbz bsJ znJ (fKc wz_2212a) I) xm_370 [.inr (.inr (some 740)), .inl x1] I (fun I' r => ∃ z, r = some (.inl z) ∧ ((0 ≤ z ∧ z ≤ 1) ∧ (I 740 9 ≤ I' 740 9 ∧ I' 740 9 ≤ I' 740 10 ∧ I' 740 10 ≤ I' 740 8 ∧ (I' 740 11 = 0 ∨ I' 740 9 < I' 740 10) ∧ (z = 1 → I 740 16 ≤ I' 740 16 ∧ I' 740 16 - I 740 16 ≤ I' 740 9 - I 740 9 ∧ I' 740 14 = I 740 14 ∧ I' 740 15 = I 740 15))) ∧ (sBe I I' (I 740 17) (I 740 16)) ∧ (z = 1 → sOne I' (I 740 17) (I 740 16) (I' 740 16))) := by
  have hW : fzs wz_2212a (fKc wz_2212a) := fKc_ok _
  refine f_meth (rb := rbJ) (J := [(10, (jc_M_sum_87c34_10 I))]) 98 400 xG xin_370 x6_370 okJ (fB_self h0) ?_ ?_
  · refine List.forall_mem_cons.mpr ⟨?_, fun q h => absurd h List.not_mem_nil⟩
    · rintro m _ _ I1 hB1 ⟨y1, rfl, rfl, ⟨hb, hx0, hx1⟩, hm⟩
      have k1 := fBz_eq hB1 (a := 740) (j := 8) (by decide +kernel)
      have k2 := fBz_eq hB1 (a := 740) (j := 17) (by decide +kernel)
      have b3 := fBd fb_740_8 (fBz h0 hB1)
      have b4 := fBd fb_740_14 (fBz h0 hB1)
      have b5 := fBd fb_740_15 (fBz h0 hB1)
      refine Exists.intro xm_423 (And.intro mi_423 (And.intro ⟨rfl, rfl, rfl, rfl⟩ (And.intro rfl ?_)))
      refine fcallp hB1 (ct_M_isSign_90da9 (fBz h0 hB1) (by first | exact ⟨by decide, by decide⟩ | omega)) ?_
      rintro _ ⟨z6, rfl, hz6⟩
      refine And.intro (by omega) (And.intro ?_ ?_)
      · intro c7
        refine And.intro ⟨rfl, by decide, by decide⟩ (fgetf fb_740_13 h0 hB1 ?_)
        intro z8 lz8 uz8 qz8
        refine Exists.intro xm_314 (And.intro mi_314 (And.intro ⟨rfl, rfl, rfl, rfl⟩ (And.intro rfl ?_)))
        refine fcall _ h0 (fzs_sub (by decide +kernel) hW) hB1 (ct_M_next_c8003 (fBz h0 hB1) (by omega)) ?_
        rintro IhB10 _ hB10 fhB10 ⟨rfl, hz9⟩
        have t11 := fhB10 740 14 (by decide +kernel)
        have t12 := fhB10 740 15 (by decide +kernel)
        have t13 := fhB10 740 16 (by decide +kernel)
        have k14 := fBz_eq hB10 (a := 740) (j := 8) (by decide +kernel)
        have k15 := fBz_eq hB10 (a := 740) (j := 17) (by decide +kernel)
        refine Exists.intro xm_387 (And.intro mi_387 (And.intro ⟨rfl, rfl, rfl, rfl⟩ (And.intro rfl ?_)))
        refine fcall _ h0 (fzs_sub (by decide +kernel) hW) hB10 (ct_M_term_10b42 (fBz h0 hB10) (by first | exact ⟨hb.1.1, hb.1.2⟩ | omega) (by omega) (by omega) (by omega) (by omega)) ?_
        rintro IhB17 _ hB17 fhB17 ⟨z16, rfl, hz16, g0z16, g1z16⟩
        have k18 := fBz_eq hB17 (a := 740) (j := 8) (by decide +kernel)
        have k19 := fBz_eq hB17 (a := 740) (j := 17) (by decide +kernel)
        refine And.intro (by omega) (And.intro ?_ ?_)
        · intro c20
          refine Exists.intro xm_421 (And.intro mi_421 (And.intro ⟨rfl, rfl, rfl, rfl⟩ (And.intro rfl ?_)))
          refine fcall _ h0 (fzs_sub (by decide +kernel) hW) hB17 (ct_M_step_2c704 (fBz h0 hB17) (by first | exact ⟨by decide, by decide⟩ | omega) (by first | exact ⟨lz8, uz8⟩ | omega) (by omega) (by omega)) ?_
          rintro IhB22 _ hB22 fhB22 ⟨rfl, hz21, g0z21⟩
          have t23 := fhB22 740 9 (by decide +kernel)
          have t24 := fhB22 740 10 (by decide +kernel)
          have t25 := fhB22 740 11 (by decide +kernel)
          have t26 := fhB22 740 13 (by decide +kernel)
          have t27 := fhB22 740 14 (by decide +kernel)
          have t28 := fhB22 740 15 (by decide +kernel)
          have k29 := fBz_eq hB22 (a := 740) (j := 8) (by decide +kernel)
          have k30 := fBz_eq hB22 (a := 740) (j := 17) (by decide +kernel)
          exact fcutJ (I := IhB22) (j := (jc_M_sum_87c34_10 I)) (lv' := [(0, .inr (.inr (some 740))), (1, .inl _)]) (And.intro rfl (And.intro rfl True.intro)) ⟨_, rfl, rfl, ⟨by omega, (par_be hx0 (fFr_S fhB10 (by decide +kernel)) g0z16 g0z21 (by omega) (by omega) (by omega) (by omega)), (par_one (by omega) hx1 (fFr_S fhB10 (by decide +kernel)) g0z16 (g1z16 (by omega)) g0z21 (by omega) (by omega) (by omega) (by omega) (by omega) (by omega))⟩, rfl⟩ (by omega)
        · intro c31
          refine And.intro (⟨by decide, by decide⟩) ?_
          exact ⟨_, rfl, by omega, (par_bel hx0 (fFr_S fhB10 (by decide +kernel)) g0z16 (by omega) (by omega)), (fun q => absurd q (by omega))⟩
      · intro c32
        refine Exists.intro xm_423 (And.intro mi_423 (And.intro ⟨rfl, rfl, rfl, rfl⟩ (And.intro rfl ?_)))
        refine fcallp hB1 (ct_M_isSign_90da9 (fBz h0 hB1) (by first | exact ⟨by decide, by decide⟩ | omega)) ?_
        rintro _ ⟨z33, rfl, hz33⟩
        refine And.intro (by omega) (And.intro ?_ ?_)
        · intro c34
          refine And.intro (⟨by decide, by decide⟩) ?_
          exact ⟨_, rfl, by omega, hx0, (fun _ => hx1)⟩
        · intro c35
          refine And.intro ⟨rfl, by decide, by decide⟩ (fgetf fb_740_13 h0 hB1 ?_)
          intro z36 lz36 uz36 qz36
          refine Exists.intro xm_314 (And.intro mi_314 (And.intro ⟨rfl, rfl, rfl, rfl⟩ (And.intro rfl ?_)))
          refine fcall _ h0 (fzs_sub (by decide +kernel) hW) hB1 (ct_M_next_c8003 (fBz h0 hB1) (by omega)) ?_
          rintro IhB38 _ hB38 fhB38 ⟨rfl, hz37⟩
          have t39 := fhB38 740 14 (by decide +kernel)
          have t40 := fhB38 740 15 (by decide +kernel)
          have t41 := fhB38 740 16 (by decide +kernel)
          have k42 := fBz_eq hB38 (a := 740) (j := 8) (by decide +kernel)
          have k43 := fBz_eq hB38 (a := 740) (j := 17) (by decide +kernel)
          refine Exists.intro xm_387 (And.intro mi_387 (And.intro ⟨rfl, rfl, rfl, rfl⟩ (And.intro rfl ?_)))
          refine fcall _ h0 (fzs_sub (by decide +kernel) hW) hB38 (ct_M_term_10b42 (fBz h0 hB38) (by first | exact ⟨hb.1.1, hb.1.2⟩ | omega) (by omega) (by omega) (by omega) (by omega)) ?_
          rintro IhB45 _ hB45 fhB45 ⟨z44, rfl, hz44, g0z44, g1z44⟩
          have k46 := fBz_eq hB45 (a := 740) (j := 8) (by decide +kernel)
          have k47 := fBz_eq hB45 (a := 740) (j := 17) (by decide +kernel)
          refine And.intro (by omega) (And.intro ?_ ?_)
          · intro c48
            refine Exists.intro xm_421 (And.intro mi_421 (And.intro ⟨rfl, rfl, rfl, rfl⟩ (And.intro rfl ?_)))
            refine fcall _ h0 (fzs_sub (by decide +kernel) hW) hB45 (ct_M_step_2c704 (fBz h0 hB45) (by first | exact ⟨by decide, by decide⟩ | omega) (by first | exact ⟨lz36, uz36⟩ | omega) (by omega) (by omega)) ?_
            rintro IhB50 _ hB50 fhB50 ⟨rfl, hz49, g0z49⟩
            have t51 := fhB50 740 9 (by decide +kernel)
            have t52 := fhB50 740 10 (by decide +kernel)
            have t53 := fhB50 740 11 (by decide +kernel)
            have t54 := fhB50 740 13 (by decide +kernel)
            have t55 := fhB50 740 14 (by decide +kernel)
            have t56 := fhB50 740 15 (by decide +kernel)
            have k57 := fBz_eq hB50 (a := 740) (j := 8) (by decide +kernel)
            have k58 := fBz_eq hB50 (a := 740) (j := 17) (by decide +kernel)
            exact fcutJ (I := IhB50) (j := (jc_M_sum_87c34_10 I)) (lv' := [(0, .inr (.inr (some 740))), (1, .inl _)]) (And.intro rfl (And.intro rfl True.intro)) ⟨_, rfl, rfl, ⟨by omega, (par_be hx0 (fFr_S fhB38 (by decide +kernel)) g0z44 g0z49 (by omega) (by omega) (by omega) (by omega)), (par_one (by omega) hx1 (fFr_S fhB38 (by decide +kernel)) g0z44 (g1z44 (by omega)) g0z49 (by omega) (by omega) (by omega) (by omega) (by omega) (by omega))⟩, rfl⟩ (by omega)
          · intro c59
            refine And.intro (⟨by decide, by decide⟩) ?_
            exact ⟨_, rfl, by omega, (par_bel hx0 (fFr_S fhB38 (by decide +kernel)) g0z44 (by omega) (by omega)), (fun q => absurd q (by omega))⟩
  · have hB0 := fB_self (zn := znJ) (K := fKc wz_2212a) h0
    have b60 := fBd fb_740_8 (fBz h0 hB0)
    have b61 := fBd fb_740_14 (fBz h0 hB0)
    have b62 := fBd fb_740_15 (fBz h0 hB0)
    refine Exists.intro xm_387 (And.intro mi_387 (And.intro ⟨rfl, rfl, rfl, rfl⟩ (And.intro rfl ?_)))
    refine fcall _ h0 (fzs_sub (by decide +kernel) hW) hB0 (ct_M_term_10b42 (fBz h0 hB0) (by first | exact ⟨ha1.1, ha1.2⟩ | omega) (by omega) (by omega) (by omega) (by omega)) ?_
    rintro IhB64 _ hB64 fhB64 ⟨z63, rfl, hz63, g0z63, g1z63⟩
    have k65 := fBz_eq hB64 (a := 740) (j := 8) (by decide +kernel)
    have k66 := fBz_eq hB64 (a := 740) (j := 17) (by decide +kernel)
    refine And.intro (by omega) (And.intro ?_ ?_)
    · intro c67
      exact fcutJ (I := IhB64) (j := (jc_M_sum_87c34_10 I)) (lv' := [(0, .inr (.inr (some 740))), (1, .inl _)]) (And.intro rfl (And.intro rfl True.intro)) ⟨_, rfl, rfl, ⟨by omega, g0z63, (g1z63 (by omega))⟩, rfl⟩ (by omega)
    · intro c68
      refine And.intro (⟨by decide, by decide⟩) ?_
      exact ⟨_, rfl, by omega, g0z63, (fun q => absurd q (by omega))⟩
set_option maxRecDepth 8000 in
theorem ct_M_test_011bc {I : fH} {x1 : Int} (h0 : fB bsJ I) (ha1 : ((-1) ≤ x1 ∧ x1 ≤ 5)) (hp0 : I 740 9 ≤ I 740 10 ∧ I 740 10 ≤ I 740 8 ∧ (I 740 11 = 0 ∨ I 740 9 < I 740 10)) (hp1 : 0 ≤ I 740 16 ∧ I 740 16 ≤ I 740 9) (hp2 : 16 ≤ I 740 14 + I 740 15) (hp3 : (1215 ≤ I 740 17 ∧ I 740 17 ≤ 3415 ∧ (I 740 17 - 1215) % 200 = 0) ∨ I 740 17 = 4700) : fC ρ base n F xTc vwCl xTys D dA la gJ (fbz bsJ znJ (fKc wz_2212a) I) xm_353 [.inr (.inr (some 740)), .inl x1] I (fun I' r => ∃ z, r = some (.inl z) ∧ ((0 ≤ z ∧ z ≤ 1) ∧ (I 740 9 ≤ I' 740 9 ∧ I' 740 9 ≤ I' 740 10 ∧ I' 740 10 ≤ I' 740 8 ∧ (I' 740 11 = 0 ∨ I' 740 9 < I' 740 10) ∧ (z = 1 → I 740 16 ≤ I' 740 16 ∧ I' 740 16 - I 740 16 ≤ I' 740 9 - I 740 9 ∧ I' 740 14 = I 740 14 ∧ I' 740 15 = I 740 15))) ∧ (sBe I I' (I 740 17) (I 740 16)) ∧ (z = 1 → sOne I' (I 740 17) (I 740 16) (I' 740 16))) := by
  have hW : fzs wz_2212a (fKc wz_2212a) := fKc_ok _
  refine f_meth (rb := rbJ) (J := []) 1 400 xG xin_353 x6_353 okJ (fB_self h0) ?_ ?_
  · exact fun q h => absurd h List.not_mem_nil
  · have hB0 := fB_self (zn := znJ) (K := fKc wz_2212a) h0
    have b1 := fBd fb_740_8 (fBz h0 hB0)
    have b2 := fBd fb_740_14 (fBz h0 hB0)
    have b3 := fBd fb_740_15 (fBz h0 hB0)
    refine Exists.intro xm_370 (And.intro mi_370 (And.intro ⟨rfl, rfl, rfl, rfl⟩ (And.intro rfl ?_)))
    refine fcall _ h0 (fzs_sub (by decide +kernel) hW) hB0 (ct_M_sum_87c34 (fBz h0 hB0) (by first | exact ⟨ha1.1, ha1.2⟩ | omega) (by omega) (by omega) (by omega) (by omega)) ?_
    rintro IhB5 _ hB5 fhB5 ⟨z4, rfl, hz4, g0z4, g1z4⟩
    have k6 := fBz_eq hB5 (a := 740) (j := 8) (by decide +kernel)
    have k7 := fBz_eq hB5 (a := 740) (j := 17) (by decide +kernel)
    refine And.intro (by omega) (And.intro ?_ ?_)
    · intro c8
      refine Exists.intro xm_423 (And.intro mi_423 (And.intro ⟨rfl, rfl, rfl, rfl⟩ (And.intro rfl ?_)))
      refine fcallp hB5 (ct_M_isSign_90da9 (fBz h0 hB5) (by first | exact ⟨by decide, by decide⟩ | omega)) ?_
      rintro _ ⟨z9, rfl, hz9⟩
      refine And.intro (by omega) (And.intro ?_ ?_)
      · intro c10
        refine And.intro ⟨rfl, by decide, by decide⟩ (fgetf fb_740_13 h0 hB5 ?_)
        intro z11 lz11 uz11 qz11
        refine Exists.intro xm_314 (And.intro mi_314 (And.intro ⟨rfl, rfl, rfl, rfl⟩ (And.intro rfl ?_)))
        refine fcall _ h0 (fzs_sub (by decide +kernel) hW) hB5 (ct_M_next_c8003 (fBz h0 hB5) (by omega)) ?_
        rintro IhB13 _ hB13 fhB13 ⟨rfl, hz12⟩
        have t14 := fhB13 740 14 (by decide +kernel)
        have t15 := fhB13 740 15 (by decide +kernel)
        have t16 := fhB13 740 16 (by decide +kernel)
        have k17 := fBz_eq hB13 (a := 740) (j := 8) (by decide +kernel)
        have k18 := fBz_eq hB13 (a := 740) (j := 17) (by decide +kernel)
        refine Exists.intro xm_370 (And.intro mi_370 (And.intro ⟨rfl, rfl, rfl, rfl⟩ (And.intro rfl ?_)))
        refine fcall _ h0 (fzs_sub (by decide +kernel) hW) hB13 (ct_M_sum_87c34 (fBz h0 hB13) (by first | exact ⟨ha1.1, ha1.2⟩ | omega) (by omega) (by omega) (by omega) (by omega)) ?_
        rintro IhB20 _ hB20 fhB20 ⟨z19, rfl, hz19, g0z19, g1z19⟩
        have k21 := fBz_eq hB20 (a := 740) (j := 8) (by decide +kernel)
        have k22 := fBz_eq hB20 (a := 740) (j := 17) (by decide +kernel)
        refine And.intro (by omega) (And.intro ?_ ?_)
        · intro c23
          refine Exists.intro xm_421 (And.intro mi_421 (And.intro ⟨rfl, rfl, rfl, rfl⟩ (And.intro rfl ?_)))
          refine fcall _ h0 (fzs_sub (by decide +kernel) hW) hB20 (ct_M_step_2c704 (fBz h0 hB20) (by first | exact ⟨by decide, by decide⟩ | omega) (by first | exact ⟨lz11, uz11⟩ | omega) (by omega) (by omega)) ?_
          rintro IhB25 _ hB25 fhB25 ⟨rfl, hz24, g0z24⟩
          have t26 := fhB25 740 9 (by decide +kernel)
          have t27 := fhB25 740 10 (by decide +kernel)
          have t28 := fhB25 740 11 (by decide +kernel)
          have t29 := fhB25 740 13 (by decide +kernel)
          have t30 := fhB25 740 14 (by decide +kernel)
          have t31 := fhB25 740 15 (by decide +kernel)
          have k32 := fBz_eq hB25 (a := 740) (j := 8) (by decide +kernel)
          have k33 := fBz_eq hB25 (a := 740) (j := 17) (by decide +kernel)
          refine And.intro (⟨by decide, by decide⟩) ?_
          exact ⟨_, rfl, by omega, (by first | exact par_be g0z4 (fFr_S fhB13 (by decide +kernel)) g0z19 g0z24 (by omega) (by omega) (by omega) (by omega) | exact g0z4), (fun _ => by first | exact par_one (by omega) (g1z4 (by omega)) (fFr_S fhB13 (by decide +kernel)) g0z19 (g1z19 (by omega)) g0z24 (by omega) (by omega) (by omega) (by omega) (by omega) (by omega) | exact g1z4 (by omega))⟩
        · intro c34
          refine And.intro (⟨by decide, by decide⟩) ?_
          exact ⟨_, rfl, by omega, (par_bel g0z4 (fFr_S fhB13 (by decide +kernel)) g0z19 (by omega) (by omega)), (fun q => absurd q (by omega))⟩
      · intro c35
        refine Exists.intro xm_423 (And.intro mi_423 (And.intro ⟨rfl, rfl, rfl, rfl⟩ (And.intro rfl ?_)))
        refine fcallp hB5 (ct_M_isSign_90da9 (fBz h0 hB5) (by first | exact ⟨by decide, by decide⟩ | omega)) ?_
        rintro _ ⟨z36, rfl, hz36⟩
        refine And.intro (by omega) (And.intro ?_ ?_)
        · intro c37
          refine And.intro ⟨rfl, by decide, by decide⟩ (fgetf fb_740_13 h0 hB5 ?_)
          intro z38 lz38 uz38 qz38
          refine Exists.intro xm_314 (And.intro mi_314 (And.intro ⟨rfl, rfl, rfl, rfl⟩ (And.intro rfl ?_)))
          refine fcall _ h0 (fzs_sub (by decide +kernel) hW) hB5 (ct_M_next_c8003 (fBz h0 hB5) (by omega)) ?_
          rintro IhB40 _ hB40 fhB40 ⟨rfl, hz39⟩
          have t41 := fhB40 740 14 (by decide +kernel)
          have t42 := fhB40 740 15 (by decide +kernel)
          have t43 := fhB40 740 16 (by decide +kernel)
          have k44 := fBz_eq hB40 (a := 740) (j := 8) (by decide +kernel)
          have k45 := fBz_eq hB40 (a := 740) (j := 17) (by decide +kernel)
          refine Exists.intro xm_370 (And.intro mi_370 (And.intro ⟨rfl, rfl, rfl, rfl⟩ (And.intro rfl ?_)))
          refine fcall _ h0 (fzs_sub (by decide +kernel) hW) hB40 (ct_M_sum_87c34 (fBz h0 hB40) (by first | exact ⟨ha1.1, ha1.2⟩ | omega) (by omega) (by omega) (by omega) (by omega)) ?_
          rintro IhB47 _ hB47 fhB47 ⟨z46, rfl, hz46, g0z46, g1z46⟩
          have k48 := fBz_eq hB47 (a := 740) (j := 8) (by decide +kernel)
          have k49 := fBz_eq hB47 (a := 740) (j := 17) (by decide +kernel)
          refine And.intro (by omega) (And.intro ?_ ?_)
          · intro c50
            refine Exists.intro xm_421 (And.intro mi_421 (And.intro ⟨rfl, rfl, rfl, rfl⟩ (And.intro rfl ?_)))
            refine fcall _ h0 (fzs_sub (by decide +kernel) hW) hB47 (ct_M_step_2c704 (fBz h0 hB47) (by first | exact ⟨by decide, by decide⟩ | omega) (by first | exact ⟨lz38, uz38⟩ | omega) (by omega) (by omega)) ?_
            rintro IhB52 _ hB52 fhB52 ⟨rfl, hz51, g0z51⟩
            have t53 := fhB52 740 9 (by decide +kernel)
            have t54 := fhB52 740 10 (by decide +kernel)
            have t55 := fhB52 740 11 (by decide +kernel)
            have t56 := fhB52 740 13 (by decide +kernel)
            have t57 := fhB52 740 14 (by decide +kernel)
            have t58 := fhB52 740 15 (by decide +kernel)
            have k59 := fBz_eq hB52 (a := 740) (j := 8) (by decide +kernel)
            have k60 := fBz_eq hB52 (a := 740) (j := 17) (by decide +kernel)
            refine And.intro (⟨by decide, by decide⟩) ?_
            exact ⟨_, rfl, by omega, (by first | exact par_be g0z4 (fFr_S fhB40 (by decide +kernel)) g0z46 g0z51 (by omega) (by omega) (by omega) (by omega) | exact g0z4), (fun _ => by first | exact par_one (by omega) (g1z4 (by omega)) (fFr_S fhB40 (by decide +kernel)) g0z46 (g1z46 (by omega)) g0z51 (by omega) (by omega) (by omega) (by omega) (by omega) (by omega) | exact g1z4 (by omega))⟩
          · intro c61
            refine And.intro (⟨by decide, by decide⟩) ?_
            exact ⟨_, rfl, by omega, (par_bel g0z4 (fFr_S fhB40 (by decide +kernel)) g0z46 (by omega) (by omega)), (fun q => absurd q (by omega))⟩
        · intro c62
          refine Exists.intro xm_423 (And.intro mi_423 (And.intro ⟨rfl, rfl, rfl, rfl⟩ (And.intro rfl ?_)))
          refine fcallp hB5 (ct_M_isSign_90da9 (fBz h0 hB5) (by first | exact ⟨by decide, by decide⟩ | omega)) ?_
          rintro _ ⟨z63, rfl, hz63⟩
          refine And.intro (by omega) (And.intro ?_ ?_)
          · intro c64
            refine And.intro (⟨by decide, by decide⟩) ?_
            exact ⟨_, rfl, by omega, (by first | exact par_be g0z4 (fFr_S fhB40 (by decide +kernel)) g0z46 g0z51 (by omega) (by omega) (by omega) (by omega) | exact g0z4), (fun _ => by first | exact par_one (by omega) (g1z4 (by omega)) (fFr_S fhB40 (by decide +kernel)) g0z46 (g1z46 (by omega)) g0z51 (by omega) (by omega) (by omega) (by omega) (by omega) (by omega) | exact g1z4 (by omega))⟩
          · intro c65
            refine And.intro ⟨rfl, by decide, by decide⟩ (fgetf fb_740_13 h0 hB5 ?_)
            intro z66 lz66 uz66 qz66
            refine Exists.intro xm_314 (And.intro mi_314 (And.intro ⟨rfl, rfl, rfl, rfl⟩ (And.intro rfl ?_)))
            refine fcall _ h0 (fzs_sub (by decide +kernel) hW) hB5 (ct_M_next_c8003 (fBz h0 hB5) (by omega)) ?_
            rintro IhB68 _ hB68 fhB68 ⟨rfl, hz67⟩
            have t69 := fhB68 740 14 (by decide +kernel)
            have t70 := fhB68 740 15 (by decide +kernel)
            have t71 := fhB68 740 16 (by decide +kernel)
            have k72 := fBz_eq hB68 (a := 740) (j := 8) (by decide +kernel)
            have k73 := fBz_eq hB68 (a := 740) (j := 17) (by decide +kernel)
            refine Exists.intro xm_370 (And.intro mi_370 (And.intro ⟨rfl, rfl, rfl, rfl⟩ (And.intro rfl ?_)))
            refine fcall _ h0 (fzs_sub (by decide +kernel) hW) hB68 (ct_M_sum_87c34 (fBz h0 hB68) (by first | exact ⟨ha1.1, ha1.2⟩ | omega) (by omega) (by omega) (by omega) (by omega)) ?_
            rintro IhB75 _ hB75 fhB75 ⟨z74, rfl, hz74, g0z74, g1z74⟩
            have k76 := fBz_eq hB75 (a := 740) (j := 8) (by decide +kernel)
            have k77 := fBz_eq hB75 (a := 740) (j := 17) (by decide +kernel)
            refine And.intro (by omega) (And.intro ?_ ?_)
            · intro c78
              refine Exists.intro xm_421 (And.intro mi_421 (And.intro ⟨rfl, rfl, rfl, rfl⟩ (And.intro rfl ?_)))
              refine fcall _ h0 (fzs_sub (by decide +kernel) hW) hB75 (ct_M_step_2c704 (fBz h0 hB75) (by first | exact ⟨by decide, by decide⟩ | omega) (by first | exact ⟨lz66, uz66⟩ | omega) (by omega) (by omega)) ?_
              rintro IhB80 _ hB80 fhB80 ⟨rfl, hz79, g0z79⟩
              have t81 := fhB80 740 9 (by decide +kernel)
              have t82 := fhB80 740 10 (by decide +kernel)
              have t83 := fhB80 740 11 (by decide +kernel)
              have t84 := fhB80 740 13 (by decide +kernel)
              have t85 := fhB80 740 14 (by decide +kernel)
              have t86 := fhB80 740 15 (by decide +kernel)
              have k87 := fBz_eq hB80 (a := 740) (j := 8) (by decide +kernel)
              have k88 := fBz_eq hB80 (a := 740) (j := 17) (by decide +kernel)
              refine And.intro (⟨by decide, by decide⟩) ?_
              exact ⟨_, rfl, by omega, (by first | exact par_be g0z4 (fFr_S fhB68 (by decide +kernel)) g0z74 g0z79 (by omega) (by omega) (by omega) (by omega) | exact g0z4), (fun _ => by first | exact par_one (by omega) (g1z4 (by omega)) (fFr_S fhB68 (by decide +kernel)) g0z74 (g1z74 (by omega)) g0z79 (by omega) (by omega) (by omega) (by omega) (by omega) (by omega) | exact g1z4 (by omega))⟩
            · intro c89
              refine And.intro (⟨by decide, by decide⟩) ?_
              exact ⟨_, rfl, by omega, (par_bel g0z4 (fFr_S fhB68 (by decide +kernel)) g0z74 (by omega) (by omega)), (fun q => absurd q (by omega))⟩
    · intro c90
      refine And.intro (⟨by decide, by decide⟩) ?_
      exact ⟨_, rfl, by omega, g0z4, (fun q => absurd q (by omega))⟩
abbrev jc_M_both_747b2_10 (I0 : fH) : Nat → fL → List fV → fH → Prop := fun m lv st I => ∃ (y1 : Int), lv = [(0, .inr (.inr (some 740))), (1, .inl y1)] ∧ st = [] ∧ ((((-1) ≤ y1 ∧ y1 ≤ 5) ∧ (I0 740 9 ≤ I 740 9) ∧ (I 740 9 ≤ I 740 10) ∧ (I 740 10 ≤ I 740 8) ∧ (I 740 11 = 0 ∨ I 740 9 < I 740 10) ∧ (I0 740 16 ≤ I 740 16) ∧ (I 740 16 - I0 740 16 ≤ I 740 9 - I0 740 9) ∧ (I 740 14 = I0 740 14) ∧ (I 740 15 = I0 740 15)) ∧ (sBe I0 I (I0 740 17) (I0 740 16)) ∧ (sOne I (I0 740 17) (I0 740 16) (I 740 16))) ∧ m = (1 + 1 * (96 - I 740 9) : Int).toNat
set_option maxRecDepth 8000 in
theorem ct_M_both_747b2 {I : fH} {x1 : Int} (h0 : fB bsJ I) (ha1 : ((-1) ≤ x1 ∧ x1 ≤ 5)) (hp0 : I 740 9 ≤ I 740 10 ∧ I 740 10 ≤ I 740 8 ∧ (I 740 11 = 0 ∨ I 740 9 < I 740 10)) (hp1 : 0 ≤ I 740 16 ∧ I 740 16 ≤ I 740 9) (hp2 : 16 ≤ I 740 14 + I 740 15) (hp3 : (1215 ≤ I 740 17 ∧ I 740 17 ≤ 3415 ∧ (I 740 17 - 1215) % 200 = 0) ∨ I 740 17 = 4700) : fC ρ base n F xTc vwCl xTys D dA la gJ (fbz bsJ znJ (fKc wz_2212a) I) xm_336 [.inr (.inr (some 740)), .inl x1] I (fun I' r => ∃ z, r = some (.inl z) ∧ ((0 ≤ z ∧ z ≤ 1) ∧ (I 740 9 ≤ I' 740 9 ∧ I' 740 9 ≤ I' 740 10 ∧ I' 740 10 ≤ I' 740 8 ∧ (I' 740 11 = 0 ∨ I' 740 9 < I' 740 10) ∧ (z = 1 → I 740 16 ≤ I' 740 16 ∧ I' 740 16 - I 740 16 ≤ I' 740 9 - I 740 9 ∧ I' 740 14 = I 740 14 ∧ I' 740 15 = I 740 15))) ∧ (sBe I I' (I 740 17) (I 740 16)) ∧ (z = 1 → sOne I' (I 740 17) (I 740 16) (I' 740 16))) := by
  have hW : fzs wz_2212a (fKc wz_2212a) := fKc_ok _
  refine f_meth (rb := rbJ) (J := [(10, (jc_M_both_747b2_10 I))]) 98 400 xG xin_336 x6_336 okJ (fB_self h0) ?_ ?_
  · refine List.forall_mem_cons.mpr ⟨?_, fun q h => absurd h List.not_mem_nil⟩
    · rintro m _ _ I1 hB1 ⟨y1, rfl, rfl, ⟨hb, hx0, hx1⟩, hm⟩
      have k1 := fBz_eq hB1 (a := 740) (j := 8) (by decide +kernel)
      have k2 := fBz_eq hB1 (a := 740) (j := 17) (by decide +kernel)
      have b3 := fBd fb_740_8 (fBz h0 hB1)
      have b4 := fBd fb_740_14 (fBz h0 hB1)
      have b5 := fBd fb_740_15 (fBz h0 hB1)
      refine Exists.intro xm_423 (And.intro mi_423 (And.intro ⟨rfl, rfl, rfl, rfl⟩ (And.intro rfl ?_)))
      refine fcallp hB1 (ct_M_isSign_90da9 (fBz h0 hB1) (by first | exact ⟨by decide, by decide⟩ | omega)) ?_
      rintro _ ⟨z6, rfl, hz6⟩
      refine And.intro (by omega) (And.intro ?_ ?_)
      · intro c7
        refine And.intro (⟨by decide, by decide⟩) ?_
        exact ⟨_, rfl, by omega, hx0, (fun _ => hx1)⟩
      · intro c8
        refine Exists.intro xm_314 (And.intro mi_314 (And.intro ⟨rfl, rfl, rfl, rfl⟩ (And.intro rfl ?_)))
        refine fcall _ h0 (fzs_sub (by decide +kernel) hW) hB1 (ct_M_next_c8003 (fBz h0 hB1) (by omega)) ?_
        rintro IhB10 _ hB10 fhB10 ⟨rfl, hz9⟩
        have t11 := fhB10 740 14 (by decide +kernel)
        have t12 := fhB10 740 15 (by decide +kernel)
        have t13 := fhB10 740 16 (by decide +kernel)
        have k14 := fBz_eq hB10 (a := 740) (j := 8) (by decide +kernel)
        have k15 := fBz_eq hB10 (a := 740) (j := 17) (by decide +kernel)
        refine Exists.intro xm_353 (And.intro mi_353 (And.intro ⟨rfl, rfl, rfl, rfl⟩ (And.intro rfl ?_)))
        refine fcall _ h0 (fzs_sub (by decide +kernel) hW) hB10 (ct_M_test_011bc (fBz h0 hB10) (by first | exact ⟨hb.1.1, hb.1.2⟩ | omega) (by omega) (by omega) (by omega) (by omega)) ?_
        rintro IhB17 _ hB17 fhB17 ⟨z16, rfl, hz16, g0z16, g1z16⟩
        have k18 := fBz_eq hB17 (a := 740) (j := 8) (by decide +kernel)
        have k19 := fBz_eq hB17 (a := 740) (j := 17) (by decide +kernel)
        refine And.intro (by omega) (And.intro ?_ ?_)
        · intro c20
          refine Exists.intro xm_421 (And.intro mi_421 (And.intro ⟨rfl, rfl, rfl, rfl⟩ (And.intro rfl ?_)))
          refine fcall _ h0 (fzs_sub (by decide +kernel) hW) hB17 (ct_M_step_2c704 (fBz h0 hB17) (by first | exact ⟨by decide, by decide⟩ | omega) (by first | exact ⟨by decide, by decide⟩ | omega) (by omega) (by omega)) ?_
          rintro IhB22 _ hB22 fhB22 ⟨rfl, hz21, g0z21⟩
          have t23 := fhB22 740 9 (by decide +kernel)
          have t24 := fhB22 740 10 (by decide +kernel)
          have t25 := fhB22 740 11 (by decide +kernel)
          have t26 := fhB22 740 13 (by decide +kernel)
          have t27 := fhB22 740 14 (by decide +kernel)
          have t28 := fhB22 740 15 (by decide +kernel)
          have k29 := fBz_eq hB22 (a := 740) (j := 8) (by decide +kernel)
          have k30 := fBz_eq hB22 (a := 740) (j := 17) (by decide +kernel)
          exact fcutJ (I := IhB22) (j := (jc_M_both_747b2_10 I)) (lv' := [(0, .inr (.inr (some 740))), (1, .inl _)]) (And.intro rfl (And.intro rfl True.intro)) ⟨_, rfl, rfl, ⟨by omega, (par_be hx0 (fFr_S fhB10 (by decide +kernel)) g0z16 g0z21 (by omega) (by omega) (by omega) (by omega)), (par_one (by omega) hx1 (fFr_S fhB10 (by decide +kernel)) g0z16 (g1z16 (by omega)) g0z21 (by omega) (by omega) (by omega) (by omega) (by omega) (by omega))⟩, rfl⟩ (by omega)
        · intro c31
          refine And.intro (⟨by decide, by decide⟩) ?_
          exact ⟨_, rfl, by omega, (par_bel hx0 (fFr_S fhB10 (by decide +kernel)) g0z16 (by omega) (by omega)), (fun q => absurd q (by omega))⟩
  · have hB0 := fB_self (zn := znJ) (K := fKc wz_2212a) h0
    have b32 := fBd fb_740_8 (fBz h0 hB0)
    have b33 := fBd fb_740_14 (fBz h0 hB0)
    have b34 := fBd fb_740_15 (fBz h0 hB0)
    refine Exists.intro xm_353 (And.intro mi_353 (And.intro ⟨rfl, rfl, rfl, rfl⟩ (And.intro rfl ?_)))
    refine fcall _ h0 (fzs_sub (by decide +kernel) hW) hB0 (ct_M_test_011bc (fBz h0 hB0) (by first | exact ⟨ha1.1, ha1.2⟩ | omega) (by omega) (by omega) (by omega) (by omega)) ?_
    rintro IhB36 _ hB36 fhB36 ⟨z35, rfl, hz35, g0z35, g1z35⟩
    have k37 := fBz_eq hB36 (a := 740) (j := 8) (by decide +kernel)
    have k38 := fBz_eq hB36 (a := 740) (j := 17) (by decide +kernel)
    refine And.intro (by omega) (And.intro ?_ ?_)
    · intro c39
      exact fcutJ (I := IhB36) (j := (jc_M_both_747b2_10 I)) (lv' := [(0, .inr (.inr (some 740))), (1, .inl _)]) (And.intro rfl (And.intro rfl True.intro)) ⟨_, rfl, rfl, ⟨by omega, g0z35, (g1z35 (by omega))⟩, rfl⟩ (by omega)
    · intro c40
      refine And.intro (⟨by decide, by decide⟩) ?_
      exact ⟨_, rfl, by omega, g0z35, (fun q => absurd q (by omega))⟩
abbrev jc_M_either_f12bf_10 (I0 : fH) : Nat → fL → List fV → fH → Prop := fun m lv st I => ∃ (y1 : Int), lv = [(0, .inr (.inr (some 740))), (1, .inl y1)] ∧ st = [] ∧ ((((-1) ≤ y1 ∧ y1 ≤ 5) ∧ (I0 740 9 ≤ I 740 9) ∧ (I 740 9 ≤ I 740 10) ∧ (I 740 10 ≤ I 740 8) ∧ (I 740 11 = 0 ∨ I 740 9 < I 740 10) ∧ (I0 740 16 ≤ I 740 16) ∧ (I 740 16 - I0 740 16 ≤ I 740 9 - I0 740 9) ∧ (I 740 14 = I0 740 14) ∧ (I 740 15 = I0 740 15)) ∧ (sBe I0 I (I0 740 17) (I0 740 16)) ∧ (sOne I (I0 740 17) (I0 740 16) (I 740 16))) ∧ m = (1 + 1 * (96 - I 740 9) : Int).toNat
set_option maxRecDepth 8000 in
theorem ct_M_either_f12bf {I : fH} {x1 : Int} (h0 : fB bsJ I) (ha1 : ((-1) ≤ x1 ∧ x1 ≤ 5)) (hp0 : I 740 9 ≤ I 740 10 ∧ I 740 10 ≤ I 740 8 ∧ (I 740 11 = 0 ∨ I 740 9 < I 740 10)) (hp1 : 0 ≤ I 740 16 ∧ I 740 16 ≤ I 740 9) (hp2 : 16 ≤ I 740 14 + I 740 15) (hp3 : (1215 ≤ I 740 17 ∧ I 740 17 ≤ 3415 ∧ (I 740 17 - 1215) % 200 = 0) ∨ I 740 17 = 4700) : fC ρ base n F xTc vwCl xTys D dA la gJ (fbz bsJ znJ (fKc wz_2212a) I) xm_319 [.inr (.inr (some 740)), .inl x1] I (fun I' r => ∃ z, r = some (.inl z) ∧ ((0 ≤ z ∧ z ≤ 1) ∧ (I 740 9 ≤ I' 740 9 ∧ I' 740 9 ≤ I' 740 10 ∧ I' 740 10 ≤ I' 740 8 ∧ (I' 740 11 = 0 ∨ I' 740 9 < I' 740 10) ∧ (z = 1 → I 740 16 ≤ I' 740 16 ∧ I' 740 16 - I 740 16 ≤ I' 740 9 - I 740 9 ∧ I' 740 14 = I 740 14 ∧ I' 740 15 = I 740 15))) ∧ (sBe I I' (I 740 17) (I 740 16)) ∧ (z = 1 → sOne I' (I 740 17) (I 740 16) (I' 740 16))) := by
  have hW : fzs wz_2212a (fKc wz_2212a) := fKc_ok _
  refine f_meth (rb := rbJ) (J := [(10, (jc_M_either_f12bf_10 I))]) 98 400 xG xin_319 x6_319 okJ (fB_self h0) ?_ ?_
  · refine List.forall_mem_cons.mpr ⟨?_, fun q h => absurd h List.not_mem_nil⟩
    · rintro m _ _ I1 hB1 ⟨y1, rfl, rfl, ⟨hb, hx0, hx1⟩, hm⟩
      have k1 := fBz_eq hB1 (a := 740) (j := 8) (by decide +kernel)
      have k2 := fBz_eq hB1 (a := 740) (j := 17) (by decide +kernel)
      have b3 := fBd fb_740_8 (fBz h0 hB1)
      have b4 := fBd fb_740_14 (fBz h0 hB1)
      have b5 := fBd fb_740_15 (fBz h0 hB1)
      refine Exists.intro xm_423 (And.intro mi_423 (And.intro ⟨rfl, rfl, rfl, rfl⟩ (And.intro rfl ?_)))
      refine fcallp hB1 (ct_M_isSign_90da9 (fBz h0 hB1) (by first | exact ⟨by decide, by decide⟩ | omega)) ?_
      rintro _ ⟨z6, rfl, hz6⟩
      refine And.intro (by omega) (And.intro ?_ ?_)
      · intro c7
        refine And.intro (⟨by decide, by decide⟩) ?_
        exact ⟨_, rfl, by omega, hx0, (fun _ => hx1)⟩
      · intro c8
        refine Exists.intro xm_314 (And.intro mi_314 (And.intro ⟨rfl, rfl, rfl, rfl⟩ (And.intro rfl ?_)))
        refine fcall _ h0 (fzs_sub (by decide +kernel) hW) hB1 (ct_M_next_c8003 (fBz h0 hB1) (by omega)) ?_
        rintro IhB10 _ hB10 fhB10 ⟨rfl, hz9⟩
        have t11 := fhB10 740 14 (by decide +kernel)
        have t12 := fhB10 740 15 (by decide +kernel)
        have t13 := fhB10 740 16 (by decide +kernel)
        have k14 := fBz_eq hB10 (a := 740) (j := 8) (by decide +kernel)
        have k15 := fBz_eq hB10 (a := 740) (j := 17) (by decide +kernel)
        refine Exists.intro xm_336 (And.intro mi_336 (And.intro ⟨rfl, rfl, rfl, rfl⟩ (And.intro rfl ?_)))
        refine fcall _ h0 (fzs_sub (by decide +kernel) hW) hB10 (ct_M_both_747b2 (fBz h0 hB10) (by first | exact ⟨hb.1.1, hb.1.2⟩ | omega) (by omega) (by omega) (by omega) (by omega)) ?_
        rintro IhB17 _ hB17 fhB17 ⟨z16, rfl, hz16, g0z16, g1z16⟩
        have k18 := fBz_eq hB17 (a := 740) (j := 8) (by decide +kernel)
        have k19 := fBz_eq hB17 (a := 740) (j := 17) (by decide +kernel)
        refine And.intro (by omega) (And.intro ?_ ?_)
        · intro c20
          refine Exists.intro xm_421 (And.intro mi_421 (And.intro ⟨rfl, rfl, rfl, rfl⟩ (And.intro rfl ?_)))
          refine fcall _ h0 (fzs_sub (by decide +kernel) hW) hB17 (ct_M_step_2c704 (fBz h0 hB17) (by first | exact ⟨by decide, by decide⟩ | omega) (by first | exact ⟨by decide, by decide⟩ | omega) (by omega) (by omega)) ?_
          rintro IhB22 _ hB22 fhB22 ⟨rfl, hz21, g0z21⟩
          have t23 := fhB22 740 9 (by decide +kernel)
          have t24 := fhB22 740 10 (by decide +kernel)
          have t25 := fhB22 740 11 (by decide +kernel)
          have t26 := fhB22 740 13 (by decide +kernel)
          have t27 := fhB22 740 14 (by decide +kernel)
          have t28 := fhB22 740 15 (by decide +kernel)
          have k29 := fBz_eq hB22 (a := 740) (j := 8) (by decide +kernel)
          have k30 := fBz_eq hB22 (a := 740) (j := 17) (by decide +kernel)
          exact fcutJ (I := IhB22) (j := (jc_M_either_f12bf_10 I)) (lv' := [(0, .inr (.inr (some 740))), (1, .inl _)]) (And.intro rfl (And.intro rfl True.intro)) ⟨_, rfl, rfl, ⟨by omega, (par_be hx0 (fFr_S fhB10 (by decide +kernel)) g0z16 g0z21 (by omega) (by omega) (by omega) (by omega)), (par_one (by omega) hx1 (fFr_S fhB10 (by decide +kernel)) g0z16 (g1z16 (by omega)) g0z21 (by omega) (by omega) (by omega) (by omega) (by omega) (by omega))⟩, rfl⟩ (by omega)
        · intro c31
          refine And.intro (⟨by decide, by decide⟩) ?_
          exact ⟨_, rfl, by omega, (par_bel hx0 (fFr_S fhB10 (by decide +kernel)) g0z16 (by omega) (by omega)), (fun q => absurd q (by omega))⟩
  · have hB0 := fB_self (zn := znJ) (K := fKc wz_2212a) h0
    have b32 := fBd fb_740_8 (fBz h0 hB0)
    have b33 := fBd fb_740_14 (fBz h0 hB0)
    have b34 := fBd fb_740_15 (fBz h0 hB0)
    refine Exists.intro xm_336 (And.intro mi_336 (And.intro ⟨rfl, rfl, rfl, rfl⟩ (And.intro rfl ?_)))
    refine fcall _ h0 (fzs_sub (by decide +kernel) hW) hB0 (ct_M_both_747b2 (fBz h0 hB0) (by first | exact ⟨ha1.1, ha1.2⟩ | omega) (by omega) (by omega) (by omega) (by omega)) ?_
    rintro IhB36 _ hB36 fhB36 ⟨z35, rfl, hz35, g0z35, g1z35⟩
    have k37 := fBz_eq hB36 (a := 740) (j := 8) (by decide +kernel)
    have k38 := fBz_eq hB36 (a := 740) (j := 17) (by decide +kernel)
    refine And.intro (by omega) (And.intro ?_ ?_)
    · intro c39
      exact fcutJ (I := IhB36) (j := (jc_M_either_f12bf_10 I)) (lv' := [(0, .inr (.inr (some 740))), (1, .inl _)]) (And.intro rfl (And.intro rfl True.intro)) ⟨_, rfl, rfl, ⟨by omega, g0z35, (g1z35 (by omega))⟩, rfl⟩ (by omega)
    · intro c40
      refine And.intro (⟨by decide, by decide⟩) ?_
      exact ⟨_, rfl, by omega, g0z35, (fun q => absurd q (by omega))⟩
noncomputable abbrev gM_part0 (gn0 gn1 : Nat) (rm : Room) : xM := (⟨"AcidCityModel", "part0", "(I)Z"⟩, prog_14_method_84_code, 2, (some .boolean), [(0, 3, 0, 1, []), (1, 25, 12, 11, [15587]), (4, 0, 2, 0, []), (5, 21, 1, 33, []), (8, 3, 0, 1, []), (9, 0, 0, 0, []), (10, 3, 0, 1, []), (11, 25, 12, 12, [15588]), (14, 33, 3, 421, [13, 1, 17645, 0, 17647, 6159, 18432, 9230]), (17, 3, 0, 1, []), (18, 15, 0, 0, []), (19, 25, 12, 18, [15594]), (22, 0, 1, 0, []), (23, 6, 0, 1, []), (24, 26, 12, 18, [0, 15594]), (27, 3, 0, 1, []), (28, 33, 1, 314, [13, 1, 17597, 0, 17599, 6148, 17600, 9230]), (31, 0, 1, 0, []), (32, 35, 3, 0, []), (33, 3, 0, 1, []), (34, 25, 12, 11, [15587]), (37, 0, 1, 0, []), (38, 21, 1, 84, []), (41, 3, 0, 1, []), (42, 25, 12, 13, [15589]), (45, 20, 0, 84, []), (48, 3, 1, 0, []), (49, 3, 0, 1, []), (50, 25, 12, 13, [15589]), (53, 33, 2, 422, [0, 0, 18433, 0, 18434, 0, 18435, 9230]), (56, 20, 0, 84, []), (59, 3, 0, 1, []), (60, 0, 1, 0, []), (61, 3, 0, 1, []), (62, 25, 12, 13, [15589]), (65, 33, 3, 421, [13, 1, 17645, 0, 17647, 6159, 18432, 9230]), (68, 3, 0, 1, []), (69, 15, 0, 0, []), (70, 25, 12, 18, [15594]), (73, 0, 1, 0, []), (74, 6, 0, 1, []), (75, 26, 12, 18, [0, 15594]), (78, 3, 0, 1, []), (79, 33, 1, 314, [13, 1, 17597, 0, 17599, 6148, 17600, 9230]), (82, 0, 1, 0, []), (83, 35, 3, 0, []), (84, 3, 0, 1, []), (85, 0, 33, 0, []), (87, 33, 2, 423, [13, 1, 18436, 0, 18438, 7168, 18439, 9230]), (90, 20, 0, 145, []), (93, 3, 0, 1, []), (94, 25, 12, 15, [15591]), (97, 0, 8, 0, []), (99, 21, 3, 145, []), (102, 3, 0, 1, []), (103, 15, 0, 0, []), (104, 25, 12, 15, [15591]), (107, 0, 1, 0, []), (108, 6, 0, 0, []), (109, 26, 12, 15, [0, 15591]), (112, 3, 0, 1, []), (113, 33, 1, 314, [13, 1, 17597, 0, 17599, 6148, 17600, 9230]), (116, 3, 0, 1, []), (117, 3, 1, 0, []), (118, 33, 2, gn1, [13, 1, 17641, 0, 17643, 6158, 17644, 9230]), (121, 20, 1, 126, []), (124, 0, 0, 0, []), (125, 35, 3, 0, []), (126, 3, 0, 1, []), (127, 15, 0, 0, []), (128, 25, 12, 15, [15591]), (131, 0, 1, 0, []), (132, 6, 1, 0, []), (133, 26, 12, 15, [0, 15591]), (136, 3, 0, 1, []), (137, 0, 2, 0, []), (138, 0, 33, 0, []), (140, 33, 3, 421, [13, 1, 17645, 0, 17647, 6159, 18432, 9230]), (143, 0, 1, 0, []), (144, 35, 3, 0, []), (145, 3, 0, 1, []), (146, 0, 40, 0, []), (148, 33, 2, 423, [13, 1, 18436, 0, 18438, 7168, 18439, 9230]), (151, 20, 0, 163, []), (154, 3, 0, 1, []), (155, 25, 12, 14, [15590]), (158, 0, 8, 0, []), (160, 21, 1, 165, []), (163, 0, 0, 0, []), (164, 35, 3, 0, []), (165, 3, 0, 1, []), (166, 15, 0, 0, []), (167, 25, 12, 14, [15590]), (170, 0, 1, 0, []), (171, 6, 0, 0, []), (172, 26, 12, 14, [0, 15590]), (175, 3, 0, 1, []), (176, 33, 1, 314, [13, 1, 17597, 0, 17599, 6148, 17600, 9230]), (179, 3, 0, 1, []), (180, 3, 1, 0, []), (181, 33, 2, gn0, [13, 1, 17621, 0, 17623, 6153, 17624, 9230]), (184, 20, 0, 196, []), (187, 3, 0, 1, []), (188, 0, 41, 0, []), (190, 33, 2, 423, [13, 1, 18436, 0, 18438, 7168, 18439, 9230]), (193, 20, 1, 198, []), (196, 0, 0, 0, []), (197, 35, 3, 0, []), (198, 3, 0, 1, []), (199, 15, 0, 0, []), (200, 25, 12, 14, [15590]), (203, 0, 1, 0, []), (204, 6, 1, 0, []), (205, 26, 12, 14, [0, 15590]), (208, 3, 0, 1, []), (209, 33, 1, 314, [13, 1, 17597, 0, 17599, 6148, 17600, 9230]), (212, 0, 1, 0, []), (213, 35, 3, 0, [])], rm)
set_option maxRecDepth 8000 in
theorem cg_M_part0 {d : Int} {rm : Room} {gm0 : xM} {gn0 : Nat} (ge0 : xMs[gn0]? = some gm0) (gk0 : Nat.ble 2 gm0.2.2.1 = true ∧ (xR gm0).cells = 0 ∧ (xR gm0).slots = 0) (gc0 : ∀ {I : fH} {x1 : Int} (h0 : fB bsJ I) (ha1 : ((-1) ≤ x1 ∧ x1 ≤ 5)) (hp0 : I 740 9 ≤ I 740 10 ∧ I 740 10 ≤ I 740 8 ∧ (I 740 11 = 0 ∨ I 740 9 < I 740 10)) (hp1 : 0 ≤ I 740 16 ∧ I 740 16 ≤ I 740 9) (hp2 : d + 1 ≤ I 740 14 + I 740 15) (hp3 : (1215 ≤ I 740 17 ∧ I 740 17 ≤ 3415 ∧ (I 740 17 - 1215) % 200 = 0) ∨ I 740 17 = 4700), fC ρ base n F xTc vwCl xTys D dA la gJ (fbz bsJ znJ (fKc wz_2212a) I) gm0 [.inr (.inr (some 740)), .inl x1] I (fun I' r => ∃ z, r = some (.inl z) ∧ ((0 ≤ z ∧ z ≤ 1) ∧ (I 740 9 ≤ I' 740 9 ∧ I' 740 9 ≤ I' 740 10 ∧ I' 740 10 ≤ I' 740 8 ∧ (I' 740 11 = 0 ∨ I' 740 9 < I' 740 10) ∧ (z = 1 → I 740 16 ≤ I' 740 16 ∧ I' 740 16 - I 740 16 ≤ I' 740 9 - I 740 9 ∧ I' 740 14 = I 740 14 ∧ I' 740 15 = I 740 15))) ∧ (sBe I I' (I 740 17) (I 740 16)) ∧ (z = 1 → sOne I' (I 740 17) (I 740 16) (I' 740 16)))) {gm1 : xM} {gn1 : Nat} (ge1 : xMs[gn1]? = some gm1) (gk1 : Nat.ble 2 gm1.2.2.1 = true ∧ (xR gm1).cells = 0 ∧ (xR gm1).slots = 0) (gc1 : ∀ {I : fH} {x1 : Int} (h0 : fB bsJ I) (ha1 : ((-1) ≤ x1 ∧ x1 ≤ 5)) (hp0 : I 740 9 ≤ I 740 10 ∧ I 740 10 ≤ I 740 8 ∧ (I 740 11 = 0 ∨ I 740 9 < I 740 10)) (hp1 : 0 ≤ I 740 16 ∧ I 740 16 ≤ I 740 9) (hp2 : d + 1 ≤ I 740 14 + I 740 15) (hp3 : (1215 ≤ I 740 17 ∧ I 740 17 ≤ 3415 ∧ (I 740 17 - 1215) % 200 = 0) ∨ I 740 17 = 4700), fC ρ base n F xTc vwCl xTys D dA la gJ (fbz bsJ znJ (fKc wz_2212a) I) gm1 [.inr (.inr (some 740)), .inl x1] I (fun I' r => ∃ z, r = some (.inl z) ∧ ((0 ≤ z ∧ z ≤ 1) ∧ (I 740 9 ≤ I' 740 9 ∧ I' 740 9 ≤ I' 740 10 ∧ I' 740 10 ≤ I' 740 8 ∧ (I' 740 11 = 0 ∨ I' 740 9 < I' 740 10) ∧ (z = 1 → I 740 16 ≤ I' 740 16 ∧ I' 740 16 - I 740 16 ≤ I' 740 9 - I 740 9 ∧ I' 740 14 = I 740 14 ∧ I' 740 15 = I 740 15))) ∧ (sBe I I' (I 740 17) (I 740 16)) ∧ (z = 1 → sOne I' (I 740 17) (I 740 16) (I' 740 16)))) (hin : (gM_part0 gn0 gn1 rm) ∈ xMs) (hx6 : f60c xTc xTys (gM_part0 gn0 gn1 rm) = true) {I : fH} {x1 : Int} (h0 : fB bsJ I) (ha1 : ((-1) ≤ x1 ∧ x1 ≤ 5)) (hp0 : I 740 9 ≤ I 740 10 ∧ I 740 10 ≤ I 740 8 ∧ (I 740 11 = 0 ∨ I 740 9 < I 740 10)) (hp1 : 0 ≤ I 740 16 ∧ I 740 16 ≤ I 740 9) (hp2 : d ≤ I 740 14 + I 740 15) (hp3 : (1215 ≤ I 740 17 ∧ I 740 17 ≤ 3415 ∧ (I 740 17 - 1215) % 200 = 0) ∨ I 740 17 = 4700) : fC ρ base n F xTc vwCl xTys D dA la gJ (fbz bsJ znJ (fKc wz_2212a) I) (gM_part0 gn0 gn1 rm) [.inr (.inr (some 740)), .inl x1] I (fun I' r => ∃ z, r = some (.inl z) ∧ ((0 ≤ z ∧ z ≤ 1) ∧ (I 740 9 ≤ I' 740 9 ∧ I' 740 9 ≤ I' 740 10 ∧ I' 740 10 ≤ I' 740 8 ∧ (I' 740 11 = 0 ∨ I' 740 9 < I' 740 10) ∧ (z = 1 → I 740 16 ≤ I' 740 16 ∧ I' 740 16 - I 740 16 ≤ I' 740 9 - I 740 9 ∧ I' 740 14 = I 740 14 ∧ I' 740 15 = I 740 15))) ∧ (sBe I I' (I 740 17) (I 740 16)) ∧ (z = 1 → sOne I' (I 740 17) (I 740 16) (I' 740 16))) := by
  have hW : fzs wz_2212a (fKc wz_2212a) := fKc_ok _
  refine f_meth (rb := rbJ) (J := []) 1 400 xG hin hx6 okJ (fB_self h0) ?_ ?_
  · exact fun q h => absurd h List.not_mem_nil
  · have hB0 := fB_self (zn := znJ) (K := fKc wz_2212a) h0
    have b1 := fBd fb_740_8 (fBz h0 hB0)
    have b2 := fBd fb_740_14 (fBz h0 hB0)
    have b3 := fBd fb_740_15 (fBz h0 hB0)
    refine And.intro ⟨rfl, by decide, by decide⟩ (fgetf fb_740_11 h0 hB0 ?_)
    intro z4 lz4 uz4 qz4
    refine And.intro (And.intro (by first | exact fi_ lz4 uz4 rfl | omega) (by first | exact ⟨by decide, by decide⟩ | omega)) (And.intro ?_ ?_)
    · intro c5
      refine And.intro ⟨rfl, by decide, by decide⟩ (fgetf fb_740_11 h0 hB0 ?_)
      intro z6 lz6 uz6 qz6
      refine And.intro (And.intro (by first | exact fi_ lz6 uz6 rfl | omega) (by first | exact ⟨by decide, by decide⟩ | omega)) (And.intro ?_ ?_)
      · intro c7
        refine Exists.intro xm_423 (And.intro mi_423 (And.intro ⟨rfl, rfl, rfl, rfl⟩ (And.intro rfl ?_)))
        refine fcallp hB0 (ct_M_isSign_90da9 (fBz h0 hB0) (by first | exact ⟨by decide, by decide⟩ | omega)) ?_
        rintro _ ⟨z8, rfl, hz8⟩
        refine And.intro (by omega) (And.intro ?_ ?_)
        · intro c9
          refine Exists.intro xm_423 (And.intro mi_423 (And.intro ⟨rfl, rfl, rfl, rfl⟩ (And.intro rfl ?_)))
          refine fcallp hB0 (ct_M_isSign_90da9 (fBz h0 hB0) (by first | exact ⟨by decide, by decide⟩ | omega)) ?_
          rintro _ ⟨z10, rfl, hz10⟩
          refine And.intro (by omega) (And.intro ?_ ?_)
          · intro c11
            refine And.intro (⟨by decide, by decide⟩) ?_
            exact ⟨_, rfl, by omega, sBe_refl, (fun q => absurd q (by omega))⟩
          · intro c12
            refine And.intro ⟨rfl, by decide, by decide⟩ (fgetf fb_740_14 h0 hB0 ?_)
            intro z13 lz13 uz13 qz13
            refine And.intro (And.intro (by first | exact fi_ lz13 uz13 rfl | omega) (by first | exact ⟨by decide, by decide⟩ | omega)) (And.intro ?_ ?_)
            · intro c14
              refine And.intro ⟨rfl, by decide, by decide⟩ (fgetf fb_740_14 h0 hB0 ?_)
              intro z15 lz15 uz15 qz15
              refine And.intro ⟨rfl, by decide, by decide⟩ (And.intro rfl (And.intro (Or.inl rfl) (fputf fb_740_14 (by decide +kernel) hW (by omega) ?_)))
              intro IhB16 ehB16 hB16
              have t17 : IhB16 740 9 = I 740 9 := (congrFun (congrFun ehB16 740) 9).trans (fup_ne (by first | decide | omega))
              have t18 : IhB16 740 10 = I 740 10 := (congrFun (congrFun ehB16 740) 10).trans (fup_ne (by first | decide | omega))
              have t19 : IhB16 740 11 = I 740 11 := (congrFun (congrFun ehB16 740) 11).trans (fup_ne (by first | decide | omega))
              have t20 : IhB16 740 13 = I 740 13 := (congrFun (congrFun ehB16 740) 13).trans (fup_ne (by first | decide | omega))
              have t21 := fup_at ehB16 14 (by first | rfl | omega)
              have t22 : IhB16 740 15 = I 740 15 := (congrFun (congrFun ehB16 740) 15).trans (fup_ne (by first | decide | omega))
              have t23 : IhB16 740 16 = I 740 16 := (congrFun (congrFun ehB16 740) 16).trans (fup_ne (by first | decide | omega))
              have k24 := fBz_eq hB16 (a := 740) (j := 8) (by decide +kernel)
              have k25 := fBz_eq hB16 (a := 740) (j := 17) (by decide +kernel)
              refine Exists.intro xm_314 (And.intro mi_314 (And.intro ⟨rfl, rfl, rfl, rfl⟩ (And.intro rfl ?_)))
              refine fcall _ h0 (fzs_sub (by decide +kernel) hW) hB16 (ct_M_next_c8003 (fBz h0 hB16) (by omega)) ?_
              rintro IhB27 _ hB27 fhB27 ⟨rfl, hz26⟩
              have t28 := fhB27 740 14 (by decide +kernel)
              have t29 := fhB27 740 15 (by decide +kernel)
              have t30 := fhB27 740 16 (by decide +kernel)
              have k31 := fBz_eq hB27 (a := 740) (j := 8) (by decide +kernel)
              have k32 := fBz_eq hB27 (a := 740) (j := 17) (by decide +kernel)
              refine Exists.intro gm0 (And.intro ge0 (And.intro ⟨rfl, gk0.1, gk0.2.1, gk0.2.2⟩ (And.intro rfl ?_)))
              refine fcall _ h0 (fzs_sub (by decide +kernel) hW) hB27 (gc0 (fBz h0 hB27) (by first | exact ⟨ha1.1, ha1.2⟩ | omega) (by omega) (by omega) (by omega) (by omega)) ?_
              rintro IhB34 _ hB34 fhB34 ⟨z33, rfl, hz33, g0z33, g1z33⟩
              have k35 := fBz_eq hB34 (a := 740) (j := 8) (by decide +kernel)
              have k36 := fBz_eq hB34 (a := 740) (j := 17) (by decide +kernel)
              refine And.intro (by omega) (And.intro ?_ ?_)
              · intro c37
                refine And.intro (⟨by decide, by decide⟩) ?_
                exact ⟨_, rfl, by omega, (par_be0 (fun j => (fFr_S fhB27 (by decide +kernel) j).trans (fup_other ehB16 741 j (Or.inl (by decide)))) g0z33 (by omega) (by omega)), (fun q => absurd q (by omega))⟩
              · intro c38
                refine Exists.intro xm_423 (And.intro mi_423 (And.intro ⟨rfl, rfl, rfl, rfl⟩ (And.intro rfl ?_)))
                refine fcallp hB34 (ct_M_isSign_90da9 (fBz h0 hB34) (by first | exact ⟨by decide, by decide⟩ | omega)) ?_
                rintro _ ⟨z39, rfl, hz39⟩
                refine And.intro (by omega) (And.intro ?_ ?_)
                · intro c40
                  refine And.intro ⟨rfl, by decide, by decide⟩ (fgetf fb_740_14 h0 hB34 ?_)
                  intro z41 lz41 uz41 qz41
                  refine And.intro ⟨rfl, by decide, by decide⟩ (And.intro rfl (And.intro (Or.inl rfl) (fputf fb_740_14 (by decide +kernel) hW (by omega) ?_)))
                  intro IhB42 ehB42 hB42
                  have t43 : IhB42 740 9 = IhB34 740 9 := (congrFun (congrFun ehB42 740) 9).trans (fup_ne (by first | decide | omega))
                  have t44 : IhB42 740 10 = IhB34 740 10 := (congrFun (congrFun ehB42 740) 10).trans (fup_ne (by first | decide | omega))
                  have t45 : IhB42 740 11 = IhB34 740 11 := (congrFun (congrFun ehB42 740) 11).trans (fup_ne (by first | decide | omega))
                  have t46 : IhB42 740 13 = IhB34 740 13 := (congrFun (congrFun ehB42 740) 13).trans (fup_ne (by first | decide | omega))
                  have t47 := fup_at ehB42 14 (by first | rfl | omega)
                  have t48 : IhB42 740 15 = IhB34 740 15 := (congrFun (congrFun ehB42 740) 15).trans (fup_ne (by first | decide | omega))
                  have t49 : IhB42 740 16 = IhB34 740 16 := (congrFun (congrFun ehB42 740) 16).trans (fup_ne (by first | decide | omega))
                  have k50 := fBz_eq hB42 (a := 740) (j := 8) (by decide +kernel)
                  have k51 := fBz_eq hB42 (a := 740) (j := 17) (by decide +kernel)
                  refine Exists.intro xm_314 (And.intro mi_314 (And.intro ⟨rfl, rfl, rfl, rfl⟩ (And.intro rfl ?_)))
                  refine fcall _ h0 (fzs_sub (by decide +kernel) hW) hB42 (ct_M_next_c8003 (fBz h0 hB42) (by omega)) ?_
                  rintro IhB53 _ hB53 fhB53 ⟨rfl, hz52⟩
                  have t54 := fhB53 740 14 (by decide +kernel)
                  have t55 := fhB53 740 15 (by decide +kernel)
                  have t56 := fhB53 740 16 (by decide +kernel)
                  have k57 := fBz_eq hB53 (a := 740) (j := 8) (by decide +kernel)
                  have k58 := fBz_eq hB53 (a := 740) (j := 17) (by decide +kernel)
                  refine And.intro (⟨by decide, by decide⟩) ?_
                  exact ⟨_, rfl, by omega, (par_par (M3 := IhB53 740 16) (by omega) (fun j => (fFr_S fhB27 (by decide +kernel) j).trans (fup_other ehB16 741 j (Or.inl (by decide)))) g0z33 (g1z33 (by omega)) (fun j => (fFr_S fhB53 (by decide +kernel) j).trans (fup_other ehB42 741 j (Or.inl (by decide)))) (by omega) (by omega) (by omega)).1, (fun _ => (par_par (M3 := IhB53 740 16) (by omega) (fun j => (fFr_S fhB27 (by decide +kernel) j).trans (fup_other ehB16 741 j (Or.inl (by decide)))) g0z33 (g1z33 (by omega)) (fun j => (fFr_S fhB53 (by decide +kernel) j).trans (fup_other ehB42 741 j (Or.inl (by decide)))) (by omega) (by omega) (by omega)).2)⟩
                · intro c59
                  refine And.intro (⟨by decide, by decide⟩) ?_
                  exact ⟨_, rfl, by omega, (par_be0 (fun j => (fFr_S fhB27 (by decide +kernel) j).trans (fup_other ehB16 741 j (Or.inl (by decide)))) g0z33 (by omega) (by omega)), (fun q => absurd q (by omega))⟩
            · intro c60
              refine And.intro (⟨by decide, by decide⟩) ?_
              exact ⟨_, rfl, by omega, sBe_refl, (fun q => absurd q (by omega))⟩
        · intro c61
          refine And.intro ⟨rfl, by decide, by decide⟩ (fgetf fb_740_15 h0 hB0 ?_)
          intro z62 lz62 uz62 qz62
          refine And.intro (And.intro (by first | exact fi_ lz62 uz62 rfl | omega) (by first | exact ⟨by decide, by decide⟩ | omega)) (And.intro ?_ ?_)
          · intro c63
            refine Exists.intro xm_423 (And.intro mi_423 (And.intro ⟨rfl, rfl, rfl, rfl⟩ (And.intro rfl ?_)))
            refine fcallp hB0 (ct_M_isSign_90da9 (fBz h0 hB0) (by first | exact ⟨by decide, by decide⟩ | omega)) ?_
            rintro _ ⟨z64, rfl, hz64⟩
            refine And.intro (by omega) (And.intro ?_ ?_)
            · intro c65
              refine And.intro (⟨by decide, by decide⟩) ?_
              exact ⟨_, rfl, by omega, sBe_refl, (fun q => absurd q (by omega))⟩
            · intro c66
              refine And.intro ⟨rfl, by decide, by decide⟩ (fgetf fb_740_14 h0 hB0 ?_)
              intro z67 lz67 uz67 qz67
              refine And.intro (And.intro (by first | exact fi_ lz67 uz67 rfl | omega) (by first | exact ⟨by decide, by decide⟩ | omega)) (And.intro ?_ ?_)
              · intro c68
                refine And.intro ⟨rfl, by decide, by decide⟩ (fgetf fb_740_14 h0 hB0 ?_)
                intro z69 lz69 uz69 qz69
                refine And.intro ⟨rfl, by decide, by decide⟩ (And.intro rfl (And.intro (Or.inl rfl) (fputf fb_740_14 (by decide +kernel) hW (by omega) ?_)))
                intro IhB70 ehB70 hB70
                have t71 : IhB70 740 9 = I 740 9 := (congrFun (congrFun ehB70 740) 9).trans (fup_ne (by first | decide | omega))
                have t72 : IhB70 740 10 = I 740 10 := (congrFun (congrFun ehB70 740) 10).trans (fup_ne (by first | decide | omega))
                have t73 : IhB70 740 11 = I 740 11 := (congrFun (congrFun ehB70 740) 11).trans (fup_ne (by first | decide | omega))
                have t74 : IhB70 740 13 = I 740 13 := (congrFun (congrFun ehB70 740) 13).trans (fup_ne (by first | decide | omega))
                have t75 := fup_at ehB70 14 (by first | rfl | omega)
                have t76 : IhB70 740 15 = I 740 15 := (congrFun (congrFun ehB70 740) 15).trans (fup_ne (by first | decide | omega))
                have t77 : IhB70 740 16 = I 740 16 := (congrFun (congrFun ehB70 740) 16).trans (fup_ne (by first | decide | omega))
                have k78 := fBz_eq hB70 (a := 740) (j := 8) (by decide +kernel)
                have k79 := fBz_eq hB70 (a := 740) (j := 17) (by decide +kernel)
                refine Exists.intro xm_314 (And.intro mi_314 (And.intro ⟨rfl, rfl, rfl, rfl⟩ (And.intro rfl ?_)))
                refine fcall _ h0 (fzs_sub (by decide +kernel) hW) hB70 (ct_M_next_c8003 (fBz h0 hB70) (by omega)) ?_
                rintro IhB81 _ hB81 fhB81 ⟨rfl, hz80⟩
                have t82 := fhB81 740 14 (by decide +kernel)
                have t83 := fhB81 740 15 (by decide +kernel)
                have t84 := fhB81 740 16 (by decide +kernel)
                have k85 := fBz_eq hB81 (a := 740) (j := 8) (by decide +kernel)
                have k86 := fBz_eq hB81 (a := 740) (j := 17) (by decide +kernel)
                refine Exists.intro gm0 (And.intro ge0 (And.intro ⟨rfl, gk0.1, gk0.2.1, gk0.2.2⟩ (And.intro rfl ?_)))
                refine fcall _ h0 (fzs_sub (by decide +kernel) hW) hB81 (gc0 (fBz h0 hB81) (by first | exact ⟨ha1.1, ha1.2⟩ | omega) (by omega) (by omega) (by omega) (by omega)) ?_
                rintro IhB88 _ hB88 fhB88 ⟨z87, rfl, hz87, g0z87, g1z87⟩
                have k89 := fBz_eq hB88 (a := 740) (j := 8) (by decide +kernel)
                have k90 := fBz_eq hB88 (a := 740) (j := 17) (by decide +kernel)
                refine And.intro (by omega) (And.intro ?_ ?_)
                · intro c91
                  refine And.intro (⟨by decide, by decide⟩) ?_
                  exact ⟨_, rfl, by omega, (par_be0 (fun j => (fFr_S fhB81 (by decide +kernel) j).trans (fup_other ehB70 741 j (Or.inl (by decide)))) g0z87 (by omega) (by omega)), (fun q => absurd q (by omega))⟩
                · intro c92
                  refine Exists.intro xm_423 (And.intro mi_423 (And.intro ⟨rfl, rfl, rfl, rfl⟩ (And.intro rfl ?_)))
                  refine fcallp hB88 (ct_M_isSign_90da9 (fBz h0 hB88) (by first | exact ⟨by decide, by decide⟩ | omega)) ?_
                  rintro _ ⟨z93, rfl, hz93⟩
                  refine And.intro (by omega) (And.intro ?_ ?_)
                  · intro c94
                    refine And.intro ⟨rfl, by decide, by decide⟩ (fgetf fb_740_14 h0 hB88 ?_)
                    intro z95 lz95 uz95 qz95
                    refine And.intro ⟨rfl, by decide, by decide⟩ (And.intro rfl (And.intro (Or.inl rfl) (fputf fb_740_14 (by decide +kernel) hW (by omega) ?_)))
                    intro IhB96 ehB96 hB96
                    have t97 : IhB96 740 9 = IhB88 740 9 := (congrFun (congrFun ehB96 740) 9).trans (fup_ne (by first | decide | omega))
                    have t98 : IhB96 740 10 = IhB88 740 10 := (congrFun (congrFun ehB96 740) 10).trans (fup_ne (by first | decide | omega))
                    have t99 : IhB96 740 11 = IhB88 740 11 := (congrFun (congrFun ehB96 740) 11).trans (fup_ne (by first | decide | omega))
                    have t100 : IhB96 740 13 = IhB88 740 13 := (congrFun (congrFun ehB96 740) 13).trans (fup_ne (by first | decide | omega))
                    have t101 := fup_at ehB96 14 (by first | rfl | omega)
                    have t102 : IhB96 740 15 = IhB88 740 15 := (congrFun (congrFun ehB96 740) 15).trans (fup_ne (by first | decide | omega))
                    have t103 : IhB96 740 16 = IhB88 740 16 := (congrFun (congrFun ehB96 740) 16).trans (fup_ne (by first | decide | omega))
                    have k104 := fBz_eq hB96 (a := 740) (j := 8) (by decide +kernel)
                    have k105 := fBz_eq hB96 (a := 740) (j := 17) (by decide +kernel)
                    refine Exists.intro xm_314 (And.intro mi_314 (And.intro ⟨rfl, rfl, rfl, rfl⟩ (And.intro rfl ?_)))
                    refine fcall _ h0 (fzs_sub (by decide +kernel) hW) hB96 (ct_M_next_c8003 (fBz h0 hB96) (by omega)) ?_
                    rintro IhB107 _ hB107 fhB107 ⟨rfl, hz106⟩
                    have t108 := fhB107 740 14 (by decide +kernel)
                    have t109 := fhB107 740 15 (by decide +kernel)
                    have t110 := fhB107 740 16 (by decide +kernel)
                    have k111 := fBz_eq hB107 (a := 740) (j := 8) (by decide +kernel)
                    have k112 := fBz_eq hB107 (a := 740) (j := 17) (by decide +kernel)
                    refine And.intro (⟨by decide, by decide⟩) ?_
                    exact ⟨_, rfl, by omega, (par_par (M3 := IhB107 740 16) (by omega) (fun j => (fFr_S fhB81 (by decide +kernel) j).trans (fup_other ehB70 741 j (Or.inl (by decide)))) g0z87 (g1z87 (by omega)) (fun j => (fFr_S fhB107 (by decide +kernel) j).trans (fup_other ehB96 741 j (Or.inl (by decide)))) (by omega) (by omega) (by omega)).1, (fun _ => (par_par (M3 := IhB107 740 16) (by omega) (fun j => (fFr_S fhB81 (by decide +kernel) j).trans (fup_other ehB70 741 j (Or.inl (by decide)))) g0z87 (g1z87 (by omega)) (fun j => (fFr_S fhB107 (by decide +kernel) j).trans (fup_other ehB96 741 j (Or.inl (by decide)))) (by omega) (by omega) (by omega)).2)⟩
                  · intro c113
                    refine And.intro (⟨by decide, by decide⟩) ?_
                    exact ⟨_, rfl, by omega, (par_be0 (fun j => (fFr_S fhB81 (by decide +kernel) j).trans (fup_other ehB70 741 j (Or.inl (by decide)))) g0z87 (by omega) (by omega)), (fun q => absurd q (by omega))⟩
              · intro c114
                refine And.intro (⟨by decide, by decide⟩) ?_
                exact ⟨_, rfl, by omega, sBe_refl, (fun q => absurd q (by omega))⟩
          · intro c115
            refine And.intro ⟨rfl, by decide, by decide⟩ (fgetf fb_740_15 h0 hB0 ?_)
            intro z116 lz116 uz116 qz116
            refine And.intro ⟨rfl, by decide, by decide⟩ (And.intro rfl (And.intro (Or.inl rfl) (fputf fb_740_15 (by decide +kernel) hW (by omega) ?_)))
            intro IhB117 ehB117 hB117
            have t118 : IhB117 740 9 = I 740 9 := (congrFun (congrFun ehB117 740) 9).trans (fup_ne (by first | decide | omega))
            have t119 : IhB117 740 10 = I 740 10 := (congrFun (congrFun ehB117 740) 10).trans (fup_ne (by first | decide | omega))
            have t120 : IhB117 740 11 = I 740 11 := (congrFun (congrFun ehB117 740) 11).trans (fup_ne (by first | decide | omega))
            have t121 : IhB117 740 13 = I 740 13 := (congrFun (congrFun ehB117 740) 13).trans (fup_ne (by first | decide | omega))
            have t122 : IhB117 740 14 = I 740 14 := (congrFun (congrFun ehB117 740) 14).trans (fup_ne (by first | decide | omega))
            have t123 := fup_at ehB117 15 (by first | rfl | omega)
            have t124 : IhB117 740 16 = I 740 16 := (congrFun (congrFun ehB117 740) 16).trans (fup_ne (by first | decide | omega))
            have k125 := fBz_eq hB117 (a := 740) (j := 8) (by decide +kernel)
            have k126 := fBz_eq hB117 (a := 740) (j := 17) (by decide +kernel)
            refine Exists.intro xm_314 (And.intro mi_314 (And.intro ⟨rfl, rfl, rfl, rfl⟩ (And.intro rfl ?_)))
            refine fcall _ h0 (fzs_sub (by decide +kernel) hW) hB117 (ct_M_next_c8003 (fBz h0 hB117) (by omega)) ?_
            rintro IhB128 _ hB128 fhB128 ⟨rfl, hz127⟩
            have t129 := fhB128 740 14 (by decide +kernel)
            have t130 := fhB128 740 15 (by decide +kernel)
            have t131 := fhB128 740 16 (by decide +kernel)
            have k132 := fBz_eq hB128 (a := 740) (j := 8) (by decide +kernel)
            have k133 := fBz_eq hB128 (a := 740) (j := 17) (by decide +kernel)
            refine Exists.intro gm1 (And.intro ge1 (And.intro ⟨rfl, gk1.1, gk1.2.1, gk1.2.2⟩ (And.intro rfl ?_)))
            refine fcall _ h0 (fzs_sub (by decide +kernel) hW) hB128 (gc1 (fBz h0 hB128) (by first | exact ⟨ha1.1, ha1.2⟩ | omega) (by omega) (by omega) (by omega) (by omega)) ?_
            rintro IhB135 _ hB135 fhB135 ⟨z134, rfl, hz134, g0z134, g1z134⟩
            have k136 := fBz_eq hB135 (a := 740) (j := 8) (by decide +kernel)
            have k137 := fBz_eq hB135 (a := 740) (j := 17) (by decide +kernel)
            refine And.intro (by omega) (And.intro ?_ ?_)
            · intro c138
              refine And.intro ⟨rfl, by decide, by decide⟩ (fgetf fb_740_15 h0 hB135 ?_)
              intro z139 lz139 uz139 qz139
              refine And.intro ⟨rfl, by decide, by decide⟩ (And.intro rfl (And.intro (Or.inl rfl) (fputf fb_740_15 (by decide +kernel) hW (by omega) ?_)))
              intro IhB140 ehB140 hB140
              have t141 : IhB140 740 9 = IhB135 740 9 := (congrFun (congrFun ehB140 740) 9).trans (fup_ne (by first | decide | omega))
              have t142 : IhB140 740 10 = IhB135 740 10 := (congrFun (congrFun ehB140 740) 10).trans (fup_ne (by first | decide | omega))
              have t143 : IhB140 740 11 = IhB135 740 11 := (congrFun (congrFun ehB140 740) 11).trans (fup_ne (by first | decide | omega))
              have t144 : IhB140 740 13 = IhB135 740 13 := (congrFun (congrFun ehB140 740) 13).trans (fup_ne (by first | decide | omega))
              have t145 : IhB140 740 14 = IhB135 740 14 := (congrFun (congrFun ehB140 740) 14).trans (fup_ne (by first | decide | omega))
              have t146 := fup_at ehB140 15 (by first | rfl | omega)
              have t147 : IhB140 740 16 = IhB135 740 16 := (congrFun (congrFun ehB140 740) 16).trans (fup_ne (by first | decide | omega))
              have k148 := fBz_eq hB140 (a := 740) (j := 8) (by decide +kernel)
              have k149 := fBz_eq hB140 (a := 740) (j := 17) (by decide +kernel)
              refine Exists.intro xm_421 (And.intro mi_421 (And.intro ⟨rfl, rfl, rfl, rfl⟩ (And.intro rfl ?_)))
              refine fcall _ h0 (fzs_sub (by decide +kernel) hW) hB140 (ct_M_step_2c704 (fBz h0 hB140) (by first | exact ⟨by decide, by decide⟩ | omega) (by first | exact ⟨by decide, by decide⟩ | omega) (by omega) (by omega)) ?_
              rintro IhB151 _ hB151 fhB151 ⟨rfl, hz150, g0z150⟩
              have t152 := fhB151 740 9 (by decide +kernel)
              have t153 := fhB151 740 10 (by decide +kernel)
              have t154 := fhB151 740 11 (by decide +kernel)
              have t155 := fhB151 740 13 (by decide +kernel)
              have t156 := fhB151 740 14 (by decide +kernel)
              have t157 := fhB151 740 15 (by decide +kernel)
              have k158 := fBz_eq hB151 (a := 740) (j := 8) (by decide +kernel)
              have k159 := fBz_eq hB151 (a := 740) (j := 17) (by decide +kernel)
              refine And.intro (⟨by decide, by decide⟩) ?_
              exact ⟨_, rfl, by omega, (par_not (M3 := IhB151 740 16) (by omega) (fun j => (fFr_S fhB128 (by decide +kernel) j).trans (fup_other ehB117 741 j (Or.inl (by decide)))) g0z134 (g1z134 (by omega)) (fun j => fup_other ehB140 741 j (Or.inl (by decide))) g0z150 (by omega) (by omega) (by omega) (by omega) (by omega) (by omega)).1, (fun _ => (par_not (M3 := IhB151 740 16) (by omega) (fun j => (fFr_S fhB128 (by decide +kernel) j).trans (fup_other ehB117 741 j (Or.inl (by decide)))) g0z134 (g1z134 (by omega)) (fun j => fup_other ehB140 741 j (Or.inl (by decide))) g0z150 (by omega) (by omega) (by omega) (by omega) (by omega) (by omega)).2)⟩
            · intro c160
              refine And.intro (⟨by decide, by decide⟩) ?_
              exact ⟨_, rfl, by omega, (par_be0 (fun j => (fFr_S fhB128 (by decide +kernel) j).trans (fup_other ehB117 741 j (Or.inl (by decide)))) g0z134 (by omega) (by omega)), (fun q => absurd q (by omega))⟩
      · intro c161
        refine And.intro ⟨rfl, by decide, by decide⟩ (fgetf fb_740_13 h0 hB0 ?_)
        intro z162 lz162 uz162 qz162
        refine And.intro (by first | exact fi_ lz162 uz162 rfl | omega) (And.intro ?_ ?_)
        · intro c163
          refine Exists.intro xm_423 (And.intro mi_423 (And.intro ⟨rfl, rfl, rfl, rfl⟩ (And.intro rfl ?_)))
          refine fcallp hB0 (ct_M_isSign_90da9 (fBz h0 hB0) (by first | exact ⟨by decide, by decide⟩ | omega)) ?_
          rintro _ ⟨z164, rfl, hz164⟩
          refine And.intro (by omega) (And.intro ?_ ?_)
          · intro c165
            refine Exists.intro xm_423 (And.intro mi_423 (And.intro ⟨rfl, rfl, rfl, rfl⟩ (And.intro rfl ?_)))
            refine fcallp hB0 (ct_M_isSign_90da9 (fBz h0 hB0) (by first | exact ⟨by decide, by decide⟩ | omega)) ?_
            rintro _ ⟨z166, rfl, hz166⟩
            refine And.intro (by omega) (And.intro ?_ ?_)
            · intro c167
              refine And.intro (⟨by decide, by decide⟩) ?_
              exact ⟨_, rfl, by omega, sBe_refl, (fun q => absurd q (by omega))⟩
            · intro c168
              refine And.intro ⟨rfl, by decide, by decide⟩ (fgetf fb_740_14 h0 hB0 ?_)
              intro z169 lz169 uz169 qz169
              refine And.intro (And.intro (by first | exact fi_ lz169 uz169 rfl | omega) (by first | exact ⟨by decide, by decide⟩ | omega)) (And.intro ?_ ?_)
              · intro c170
                refine And.intro ⟨rfl, by decide, by decide⟩ (fgetf fb_740_14 h0 hB0 ?_)
                intro z171 lz171 uz171 qz171
                refine And.intro ⟨rfl, by decide, by decide⟩ (And.intro rfl (And.intro (Or.inl rfl) (fputf fb_740_14 (by decide +kernel) hW (by omega) ?_)))
                intro IhB172 ehB172 hB172
                have t173 : IhB172 740 9 = I 740 9 := (congrFun (congrFun ehB172 740) 9).trans (fup_ne (by first | decide | omega))
                have t174 : IhB172 740 10 = I 740 10 := (congrFun (congrFun ehB172 740) 10).trans (fup_ne (by first | decide | omega))
                have t175 : IhB172 740 11 = I 740 11 := (congrFun (congrFun ehB172 740) 11).trans (fup_ne (by first | decide | omega))
                have t176 : IhB172 740 13 = I 740 13 := (congrFun (congrFun ehB172 740) 13).trans (fup_ne (by first | decide | omega))
                have t177 := fup_at ehB172 14 (by first | rfl | omega)
                have t178 : IhB172 740 15 = I 740 15 := (congrFun (congrFun ehB172 740) 15).trans (fup_ne (by first | decide | omega))
                have t179 : IhB172 740 16 = I 740 16 := (congrFun (congrFun ehB172 740) 16).trans (fup_ne (by first | decide | omega))
                have k180 := fBz_eq hB172 (a := 740) (j := 8) (by decide +kernel)
                have k181 := fBz_eq hB172 (a := 740) (j := 17) (by decide +kernel)
                refine Exists.intro xm_314 (And.intro mi_314 (And.intro ⟨rfl, rfl, rfl, rfl⟩ (And.intro rfl ?_)))
                refine fcall _ h0 (fzs_sub (by decide +kernel) hW) hB172 (ct_M_next_c8003 (fBz h0 hB172) (by omega)) ?_
                rintro IhB183 _ hB183 fhB183 ⟨rfl, hz182⟩
                have t184 := fhB183 740 14 (by decide +kernel)
                have t185 := fhB183 740 15 (by decide +kernel)
                have t186 := fhB183 740 16 (by decide +kernel)
                have k187 := fBz_eq hB183 (a := 740) (j := 8) (by decide +kernel)
                have k188 := fBz_eq hB183 (a := 740) (j := 17) (by decide +kernel)
                refine Exists.intro gm0 (And.intro ge0 (And.intro ⟨rfl, gk0.1, gk0.2.1, gk0.2.2⟩ (And.intro rfl ?_)))
                refine fcall _ h0 (fzs_sub (by decide +kernel) hW) hB183 (gc0 (fBz h0 hB183) (by first | exact ⟨ha1.1, ha1.2⟩ | omega) (by omega) (by omega) (by omega) (by omega)) ?_
                rintro IhB190 _ hB190 fhB190 ⟨z189, rfl, hz189, g0z189, g1z189⟩
                have k191 := fBz_eq hB190 (a := 740) (j := 8) (by decide +kernel)
                have k192 := fBz_eq hB190 (a := 740) (j := 17) (by decide +kernel)
                refine And.intro (by omega) (And.intro ?_ ?_)
                · intro c193
                  refine And.intro (⟨by decide, by decide⟩) ?_
                  exact ⟨_, rfl, by omega, (par_be0 (fun j => (fFr_S fhB183 (by decide +kernel) j).trans (fup_other ehB172 741 j (Or.inl (by decide)))) g0z189 (by omega) (by omega)), (fun q => absurd q (by omega))⟩
                · intro c194
                  refine Exists.intro xm_423 (And.intro mi_423 (And.intro ⟨rfl, rfl, rfl, rfl⟩ (And.intro rfl ?_)))
                  refine fcallp hB190 (ct_M_isSign_90da9 (fBz h0 hB190) (by first | exact ⟨by decide, by decide⟩ | omega)) ?_
                  rintro _ ⟨z195, rfl, hz195⟩
                  refine And.intro (by omega) (And.intro ?_ ?_)
                  · intro c196
                    refine And.intro ⟨rfl, by decide, by decide⟩ (fgetf fb_740_14 h0 hB190 ?_)
                    intro z197 lz197 uz197 qz197
                    refine And.intro ⟨rfl, by decide, by decide⟩ (And.intro rfl (And.intro (Or.inl rfl) (fputf fb_740_14 (by decide +kernel) hW (by omega) ?_)))
                    intro IhB198 ehB198 hB198
                    have t199 : IhB198 740 9 = IhB190 740 9 := (congrFun (congrFun ehB198 740) 9).trans (fup_ne (by first | decide | omega))
                    have t200 : IhB198 740 10 = IhB190 740 10 := (congrFun (congrFun ehB198 740) 10).trans (fup_ne (by first | decide | omega))
                    have t201 : IhB198 740 11 = IhB190 740 11 := (congrFun (congrFun ehB198 740) 11).trans (fup_ne (by first | decide | omega))
                    have t202 : IhB198 740 13 = IhB190 740 13 := (congrFun (congrFun ehB198 740) 13).trans (fup_ne (by first | decide | omega))
                    have t203 := fup_at ehB198 14 (by first | rfl | omega)
                    have t204 : IhB198 740 15 = IhB190 740 15 := (congrFun (congrFun ehB198 740) 15).trans (fup_ne (by first | decide | omega))
                    have t205 : IhB198 740 16 = IhB190 740 16 := (congrFun (congrFun ehB198 740) 16).trans (fup_ne (by first | decide | omega))
                    have k206 := fBz_eq hB198 (a := 740) (j := 8) (by decide +kernel)
                    have k207 := fBz_eq hB198 (a := 740) (j := 17) (by decide +kernel)
                    refine Exists.intro xm_314 (And.intro mi_314 (And.intro ⟨rfl, rfl, rfl, rfl⟩ (And.intro rfl ?_)))
                    refine fcall _ h0 (fzs_sub (by decide +kernel) hW) hB198 (ct_M_next_c8003 (fBz h0 hB198) (by omega)) ?_
                    rintro IhB209 _ hB209 fhB209 ⟨rfl, hz208⟩
                    have t210 := fhB209 740 14 (by decide +kernel)
                    have t211 := fhB209 740 15 (by decide +kernel)
                    have t212 := fhB209 740 16 (by decide +kernel)
                    have k213 := fBz_eq hB209 (a := 740) (j := 8) (by decide +kernel)
                    have k214 := fBz_eq hB209 (a := 740) (j := 17) (by decide +kernel)
                    refine And.intro (⟨by decide, by decide⟩) ?_
                    exact ⟨_, rfl, by omega, (par_par (M3 := IhB209 740 16) (by omega) (fun j => (fFr_S fhB183 (by decide +kernel) j).trans (fup_other ehB172 741 j (Or.inl (by decide)))) g0z189 (g1z189 (by omega)) (fun j => (fFr_S fhB209 (by decide +kernel) j).trans (fup_other ehB198 741 j (Or.inl (by decide)))) (by omega) (by omega) (by omega)).1, (fun _ => (par_par (M3 := IhB209 740 16) (by omega) (fun j => (fFr_S fhB183 (by decide +kernel) j).trans (fup_other ehB172 741 j (Or.inl (by decide)))) g0z189 (g1z189 (by omega)) (fun j => (fFr_S fhB209 (by decide +kernel) j).trans (fup_other ehB198 741 j (Or.inl (by decide)))) (by omega) (by omega) (by omega)).2)⟩
                  · intro c215
                    refine And.intro (⟨by decide, by decide⟩) ?_
                    exact ⟨_, rfl, by omega, (par_be0 (fun j => (fFr_S fhB183 (by decide +kernel) j).trans (fup_other ehB172 741 j (Or.inl (by decide)))) g0z189 (by omega) (by omega)), (fun q => absurd q (by omega))⟩
              · intro c216
                refine And.intro (⟨by decide, by decide⟩) ?_
                exact ⟨_, rfl, by omega, sBe_refl, (fun q => absurd q (by omega))⟩
          · intro c217
            refine And.intro ⟨rfl, by decide, by decide⟩ (fgetf fb_740_15 h0 hB0 ?_)
            intro z218 lz218 uz218 qz218
            refine And.intro (And.intro (by first | exact fi_ lz218 uz218 rfl | omega) (by first | exact ⟨by decide, by decide⟩ | omega)) (And.intro ?_ ?_)
            · intro c219
              refine Exists.intro xm_423 (And.intro mi_423 (And.intro ⟨rfl, rfl, rfl, rfl⟩ (And.intro rfl ?_)))
              refine fcallp hB0 (ct_M_isSign_90da9 (fBz h0 hB0) (by first | exact ⟨by decide, by decide⟩ | omega)) ?_
              rintro _ ⟨z220, rfl, hz220⟩
              refine And.intro (by omega) (And.intro ?_ ?_)
              · intro c221
                refine And.intro (⟨by decide, by decide⟩) ?_
                exact ⟨_, rfl, by omega, sBe_refl, (fun q => absurd q (by omega))⟩
              · intro c222
                refine And.intro ⟨rfl, by decide, by decide⟩ (fgetf fb_740_14 h0 hB0 ?_)
                intro z223 lz223 uz223 qz223
                refine And.intro (And.intro (by first | exact fi_ lz223 uz223 rfl | omega) (by first | exact ⟨by decide, by decide⟩ | omega)) (And.intro ?_ ?_)
                · intro c224
                  refine And.intro ⟨rfl, by decide, by decide⟩ (fgetf fb_740_14 h0 hB0 ?_)
                  intro z225 lz225 uz225 qz225
                  refine And.intro ⟨rfl, by decide, by decide⟩ (And.intro rfl (And.intro (Or.inl rfl) (fputf fb_740_14 (by decide +kernel) hW (by omega) ?_)))
                  intro IhB226 ehB226 hB226
                  have t227 : IhB226 740 9 = I 740 9 := (congrFun (congrFun ehB226 740) 9).trans (fup_ne (by first | decide | omega))
                  have t228 : IhB226 740 10 = I 740 10 := (congrFun (congrFun ehB226 740) 10).trans (fup_ne (by first | decide | omega))
                  have t229 : IhB226 740 11 = I 740 11 := (congrFun (congrFun ehB226 740) 11).trans (fup_ne (by first | decide | omega))
                  have t230 : IhB226 740 13 = I 740 13 := (congrFun (congrFun ehB226 740) 13).trans (fup_ne (by first | decide | omega))
                  have t231 := fup_at ehB226 14 (by first | rfl | omega)
                  have t232 : IhB226 740 15 = I 740 15 := (congrFun (congrFun ehB226 740) 15).trans (fup_ne (by first | decide | omega))
                  have t233 : IhB226 740 16 = I 740 16 := (congrFun (congrFun ehB226 740) 16).trans (fup_ne (by first | decide | omega))
                  have k234 := fBz_eq hB226 (a := 740) (j := 8) (by decide +kernel)
                  have k235 := fBz_eq hB226 (a := 740) (j := 17) (by decide +kernel)
                  refine Exists.intro xm_314 (And.intro mi_314 (And.intro ⟨rfl, rfl, rfl, rfl⟩ (And.intro rfl ?_)))
                  refine fcall _ h0 (fzs_sub (by decide +kernel) hW) hB226 (ct_M_next_c8003 (fBz h0 hB226) (by omega)) ?_
                  rintro IhB237 _ hB237 fhB237 ⟨rfl, hz236⟩
                  have t238 := fhB237 740 14 (by decide +kernel)
                  have t239 := fhB237 740 15 (by decide +kernel)
                  have t240 := fhB237 740 16 (by decide +kernel)
                  have k241 := fBz_eq hB237 (a := 740) (j := 8) (by decide +kernel)
                  have k242 := fBz_eq hB237 (a := 740) (j := 17) (by decide +kernel)
                  refine Exists.intro gm0 (And.intro ge0 (And.intro ⟨rfl, gk0.1, gk0.2.1, gk0.2.2⟩ (And.intro rfl ?_)))
                  refine fcall _ h0 (fzs_sub (by decide +kernel) hW) hB237 (gc0 (fBz h0 hB237) (by first | exact ⟨ha1.1, ha1.2⟩ | omega) (by omega) (by omega) (by omega) (by omega)) ?_
                  rintro IhB244 _ hB244 fhB244 ⟨z243, rfl, hz243, g0z243, g1z243⟩
                  have k245 := fBz_eq hB244 (a := 740) (j := 8) (by decide +kernel)
                  have k246 := fBz_eq hB244 (a := 740) (j := 17) (by decide +kernel)
                  refine And.intro (by omega) (And.intro ?_ ?_)
                  · intro c247
                    refine And.intro (⟨by decide, by decide⟩) ?_
                    exact ⟨_, rfl, by omega, (par_be0 (fun j => (fFr_S fhB237 (by decide +kernel) j).trans (fup_other ehB226 741 j (Or.inl (by decide)))) g0z243 (by omega) (by omega)), (fun q => absurd q (by omega))⟩
                  · intro c248
                    refine Exists.intro xm_423 (And.intro mi_423 (And.intro ⟨rfl, rfl, rfl, rfl⟩ (And.intro rfl ?_)))
                    refine fcallp hB244 (ct_M_isSign_90da9 (fBz h0 hB244) (by first | exact ⟨by decide, by decide⟩ | omega)) ?_
                    rintro _ ⟨z249, rfl, hz249⟩
                    refine And.intro (by omega) (And.intro ?_ ?_)
                    · intro c250
                      refine And.intro ⟨rfl, by decide, by decide⟩ (fgetf fb_740_14 h0 hB244 ?_)
                      intro z251 lz251 uz251 qz251
                      refine And.intro ⟨rfl, by decide, by decide⟩ (And.intro rfl (And.intro (Or.inl rfl) (fputf fb_740_14 (by decide +kernel) hW (by omega) ?_)))
                      intro IhB252 ehB252 hB252
                      have t253 : IhB252 740 9 = IhB244 740 9 := (congrFun (congrFun ehB252 740) 9).trans (fup_ne (by first | decide | omega))
                      have t254 : IhB252 740 10 = IhB244 740 10 := (congrFun (congrFun ehB252 740) 10).trans (fup_ne (by first | decide | omega))
                      have t255 : IhB252 740 11 = IhB244 740 11 := (congrFun (congrFun ehB252 740) 11).trans (fup_ne (by first | decide | omega))
                      have t256 : IhB252 740 13 = IhB244 740 13 := (congrFun (congrFun ehB252 740) 13).trans (fup_ne (by first | decide | omega))
                      have t257 := fup_at ehB252 14 (by first | rfl | omega)
                      have t258 : IhB252 740 15 = IhB244 740 15 := (congrFun (congrFun ehB252 740) 15).trans (fup_ne (by first | decide | omega))
                      have t259 : IhB252 740 16 = IhB244 740 16 := (congrFun (congrFun ehB252 740) 16).trans (fup_ne (by first | decide | omega))
                      have k260 := fBz_eq hB252 (a := 740) (j := 8) (by decide +kernel)
                      have k261 := fBz_eq hB252 (a := 740) (j := 17) (by decide +kernel)
                      refine Exists.intro xm_314 (And.intro mi_314 (And.intro ⟨rfl, rfl, rfl, rfl⟩ (And.intro rfl ?_)))
                      refine fcall _ h0 (fzs_sub (by decide +kernel) hW) hB252 (ct_M_next_c8003 (fBz h0 hB252) (by omega)) ?_
                      rintro IhB263 _ hB263 fhB263 ⟨rfl, hz262⟩
                      have t264 := fhB263 740 14 (by decide +kernel)
                      have t265 := fhB263 740 15 (by decide +kernel)
                      have t266 := fhB263 740 16 (by decide +kernel)
                      have k267 := fBz_eq hB263 (a := 740) (j := 8) (by decide +kernel)
                      have k268 := fBz_eq hB263 (a := 740) (j := 17) (by decide +kernel)
                      refine And.intro (⟨by decide, by decide⟩) ?_
                      exact ⟨_, rfl, by omega, (par_par (M3 := IhB263 740 16) (by omega) (fun j => (fFr_S fhB237 (by decide +kernel) j).trans (fup_other ehB226 741 j (Or.inl (by decide)))) g0z243 (g1z243 (by omega)) (fun j => (fFr_S fhB263 (by decide +kernel) j).trans (fup_other ehB252 741 j (Or.inl (by decide)))) (by omega) (by omega) (by omega)).1, (fun _ => (par_par (M3 := IhB263 740 16) (by omega) (fun j => (fFr_S fhB237 (by decide +kernel) j).trans (fup_other ehB226 741 j (Or.inl (by decide)))) g0z243 (g1z243 (by omega)) (fun j => (fFr_S fhB263 (by decide +kernel) j).trans (fup_other ehB252 741 j (Or.inl (by decide)))) (by omega) (by omega) (by omega)).2)⟩
                    · intro c269
                      refine And.intro (⟨by decide, by decide⟩) ?_
                      exact ⟨_, rfl, by omega, (par_be0 (fun j => (fFr_S fhB237 (by decide +kernel) j).trans (fup_other ehB226 741 j (Or.inl (by decide)))) g0z243 (by omega) (by omega)), (fun q => absurd q (by omega))⟩
                · intro c270
                  refine And.intro (⟨by decide, by decide⟩) ?_
                  exact ⟨_, rfl, by omega, sBe_refl, (fun q => absurd q (by omega))⟩
            · intro c271
              refine And.intro ⟨rfl, by decide, by decide⟩ (fgetf fb_740_15 h0 hB0 ?_)
              intro z272 lz272 uz272 qz272
              refine And.intro ⟨rfl, by decide, by decide⟩ (And.intro rfl (And.intro (Or.inl rfl) (fputf fb_740_15 (by decide +kernel) hW (by omega) ?_)))
              intro IhB273 ehB273 hB273
              have t274 : IhB273 740 9 = I 740 9 := (congrFun (congrFun ehB273 740) 9).trans (fup_ne (by first | decide | omega))
              have t275 : IhB273 740 10 = I 740 10 := (congrFun (congrFun ehB273 740) 10).trans (fup_ne (by first | decide | omega))
              have t276 : IhB273 740 11 = I 740 11 := (congrFun (congrFun ehB273 740) 11).trans (fup_ne (by first | decide | omega))
              have t277 : IhB273 740 13 = I 740 13 := (congrFun (congrFun ehB273 740) 13).trans (fup_ne (by first | decide | omega))
              have t278 : IhB273 740 14 = I 740 14 := (congrFun (congrFun ehB273 740) 14).trans (fup_ne (by first | decide | omega))
              have t279 := fup_at ehB273 15 (by first | rfl | omega)
              have t280 : IhB273 740 16 = I 740 16 := (congrFun (congrFun ehB273 740) 16).trans (fup_ne (by first | decide | omega))
              have k281 := fBz_eq hB273 (a := 740) (j := 8) (by decide +kernel)
              have k282 := fBz_eq hB273 (a := 740) (j := 17) (by decide +kernel)
              refine Exists.intro xm_314 (And.intro mi_314 (And.intro ⟨rfl, rfl, rfl, rfl⟩ (And.intro rfl ?_)))
              refine fcall _ h0 (fzs_sub (by decide +kernel) hW) hB273 (ct_M_next_c8003 (fBz h0 hB273) (by omega)) ?_
              rintro IhB284 _ hB284 fhB284 ⟨rfl, hz283⟩
              have t285 := fhB284 740 14 (by decide +kernel)
              have t286 := fhB284 740 15 (by decide +kernel)
              have t287 := fhB284 740 16 (by decide +kernel)
              have k288 := fBz_eq hB284 (a := 740) (j := 8) (by decide +kernel)
              have k289 := fBz_eq hB284 (a := 740) (j := 17) (by decide +kernel)
              refine Exists.intro gm1 (And.intro ge1 (And.intro ⟨rfl, gk1.1, gk1.2.1, gk1.2.2⟩ (And.intro rfl ?_)))
              refine fcall _ h0 (fzs_sub (by decide +kernel) hW) hB284 (gc1 (fBz h0 hB284) (by first | exact ⟨ha1.1, ha1.2⟩ | omega) (by omega) (by omega) (by omega) (by omega)) ?_
              rintro IhB291 _ hB291 fhB291 ⟨z290, rfl, hz290, g0z290, g1z290⟩
              have k292 := fBz_eq hB291 (a := 740) (j := 8) (by decide +kernel)
              have k293 := fBz_eq hB291 (a := 740) (j := 17) (by decide +kernel)
              refine And.intro (by omega) (And.intro ?_ ?_)
              · intro c294
                refine And.intro ⟨rfl, by decide, by decide⟩ (fgetf fb_740_15 h0 hB291 ?_)
                intro z295 lz295 uz295 qz295
                refine And.intro ⟨rfl, by decide, by decide⟩ (And.intro rfl (And.intro (Or.inl rfl) (fputf fb_740_15 (by decide +kernel) hW (by omega) ?_)))
                intro IhB296 ehB296 hB296
                have t297 : IhB296 740 9 = IhB291 740 9 := (congrFun (congrFun ehB296 740) 9).trans (fup_ne (by first | decide | omega))
                have t298 : IhB296 740 10 = IhB291 740 10 := (congrFun (congrFun ehB296 740) 10).trans (fup_ne (by first | decide | omega))
                have t299 : IhB296 740 11 = IhB291 740 11 := (congrFun (congrFun ehB296 740) 11).trans (fup_ne (by first | decide | omega))
                have t300 : IhB296 740 13 = IhB291 740 13 := (congrFun (congrFun ehB296 740) 13).trans (fup_ne (by first | decide | omega))
                have t301 : IhB296 740 14 = IhB291 740 14 := (congrFun (congrFun ehB296 740) 14).trans (fup_ne (by first | decide | omega))
                have t302 := fup_at ehB296 15 (by first | rfl | omega)
                have t303 : IhB296 740 16 = IhB291 740 16 := (congrFun (congrFun ehB296 740) 16).trans (fup_ne (by first | decide | omega))
                have k304 := fBz_eq hB296 (a := 740) (j := 8) (by decide +kernel)
                have k305 := fBz_eq hB296 (a := 740) (j := 17) (by decide +kernel)
                refine Exists.intro xm_421 (And.intro mi_421 (And.intro ⟨rfl, rfl, rfl, rfl⟩ (And.intro rfl ?_)))
                refine fcall _ h0 (fzs_sub (by decide +kernel) hW) hB296 (ct_M_step_2c704 (fBz h0 hB296) (by first | exact ⟨by decide, by decide⟩ | omega) (by first | exact ⟨by decide, by decide⟩ | omega) (by omega) (by omega)) ?_
                rintro IhB307 _ hB307 fhB307 ⟨rfl, hz306, g0z306⟩
                have t308 := fhB307 740 9 (by decide +kernel)
                have t309 := fhB307 740 10 (by decide +kernel)
                have t310 := fhB307 740 11 (by decide +kernel)
                have t311 := fhB307 740 13 (by decide +kernel)
                have t312 := fhB307 740 14 (by decide +kernel)
                have t313 := fhB307 740 15 (by decide +kernel)
                have k314 := fBz_eq hB307 (a := 740) (j := 8) (by decide +kernel)
                have k315 := fBz_eq hB307 (a := 740) (j := 17) (by decide +kernel)
                refine And.intro (⟨by decide, by decide⟩) ?_
                exact ⟨_, rfl, by omega, (par_not (M3 := IhB307 740 16) (by omega) (fun j => (fFr_S fhB284 (by decide +kernel) j).trans (fup_other ehB273 741 j (Or.inl (by decide)))) g0z290 (g1z290 (by omega)) (fun j => fup_other ehB296 741 j (Or.inl (by decide))) g0z306 (by omega) (by omega) (by omega) (by omega) (by omega) (by omega)).1, (fun _ => (par_not (M3 := IhB307 740 16) (by omega) (fun j => (fFr_S fhB284 (by decide +kernel) j).trans (fup_other ehB273 741 j (Or.inl (by decide)))) g0z290 (g1z290 (by omega)) (fun j => fup_other ehB296 741 j (Or.inl (by decide))) g0z306 (by omega) (by omega) (by omega) (by omega) (by omega) (by omega)).2)⟩
              · intro c316
                refine And.intro (⟨by decide, by decide⟩) ?_
                exact ⟨_, rfl, by omega, (par_be0 (fun j => (fFr_S fhB284 (by decide +kernel) j).trans (fup_other ehB273 741 j (Or.inl (by decide)))) g0z290 (by omega) (by omega)), (fun q => absurd q (by omega))⟩
        · intro c317
          refine And.intro ⟨rfl, by decide, by decide⟩ (fgetf fb_740_13 h0 hB0 ?_)
          intro z318 lz318 uz318 qz318
          refine Exists.intro xm_422 (And.intro mi_422 (And.intro ⟨rfl, rfl, rfl, rfl⟩ (And.intro True.intro ?_)))
          refine fcallp hB0 (ct_M_isName_49450 (fBz h0 hB0) (by first | exact ⟨ha1.1, ha1.2⟩ | omega) (by first | exact ⟨lz318, uz318⟩ | omega)) ?_
          rintro _ ⟨z319, rfl, hz319⟩
          refine And.intro (by omega) (And.intro ?_ ?_)
          · intro c320
            refine Exists.intro xm_423 (And.intro mi_423 (And.intro ⟨rfl, rfl, rfl, rfl⟩ (And.intro rfl ?_)))
            refine fcallp hB0 (ct_M_isSign_90da9 (fBz h0 hB0) (by first | exact ⟨by decide, by decide⟩ | omega)) ?_
            rintro _ ⟨z321, rfl, hz321⟩
            refine And.intro (by omega) (And.intro ?_ ?_)
            · intro c322
              refine Exists.intro xm_423 (And.intro mi_423 (And.intro ⟨rfl, rfl, rfl, rfl⟩ (And.intro rfl ?_)))
              refine fcallp hB0 (ct_M_isSign_90da9 (fBz h0 hB0) (by first | exact ⟨by decide, by decide⟩ | omega)) ?_
              rintro _ ⟨z323, rfl, hz323⟩
              refine And.intro (by omega) (And.intro ?_ ?_)
              · intro c324
                refine And.intro (⟨by decide, by decide⟩) ?_
                exact ⟨_, rfl, by omega, sBe_refl, (fun q => absurd q (by omega))⟩
              · intro c325
                refine And.intro ⟨rfl, by decide, by decide⟩ (fgetf fb_740_14 h0 hB0 ?_)
                intro z326 lz326 uz326 qz326
                refine And.intro (And.intro (by first | exact fi_ lz326 uz326 rfl | omega) (by first | exact ⟨by decide, by decide⟩ | omega)) (And.intro ?_ ?_)
                · intro c327
                  refine And.intro ⟨rfl, by decide, by decide⟩ (fgetf fb_740_14 h0 hB0 ?_)
                  intro z328 lz328 uz328 qz328
                  refine And.intro ⟨rfl, by decide, by decide⟩ (And.intro rfl (And.intro (Or.inl rfl) (fputf fb_740_14 (by decide +kernel) hW (by omega) ?_)))
                  intro IhB329 ehB329 hB329
                  have t330 : IhB329 740 9 = I 740 9 := (congrFun (congrFun ehB329 740) 9).trans (fup_ne (by first | decide | omega))
                  have t331 : IhB329 740 10 = I 740 10 := (congrFun (congrFun ehB329 740) 10).trans (fup_ne (by first | decide | omega))
                  have t332 : IhB329 740 11 = I 740 11 := (congrFun (congrFun ehB329 740) 11).trans (fup_ne (by first | decide | omega))
                  have t333 : IhB329 740 13 = I 740 13 := (congrFun (congrFun ehB329 740) 13).trans (fup_ne (by first | decide | omega))
                  have t334 := fup_at ehB329 14 (by first | rfl | omega)
                  have t335 : IhB329 740 15 = I 740 15 := (congrFun (congrFun ehB329 740) 15).trans (fup_ne (by first | decide | omega))
                  have t336 : IhB329 740 16 = I 740 16 := (congrFun (congrFun ehB329 740) 16).trans (fup_ne (by first | decide | omega))
                  have k337 := fBz_eq hB329 (a := 740) (j := 8) (by decide +kernel)
                  have k338 := fBz_eq hB329 (a := 740) (j := 17) (by decide +kernel)
                  refine Exists.intro xm_314 (And.intro mi_314 (And.intro ⟨rfl, rfl, rfl, rfl⟩ (And.intro rfl ?_)))
                  refine fcall _ h0 (fzs_sub (by decide +kernel) hW) hB329 (ct_M_next_c8003 (fBz h0 hB329) (by omega)) ?_
                  rintro IhB340 _ hB340 fhB340 ⟨rfl, hz339⟩
                  have t341 := fhB340 740 14 (by decide +kernel)
                  have t342 := fhB340 740 15 (by decide +kernel)
                  have t343 := fhB340 740 16 (by decide +kernel)
                  have k344 := fBz_eq hB340 (a := 740) (j := 8) (by decide +kernel)
                  have k345 := fBz_eq hB340 (a := 740) (j := 17) (by decide +kernel)
                  refine Exists.intro gm0 (And.intro ge0 (And.intro ⟨rfl, gk0.1, gk0.2.1, gk0.2.2⟩ (And.intro rfl ?_)))
                  refine fcall _ h0 (fzs_sub (by decide +kernel) hW) hB340 (gc0 (fBz h0 hB340) (by first | exact ⟨ha1.1, ha1.2⟩ | omega) (by omega) (by omega) (by omega) (by omega)) ?_
                  rintro IhB347 _ hB347 fhB347 ⟨z346, rfl, hz346, g0z346, g1z346⟩
                  have k348 := fBz_eq hB347 (a := 740) (j := 8) (by decide +kernel)
                  have k349 := fBz_eq hB347 (a := 740) (j := 17) (by decide +kernel)
                  refine And.intro (by omega) (And.intro ?_ ?_)
                  · intro c350
                    refine And.intro (⟨by decide, by decide⟩) ?_
                    exact ⟨_, rfl, by omega, (par_be0 (fun j => (fFr_S fhB340 (by decide +kernel) j).trans (fup_other ehB329 741 j (Or.inl (by decide)))) g0z346 (by omega) (by omega)), (fun q => absurd q (by omega))⟩
                  · intro c351
                    refine Exists.intro xm_423 (And.intro mi_423 (And.intro ⟨rfl, rfl, rfl, rfl⟩ (And.intro rfl ?_)))
                    refine fcallp hB347 (ct_M_isSign_90da9 (fBz h0 hB347) (by first | exact ⟨by decide, by decide⟩ | omega)) ?_
                    rintro _ ⟨z352, rfl, hz352⟩
                    refine And.intro (by omega) (And.intro ?_ ?_)
                    · intro c353
                      refine And.intro ⟨rfl, by decide, by decide⟩ (fgetf fb_740_14 h0 hB347 ?_)
                      intro z354 lz354 uz354 qz354
                      refine And.intro ⟨rfl, by decide, by decide⟩ (And.intro rfl (And.intro (Or.inl rfl) (fputf fb_740_14 (by decide +kernel) hW (by omega) ?_)))
                      intro IhB355 ehB355 hB355
                      have t356 : IhB355 740 9 = IhB347 740 9 := (congrFun (congrFun ehB355 740) 9).trans (fup_ne (by first | decide | omega))
                      have t357 : IhB355 740 10 = IhB347 740 10 := (congrFun (congrFun ehB355 740) 10).trans (fup_ne (by first | decide | omega))
                      have t358 : IhB355 740 11 = IhB347 740 11 := (congrFun (congrFun ehB355 740) 11).trans (fup_ne (by first | decide | omega))
                      have t359 : IhB355 740 13 = IhB347 740 13 := (congrFun (congrFun ehB355 740) 13).trans (fup_ne (by first | decide | omega))
                      have t360 := fup_at ehB355 14 (by first | rfl | omega)
                      have t361 : IhB355 740 15 = IhB347 740 15 := (congrFun (congrFun ehB355 740) 15).trans (fup_ne (by first | decide | omega))
                      have t362 : IhB355 740 16 = IhB347 740 16 := (congrFun (congrFun ehB355 740) 16).trans (fup_ne (by first | decide | omega))
                      have k363 := fBz_eq hB355 (a := 740) (j := 8) (by decide +kernel)
                      have k364 := fBz_eq hB355 (a := 740) (j := 17) (by decide +kernel)
                      refine Exists.intro xm_314 (And.intro mi_314 (And.intro ⟨rfl, rfl, rfl, rfl⟩ (And.intro rfl ?_)))
                      refine fcall _ h0 (fzs_sub (by decide +kernel) hW) hB355 (ct_M_next_c8003 (fBz h0 hB355) (by omega)) ?_
                      rintro IhB366 _ hB366 fhB366 ⟨rfl, hz365⟩
                      have t367 := fhB366 740 14 (by decide +kernel)
                      have t368 := fhB366 740 15 (by decide +kernel)
                      have t369 := fhB366 740 16 (by decide +kernel)
                      have k370 := fBz_eq hB366 (a := 740) (j := 8) (by decide +kernel)
                      have k371 := fBz_eq hB366 (a := 740) (j := 17) (by decide +kernel)
                      refine And.intro (⟨by decide, by decide⟩) ?_
                      exact ⟨_, rfl, by omega, (par_par (M3 := IhB366 740 16) (by omega) (fun j => (fFr_S fhB340 (by decide +kernel) j).trans (fup_other ehB329 741 j (Or.inl (by decide)))) g0z346 (g1z346 (by omega)) (fun j => (fFr_S fhB366 (by decide +kernel) j).trans (fup_other ehB355 741 j (Or.inl (by decide)))) (by omega) (by omega) (by omega)).1, (fun _ => (par_par (M3 := IhB366 740 16) (by omega) (fun j => (fFr_S fhB340 (by decide +kernel) j).trans (fup_other ehB329 741 j (Or.inl (by decide)))) g0z346 (g1z346 (by omega)) (fun j => (fFr_S fhB366 (by decide +kernel) j).trans (fup_other ehB355 741 j (Or.inl (by decide)))) (by omega) (by omega) (by omega)).2)⟩
                    · intro c372
                      refine And.intro (⟨by decide, by decide⟩) ?_
                      exact ⟨_, rfl, by omega, (par_be0 (fun j => (fFr_S fhB340 (by decide +kernel) j).trans (fup_other ehB329 741 j (Or.inl (by decide)))) g0z346 (by omega) (by omega)), (fun q => absurd q (by omega))⟩
                · intro c373
                  refine And.intro (⟨by decide, by decide⟩) ?_
                  exact ⟨_, rfl, by omega, sBe_refl, (fun q => absurd q (by omega))⟩
            · intro c374
              refine And.intro ⟨rfl, by decide, by decide⟩ (fgetf fb_740_15 h0 hB0 ?_)
              intro z375 lz375 uz375 qz375
              refine And.intro (And.intro (by first | exact fi_ lz375 uz375 rfl | omega) (by first | exact ⟨by decide, by decide⟩ | omega)) (And.intro ?_ ?_)
              · intro c376
                refine Exists.intro xm_423 (And.intro mi_423 (And.intro ⟨rfl, rfl, rfl, rfl⟩ (And.intro rfl ?_)))
                refine fcallp hB0 (ct_M_isSign_90da9 (fBz h0 hB0) (by first | exact ⟨by decide, by decide⟩ | omega)) ?_
                rintro _ ⟨z377, rfl, hz377⟩
                refine And.intro (by omega) (And.intro ?_ ?_)
                · intro c378
                  refine And.intro (⟨by decide, by decide⟩) ?_
                  exact ⟨_, rfl, by omega, sBe_refl, (fun q => absurd q (by omega))⟩
                · intro c379
                  refine And.intro ⟨rfl, by decide, by decide⟩ (fgetf fb_740_14 h0 hB0 ?_)
                  intro z380 lz380 uz380 qz380
                  refine And.intro (And.intro (by first | exact fi_ lz380 uz380 rfl | omega) (by first | exact ⟨by decide, by decide⟩ | omega)) (And.intro ?_ ?_)
                  · intro c381
                    refine And.intro ⟨rfl, by decide, by decide⟩ (fgetf fb_740_14 h0 hB0 ?_)
                    intro z382 lz382 uz382 qz382
                    refine And.intro ⟨rfl, by decide, by decide⟩ (And.intro rfl (And.intro (Or.inl rfl) (fputf fb_740_14 (by decide +kernel) hW (by omega) ?_)))
                    intro IhB383 ehB383 hB383
                    have t384 : IhB383 740 9 = I 740 9 := (congrFun (congrFun ehB383 740) 9).trans (fup_ne (by first | decide | omega))
                    have t385 : IhB383 740 10 = I 740 10 := (congrFun (congrFun ehB383 740) 10).trans (fup_ne (by first | decide | omega))
                    have t386 : IhB383 740 11 = I 740 11 := (congrFun (congrFun ehB383 740) 11).trans (fup_ne (by first | decide | omega))
                    have t387 : IhB383 740 13 = I 740 13 := (congrFun (congrFun ehB383 740) 13).trans (fup_ne (by first | decide | omega))
                    have t388 := fup_at ehB383 14 (by first | rfl | omega)
                    have t389 : IhB383 740 15 = I 740 15 := (congrFun (congrFun ehB383 740) 15).trans (fup_ne (by first | decide | omega))
                    have t390 : IhB383 740 16 = I 740 16 := (congrFun (congrFun ehB383 740) 16).trans (fup_ne (by first | decide | omega))
                    have k391 := fBz_eq hB383 (a := 740) (j := 8) (by decide +kernel)
                    have k392 := fBz_eq hB383 (a := 740) (j := 17) (by decide +kernel)
                    refine Exists.intro xm_314 (And.intro mi_314 (And.intro ⟨rfl, rfl, rfl, rfl⟩ (And.intro rfl ?_)))
                    refine fcall _ h0 (fzs_sub (by decide +kernel) hW) hB383 (ct_M_next_c8003 (fBz h0 hB383) (by omega)) ?_
                    rintro IhB394 _ hB394 fhB394 ⟨rfl, hz393⟩
                    have t395 := fhB394 740 14 (by decide +kernel)
                    have t396 := fhB394 740 15 (by decide +kernel)
                    have t397 := fhB394 740 16 (by decide +kernel)
                    have k398 := fBz_eq hB394 (a := 740) (j := 8) (by decide +kernel)
                    have k399 := fBz_eq hB394 (a := 740) (j := 17) (by decide +kernel)
                    refine Exists.intro gm0 (And.intro ge0 (And.intro ⟨rfl, gk0.1, gk0.2.1, gk0.2.2⟩ (And.intro rfl ?_)))
                    refine fcall _ h0 (fzs_sub (by decide +kernel) hW) hB394 (gc0 (fBz h0 hB394) (by first | exact ⟨ha1.1, ha1.2⟩ | omega) (by omega) (by omega) (by omega) (by omega)) ?_
                    rintro IhB401 _ hB401 fhB401 ⟨z400, rfl, hz400, g0z400, g1z400⟩
                    have k402 := fBz_eq hB401 (a := 740) (j := 8) (by decide +kernel)
                    have k403 := fBz_eq hB401 (a := 740) (j := 17) (by decide +kernel)
                    refine And.intro (by omega) (And.intro ?_ ?_)
                    · intro c404
                      refine And.intro (⟨by decide, by decide⟩) ?_
                      exact ⟨_, rfl, by omega, (par_be0 (fun j => (fFr_S fhB394 (by decide +kernel) j).trans (fup_other ehB383 741 j (Or.inl (by decide)))) g0z400 (by omega) (by omega)), (fun q => absurd q (by omega))⟩
                    · intro c405
                      refine Exists.intro xm_423 (And.intro mi_423 (And.intro ⟨rfl, rfl, rfl, rfl⟩ (And.intro rfl ?_)))
                      refine fcallp hB401 (ct_M_isSign_90da9 (fBz h0 hB401) (by first | exact ⟨by decide, by decide⟩ | omega)) ?_
                      rintro _ ⟨z406, rfl, hz406⟩
                      refine And.intro (by omega) (And.intro ?_ ?_)
                      · intro c407
                        refine And.intro ⟨rfl, by decide, by decide⟩ (fgetf fb_740_14 h0 hB401 ?_)
                        intro z408 lz408 uz408 qz408
                        refine And.intro ⟨rfl, by decide, by decide⟩ (And.intro rfl (And.intro (Or.inl rfl) (fputf fb_740_14 (by decide +kernel) hW (by omega) ?_)))
                        intro IhB409 ehB409 hB409
                        have t410 : IhB409 740 9 = IhB401 740 9 := (congrFun (congrFun ehB409 740) 9).trans (fup_ne (by first | decide | omega))
                        have t411 : IhB409 740 10 = IhB401 740 10 := (congrFun (congrFun ehB409 740) 10).trans (fup_ne (by first | decide | omega))
                        have t412 : IhB409 740 11 = IhB401 740 11 := (congrFun (congrFun ehB409 740) 11).trans (fup_ne (by first | decide | omega))
                        have t413 : IhB409 740 13 = IhB401 740 13 := (congrFun (congrFun ehB409 740) 13).trans (fup_ne (by first | decide | omega))
                        have t414 := fup_at ehB409 14 (by first | rfl | omega)
                        have t415 : IhB409 740 15 = IhB401 740 15 := (congrFun (congrFun ehB409 740) 15).trans (fup_ne (by first | decide | omega))
                        have t416 : IhB409 740 16 = IhB401 740 16 := (congrFun (congrFun ehB409 740) 16).trans (fup_ne (by first | decide | omega))
                        have k417 := fBz_eq hB409 (a := 740) (j := 8) (by decide +kernel)
                        have k418 := fBz_eq hB409 (a := 740) (j := 17) (by decide +kernel)
                        refine Exists.intro xm_314 (And.intro mi_314 (And.intro ⟨rfl, rfl, rfl, rfl⟩ (And.intro rfl ?_)))
                        refine fcall _ h0 (fzs_sub (by decide +kernel) hW) hB409 (ct_M_next_c8003 (fBz h0 hB409) (by omega)) ?_
                        rintro IhB420 _ hB420 fhB420 ⟨rfl, hz419⟩
                        have t421 := fhB420 740 14 (by decide +kernel)
                        have t422 := fhB420 740 15 (by decide +kernel)
                        have t423 := fhB420 740 16 (by decide +kernel)
                        have k424 := fBz_eq hB420 (a := 740) (j := 8) (by decide +kernel)
                        have k425 := fBz_eq hB420 (a := 740) (j := 17) (by decide +kernel)
                        refine And.intro (⟨by decide, by decide⟩) ?_
                        exact ⟨_, rfl, by omega, (par_par (M3 := IhB420 740 16) (by omega) (fun j => (fFr_S fhB394 (by decide +kernel) j).trans (fup_other ehB383 741 j (Or.inl (by decide)))) g0z400 (g1z400 (by omega)) (fun j => (fFr_S fhB420 (by decide +kernel) j).trans (fup_other ehB409 741 j (Or.inl (by decide)))) (by omega) (by omega) (by omega)).1, (fun _ => (par_par (M3 := IhB420 740 16) (by omega) (fun j => (fFr_S fhB394 (by decide +kernel) j).trans (fup_other ehB383 741 j (Or.inl (by decide)))) g0z400 (g1z400 (by omega)) (fun j => (fFr_S fhB420 (by decide +kernel) j).trans (fup_other ehB409 741 j (Or.inl (by decide)))) (by omega) (by omega) (by omega)).2)⟩
                      · intro c426
                        refine And.intro (⟨by decide, by decide⟩) ?_
                        exact ⟨_, rfl, by omega, (par_be0 (fun j => (fFr_S fhB394 (by decide +kernel) j).trans (fup_other ehB383 741 j (Or.inl (by decide)))) g0z400 (by omega) (by omega)), (fun q => absurd q (by omega))⟩
                  · intro c427
                    refine And.intro (⟨by decide, by decide⟩) ?_
                    exact ⟨_, rfl, by omega, sBe_refl, (fun q => absurd q (by omega))⟩
              · intro c428
                refine And.intro ⟨rfl, by decide, by decide⟩ (fgetf fb_740_15 h0 hB0 ?_)
                intro z429 lz429 uz429 qz429
                refine And.intro ⟨rfl, by decide, by decide⟩ (And.intro rfl (And.intro (Or.inl rfl) (fputf fb_740_15 (by decide +kernel) hW (by omega) ?_)))
                intro IhB430 ehB430 hB430
                have t431 : IhB430 740 9 = I 740 9 := (congrFun (congrFun ehB430 740) 9).trans (fup_ne (by first | decide | omega))
                have t432 : IhB430 740 10 = I 740 10 := (congrFun (congrFun ehB430 740) 10).trans (fup_ne (by first | decide | omega))
                have t433 : IhB430 740 11 = I 740 11 := (congrFun (congrFun ehB430 740) 11).trans (fup_ne (by first | decide | omega))
                have t434 : IhB430 740 13 = I 740 13 := (congrFun (congrFun ehB430 740) 13).trans (fup_ne (by first | decide | omega))
                have t435 : IhB430 740 14 = I 740 14 := (congrFun (congrFun ehB430 740) 14).trans (fup_ne (by first | decide | omega))
                have t436 := fup_at ehB430 15 (by first | rfl | omega)
                have t437 : IhB430 740 16 = I 740 16 := (congrFun (congrFun ehB430 740) 16).trans (fup_ne (by first | decide | omega))
                have k438 := fBz_eq hB430 (a := 740) (j := 8) (by decide +kernel)
                have k439 := fBz_eq hB430 (a := 740) (j := 17) (by decide +kernel)
                refine Exists.intro xm_314 (And.intro mi_314 (And.intro ⟨rfl, rfl, rfl, rfl⟩ (And.intro rfl ?_)))
                refine fcall _ h0 (fzs_sub (by decide +kernel) hW) hB430 (ct_M_next_c8003 (fBz h0 hB430) (by omega)) ?_
                rintro IhB441 _ hB441 fhB441 ⟨rfl, hz440⟩
                have t442 := fhB441 740 14 (by decide +kernel)
                have t443 := fhB441 740 15 (by decide +kernel)
                have t444 := fhB441 740 16 (by decide +kernel)
                have k445 := fBz_eq hB441 (a := 740) (j := 8) (by decide +kernel)
                have k446 := fBz_eq hB441 (a := 740) (j := 17) (by decide +kernel)
                refine Exists.intro gm1 (And.intro ge1 (And.intro ⟨rfl, gk1.1, gk1.2.1, gk1.2.2⟩ (And.intro rfl ?_)))
                refine fcall _ h0 (fzs_sub (by decide +kernel) hW) hB441 (gc1 (fBz h0 hB441) (by first | exact ⟨ha1.1, ha1.2⟩ | omega) (by omega) (by omega) (by omega) (by omega)) ?_
                rintro IhB448 _ hB448 fhB448 ⟨z447, rfl, hz447, g0z447, g1z447⟩
                have k449 := fBz_eq hB448 (a := 740) (j := 8) (by decide +kernel)
                have k450 := fBz_eq hB448 (a := 740) (j := 17) (by decide +kernel)
                refine And.intro (by omega) (And.intro ?_ ?_)
                · intro c451
                  refine And.intro ⟨rfl, by decide, by decide⟩ (fgetf fb_740_15 h0 hB448 ?_)
                  intro z452 lz452 uz452 qz452
                  refine And.intro ⟨rfl, by decide, by decide⟩ (And.intro rfl (And.intro (Or.inl rfl) (fputf fb_740_15 (by decide +kernel) hW (by omega) ?_)))
                  intro IhB453 ehB453 hB453
                  have t454 : IhB453 740 9 = IhB448 740 9 := (congrFun (congrFun ehB453 740) 9).trans (fup_ne (by first | decide | omega))
                  have t455 : IhB453 740 10 = IhB448 740 10 := (congrFun (congrFun ehB453 740) 10).trans (fup_ne (by first | decide | omega))
                  have t456 : IhB453 740 11 = IhB448 740 11 := (congrFun (congrFun ehB453 740) 11).trans (fup_ne (by first | decide | omega))
                  have t457 : IhB453 740 13 = IhB448 740 13 := (congrFun (congrFun ehB453 740) 13).trans (fup_ne (by first | decide | omega))
                  have t458 : IhB453 740 14 = IhB448 740 14 := (congrFun (congrFun ehB453 740) 14).trans (fup_ne (by first | decide | omega))
                  have t459 := fup_at ehB453 15 (by first | rfl | omega)
                  have t460 : IhB453 740 16 = IhB448 740 16 := (congrFun (congrFun ehB453 740) 16).trans (fup_ne (by first | decide | omega))
                  have k461 := fBz_eq hB453 (a := 740) (j := 8) (by decide +kernel)
                  have k462 := fBz_eq hB453 (a := 740) (j := 17) (by decide +kernel)
                  refine Exists.intro xm_421 (And.intro mi_421 (And.intro ⟨rfl, rfl, rfl, rfl⟩ (And.intro rfl ?_)))
                  refine fcall _ h0 (fzs_sub (by decide +kernel) hW) hB453 (ct_M_step_2c704 (fBz h0 hB453) (by first | exact ⟨by decide, by decide⟩ | omega) (by first | exact ⟨by decide, by decide⟩ | omega) (by omega) (by omega)) ?_
                  rintro IhB464 _ hB464 fhB464 ⟨rfl, hz463, g0z463⟩
                  have t465 := fhB464 740 9 (by decide +kernel)
                  have t466 := fhB464 740 10 (by decide +kernel)
                  have t467 := fhB464 740 11 (by decide +kernel)
                  have t468 := fhB464 740 13 (by decide +kernel)
                  have t469 := fhB464 740 14 (by decide +kernel)
                  have t470 := fhB464 740 15 (by decide +kernel)
                  have k471 := fBz_eq hB464 (a := 740) (j := 8) (by decide +kernel)
                  have k472 := fBz_eq hB464 (a := 740) (j := 17) (by decide +kernel)
                  refine And.intro (⟨by decide, by decide⟩) ?_
                  exact ⟨_, rfl, by omega, (par_not (M3 := IhB464 740 16) (by omega) (fun j => (fFr_S fhB441 (by decide +kernel) j).trans (fup_other ehB430 741 j (Or.inl (by decide)))) g0z447 (g1z447 (by omega)) (fun j => fup_other ehB453 741 j (Or.inl (by decide))) g0z463 (by omega) (by omega) (by omega) (by omega) (by omega) (by omega)).1, (fun _ => (par_not (M3 := IhB464 740 16) (by omega) (fun j => (fFr_S fhB441 (by decide +kernel) j).trans (fup_other ehB430 741 j (Or.inl (by decide)))) g0z447 (g1z447 (by omega)) (fun j => fup_other ehB453 741 j (Or.inl (by decide))) g0z463 (by omega) (by omega) (by omega) (by omega) (by omega) (by omega)).2)⟩
                · intro c473
                  refine And.intro (⟨by decide, by decide⟩) ?_
                  exact ⟨_, rfl, by omega, (par_be0 (fun j => (fFr_S fhB441 (by decide +kernel) j).trans (fup_other ehB430 741 j (Or.inl (by decide)))) g0z447 (by omega) (by omega)), (fun q => absurd q (by omega))⟩
          · intro c474
            refine And.intro ⟨rfl, by decide, by decide⟩ (fgetf fb_740_13 h0 hB0 ?_)
            intro z475 lz475 uz475 qz475
            refine Exists.intro xm_421 (And.intro mi_421 (And.intro ⟨rfl, rfl, rfl, rfl⟩ (And.intro rfl ?_)))
            refine fcall _ h0 (fzs_sub (by decide +kernel) hW) hB0 (ct_M_step_2c704 (fBz h0 hB0) (by first | exact ⟨by decide, by decide⟩ | omega) (by first | exact ⟨lz475, uz475⟩ | omega) (by omega) (by omega)) ?_
            rintro IhB477 _ hB477 fhB477 ⟨rfl, hz476, g0z476⟩
            have t478 := fhB477 740 9 (by decide +kernel)
            have t479 := fhB477 740 10 (by decide +kernel)
            have t480 := fhB477 740 11 (by decide +kernel)
            have t481 := fhB477 740 13 (by decide +kernel)
            have t482 := fhB477 740 14 (by decide +kernel)
            have t483 := fhB477 740 15 (by decide +kernel)
            have k484 := fBz_eq hB477 (a := 740) (j := 8) (by decide +kernel)
            have k485 := fBz_eq hB477 (a := 740) (j := 17) (by decide +kernel)
            refine And.intro ⟨rfl, by decide, by decide⟩ (fgetf fb_740_18 h0 hB477 ?_)
            intro z486 lz486 uz486 qz486
            intro z487 hz487 ez487 bz487
            clear ez487
            try replace bz487 := bz487 (by omega)
            refine And.intro ⟨rfl, by decide, by decide⟩ (And.intro rfl (And.intro (Or.inl rfl) (fputf fb_740_18 (by decide +kernel) hW (by omega) ?_)))
            intro IhB488 ehB488 hB488
            have t489 : IhB488 740 9 = IhB477 740 9 := (congrFun (congrFun ehB488 740) 9).trans (fup_ne (by first | decide | omega))
            have t490 : IhB488 740 10 = IhB477 740 10 := (congrFun (congrFun ehB488 740) 10).trans (fup_ne (by first | decide | omega))
            have t491 : IhB488 740 11 = IhB477 740 11 := (congrFun (congrFun ehB488 740) 11).trans (fup_ne (by first | decide | omega))
            have t492 : IhB488 740 13 = IhB477 740 13 := (congrFun (congrFun ehB488 740) 13).trans (fup_ne (by first | decide | omega))
            have t493 : IhB488 740 14 = IhB477 740 14 := (congrFun (congrFun ehB488 740) 14).trans (fup_ne (by first | decide | omega))
            have t494 : IhB488 740 15 = IhB477 740 15 := (congrFun (congrFun ehB488 740) 15).trans (fup_ne (by first | decide | omega))
            have t495 : IhB488 740 16 = IhB477 740 16 := (congrFun (congrFun ehB488 740) 16).trans (fup_ne (by first | decide | omega))
            have t496 := fup_at ehB488 18 (by first | rfl | omega)
            have k497 := fBz_eq hB488 (a := 740) (j := 8) (by decide +kernel)
            have k498 := fBz_eq hB488 (a := 740) (j := 17) (by decide +kernel)
            refine Exists.intro xm_314 (And.intro mi_314 (And.intro ⟨rfl, rfl, rfl, rfl⟩ (And.intro rfl ?_)))
            refine fcall _ h0 (fzs_sub (by decide +kernel) hW) hB488 (ct_M_next_c8003 (fBz h0 hB488) (by omega)) ?_
            rintro IhB500 _ hB500 fhB500 ⟨rfl, hz499⟩
            have t501 := fhB500 740 14 (by decide +kernel)
            have t502 := fhB500 740 15 (by decide +kernel)
            have t503 := fhB500 740 16 (by decide +kernel)
            have t504 := fhB500 740 18 (by decide +kernel)
            have k505 := fBz_eq hB500 (a := 740) (j := 8) (by decide +kernel)
            have k506 := fBz_eq hB500 (a := 740) (j := 17) (by decide +kernel)
            refine And.intro (⟨by decide, by decide⟩) ?_
            exact ⟨_, rfl, by omega, (par_leaf (M := IhB500 740 16) (by omega) (by omega) g0z476 (fun j => (fFr_S fhB500 (by decide +kernel) j).trans (fup_other ehB488 741 j (Or.inl (by decide)))) (by omega) (by omega)).1, (fun _ => (par_leaf (M := IhB500 740 16) (by omega) (by omega) g0z476 (fun j => (fFr_S fhB500 (by decide +kernel) j).trans (fup_other ehB488 741 j (Or.inl (by decide)))) (by omega) (by omega)).2)⟩
    · intro c507
      refine And.intro ⟨rfl, by decide, by decide⟩ (fgetf fb_740_12 h0 hB0 ?_)
      intro z508 lz508 uz508 qz508
      refine Exists.intro xm_421 (And.intro mi_421 (And.intro ⟨rfl, rfl, rfl, rfl⟩ (And.intro rfl ?_)))
      refine fcall _ h0 (fzs_sub (by decide +kernel) hW) hB0 (ct_M_step_2c704 (fBz h0 hB0) (by first | exact ⟨by decide, by decide⟩ | omega) (by first | exact ⟨lz508, uz508⟩ | omega) (by omega) (by omega)) ?_
      rintro IhB510 _ hB510 fhB510 ⟨rfl, hz509, g0z509⟩
      have t511 := fhB510 740 9 (by decide +kernel)
      have t512 := fhB510 740 10 (by decide +kernel)
      have t513 := fhB510 740 11 (by decide +kernel)
      have t514 := fhB510 740 12 (by decide +kernel)
      have t515 := fhB510 740 13 (by decide +kernel)
      have t516 := fhB510 740 14 (by decide +kernel)
      have t517 := fhB510 740 15 (by decide +kernel)
      have k518 := fBz_eq hB510 (a := 740) (j := 8) (by decide +kernel)
      have k519 := fBz_eq hB510 (a := 740) (j := 17) (by decide +kernel)
      refine And.intro ⟨rfl, by decide, by decide⟩ (fgetf fb_740_18 h0 hB510 ?_)
      intro z520 lz520 uz520 qz520
      intro z521 hz521 ez521 bz521
      clear ez521
      try replace bz521 := bz521 (by omega)
      refine And.intro ⟨rfl, by decide, by decide⟩ (And.intro rfl (And.intro (Or.inl rfl) (fputf fb_740_18 (by decide +kernel) hW (by omega) ?_)))
      intro IhB522 ehB522 hB522
      have t523 : IhB522 740 9 = IhB510 740 9 := (congrFun (congrFun ehB522 740) 9).trans (fup_ne (by first | decide | omega))
      have t524 : IhB522 740 10 = IhB510 740 10 := (congrFun (congrFun ehB522 740) 10).trans (fup_ne (by first | decide | omega))
      have t525 : IhB522 740 11 = IhB510 740 11 := (congrFun (congrFun ehB522 740) 11).trans (fup_ne (by first | decide | omega))
      have t526 : IhB522 740 12 = IhB510 740 12 := (congrFun (congrFun ehB522 740) 12).trans (fup_ne (by first | decide | omega))
      have t527 : IhB522 740 13 = IhB510 740 13 := (congrFun (congrFun ehB522 740) 13).trans (fup_ne (by first | decide | omega))
      have t528 : IhB522 740 14 = IhB510 740 14 := (congrFun (congrFun ehB522 740) 14).trans (fup_ne (by first | decide | omega))
      have t529 : IhB522 740 15 = IhB510 740 15 := (congrFun (congrFun ehB522 740) 15).trans (fup_ne (by first | decide | omega))
      have t530 : IhB522 740 16 = IhB510 740 16 := (congrFun (congrFun ehB522 740) 16).trans (fup_ne (by first | decide | omega))
      have t531 := fup_at ehB522 18 (by first | rfl | omega)
      have k532 := fBz_eq hB522 (a := 740) (j := 8) (by decide +kernel)
      have k533 := fBz_eq hB522 (a := 740) (j := 17) (by decide +kernel)
      refine Exists.intro xm_314 (And.intro mi_314 (And.intro ⟨rfl, rfl, rfl, rfl⟩ (And.intro rfl ?_)))
      refine fcall _ h0 (fzs_sub (by decide +kernel) hW) hB522 (ct_M_next_c8003 (fBz h0 hB522) (by omega)) ?_
      rintro IhB535 _ hB535 fhB535 ⟨rfl, hz534⟩
      have t536 := fhB535 740 14 (by decide +kernel)
      have t537 := fhB535 740 15 (by decide +kernel)
      have t538 := fhB535 740 16 (by decide +kernel)
      have t539 := fhB535 740 18 (by decide +kernel)
      have k540 := fBz_eq hB535 (a := 740) (j := 8) (by decide +kernel)
      have k541 := fBz_eq hB535 (a := 740) (j := 17) (by decide +kernel)
      refine And.intro (⟨by decide, by decide⟩) ?_
      exact ⟨_, rfl, by omega, (par_leaf (M := IhB535 740 16) (by omega) (by omega) g0z509 (fun j => (fFr_S fhB535 (by decide +kernel) j).trans (fup_other ehB522 741 j (Or.inl (by decide)))) (by omega) (by omega)).1, (fun _ => (par_leaf (M := IhB535 740 16) (by omega) (by omega) g0z509 (fun j => (fFr_S fhB535 (by decide +kernel) j).trans (fup_other ehB522 741 j (Or.inl (by decide)))) (by omega) (by omega)).2)⟩
theorem ct_M_part0_18b69 {I : fH} {x1 : Int} (h0 : fB bsJ I) (ha1 : ((-1) ≤ x1 ∧ x1 ≤ 5)) (hp0 : I 740 9 ≤ I 740 10 ∧ I 740 10 ≤ I 740 8 ∧ (I 740 11 = 0 ∨ I 740 9 < I 740 10)) (hp1 : 0 ≤ I 740 16 ∧ I 740 16 ≤ I 740 9) (hp2 : 15 ≤ I 740 14 + I 740 15) (hp3 : (1215 ≤ I 740 17 ∧ I 740 17 ≤ 3415 ∧ (I 740 17 - 1215) % 200 = 0) ∨ I 740 17 = 4700) : fC ρ base n F xTc vwCl xTys D dA la gJ (fbz bsJ znJ (fKc wz_2212a) I) xm_405 [.inr (.inr (some 740)), .inl x1] I (fun I' r => ∃ z, r = some (.inl z) ∧ ((0 ≤ z ∧ z ≤ 1) ∧ (I 740 9 ≤ I' 740 9 ∧ I' 740 9 ≤ I' 740 10 ∧ I' 740 10 ≤ I' 740 8 ∧ (I' 740 11 = 0 ∨ I' 740 9 < I' 740 10) ∧ (z = 1 → I 740 16 ≤ I' 740 16 ∧ I' 740 16 - I 740 16 ≤ I' 740 9 - I 740 9 ∧ I' 740 14 = I 740 14 ∧ I' 740 15 = I 740 15))) ∧ (sBe I I' (I 740 17) (I 740 16)) ∧ (z = 1 → sOne I' (I 740 17) (I 740 16) (I' 740 16))) := cg_M_part0 (d := 15) mi_319 ⟨rfl, rfl, rfl⟩ (fun h0 ha1 hp0 hp1 hp2 hp3 => ct_M_either_f12bf h0 ha1 hp0 hp1 (by omega) hp3) mi_404 ⟨rfl, rfl, rfl⟩ (fun h0 ha1 hp0 hp1 hp2 hp3 => ct_M_part0_cc4b8 h0 ha1 hp0 hp1 (by omega) hp3) xin_405 x6_405 h0 ha1 hp0 hp1 hp2 hp3
abbrev jc_M_term_50689_10 (I0 : fH) : Nat → fL → List fV → fH → Prop := fun m lv st I => ∃ (y1 : Int), lv = [(0, .inr (.inr (some 740))), (1, .inl y1)] ∧ st = [] ∧ ((((-1) ≤ y1 ∧ y1 ≤ 5) ∧ (I0 740 9 ≤ I 740 9) ∧ (I 740 9 ≤ I 740 10) ∧ (I 740 10 ≤ I 740 8) ∧ (I 740 11 = 0 ∨ I 740 9 < I 740 10) ∧ (I0 740 16 ≤ I 740 16) ∧ (I 740 16 - I0 740 16 ≤ I 740 9 - I0 740 9) ∧ (I 740 14 = I0 740 14) ∧ (I 740 15 = I0 740 15)) ∧ (sBe I0 I (I0 740 17) (I0 740 16)) ∧ (sOne I (I0 740 17) (I0 740 16) (I 740 16))) ∧ m = (1 + 1 * (96 - I 740 9) : Int).toNat
noncomputable abbrev gM_term (gn0 : Nat) (rm : Room) : xM := (⟨"AcidCityModel", "term", "(I)Z"⟩, prog_14_method_83_code, 3, (some .boolean), [(0, 3, 0, 1, []), (1, 3, 1, 0, []), (2, 33, 2, gn0, [13, 1, 17641, 0, 17643, 6158, 17644, 9230]), (5, 20, 1, 10, []), (8, 0, 0, 0, []), (9, 35, 3, 0, []), (10, 3, 0, 1, []), (11, 0, 42, 0, []), (13, 33, 2, 423, [13, 1, 18436, 0, 18438, 7168, 18439, 9230]), (16, 20, 1, 28, []), (19, 3, 0, 1, []), (20, 0, 47, 0, []), (22, 33, 2, 423, [13, 1, 18436, 0, 18438, 7168, 18439, 9230]), (25, 20, 0, 56, []), (28, 3, 0, 1, []), (29, 25, 12, 13, [15589]), (32, 4, 2, 0, []), (33, 3, 0, 1, []), (34, 33, 1, 314, [13, 1, 17597, 0, 17599, 6148, 17600, 9230]), (37, 3, 0, 1, []), (38, 3, 1, 0, []), (39, 33, 2, gn0, [13, 1, 17641, 0, 17643, 6158, 17644, 9230]), (42, 20, 1, 47, []), (45, 0, 0, 0, []), (46, 35, 3, 0, []), (47, 3, 0, 1, []), (48, 0, 2, 0, []), (49, 3, 2, 0, []), (50, 33, 3, 421, [13, 1, 17645, 0, 17647, 6159, 18432, 9230]), (53, 22, 0, 10, []), (56, 0, 1, 0, []), (57, 35, 3, 0, [])], rm)
set_option maxRecDepth 8000 in
theorem cg_M_term {d : Int} {rm : Room} {gm0 : xM} {gn0 : Nat} (ge0 : xMs[gn0]? = some gm0) (gk0 : Nat.ble 2 gm0.2.2.1 = true ∧ (xR gm0).cells = 0 ∧ (xR gm0).slots = 0) (gc0 : ∀ {I : fH} {x1 : Int} (h0 : fB bsJ I) (ha1 : ((-1) ≤ x1 ∧ x1 ≤ 5)) (hp0 : I 740 9 ≤ I 740 10 ∧ I 740 10 ≤ I 740 8 ∧ (I 740 11 = 0 ∨ I 740 9 < I 740 10)) (hp1 : 0 ≤ I 740 16 ∧ I 740 16 ≤ I 740 9) (hp2 : d ≤ I 740 14 + I 740 15) (hp3 : (1215 ≤ I 740 17 ∧ I 740 17 ≤ 3415 ∧ (I 740 17 - 1215) % 200 = 0) ∨ I 740 17 = 4700), fC ρ base n F xTc vwCl xTys D dA la gJ (fbz bsJ znJ (fKc wz_2212a) I) gm0 [.inr (.inr (some 740)), .inl x1] I (fun I' r => ∃ z, r = some (.inl z) ∧ ((0 ≤ z ∧ z ≤ 1) ∧ (I 740 9 ≤ I' 740 9 ∧ I' 740 9 ≤ I' 740 10 ∧ I' 740 10 ≤ I' 740 8 ∧ (I' 740 11 = 0 ∨ I' 740 9 < I' 740 10) ∧ (z = 1 → I 740 16 ≤ I' 740 16 ∧ I' 740 16 - I 740 16 ≤ I' 740 9 - I 740 9 ∧ I' 740 14 = I 740 14 ∧ I' 740 15 = I 740 15))) ∧ (sBe I I' (I 740 17) (I 740 16)) ∧ (z = 1 → sOne I' (I 740 17) (I 740 16) (I' 740 16)))) (hin : (gM_term gn0 rm) ∈ xMs) (hx6 : f60c xTc xTys (gM_term gn0 rm) = true) {I : fH} {x1 : Int} (h0 : fB bsJ I) (ha1 : ((-1) ≤ x1 ∧ x1 ≤ 5)) (hp0 : I 740 9 ≤ I 740 10 ∧ I 740 10 ≤ I 740 8 ∧ (I 740 11 = 0 ∨ I 740 9 < I 740 10)) (hp1 : 0 ≤ I 740 16 ∧ I 740 16 ≤ I 740 9) (hp2 : d ≤ I 740 14 + I 740 15) (hp3 : (1215 ≤ I 740 17 ∧ I 740 17 ≤ 3415 ∧ (I 740 17 - 1215) % 200 = 0) ∨ I 740 17 = 4700) : fC ρ base n F xTc vwCl xTys D dA la gJ (fbz bsJ znJ (fKc wz_2212a) I) (gM_term gn0 rm) [.inr (.inr (some 740)), .inl x1] I (fun I' r => ∃ z, r = some (.inl z) ∧ ((0 ≤ z ∧ z ≤ 1) ∧ (I 740 9 ≤ I' 740 9 ∧ I' 740 9 ≤ I' 740 10 ∧ I' 740 10 ≤ I' 740 8 ∧ (I' 740 11 = 0 ∨ I' 740 9 < I' 740 10) ∧ (z = 1 → I 740 16 ≤ I' 740 16 ∧ I' 740 16 - I 740 16 ≤ I' 740 9 - I 740 9 ∧ I' 740 14 = I 740 14 ∧ I' 740 15 = I 740 15))) ∧ (sBe I I' (I 740 17) (I 740 16)) ∧ (z = 1 → sOne I' (I 740 17) (I 740 16) (I' 740 16))) := by
  have hW : fzs wz_2212a (fKc wz_2212a) := fKc_ok _
  refine f_meth (rb := rbJ) (J := [(10, (jc_M_term_50689_10 I))]) 98 400 xG hin hx6 okJ (fB_self h0) ?_ ?_
  · refine List.forall_mem_cons.mpr ⟨?_, fun q h => absurd h List.not_mem_nil⟩
    · rintro m _ _ I1 hB1 ⟨y1, rfl, rfl, ⟨hb, hx0, hx1⟩, hm⟩
      have k1 := fBz_eq hB1 (a := 740) (j := 8) (by decide +kernel)
      have k2 := fBz_eq hB1 (a := 740) (j := 17) (by decide +kernel)
      have b3 := fBd fb_740_8 (fBz h0 hB1)
      have b4 := fBd fb_740_14 (fBz h0 hB1)
      have b5 := fBd fb_740_15 (fBz h0 hB1)
      refine Exists.intro xm_423 (And.intro mi_423 (And.intro ⟨rfl, rfl, rfl, rfl⟩ (And.intro rfl ?_)))
      refine fcallp hB1 (ct_M_isSign_90da9 (fBz h0 hB1) (by first | exact ⟨by decide, by decide⟩ | omega)) ?_
      rintro _ ⟨z6, rfl, hz6⟩
      refine And.intro (by omega) (And.intro ?_ ?_)
      · intro c7
        refine And.intro ⟨rfl, by decide, by decide⟩ (fgetf fb_740_13 h0 hB1 ?_)
        intro z8 lz8 uz8 qz8
        refine Exists.intro xm_314 (And.intro mi_314 (And.intro ⟨rfl, rfl, rfl, rfl⟩ (And.intro rfl ?_)))
        refine fcall _ h0 (fzs_sub (by decide +kernel) hW) hB1 (ct_M_next_c8003 (fBz h0 hB1) (by omega)) ?_
        rintro IhB10 _ hB10 fhB10 ⟨rfl, hz9⟩
        have t11 := fhB10 740 14 (by decide +kernel)
        have t12 := fhB10 740 15 (by decide +kernel)
        have t13 := fhB10 740 16 (by decide +kernel)
        have k14 := fBz_eq hB10 (a := 740) (j := 8) (by decide +kernel)
        have k15 := fBz_eq hB10 (a := 740) (j := 17) (by decide +kernel)
        refine Exists.intro gm0 (And.intro ge0 (And.intro ⟨rfl, gk0.1, gk0.2.1, gk0.2.2⟩ (And.intro rfl ?_)))
        refine fcall _ h0 (fzs_sub (by decide +kernel) hW) hB10 (gc0 (fBz h0 hB10) (by first | exact ⟨hb.1.1, hb.1.2⟩ | omega) (by omega) (by omega) (by omega) (by omega)) ?_
        rintro IhB17 _ hB17 fhB17 ⟨z16, rfl, hz16, g0z16, g1z16⟩
        have k18 := fBz_eq hB17 (a := 740) (j := 8) (by decide +kernel)
        have k19 := fBz_eq hB17 (a := 740) (j := 17) (by decide +kernel)
        refine And.intro (by omega) (And.intro ?_ ?_)
        · intro c20
          refine Exists.intro xm_421 (And.intro mi_421 (And.intro ⟨rfl, rfl, rfl, rfl⟩ (And.intro rfl ?_)))
          refine fcall _ h0 (fzs_sub (by decide +kernel) hW) hB17 (ct_M_step_2c704 (fBz h0 hB17) (by first | exact ⟨by decide, by decide⟩ | omega) (by first | exact ⟨lz8, uz8⟩ | omega) (by omega) (by omega)) ?_
          rintro IhB22 _ hB22 fhB22 ⟨rfl, hz21, g0z21⟩
          have t23 := fhB22 740 9 (by decide +kernel)
          have t24 := fhB22 740 10 (by decide +kernel)
          have t25 := fhB22 740 11 (by decide +kernel)
          have t26 := fhB22 740 13 (by decide +kernel)
          have t27 := fhB22 740 14 (by decide +kernel)
          have t28 := fhB22 740 15 (by decide +kernel)
          have k29 := fBz_eq hB22 (a := 740) (j := 8) (by decide +kernel)
          have k30 := fBz_eq hB22 (a := 740) (j := 17) (by decide +kernel)
          exact fcutJ (I := IhB22) (j := (jc_M_term_50689_10 I)) (lv' := [(0, .inr (.inr (some 740))), (1, .inl _)]) (And.intro rfl (And.intro rfl True.intro)) ⟨_, rfl, rfl, ⟨by omega, (par_be hx0 (fFr_S fhB10 (by decide +kernel)) g0z16 g0z21 (by omega) (by omega) (by omega) (by omega)), (par_one (by omega) hx1 (fFr_S fhB10 (by decide +kernel)) g0z16 (g1z16 (by omega)) g0z21 (by omega) (by omega) (by omega) (by omega) (by omega) (by omega))⟩, rfl⟩ (by omega)
        · intro c31
          refine And.intro (⟨by decide, by decide⟩) ?_
          exact ⟨_, rfl, by omega, (par_bel hx0 (fFr_S fhB10 (by decide +kernel)) g0z16 (by omega) (by omega)), (fun q => absurd q (by omega))⟩
      · intro c32
        refine Exists.intro xm_423 (And.intro mi_423 (And.intro ⟨rfl, rfl, rfl, rfl⟩ (And.intro rfl ?_)))
        refine fcallp hB1 (ct_M_isSign_90da9 (fBz h0 hB1) (by first | exact ⟨by decide, by decide⟩ | omega)) ?_
        rintro _ ⟨z33, rfl, hz33⟩
        refine And.intro (by omega) (And.intro ?_ ?_)
        · intro c34
          refine And.intro (⟨by decide, by decide⟩) ?_
          exact ⟨_, rfl, by omega, hx0, (fun _ => hx1)⟩
        · intro c35
          refine And.intro ⟨rfl, by decide, by decide⟩ (fgetf fb_740_13 h0 hB1 ?_)
          intro z36 lz36 uz36 qz36
          refine Exists.intro xm_314 (And.intro mi_314 (And.intro ⟨rfl, rfl, rfl, rfl⟩ (And.intro rfl ?_)))
          refine fcall _ h0 (fzs_sub (by decide +kernel) hW) hB1 (ct_M_next_c8003 (fBz h0 hB1) (by omega)) ?_
          rintro IhB38 _ hB38 fhB38 ⟨rfl, hz37⟩
          have t39 := fhB38 740 14 (by decide +kernel)
          have t40 := fhB38 740 15 (by decide +kernel)
          have t41 := fhB38 740 16 (by decide +kernel)
          have k42 := fBz_eq hB38 (a := 740) (j := 8) (by decide +kernel)
          have k43 := fBz_eq hB38 (a := 740) (j := 17) (by decide +kernel)
          refine Exists.intro gm0 (And.intro ge0 (And.intro ⟨rfl, gk0.1, gk0.2.1, gk0.2.2⟩ (And.intro rfl ?_)))
          refine fcall _ h0 (fzs_sub (by decide +kernel) hW) hB38 (gc0 (fBz h0 hB38) (by first | exact ⟨hb.1.1, hb.1.2⟩ | omega) (by omega) (by omega) (by omega) (by omega)) ?_
          rintro IhB45 _ hB45 fhB45 ⟨z44, rfl, hz44, g0z44, g1z44⟩
          have k46 := fBz_eq hB45 (a := 740) (j := 8) (by decide +kernel)
          have k47 := fBz_eq hB45 (a := 740) (j := 17) (by decide +kernel)
          refine And.intro (by omega) (And.intro ?_ ?_)
          · intro c48
            refine Exists.intro xm_421 (And.intro mi_421 (And.intro ⟨rfl, rfl, rfl, rfl⟩ (And.intro rfl ?_)))
            refine fcall _ h0 (fzs_sub (by decide +kernel) hW) hB45 (ct_M_step_2c704 (fBz h0 hB45) (by first | exact ⟨by decide, by decide⟩ | omega) (by first | exact ⟨lz36, uz36⟩ | omega) (by omega) (by omega)) ?_
            rintro IhB50 _ hB50 fhB50 ⟨rfl, hz49, g0z49⟩
            have t51 := fhB50 740 9 (by decide +kernel)
            have t52 := fhB50 740 10 (by decide +kernel)
            have t53 := fhB50 740 11 (by decide +kernel)
            have t54 := fhB50 740 13 (by decide +kernel)
            have t55 := fhB50 740 14 (by decide +kernel)
            have t56 := fhB50 740 15 (by decide +kernel)
            have k57 := fBz_eq hB50 (a := 740) (j := 8) (by decide +kernel)
            have k58 := fBz_eq hB50 (a := 740) (j := 17) (by decide +kernel)
            exact fcutJ (I := IhB50) (j := (jc_M_term_50689_10 I)) (lv' := [(0, .inr (.inr (some 740))), (1, .inl _)]) (And.intro rfl (And.intro rfl True.intro)) ⟨_, rfl, rfl, ⟨by omega, (par_be hx0 (fFr_S fhB38 (by decide +kernel)) g0z44 g0z49 (by omega) (by omega) (by omega) (by omega)), (par_one (by omega) hx1 (fFr_S fhB38 (by decide +kernel)) g0z44 (g1z44 (by omega)) g0z49 (by omega) (by omega) (by omega) (by omega) (by omega) (by omega))⟩, rfl⟩ (by omega)
          · intro c59
            refine And.intro (⟨by decide, by decide⟩) ?_
            exact ⟨_, rfl, by omega, (par_bel hx0 (fFr_S fhB38 (by decide +kernel)) g0z44 (by omega) (by omega)), (fun q => absurd q (by omega))⟩
  · have hB0 := fB_self (zn := znJ) (K := fKc wz_2212a) h0
    have b60 := fBd fb_740_8 (fBz h0 hB0)
    have b61 := fBd fb_740_14 (fBz h0 hB0)
    have b62 := fBd fb_740_15 (fBz h0 hB0)
    refine Exists.intro gm0 (And.intro ge0 (And.intro ⟨rfl, gk0.1, gk0.2.1, gk0.2.2⟩ (And.intro rfl ?_)))
    refine fcall _ h0 (fzs_sub (by decide +kernel) hW) hB0 (gc0 (fBz h0 hB0) (by first | exact ⟨ha1.1, ha1.2⟩ | omega) (by omega) (by omega) (by omega) (by omega)) ?_
    rintro IhB64 _ hB64 fhB64 ⟨z63, rfl, hz63, g0z63, g1z63⟩
    have k65 := fBz_eq hB64 (a := 740) (j := 8) (by decide +kernel)
    have k66 := fBz_eq hB64 (a := 740) (j := 17) (by decide +kernel)
    refine And.intro (by omega) (And.intro ?_ ?_)
    · intro c67
      exact fcutJ (I := IhB64) (j := (jc_M_term_50689_10 I)) (lv' := [(0, .inr (.inr (some 740))), (1, .inl _)]) (And.intro rfl (And.intro rfl True.intro)) ⟨_, rfl, rfl, ⟨by omega, g0z63, (g1z63 (by omega))⟩, rfl⟩ (by omega)
    · intro c68
      refine And.intro (⟨by decide, by decide⟩) ?_
      exact ⟨_, rfl, by omega, g0z63, (fun q => absurd q (by omega))⟩
theorem ct_M_term_50689 {I : fH} {x1 : Int} (h0 : fB bsJ I) (ha1 : ((-1) ≤ x1 ∧ x1 ≤ 5)) (hp0 : I 740 9 ≤ I 740 10 ∧ I 740 10 ≤ I 740 8 ∧ (I 740 11 = 0 ∨ I 740 9 < I 740 10)) (hp1 : 0 ≤ I 740 16 ∧ I 740 16 ≤ I 740 9) (hp2 : 15 ≤ I 740 14 + I 740 15) (hp3 : (1215 ≤ I 740 17 ∧ I 740 17 ≤ 3415 ∧ (I 740 17 - 1215) % 200 = 0) ∨ I 740 17 = 4700) : fC ρ base n F xTc vwCl xTys D dA la gJ (fbz bsJ znJ (fKc wz_2212a) I) xm_388 [.inr (.inr (some 740)), .inl x1] I (fun I' r => ∃ z, r = some (.inl z) ∧ ((0 ≤ z ∧ z ≤ 1) ∧ (I 740 9 ≤ I' 740 9 ∧ I' 740 9 ≤ I' 740 10 ∧ I' 740 10 ≤ I' 740 8 ∧ (I' 740 11 = 0 ∨ I' 740 9 < I' 740 10) ∧ (z = 1 → I 740 16 ≤ I' 740 16 ∧ I' 740 16 - I 740 16 ≤ I' 740 9 - I 740 9 ∧ I' 740 14 = I 740 14 ∧ I' 740 15 = I 740 15))) ∧ (sBe I I' (I 740 17) (I 740 16)) ∧ (z = 1 → sOne I' (I 740 17) (I 740 16) (I' 740 16))) := cg_M_term (d := 15) mi_405 ⟨rfl, rfl, rfl⟩ (fun h0 ha1 hp0 hp1 hp2 hp3 => ct_M_part0_18b69 h0 ha1 hp0 hp1 (by omega) hp3) xin_388 x6_388 h0 ha1 hp0 hp1 hp2 hp3
abbrev jc_M_sum_b35c2_10 (I0 : fH) : Nat → fL → List fV → fH → Prop := fun m lv st I => ∃ (y1 : Int), lv = [(0, .inr (.inr (some 740))), (1, .inl y1)] ∧ st = [] ∧ ((((-1) ≤ y1 ∧ y1 ≤ 5) ∧ (I0 740 9 ≤ I 740 9) ∧ (I 740 9 ≤ I 740 10) ∧ (I 740 10 ≤ I 740 8) ∧ (I 740 11 = 0 ∨ I 740 9 < I 740 10) ∧ (I0 740 16 ≤ I 740 16) ∧ (I 740 16 - I0 740 16 ≤ I 740 9 - I0 740 9) ∧ (I 740 14 = I0 740 14) ∧ (I 740 15 = I0 740 15)) ∧ (sBe I0 I (I0 740 17) (I0 740 16)) ∧ (sOne I (I0 740 17) (I0 740 16) (I 740 16))) ∧ m = (1 + 1 * (96 - I 740 9) : Int).toNat
noncomputable abbrev gM_sum (gn0 : Nat) (rm : Room) : xM := (⟨"AcidCityModel", "sum", "(I)Z"⟩, prog_14_method_82_code, 3, (some .boolean), [(0, 3, 0, 1, []), (1, 3, 1, 0, []), (2, 33, 2, gn0, [13, 1, 17637, 0, 17639, 6157, 17640, 9230]), (5, 20, 1, 10, []), (8, 0, 0, 0, []), (9, 35, 3, 0, []), (10, 3, 0, 1, []), (11, 0, 43, 0, []), (13, 33, 2, 423, [13, 1, 18436, 0, 18438, 7168, 18439, 9230]), (16, 20, 1, 28, []), (19, 3, 0, 1, []), (20, 0, 45, 0, []), (22, 33, 2, 423, [13, 1, 18436, 0, 18438, 7168, 18439, 9230]), (25, 20, 0, 56, []), (28, 3, 0, 1, []), (29, 25, 12, 13, [15589]), (32, 4, 2, 0, []), (33, 3, 0, 1, []), (34, 33, 1, 314, [13, 1, 17597, 0, 17599, 6148, 17600, 9230]), (37, 3, 0, 1, []), (38, 3, 1, 0, []), (39, 33, 2, gn0, [13, 1, 17637, 0, 17639, 6157, 17640, 9230]), (42, 20, 1, 47, []), (45, 0, 0, 0, []), (46, 35, 3, 0, []), (47, 3, 0, 1, []), (48, 0, 2, 0, []), (49, 3, 2, 0, []), (50, 33, 3, 421, [13, 1, 17645, 0, 17647, 6159, 18432, 9230]), (53, 22, 0, 10, []), (56, 0, 1, 0, []), (57, 35, 3, 0, [])], rm)
set_option maxRecDepth 8000 in
theorem cg_M_sum {d : Int} {rm : Room} {gm0 : xM} {gn0 : Nat} (ge0 : xMs[gn0]? = some gm0) (gk0 : Nat.ble 2 gm0.2.2.1 = true ∧ (xR gm0).cells = 0 ∧ (xR gm0).slots = 0) (gc0 : ∀ {I : fH} {x1 : Int} (h0 : fB bsJ I) (ha1 : ((-1) ≤ x1 ∧ x1 ≤ 5)) (hp0 : I 740 9 ≤ I 740 10 ∧ I 740 10 ≤ I 740 8 ∧ (I 740 11 = 0 ∨ I 740 9 < I 740 10)) (hp1 : 0 ≤ I 740 16 ∧ I 740 16 ≤ I 740 9) (hp2 : d ≤ I 740 14 + I 740 15) (hp3 : (1215 ≤ I 740 17 ∧ I 740 17 ≤ 3415 ∧ (I 740 17 - 1215) % 200 = 0) ∨ I 740 17 = 4700), fC ρ base n F xTc vwCl xTys D dA la gJ (fbz bsJ znJ (fKc wz_2212a) I) gm0 [.inr (.inr (some 740)), .inl x1] I (fun I' r => ∃ z, r = some (.inl z) ∧ ((0 ≤ z ∧ z ≤ 1) ∧ (I 740 9 ≤ I' 740 9 ∧ I' 740 9 ≤ I' 740 10 ∧ I' 740 10 ≤ I' 740 8 ∧ (I' 740 11 = 0 ∨ I' 740 9 < I' 740 10) ∧ (z = 1 → I 740 16 ≤ I' 740 16 ∧ I' 740 16 - I 740 16 ≤ I' 740 9 - I 740 9 ∧ I' 740 14 = I 740 14 ∧ I' 740 15 = I 740 15))) ∧ (sBe I I' (I 740 17) (I 740 16)) ∧ (z = 1 → sOne I' (I 740 17) (I 740 16) (I' 740 16)))) (hin : (gM_sum gn0 rm) ∈ xMs) (hx6 : f60c xTc xTys (gM_sum gn0 rm) = true) {I : fH} {x1 : Int} (h0 : fB bsJ I) (ha1 : ((-1) ≤ x1 ∧ x1 ≤ 5)) (hp0 : I 740 9 ≤ I 740 10 ∧ I 740 10 ≤ I 740 8 ∧ (I 740 11 = 0 ∨ I 740 9 < I 740 10)) (hp1 : 0 ≤ I 740 16 ∧ I 740 16 ≤ I 740 9) (hp2 : d ≤ I 740 14 + I 740 15) (hp3 : (1215 ≤ I 740 17 ∧ I 740 17 ≤ 3415 ∧ (I 740 17 - 1215) % 200 = 0) ∨ I 740 17 = 4700) : fC ρ base n F xTc vwCl xTys D dA la gJ (fbz bsJ znJ (fKc wz_2212a) I) (gM_sum gn0 rm) [.inr (.inr (some 740)), .inl x1] I (fun I' r => ∃ z, r = some (.inl z) ∧ ((0 ≤ z ∧ z ≤ 1) ∧ (I 740 9 ≤ I' 740 9 ∧ I' 740 9 ≤ I' 740 10 ∧ I' 740 10 ≤ I' 740 8 ∧ (I' 740 11 = 0 ∨ I' 740 9 < I' 740 10) ∧ (z = 1 → I 740 16 ≤ I' 740 16 ∧ I' 740 16 - I 740 16 ≤ I' 740 9 - I 740 9 ∧ I' 740 14 = I 740 14 ∧ I' 740 15 = I 740 15))) ∧ (sBe I I' (I 740 17) (I 740 16)) ∧ (z = 1 → sOne I' (I 740 17) (I 740 16) (I' 740 16))) := by
  have hW : fzs wz_2212a (fKc wz_2212a) := fKc_ok _
  refine f_meth (rb := rbJ) (J := [(10, (jc_M_sum_b35c2_10 I))]) 98 400 xG hin hx6 okJ (fB_self h0) ?_ ?_
  · refine List.forall_mem_cons.mpr ⟨?_, fun q h => absurd h List.not_mem_nil⟩
    · rintro m _ _ I1 hB1 ⟨y1, rfl, rfl, ⟨hb, hx0, hx1⟩, hm⟩
      have k1 := fBz_eq hB1 (a := 740) (j := 8) (by decide +kernel)
      have k2 := fBz_eq hB1 (a := 740) (j := 17) (by decide +kernel)
      have b3 := fBd fb_740_8 (fBz h0 hB1)
      have b4 := fBd fb_740_14 (fBz h0 hB1)
      have b5 := fBd fb_740_15 (fBz h0 hB1)
      refine Exists.intro xm_423 (And.intro mi_423 (And.intro ⟨rfl, rfl, rfl, rfl⟩ (And.intro rfl ?_)))
      refine fcallp hB1 (ct_M_isSign_90da9 (fBz h0 hB1) (by first | exact ⟨by decide, by decide⟩ | omega)) ?_
      rintro _ ⟨z6, rfl, hz6⟩
      refine And.intro (by omega) (And.intro ?_ ?_)
      · intro c7
        refine And.intro ⟨rfl, by decide, by decide⟩ (fgetf fb_740_13 h0 hB1 ?_)
        intro z8 lz8 uz8 qz8
        refine Exists.intro xm_314 (And.intro mi_314 (And.intro ⟨rfl, rfl, rfl, rfl⟩ (And.intro rfl ?_)))
        refine fcall _ h0 (fzs_sub (by decide +kernel) hW) hB1 (ct_M_next_c8003 (fBz h0 hB1) (by omega)) ?_
        rintro IhB10 _ hB10 fhB10 ⟨rfl, hz9⟩
        have t11 := fhB10 740 14 (by decide +kernel)
        have t12 := fhB10 740 15 (by decide +kernel)
        have t13 := fhB10 740 16 (by decide +kernel)
        have k14 := fBz_eq hB10 (a := 740) (j := 8) (by decide +kernel)
        have k15 := fBz_eq hB10 (a := 740) (j := 17) (by decide +kernel)
        refine Exists.intro gm0 (And.intro ge0 (And.intro ⟨rfl, gk0.1, gk0.2.1, gk0.2.2⟩ (And.intro rfl ?_)))
        refine fcall _ h0 (fzs_sub (by decide +kernel) hW) hB10 (gc0 (fBz h0 hB10) (by first | exact ⟨hb.1.1, hb.1.2⟩ | omega) (by omega) (by omega) (by omega) (by omega)) ?_
        rintro IhB17 _ hB17 fhB17 ⟨z16, rfl, hz16, g0z16, g1z16⟩
        have k18 := fBz_eq hB17 (a := 740) (j := 8) (by decide +kernel)
        have k19 := fBz_eq hB17 (a := 740) (j := 17) (by decide +kernel)
        refine And.intro (by omega) (And.intro ?_ ?_)
        · intro c20
          refine Exists.intro xm_421 (And.intro mi_421 (And.intro ⟨rfl, rfl, rfl, rfl⟩ (And.intro rfl ?_)))
          refine fcall _ h0 (fzs_sub (by decide +kernel) hW) hB17 (ct_M_step_2c704 (fBz h0 hB17) (by first | exact ⟨by decide, by decide⟩ | omega) (by first | exact ⟨lz8, uz8⟩ | omega) (by omega) (by omega)) ?_
          rintro IhB22 _ hB22 fhB22 ⟨rfl, hz21, g0z21⟩
          have t23 := fhB22 740 9 (by decide +kernel)
          have t24 := fhB22 740 10 (by decide +kernel)
          have t25 := fhB22 740 11 (by decide +kernel)
          have t26 := fhB22 740 13 (by decide +kernel)
          have t27 := fhB22 740 14 (by decide +kernel)
          have t28 := fhB22 740 15 (by decide +kernel)
          have k29 := fBz_eq hB22 (a := 740) (j := 8) (by decide +kernel)
          have k30 := fBz_eq hB22 (a := 740) (j := 17) (by decide +kernel)
          exact fcutJ (I := IhB22) (j := (jc_M_sum_b35c2_10 I)) (lv' := [(0, .inr (.inr (some 740))), (1, .inl _)]) (And.intro rfl (And.intro rfl True.intro)) ⟨_, rfl, rfl, ⟨by omega, (par_be hx0 (fFr_S fhB10 (by decide +kernel)) g0z16 g0z21 (by omega) (by omega) (by omega) (by omega)), (par_one (by omega) hx1 (fFr_S fhB10 (by decide +kernel)) g0z16 (g1z16 (by omega)) g0z21 (by omega) (by omega) (by omega) (by omega) (by omega) (by omega))⟩, rfl⟩ (by omega)
        · intro c31
          refine And.intro (⟨by decide, by decide⟩) ?_
          exact ⟨_, rfl, by omega, (par_bel hx0 (fFr_S fhB10 (by decide +kernel)) g0z16 (by omega) (by omega)), (fun q => absurd q (by omega))⟩
      · intro c32
        refine Exists.intro xm_423 (And.intro mi_423 (And.intro ⟨rfl, rfl, rfl, rfl⟩ (And.intro rfl ?_)))
        refine fcallp hB1 (ct_M_isSign_90da9 (fBz h0 hB1) (by first | exact ⟨by decide, by decide⟩ | omega)) ?_
        rintro _ ⟨z33, rfl, hz33⟩
        refine And.intro (by omega) (And.intro ?_ ?_)
        · intro c34
          refine And.intro (⟨by decide, by decide⟩) ?_
          exact ⟨_, rfl, by omega, hx0, (fun _ => hx1)⟩
        · intro c35
          refine And.intro ⟨rfl, by decide, by decide⟩ (fgetf fb_740_13 h0 hB1 ?_)
          intro z36 lz36 uz36 qz36
          refine Exists.intro xm_314 (And.intro mi_314 (And.intro ⟨rfl, rfl, rfl, rfl⟩ (And.intro rfl ?_)))
          refine fcall _ h0 (fzs_sub (by decide +kernel) hW) hB1 (ct_M_next_c8003 (fBz h0 hB1) (by omega)) ?_
          rintro IhB38 _ hB38 fhB38 ⟨rfl, hz37⟩
          have t39 := fhB38 740 14 (by decide +kernel)
          have t40 := fhB38 740 15 (by decide +kernel)
          have t41 := fhB38 740 16 (by decide +kernel)
          have k42 := fBz_eq hB38 (a := 740) (j := 8) (by decide +kernel)
          have k43 := fBz_eq hB38 (a := 740) (j := 17) (by decide +kernel)
          refine Exists.intro gm0 (And.intro ge0 (And.intro ⟨rfl, gk0.1, gk0.2.1, gk0.2.2⟩ (And.intro rfl ?_)))
          refine fcall _ h0 (fzs_sub (by decide +kernel) hW) hB38 (gc0 (fBz h0 hB38) (by first | exact ⟨hb.1.1, hb.1.2⟩ | omega) (by omega) (by omega) (by omega) (by omega)) ?_
          rintro IhB45 _ hB45 fhB45 ⟨z44, rfl, hz44, g0z44, g1z44⟩
          have k46 := fBz_eq hB45 (a := 740) (j := 8) (by decide +kernel)
          have k47 := fBz_eq hB45 (a := 740) (j := 17) (by decide +kernel)
          refine And.intro (by omega) (And.intro ?_ ?_)
          · intro c48
            refine Exists.intro xm_421 (And.intro mi_421 (And.intro ⟨rfl, rfl, rfl, rfl⟩ (And.intro rfl ?_)))
            refine fcall _ h0 (fzs_sub (by decide +kernel) hW) hB45 (ct_M_step_2c704 (fBz h0 hB45) (by first | exact ⟨by decide, by decide⟩ | omega) (by first | exact ⟨lz36, uz36⟩ | omega) (by omega) (by omega)) ?_
            rintro IhB50 _ hB50 fhB50 ⟨rfl, hz49, g0z49⟩
            have t51 := fhB50 740 9 (by decide +kernel)
            have t52 := fhB50 740 10 (by decide +kernel)
            have t53 := fhB50 740 11 (by decide +kernel)
            have t54 := fhB50 740 13 (by decide +kernel)
            have t55 := fhB50 740 14 (by decide +kernel)
            have t56 := fhB50 740 15 (by decide +kernel)
            have k57 := fBz_eq hB50 (a := 740) (j := 8) (by decide +kernel)
            have k58 := fBz_eq hB50 (a := 740) (j := 17) (by decide +kernel)
            exact fcutJ (I := IhB50) (j := (jc_M_sum_b35c2_10 I)) (lv' := [(0, .inr (.inr (some 740))), (1, .inl _)]) (And.intro rfl (And.intro rfl True.intro)) ⟨_, rfl, rfl, ⟨by omega, (par_be hx0 (fFr_S fhB38 (by decide +kernel)) g0z44 g0z49 (by omega) (by omega) (by omega) (by omega)), (par_one (by omega) hx1 (fFr_S fhB38 (by decide +kernel)) g0z44 (g1z44 (by omega)) g0z49 (by omega) (by omega) (by omega) (by omega) (by omega) (by omega))⟩, rfl⟩ (by omega)
          · intro c59
            refine And.intro (⟨by decide, by decide⟩) ?_
            exact ⟨_, rfl, by omega, (par_bel hx0 (fFr_S fhB38 (by decide +kernel)) g0z44 (by omega) (by omega)), (fun q => absurd q (by omega))⟩
  · have hB0 := fB_self (zn := znJ) (K := fKc wz_2212a) h0
    have b60 := fBd fb_740_8 (fBz h0 hB0)
    have b61 := fBd fb_740_14 (fBz h0 hB0)
    have b62 := fBd fb_740_15 (fBz h0 hB0)
    refine Exists.intro gm0 (And.intro ge0 (And.intro ⟨rfl, gk0.1, gk0.2.1, gk0.2.2⟩ (And.intro rfl ?_)))
    refine fcall _ h0 (fzs_sub (by decide +kernel) hW) hB0 (gc0 (fBz h0 hB0) (by first | exact ⟨ha1.1, ha1.2⟩ | omega) (by omega) (by omega) (by omega) (by omega)) ?_
    rintro IhB64 _ hB64 fhB64 ⟨z63, rfl, hz63, g0z63, g1z63⟩
    have k65 := fBz_eq hB64 (a := 740) (j := 8) (by decide +kernel)
    have k66 := fBz_eq hB64 (a := 740) (j := 17) (by decide +kernel)
    refine And.intro (by omega) (And.intro ?_ ?_)
    · intro c67
      exact fcutJ (I := IhB64) (j := (jc_M_sum_b35c2_10 I)) (lv' := [(0, .inr (.inr (some 740))), (1, .inl _)]) (And.intro rfl (And.intro rfl True.intro)) ⟨_, rfl, rfl, ⟨by omega, g0z63, (g1z63 (by omega))⟩, rfl⟩ (by omega)
    · intro c68
      refine And.intro (⟨by decide, by decide⟩) ?_
      exact ⟨_, rfl, by omega, g0z63, (fun q => absurd q (by omega))⟩
theorem ct_M_sum_b35c2 {I : fH} {x1 : Int} (h0 : fB bsJ I) (ha1 : ((-1) ≤ x1 ∧ x1 ≤ 5)) (hp0 : I 740 9 ≤ I 740 10 ∧ I 740 10 ≤ I 740 8 ∧ (I 740 11 = 0 ∨ I 740 9 < I 740 10)) (hp1 : 0 ≤ I 740 16 ∧ I 740 16 ≤ I 740 9) (hp2 : 15 ≤ I 740 14 + I 740 15) (hp3 : (1215 ≤ I 740 17 ∧ I 740 17 ≤ 3415 ∧ (I 740 17 - 1215) % 200 = 0) ∨ I 740 17 = 4700) : fC ρ base n F xTc vwCl xTys D dA la gJ (fbz bsJ znJ (fKc wz_2212a) I) xm_371 [.inr (.inr (some 740)), .inl x1] I (fun I' r => ∃ z, r = some (.inl z) ∧ ((0 ≤ z ∧ z ≤ 1) ∧ (I 740 9 ≤ I' 740 9 ∧ I' 740 9 ≤ I' 740 10 ∧ I' 740 10 ≤ I' 740 8 ∧ (I' 740 11 = 0 ∨ I' 740 9 < I' 740 10) ∧ (z = 1 → I 740 16 ≤ I' 740 16 ∧ I' 740 16 - I 740 16 ≤ I' 740 9 - I 740 9 ∧ I' 740 14 = I 740 14 ∧ I' 740 15 = I 740 15))) ∧ (sBe I I' (I 740 17) (I 740 16)) ∧ (z = 1 → sOne I' (I 740 17) (I 740 16) (I' 740 16))) := cg_M_sum (d := 15) mi_388 ⟨rfl, rfl, rfl⟩ (fun h0 ha1 hp0 hp1 hp2 hp3 => ct_M_term_50689 h0 ha1 hp0 hp1 (by omega) hp3) xin_371 x6_371 h0 ha1 hp0 hp1 hp2 hp3
noncomputable abbrev gM_test (gn0 : Nat) (rm : Room) : xM := (⟨"AcidCityModel", "test", "(I)Z"⟩, prog_14_method_81_code, 3, (some .boolean), [(0, 3, 0, 1, []), (1, 3, 1, 0, []), (2, 33, 2, gn0, [13, 1, 17633, 0, 17635, 6156, 17636, 9230]), (5, 20, 1, 10, []), (8, 0, 0, 0, []), (9, 35, 3, 0, []), (10, 3, 0, 1, []), (11, 0, 60, 0, []), (13, 33, 2, 423, [13, 1, 18436, 0, 18438, 7168, 18439, 9230]), (16, 20, 1, 37, []), (19, 3, 0, 1, []), (20, 0, 61, 0, []), (22, 33, 2, 423, [13, 1, 18436, 0, 18438, 7168, 18439, 9230]), (25, 20, 1, 37, []), (28, 3, 0, 1, []), (29, 0, 62, 0, []), (31, 33, 2, 423, [13, 1, 18436, 0, 18438, 7168, 18439, 9230]), (34, 20, 0, 62, []), (37, 3, 0, 1, []), (38, 25, 12, 13, [15589]), (41, 4, 2, 0, []), (42, 3, 0, 1, []), (43, 33, 1, 314, [13, 1, 17597, 0, 17599, 6148, 17600, 9230]), (46, 3, 0, 1, []), (47, 3, 1, 0, []), (48, 33, 2, gn0, [13, 1, 17633, 0, 17635, 6156, 17636, 9230]), (51, 20, 1, 56, []), (54, 0, 0, 0, []), (55, 35, 3, 0, []), (56, 3, 0, 1, []), (57, 0, 2, 0, []), (58, 3, 2, 0, []), (59, 33, 3, 421, [13, 1, 17645, 0, 17647, 6159, 18432, 9230]), (62, 0, 1, 0, []), (63, 35, 3, 0, [])], rm)
set_option maxRecDepth 8000 in
theorem cg_M_test {d : Int} {rm : Room} {gm0 : xM} {gn0 : Nat} (ge0 : xMs[gn0]? = some gm0) (gk0 : Nat.ble 2 gm0.2.2.1 = true ∧ (xR gm0).cells = 0 ∧ (xR gm0).slots = 0) (gc0 : ∀ {I : fH} {x1 : Int} (h0 : fB bsJ I) (ha1 : ((-1) ≤ x1 ∧ x1 ≤ 5)) (hp0 : I 740 9 ≤ I 740 10 ∧ I 740 10 ≤ I 740 8 ∧ (I 740 11 = 0 ∨ I 740 9 < I 740 10)) (hp1 : 0 ≤ I 740 16 ∧ I 740 16 ≤ I 740 9) (hp2 : d ≤ I 740 14 + I 740 15) (hp3 : (1215 ≤ I 740 17 ∧ I 740 17 ≤ 3415 ∧ (I 740 17 - 1215) % 200 = 0) ∨ I 740 17 = 4700), fC ρ base n F xTc vwCl xTys D dA la gJ (fbz bsJ znJ (fKc wz_2212a) I) gm0 [.inr (.inr (some 740)), .inl x1] I (fun I' r => ∃ z, r = some (.inl z) ∧ ((0 ≤ z ∧ z ≤ 1) ∧ (I 740 9 ≤ I' 740 9 ∧ I' 740 9 ≤ I' 740 10 ∧ I' 740 10 ≤ I' 740 8 ∧ (I' 740 11 = 0 ∨ I' 740 9 < I' 740 10) ∧ (z = 1 → I 740 16 ≤ I' 740 16 ∧ I' 740 16 - I 740 16 ≤ I' 740 9 - I 740 9 ∧ I' 740 14 = I 740 14 ∧ I' 740 15 = I 740 15))) ∧ (sBe I I' (I 740 17) (I 740 16)) ∧ (z = 1 → sOne I' (I 740 17) (I 740 16) (I' 740 16)))) (hin : (gM_test gn0 rm) ∈ xMs) (hx6 : f60c xTc xTys (gM_test gn0 rm) = true) {I : fH} {x1 : Int} (h0 : fB bsJ I) (ha1 : ((-1) ≤ x1 ∧ x1 ≤ 5)) (hp0 : I 740 9 ≤ I 740 10 ∧ I 740 10 ≤ I 740 8 ∧ (I 740 11 = 0 ∨ I 740 9 < I 740 10)) (hp1 : 0 ≤ I 740 16 ∧ I 740 16 ≤ I 740 9) (hp2 : d ≤ I 740 14 + I 740 15) (hp3 : (1215 ≤ I 740 17 ∧ I 740 17 ≤ 3415 ∧ (I 740 17 - 1215) % 200 = 0) ∨ I 740 17 = 4700) : fC ρ base n F xTc vwCl xTys D dA la gJ (fbz bsJ znJ (fKc wz_2212a) I) (gM_test gn0 rm) [.inr (.inr (some 740)), .inl x1] I (fun I' r => ∃ z, r = some (.inl z) ∧ ((0 ≤ z ∧ z ≤ 1) ∧ (I 740 9 ≤ I' 740 9 ∧ I' 740 9 ≤ I' 740 10 ∧ I' 740 10 ≤ I' 740 8 ∧ (I' 740 11 = 0 ∨ I' 740 9 < I' 740 10) ∧ (z = 1 → I 740 16 ≤ I' 740 16 ∧ I' 740 16 - I 740 16 ≤ I' 740 9 - I 740 9 ∧ I' 740 14 = I 740 14 ∧ I' 740 15 = I 740 15))) ∧ (sBe I I' (I 740 17) (I 740 16)) ∧ (z = 1 → sOne I' (I 740 17) (I 740 16) (I' 740 16))) := by
  have hW : fzs wz_2212a (fKc wz_2212a) := fKc_ok _
  refine f_meth (rb := rbJ) (J := []) 1 400 xG hin hx6 okJ (fB_self h0) ?_ ?_
  · exact fun q h => absurd h List.not_mem_nil
  · have hB0 := fB_self (zn := znJ) (K := fKc wz_2212a) h0
    have b1 := fBd fb_740_8 (fBz h0 hB0)
    have b2 := fBd fb_740_14 (fBz h0 hB0)
    have b3 := fBd fb_740_15 (fBz h0 hB0)
    refine Exists.intro gm0 (And.intro ge0 (And.intro ⟨rfl, gk0.1, gk0.2.1, gk0.2.2⟩ (And.intro rfl ?_)))
    refine fcall _ h0 (fzs_sub (by decide +kernel) hW) hB0 (gc0 (fBz h0 hB0) (by first | exact ⟨ha1.1, ha1.2⟩ | omega) (by omega) (by omega) (by omega) (by omega)) ?_
    rintro IhB5 _ hB5 fhB5 ⟨z4, rfl, hz4, g0z4, g1z4⟩
    have k6 := fBz_eq hB5 (a := 740) (j := 8) (by decide +kernel)
    have k7 := fBz_eq hB5 (a := 740) (j := 17) (by decide +kernel)
    refine And.intro (by omega) (And.intro ?_ ?_)
    · intro c8
      refine Exists.intro xm_423 (And.intro mi_423 (And.intro ⟨rfl, rfl, rfl, rfl⟩ (And.intro rfl ?_)))
      refine fcallp hB5 (ct_M_isSign_90da9 (fBz h0 hB5) (by first | exact ⟨by decide, by decide⟩ | omega)) ?_
      rintro _ ⟨z9, rfl, hz9⟩
      refine And.intro (by omega) (And.intro ?_ ?_)
      · intro c10
        refine And.intro ⟨rfl, by decide, by decide⟩ (fgetf fb_740_13 h0 hB5 ?_)
        intro z11 lz11 uz11 qz11
        refine Exists.intro xm_314 (And.intro mi_314 (And.intro ⟨rfl, rfl, rfl, rfl⟩ (And.intro rfl ?_)))
        refine fcall _ h0 (fzs_sub (by decide +kernel) hW) hB5 (ct_M_next_c8003 (fBz h0 hB5) (by omega)) ?_
        rintro IhB13 _ hB13 fhB13 ⟨rfl, hz12⟩
        have t14 := fhB13 740 14 (by decide +kernel)
        have t15 := fhB13 740 15 (by decide +kernel)
        have t16 := fhB13 740 16 (by decide +kernel)
        have k17 := fBz_eq hB13 (a := 740) (j := 8) (by decide +kernel)
        have k18 := fBz_eq hB13 (a := 740) (j := 17) (by decide +kernel)
        refine Exists.intro gm0 (And.intro ge0 (And.intro ⟨rfl, gk0.1, gk0.2.1, gk0.2.2⟩ (And.intro rfl ?_)))
        refine fcall _ h0 (fzs_sub (by decide +kernel) hW) hB13 (gc0 (fBz h0 hB13) (by first | exact ⟨ha1.1, ha1.2⟩ | omega) (by omega) (by omega) (by omega) (by omega)) ?_
        rintro IhB20 _ hB20 fhB20 ⟨z19, rfl, hz19, g0z19, g1z19⟩
        have k21 := fBz_eq hB20 (a := 740) (j := 8) (by decide +kernel)
        have k22 := fBz_eq hB20 (a := 740) (j := 17) (by decide +kernel)
        refine And.intro (by omega) (And.intro ?_ ?_)
        · intro c23
          refine Exists.intro xm_421 (And.intro mi_421 (And.intro ⟨rfl, rfl, rfl, rfl⟩ (And.intro rfl ?_)))
          refine fcall _ h0 (fzs_sub (by decide +kernel) hW) hB20 (ct_M_step_2c704 (fBz h0 hB20) (by first | exact ⟨by decide, by decide⟩ | omega) (by first | exact ⟨lz11, uz11⟩ | omega) (by omega) (by omega)) ?_
          rintro IhB25 _ hB25 fhB25 ⟨rfl, hz24, g0z24⟩
          have t26 := fhB25 740 9 (by decide +kernel)
          have t27 := fhB25 740 10 (by decide +kernel)
          have t28 := fhB25 740 11 (by decide +kernel)
          have t29 := fhB25 740 13 (by decide +kernel)
          have t30 := fhB25 740 14 (by decide +kernel)
          have t31 := fhB25 740 15 (by decide +kernel)
          have k32 := fBz_eq hB25 (a := 740) (j := 8) (by decide +kernel)
          have k33 := fBz_eq hB25 (a := 740) (j := 17) (by decide +kernel)
          refine And.intro (⟨by decide, by decide⟩) ?_
          exact ⟨_, rfl, by omega, (by first | exact par_be g0z4 (fFr_S fhB13 (by decide +kernel)) g0z19 g0z24 (by omega) (by omega) (by omega) (by omega) | exact g0z4), (fun _ => by first | exact par_one (by omega) (g1z4 (by omega)) (fFr_S fhB13 (by decide +kernel)) g0z19 (g1z19 (by omega)) g0z24 (by omega) (by omega) (by omega) (by omega) (by omega) (by omega) | exact g1z4 (by omega))⟩
        · intro c34
          refine And.intro (⟨by decide, by decide⟩) ?_
          exact ⟨_, rfl, by omega, (par_bel g0z4 (fFr_S fhB13 (by decide +kernel)) g0z19 (by omega) (by omega)), (fun q => absurd q (by omega))⟩
      · intro c35
        refine Exists.intro xm_423 (And.intro mi_423 (And.intro ⟨rfl, rfl, rfl, rfl⟩ (And.intro rfl ?_)))
        refine fcallp hB5 (ct_M_isSign_90da9 (fBz h0 hB5) (by first | exact ⟨by decide, by decide⟩ | omega)) ?_
        rintro _ ⟨z36, rfl, hz36⟩
        refine And.intro (by omega) (And.intro ?_ ?_)
        · intro c37
          refine And.intro ⟨rfl, by decide, by decide⟩ (fgetf fb_740_13 h0 hB5 ?_)
          intro z38 lz38 uz38 qz38
          refine Exists.intro xm_314 (And.intro mi_314 (And.intro ⟨rfl, rfl, rfl, rfl⟩ (And.intro rfl ?_)))
          refine fcall _ h0 (fzs_sub (by decide +kernel) hW) hB5 (ct_M_next_c8003 (fBz h0 hB5) (by omega)) ?_
          rintro IhB40 _ hB40 fhB40 ⟨rfl, hz39⟩
          have t41 := fhB40 740 14 (by decide +kernel)
          have t42 := fhB40 740 15 (by decide +kernel)
          have t43 := fhB40 740 16 (by decide +kernel)
          have k44 := fBz_eq hB40 (a := 740) (j := 8) (by decide +kernel)
          have k45 := fBz_eq hB40 (a := 740) (j := 17) (by decide +kernel)
          refine Exists.intro gm0 (And.intro ge0 (And.intro ⟨rfl, gk0.1, gk0.2.1, gk0.2.2⟩ (And.intro rfl ?_)))
          refine fcall _ h0 (fzs_sub (by decide +kernel) hW) hB40 (gc0 (fBz h0 hB40) (by first | exact ⟨ha1.1, ha1.2⟩ | omega) (by omega) (by omega) (by omega) (by omega)) ?_
          rintro IhB47 _ hB47 fhB47 ⟨z46, rfl, hz46, g0z46, g1z46⟩
          have k48 := fBz_eq hB47 (a := 740) (j := 8) (by decide +kernel)
          have k49 := fBz_eq hB47 (a := 740) (j := 17) (by decide +kernel)
          refine And.intro (by omega) (And.intro ?_ ?_)
          · intro c50
            refine Exists.intro xm_421 (And.intro mi_421 (And.intro ⟨rfl, rfl, rfl, rfl⟩ (And.intro rfl ?_)))
            refine fcall _ h0 (fzs_sub (by decide +kernel) hW) hB47 (ct_M_step_2c704 (fBz h0 hB47) (by first | exact ⟨by decide, by decide⟩ | omega) (by first | exact ⟨lz38, uz38⟩ | omega) (by omega) (by omega)) ?_
            rintro IhB52 _ hB52 fhB52 ⟨rfl, hz51, g0z51⟩
            have t53 := fhB52 740 9 (by decide +kernel)
            have t54 := fhB52 740 10 (by decide +kernel)
            have t55 := fhB52 740 11 (by decide +kernel)
            have t56 := fhB52 740 13 (by decide +kernel)
            have t57 := fhB52 740 14 (by decide +kernel)
            have t58 := fhB52 740 15 (by decide +kernel)
            have k59 := fBz_eq hB52 (a := 740) (j := 8) (by decide +kernel)
            have k60 := fBz_eq hB52 (a := 740) (j := 17) (by decide +kernel)
            refine And.intro (⟨by decide, by decide⟩) ?_
            exact ⟨_, rfl, by omega, (by first | exact par_be g0z4 (fFr_S fhB40 (by decide +kernel)) g0z46 g0z51 (by omega) (by omega) (by omega) (by omega) | exact g0z4), (fun _ => by first | exact par_one (by omega) (g1z4 (by omega)) (fFr_S fhB40 (by decide +kernel)) g0z46 (g1z46 (by omega)) g0z51 (by omega) (by omega) (by omega) (by omega) (by omega) (by omega) | exact g1z4 (by omega))⟩
          · intro c61
            refine And.intro (⟨by decide, by decide⟩) ?_
            exact ⟨_, rfl, by omega, (par_bel g0z4 (fFr_S fhB40 (by decide +kernel)) g0z46 (by omega) (by omega)), (fun q => absurd q (by omega))⟩
        · intro c62
          refine Exists.intro xm_423 (And.intro mi_423 (And.intro ⟨rfl, rfl, rfl, rfl⟩ (And.intro rfl ?_)))
          refine fcallp hB5 (ct_M_isSign_90da9 (fBz h0 hB5) (by first | exact ⟨by decide, by decide⟩ | omega)) ?_
          rintro _ ⟨z63, rfl, hz63⟩
          refine And.intro (by omega) (And.intro ?_ ?_)
          · intro c64
            refine And.intro (⟨by decide, by decide⟩) ?_
            exact ⟨_, rfl, by omega, (by first | exact par_be g0z4 (fFr_S fhB40 (by decide +kernel)) g0z46 g0z51 (by omega) (by omega) (by omega) (by omega) | exact g0z4), (fun _ => by first | exact par_one (by omega) (g1z4 (by omega)) (fFr_S fhB40 (by decide +kernel)) g0z46 (g1z46 (by omega)) g0z51 (by omega) (by omega) (by omega) (by omega) (by omega) (by omega) | exact g1z4 (by omega))⟩
          · intro c65
            refine And.intro ⟨rfl, by decide, by decide⟩ (fgetf fb_740_13 h0 hB5 ?_)
            intro z66 lz66 uz66 qz66
            refine Exists.intro xm_314 (And.intro mi_314 (And.intro ⟨rfl, rfl, rfl, rfl⟩ (And.intro rfl ?_)))
            refine fcall _ h0 (fzs_sub (by decide +kernel) hW) hB5 (ct_M_next_c8003 (fBz h0 hB5) (by omega)) ?_
            rintro IhB68 _ hB68 fhB68 ⟨rfl, hz67⟩
            have t69 := fhB68 740 14 (by decide +kernel)
            have t70 := fhB68 740 15 (by decide +kernel)
            have t71 := fhB68 740 16 (by decide +kernel)
            have k72 := fBz_eq hB68 (a := 740) (j := 8) (by decide +kernel)
            have k73 := fBz_eq hB68 (a := 740) (j := 17) (by decide +kernel)
            refine Exists.intro gm0 (And.intro ge0 (And.intro ⟨rfl, gk0.1, gk0.2.1, gk0.2.2⟩ (And.intro rfl ?_)))
            refine fcall _ h0 (fzs_sub (by decide +kernel) hW) hB68 (gc0 (fBz h0 hB68) (by first | exact ⟨ha1.1, ha1.2⟩ | omega) (by omega) (by omega) (by omega) (by omega)) ?_
            rintro IhB75 _ hB75 fhB75 ⟨z74, rfl, hz74, g0z74, g1z74⟩
            have k76 := fBz_eq hB75 (a := 740) (j := 8) (by decide +kernel)
            have k77 := fBz_eq hB75 (a := 740) (j := 17) (by decide +kernel)
            refine And.intro (by omega) (And.intro ?_ ?_)
            · intro c78
              refine Exists.intro xm_421 (And.intro mi_421 (And.intro ⟨rfl, rfl, rfl, rfl⟩ (And.intro rfl ?_)))
              refine fcall _ h0 (fzs_sub (by decide +kernel) hW) hB75 (ct_M_step_2c704 (fBz h0 hB75) (by first | exact ⟨by decide, by decide⟩ | omega) (by first | exact ⟨lz66, uz66⟩ | omega) (by omega) (by omega)) ?_
              rintro IhB80 _ hB80 fhB80 ⟨rfl, hz79, g0z79⟩
              have t81 := fhB80 740 9 (by decide +kernel)
              have t82 := fhB80 740 10 (by decide +kernel)
              have t83 := fhB80 740 11 (by decide +kernel)
              have t84 := fhB80 740 13 (by decide +kernel)
              have t85 := fhB80 740 14 (by decide +kernel)
              have t86 := fhB80 740 15 (by decide +kernel)
              have k87 := fBz_eq hB80 (a := 740) (j := 8) (by decide +kernel)
              have k88 := fBz_eq hB80 (a := 740) (j := 17) (by decide +kernel)
              refine And.intro (⟨by decide, by decide⟩) ?_
              exact ⟨_, rfl, by omega, (by first | exact par_be g0z4 (fFr_S fhB68 (by decide +kernel)) g0z74 g0z79 (by omega) (by omega) (by omega) (by omega) | exact g0z4), (fun _ => by first | exact par_one (by omega) (g1z4 (by omega)) (fFr_S fhB68 (by decide +kernel)) g0z74 (g1z74 (by omega)) g0z79 (by omega) (by omega) (by omega) (by omega) (by omega) (by omega) | exact g1z4 (by omega))⟩
            · intro c89
              refine And.intro (⟨by decide, by decide⟩) ?_
              exact ⟨_, rfl, by omega, (par_bel g0z4 (fFr_S fhB68 (by decide +kernel)) g0z74 (by omega) (by omega)), (fun q => absurd q (by omega))⟩
    · intro c90
      refine And.intro (⟨by decide, by decide⟩) ?_
      exact ⟨_, rfl, by omega, g0z4, (fun q => absurd q (by omega))⟩
theorem ct_M_test_0612d {I : fH} {x1 : Int} (h0 : fB bsJ I) (ha1 : ((-1) ≤ x1 ∧ x1 ≤ 5)) (hp0 : I 740 9 ≤ I 740 10 ∧ I 740 10 ≤ I 740 8 ∧ (I 740 11 = 0 ∨ I 740 9 < I 740 10)) (hp1 : 0 ≤ I 740 16 ∧ I 740 16 ≤ I 740 9) (hp2 : 15 ≤ I 740 14 + I 740 15) (hp3 : (1215 ≤ I 740 17 ∧ I 740 17 ≤ 3415 ∧ (I 740 17 - 1215) % 200 = 0) ∨ I 740 17 = 4700) : fC ρ base n F xTc vwCl xTys D dA la gJ (fbz bsJ znJ (fKc wz_2212a) I) xm_354 [.inr (.inr (some 740)), .inl x1] I (fun I' r => ∃ z, r = some (.inl z) ∧ ((0 ≤ z ∧ z ≤ 1) ∧ (I 740 9 ≤ I' 740 9 ∧ I' 740 9 ≤ I' 740 10 ∧ I' 740 10 ≤ I' 740 8 ∧ (I' 740 11 = 0 ∨ I' 740 9 < I' 740 10) ∧ (z = 1 → I 740 16 ≤ I' 740 16 ∧ I' 740 16 - I 740 16 ≤ I' 740 9 - I 740 9 ∧ I' 740 14 = I 740 14 ∧ I' 740 15 = I 740 15))) ∧ (sBe I I' (I 740 17) (I 740 16)) ∧ (z = 1 → sOne I' (I 740 17) (I 740 16) (I' 740 16))) := cg_M_test (d := 15) mi_371 ⟨rfl, rfl, rfl⟩ (fun h0 ha1 hp0 hp1 hp2 hp3 => ct_M_sum_b35c2 h0 ha1 hp0 hp1 (by omega) hp3) xin_354 x6_354 h0 ha1 hp0 hp1 hp2 hp3
end CT

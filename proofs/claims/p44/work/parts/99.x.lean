set_option linter.all false
/-! contracts (written by gen95.py) -/
abbrev wz_1c18d : List Nat := [12209, 12210, 12211, 12212, 12213]
abbrev wz_6dafe : List Nat := [12216, 20605, 20840]
abbrev wz_2212a : List Nat := [12209, 12210, 12211, 12212, 12213, 12214, 12215, 12216, 12218, 20605, 20840]
theorem x6_404 : f60c xTc xTys xm_404 = true := by decide +kernel
theorem fb_740_8 : bsJ 740 8 = (0, 96) := by decide +kernel
theorem fb_740_14 : bsJ 740 14 = (0, 8) := by decide +kernel
theorem fb_740_15 : bsJ 740 15 = (0, 8) := by decide +kernel
theorem fb_740_11 : bsJ 740 11 = ((-2147483648), 2147483647) := by decide +kernel
theorem fb_740_13 : bsJ 740 13 = ((-2147483648), 2147483647) := by decide +kernel
theorem fb_740_18 : bsJ 740 18 = ((-2147483648), 2147483647) := by decide +kernel
theorem fb_740_12 : bsJ 740 12 = ((-2147483648), 2147483647) := by decide +kernel
section CT
variable {ρ : Nat → Int32} {base n : Nat} {F : Nat → Prop} {D : va_G} {dA : Nat → ClassId} {la : Launch}
theorem ct_M_next_c8003 {I : fH}  (h0 : fB bsJ I) (hp0 : I 740 10 ≤ I 740 8) : fC ρ base n F xTc vwCl xTys D dA la gJ (fbz bsJ znJ (fKc wz_1c18d) I) xm_314 [.inr (.inr (some 740))] I (fun I' r => r = none ∧ (I 740 10 ≤ I' 740 9 ∧ I' 740 9 ≤ I' 740 10 ∧ I' 740 10 ≤ I' 740 8) ∧ (nxH I I') ∧ (dkI I')) := sorry
theorem ct_M_isSign_90da9 {I : fH} {x1 : Int} (h0 : fB bsJ I) (ha1 : (33 ≤ x1 ∧ x1 ≤ 124)) : fC ρ base n F xTc vwCl xTys D dA la gJ (fbz bsJ znJ (fKc []) I) xm_423 [.inr (.inr (some 740)), .inl x1] I (fun _ r => ∃ z, r = some (.inl z) ∧ (0 ≤ z ∧ z ≤ 1) ∧ (sgP I x1 z)) := sorry
theorem ct_M_step_2c704 {I : fH} {x1 : Int} {x2 : Int} (h0 : fB bsJ I) (ha1 : (0 ≤ x1 ∧ x1 ≤ 2)) (ha2 : ((-2147483648) ≤ x2 ∧ x2 ≤ 2147483647)) (hp0 : 0 ≤ I 740 16 ∧ I 740 16 ≤ 96) (hp1 : laP (I 740 17)) : fC ρ base n F xTc vwCl xTys D dA la gJ (fbz bsJ znJ (fKc wz_6dafe) I) xm_421 [.inr (.inr (some 740)), .inl x1, .inl x2] I (fun I' r => r = none ∧ (I' 740 16 = I 740 16 + 1) ∧ (sPut I I' (I 740 17) (I 740 16) x1 x2)) := sorry
theorem ct_M_isName_49450 {I : fH} {x0 : Int} {x1 : Int} (h0 : fB bsJ I) (ha0 : ((-1) ≤ x0 ∧ x0 ≤ 5)) (ha1 : ((-2147483648) ≤ x1 ∧ x1 ≤ 2147483647)) : fC ρ base n F xTc vwCl xTys D dA la gJ (fbz bsJ znJ (fKc []) I) xm_422 [.inl x0, .inl x1] I (fun _ r => ∃ z, r = some (.inl z) ∧ ((0 ≤ z ∧ z ≤ 1) ∧ (z = 1 → 97 ≤ x1 ∧ x1 ≤ 121)) ∧ (nmP z x0 x1)) := sorry
set_option maxHeartbeats 6000000 in
set_option maxRecDepth 8000 in
theorem ct_M_part0_cc4b8 {I : fH} {x1 : Int} (h0 : fB bsJ I) (ha1 : ((-1) ≤ x1 ∧ x1 ≤ 5)) (hp0 : I 740 9 ≤ I 740 10 ∧ I 740 10 ≤ I 740 8) (hp1 : 0 ≤ I 740 16 ∧ I 740 16 ≤ I 740 9) (hp2 : 16 ≤ I 740 14 + I 740 15) (hp3 : laP (I 740 17)) (hp4 : 0 ≤ I 740 18 ∧ I 740 18 ≤ I 740 9) (hp5 : dkI I) : fC ρ base n F xTc vwCl xTys D dA la gJ (fbz bsJ znJ (fKc wz_2212a) I) xm_404 [.inr (.inr (some 740)), .inl x1] I (fun I' r => ∃ z, r = some (.inl z) ∧ ((0 ≤ z ∧ z ≤ 1) ∧ (I 740 9 ≤ I' 740 9 ∧ I' 740 9 ≤ I' 740 10 ∧ I' 740 10 ≤ I' 740 8)) ∧ (sBe I I' (I 740 17) (I 740 16)) ∧ (rd1 I I' z) ∧ (pP 6 7 x1 I I' z) ∧ (dkI I') ∧ (rdU I I' z)) := by
  have hW : fzs wz_2212a (fKc wz_2212a) := fKc_ok _
  refine f_meth (rb := rbJ) (J := []) 1 400 xG xin_404 x6_404 okJ (fB_self h0) ?_ ?_
  · exact fun q h => absurd h List.not_mem_nil
  · have hB0 := fB_self (zn := znJ) (K := fKc wz_2212a) h0
    have b1 := fBd fb_740_8 (fBz h0 hB0)
    have b2 := fBd fb_740_14 (fBz h0 hB0)
    have b3 := fBd fb_740_15 (fBz h0 hB0)
    have la0 := laP_bd hp3
    refine And.intro ⟨rfl, by decide, by decide⟩ (fgetf fb_740_11 h0 hB0 ?_)
    intro z4 lz4 uz4 qz4
    refine And.intro (And.intro (by first | exact fi_ lz4 uz4 rfl | omega) (by first | exact ⟨by decide, by decide⟩ | omega)) (And.intro ?_ ?_)
    · intro c5
      refine And.intro ⟨rfl, by decide, by decide⟩ (fgetf fb_740_11 h0 hB0 ?_)
      intro z6 lz6 uz6 qz6
      refine And.intro (And.intro (by first | exact fi_ lz6 uz6 rfl | omega) (by first | exact ⟨by decide, by decide⟩ | omega)) (And.intro ?_ ?_)
      · intro c7
        refine Exists.intro xm_423 (And.intro mi_423 (And.intro ⟨rfl, rfl, rfl, rfl⟩ (And.intro rfl ?_)))
        refine fcallp hB0 (ct_M_isSign_90da9 (fBz h0 hB0) (by first | exact ⟨by decide, by decide⟩ | omega)) ?_
        rintro _ ⟨z8, rfl, hz8, g0z8⟩
        refine And.intro (by omega) (And.intro ?_ ?_)
        · intro c9
          refine Exists.intro xm_423 (And.intro mi_423 (And.intro ⟨rfl, rfl, rfl, rfl⟩ (And.intro rfl ?_)))
          refine fcallp hB0 (ct_M_isSign_90da9 (fBz h0 hB0) (by first | exact ⟨by decide, by decide⟩ | omega)) ?_
          rintro _ ⟨z10, rfl, hz10, g0z10⟩
          refine And.intro (by omega) (And.intro ?_ ?_)
          · intro c11
            refine And.intro (⟨by decide, by decide⟩) ?_
            exact ⟨_, rfl, by omega, sBe_refl, (fun q => absurd q (by omega)), (p0_no (by omega) (by first | exact (fun q => nm_0 g0nil0 (by omega) (by rw [qnil0]; exact q.2.2)) | exact (fun q => by have q1 := q.1; clear q; omega) | exact (fun q => by have q1 := q.2.1; clear q; omega)) (by first | exact (fun q => sgP_0 g0z8 (by omega) q.1 q.2.1) | exact (fun q => by have q3 := q.2.2; omega)) (by first | exact (fun q => sgP_0 g0z10 (by omega) q.1 q.2.1) | exact (fun q => by have q3 := q.2.2; omega)) (by omega)), hp5, (fun q => absurd q (by omega))⟩
          · intro c12
            have sg2 := sgP_1 g0z10 (by omega)
            refine And.intro ⟨rfl, by decide, by decide⟩ (fgetf fb_740_14 h0 hB0 ?_)
            intro z13 lz13 uz13 qz13
            refine And.intro (And.intro (by first | exact fi_ lz13 uz13 rfl | omega) (by first | exact ⟨by decide, by decide⟩ | omega)) (And.intro ?_ ?_)
            · intro c14
              have d9 := dkI_3 hp5 (by omega)
              refine And.intro ⟨rfl, by decide, by decide⟩ (fgetf fb_740_14 h0 hB0 ?_)
              intro z15 lz15 uz15 qz15
              refine And.intro ⟨rfl, by decide, by decide⟩ (And.intro rfl (And.intro (Or.inl rfl) (fputf fb_740_14 (by decide +kernel) hW (by omega) ?_)))
              intro IhB16 ehB16 hB16
              have t17 : IhB16 740 9 = I 740 9 := (congrFun (congrFun ehB16 740) 9).trans (fup_ne (by first | decide | omega))
              have t18 : IhB16 740 10 = I 740 10 := (congrFun (congrFun ehB16 740) 10).trans (fup_ne (by first | decide | omega))
              have t19 : IhB16 740 11 = I 740 11 := (congrFun (congrFun ehB16 740) 11).trans (fup_ne (by first | decide | omega))
              have t20 : IhB16 740 12 = I 740 12 := (congrFun (congrFun ehB16 740) 12).trans (fup_ne (by first | decide | omega))
              have t21 : IhB16 740 13 = I 740 13 := (congrFun (congrFun ehB16 740) 13).trans (fup_ne (by first | decide | omega))
              have t22 := fup_at ehB16 14 (by first | rfl | omega)
              have t23 : IhB16 740 15 = I 740 15 := (congrFun (congrFun ehB16 740) 15).trans (fup_ne (by first | decide | omega))
              have t24 : IhB16 740 16 = I 740 16 := (congrFun (congrFun ehB16 740) 16).trans (fup_ne (by first | decide | omega))
              have t25 : IhB16 740 18 = I 740 18 := (congrFun (congrFun ehB16 740) 18).trans (fup_ne (by first | decide | omega))
              have k26 := fBz_eq hB16 (a := 740) (j := 8) (by decide +kernel)
              have k27 := fBz_eq hB16 (a := 740) (j := 17) (by decide +kernel)
              refine Exists.intro xm_314 (And.intro mi_314 (And.intro ⟨rfl, rfl, rfl, rfl⟩ (And.intro rfl ?_)))
              refine fcall _ h0 (fzs_sub (by decide +kernel) hW) hB16 (ct_M_next_c8003 (fBz h0 hB16) (by omega)) ?_
              rintro IhB29 _ hB29 fhB29 ⟨rfl, hz28, g0z28, g1z28⟩
              have t30 := fhB29 740 14 (by decide +kernel)
              have t31 := fhB29 740 15 (by decide +kernel)
              have t32 := fhB29 740 16 (by decide +kernel)
              have t33 := fhB29 740 18 (by decide +kernel)
              have k34 := fBz_eq hB29 (a := 740) (j := 8) (by decide +kernel)
              have k35 := fBz_eq hB29 (a := 740) (j := 17) (by decide +kernel)
              exfalso
              omega
            · intro c36
              refine And.intro (⟨by decide, by decide⟩) ?_
              exact ⟨_, rfl, by omega, sBe_refl, (fun q => absurd q (by omega)), (p0_no (by omega) (by first | exact (fun q => nm_0 g0nil0 (by omega) (by rw [qnil0]; exact q.2.2)) | exact (fun q => by have q1 := q.1; clear q; omega) | exact (fun q => by have q1 := q.2.1; clear q; omega)) (by first | exact (fun q => sgP_0 g0z8 (by omega) q.1 q.2.1) | exact (fun q => by have q3 := q.2.2; omega)) (by first | exact (fun q => sgP_0 g0z10 (by omega) q.1 q.2.1) | exact (fun q => by have q3 := q.2.2; omega)) (by omega)), hp5, (fun q => absurd q (by omega))⟩
        · intro c37
          have sg := sgP_1 g0z8 (by omega)
          refine And.intro ⟨rfl, by decide, by decide⟩ (fgetf fb_740_15 h0 hB0 ?_)
          intro z38 lz38 uz38 qz38
          refine And.intro (And.intro (by first | exact fi_ lz38 uz38 rfl | omega) (by first | exact ⟨by decide, by decide⟩ | omega)) (And.intro ?_ ?_)
          · intro c39
            refine Exists.intro xm_423 (And.intro mi_423 (And.intro ⟨rfl, rfl, rfl, rfl⟩ (And.intro rfl ?_)))
            refine fcallp hB0 (ct_M_isSign_90da9 (fBz h0 hB0) (by first | exact ⟨by decide, by decide⟩ | omega)) ?_
            rintro _ ⟨z40, rfl, hz40, g0z40⟩
            refine And.intro (by omega) (And.intro ?_ ?_)
            · intro c41
              refine And.intro (⟨by decide, by decide⟩) ?_
              exact ⟨_, rfl, by omega, sBe_refl, (fun q => absurd q (by omega)), (p0_no (by omega) (by first | exact (fun q => nm_0 g0nil0 (by omega) (by rw [qnil0]; exact q.2.2)) | exact (fun q => by have q1 := q.1; clear q; omega) | exact (fun q => by have q1 := q.2.1; clear q; omega)) (by first | exact (fun q => sgP_0 g0z8 (by omega) q.1 q.2.1) | exact (fun q => by have q3 := q.2.2; omega)) (by first | exact (fun q => sgP_0 g0z40 (by omega) q.1 q.2.1) | exact (fun q => by have q3 := q.2.2; omega)) (by omega)), hp5, (fun q => absurd q (by omega))⟩
            · intro c42
              have sg2 := sgP_1 g0z40 (by omega)
              refine And.intro ⟨rfl, by decide, by decide⟩ (fgetf fb_740_14 h0 hB0 ?_)
              intro z43 lz43 uz43 qz43
              refine And.intro (And.intro (by first | exact fi_ lz43 uz43 rfl | omega) (by first | exact ⟨by decide, by decide⟩ | omega)) (And.intro ?_ ?_)
              · intro c44
                have d9 := dkI_3 hp5 (by omega)
                refine And.intro ⟨rfl, by decide, by decide⟩ (fgetf fb_740_14 h0 hB0 ?_)
                intro z45 lz45 uz45 qz45
                refine And.intro ⟨rfl, by decide, by decide⟩ (And.intro rfl (And.intro (Or.inl rfl) (fputf fb_740_14 (by decide +kernel) hW (by omega) ?_)))
                intro IhB46 ehB46 hB46
                have t47 : IhB46 740 9 = I 740 9 := (congrFun (congrFun ehB46 740) 9).trans (fup_ne (by first | decide | omega))
                have t48 : IhB46 740 10 = I 740 10 := (congrFun (congrFun ehB46 740) 10).trans (fup_ne (by first | decide | omega))
                have t49 : IhB46 740 11 = I 740 11 := (congrFun (congrFun ehB46 740) 11).trans (fup_ne (by first | decide | omega))
                have t50 : IhB46 740 12 = I 740 12 := (congrFun (congrFun ehB46 740) 12).trans (fup_ne (by first | decide | omega))
                have t51 : IhB46 740 13 = I 740 13 := (congrFun (congrFun ehB46 740) 13).trans (fup_ne (by first | decide | omega))
                have t52 := fup_at ehB46 14 (by first | rfl | omega)
                have t53 : IhB46 740 15 = I 740 15 := (congrFun (congrFun ehB46 740) 15).trans (fup_ne (by first | decide | omega))
                have t54 : IhB46 740 16 = I 740 16 := (congrFun (congrFun ehB46 740) 16).trans (fup_ne (by first | decide | omega))
                have t55 : IhB46 740 18 = I 740 18 := (congrFun (congrFun ehB46 740) 18).trans (fup_ne (by first | decide | omega))
                have k56 := fBz_eq hB46 (a := 740) (j := 8) (by decide +kernel)
                have k57 := fBz_eq hB46 (a := 740) (j := 17) (by decide +kernel)
                refine Exists.intro xm_314 (And.intro mi_314 (And.intro ⟨rfl, rfl, rfl, rfl⟩ (And.intro rfl ?_)))
                refine fcall _ h0 (fzs_sub (by decide +kernel) hW) hB46 (ct_M_next_c8003 (fBz h0 hB46) (by omega)) ?_
                rintro IhB59 _ hB59 fhB59 ⟨rfl, hz58, g0z58, g1z58⟩
                have t60 := fhB59 740 14 (by decide +kernel)
                have t61 := fhB59 740 15 (by decide +kernel)
                have t62 := fhB59 740 16 (by decide +kernel)
                have t63 := fhB59 740 18 (by decide +kernel)
                have k64 := fBz_eq hB59 (a := 740) (j := 8) (by decide +kernel)
                have k65 := fBz_eq hB59 (a := 740) (j := 17) (by decide +kernel)
                exfalso
                omega
              · intro c66
                refine And.intro (⟨by decide, by decide⟩) ?_
                exact ⟨_, rfl, by omega, sBe_refl, (fun q => absurd q (by omega)), (p0_no (by omega) (by first | exact (fun q => nm_0 g0nil0 (by omega) (by rw [qnil0]; exact q.2.2)) | exact (fun q => by have q1 := q.1; clear q; omega) | exact (fun q => by have q1 := q.2.1; clear q; omega)) (by first | exact (fun q => sgP_0 g0z8 (by omega) q.1 q.2.1) | exact (fun q => by have q3 := q.2.2; omega)) (by first | exact (fun q => sgP_0 g0z40 (by omega) q.1 q.2.1) | exact (fun q => by have q3 := q.2.2; omega)) (by omega)), hp5, (fun q => absurd q (by omega))⟩
          · intro c67
            have d9 := dkI_3 hp5 (by omega)
            refine And.intro ⟨rfl, by decide, by decide⟩ (fgetf fb_740_15 h0 hB0 ?_)
            intro z68 lz68 uz68 qz68
            refine And.intro ⟨rfl, by decide, by decide⟩ (And.intro rfl (And.intro (Or.inl rfl) (fputf fb_740_15 (by decide +kernel) hW (by omega) ?_)))
            intro IhB69 ehB69 hB69
            have t70 : IhB69 740 9 = I 740 9 := (congrFun (congrFun ehB69 740) 9).trans (fup_ne (by first | decide | omega))
            have t71 : IhB69 740 10 = I 740 10 := (congrFun (congrFun ehB69 740) 10).trans (fup_ne (by first | decide | omega))
            have t72 : IhB69 740 11 = I 740 11 := (congrFun (congrFun ehB69 740) 11).trans (fup_ne (by first | decide | omega))
            have t73 : IhB69 740 12 = I 740 12 := (congrFun (congrFun ehB69 740) 12).trans (fup_ne (by first | decide | omega))
            have t74 : IhB69 740 13 = I 740 13 := (congrFun (congrFun ehB69 740) 13).trans (fup_ne (by first | decide | omega))
            have t75 : IhB69 740 14 = I 740 14 := (congrFun (congrFun ehB69 740) 14).trans (fup_ne (by first | decide | omega))
            have t76 := fup_at ehB69 15 (by first | rfl | omega)
            have t77 : IhB69 740 16 = I 740 16 := (congrFun (congrFun ehB69 740) 16).trans (fup_ne (by first | decide | omega))
            have t78 : IhB69 740 18 = I 740 18 := (congrFun (congrFun ehB69 740) 18).trans (fup_ne (by first | decide | omega))
            have k79 := fBz_eq hB69 (a := 740) (j := 8) (by decide +kernel)
            have k80 := fBz_eq hB69 (a := 740) (j := 17) (by decide +kernel)
            refine Exists.intro xm_314 (And.intro mi_314 (And.intro ⟨rfl, rfl, rfl, rfl⟩ (And.intro rfl ?_)))
            refine fcall _ h0 (fzs_sub (by decide +kernel) hW) hB69 (ct_M_next_c8003 (fBz h0 hB69) (by omega)) ?_
            rintro IhB82 _ hB82 fhB82 ⟨rfl, hz81, g0z81, g1z81⟩
            have t83 := fhB82 740 14 (by decide +kernel)
            have t84 := fhB82 740 15 (by decide +kernel)
            have t85 := fhB82 740 16 (by decide +kernel)
            have t86 := fhB82 740 18 (by decide +kernel)
            have k87 := fBz_eq hB82 (a := 740) (j := 8) (by decide +kernel)
            have k88 := fBz_eq hB82 (a := 740) (j := 17) (by decide +kernel)
            exfalso
            omega
      · intro c89
        have d9 := dkI_3 hp5 (by omega)
        refine And.intro ⟨rfl, by decide, by decide⟩ (fgetf fb_740_13 h0 hB0 ?_)
        intro z90 lz90 uz90 qz90
        refine And.intro (by first | exact fi_ lz90 uz90 rfl | omega) (And.intro ?_ ?_)
        · intro c91
          refine Exists.intro xm_423 (And.intro mi_423 (And.intro ⟨rfl, rfl, rfl, rfl⟩ (And.intro rfl ?_)))
          refine fcallp hB0 (ct_M_isSign_90da9 (fBz h0 hB0) (by first | exact ⟨by decide, by decide⟩ | omega)) ?_
          rintro _ ⟨z92, rfl, hz92, g0z92⟩
          refine And.intro (by omega) (And.intro ?_ ?_)
          · intro c93
            refine Exists.intro xm_423 (And.intro mi_423 (And.intro ⟨rfl, rfl, rfl, rfl⟩ (And.intro rfl ?_)))
            refine fcallp hB0 (ct_M_isSign_90da9 (fBz h0 hB0) (by first | exact ⟨by decide, by decide⟩ | omega)) ?_
            rintro _ ⟨z94, rfl, hz94, g0z94⟩
            refine And.intro (by omega) (And.intro ?_ ?_)
            · intro c95
              refine And.intro (⟨by decide, by decide⟩) ?_
              exact ⟨_, rfl, by omega, sBe_refl, (fun q => absurd q (by omega)), (p0_no (by omega) (by first | exact (fun q => nm_0 g0nil0 (by omega) (by rw [qnil0]; exact q.2.2)) | exact (fun q => by have q1 := q.1; clear q; omega) | exact (fun q => by have q1 := q.2.1; clear q; omega)) (by first | exact (fun q => sgP_0 g0z92 (by omega) q.1 q.2.1) | exact (fun q => by have q3 := q.2.2; omega)) (by first | exact (fun q => sgP_0 g0z94 (by omega) q.1 q.2.1) | exact (fun q => by have q3 := q.2.2; omega)) (by omega)), hp5, (fun q => absurd q (by omega))⟩
            · intro c96
              have sg2 := sgP_1 g0z94 (by omega)
              refine And.intro ⟨rfl, by decide, by decide⟩ (fgetf fb_740_14 h0 hB0 ?_)
              intro z97 lz97 uz97 qz97
              refine And.intro (And.intro (by first | exact fi_ lz97 uz97 rfl | omega) (by first | exact ⟨by decide, by decide⟩ | omega)) (And.intro ?_ ?_)
              · intro c98
                have d9 := dkI_3 hp5 (by omega)
                refine And.intro ⟨rfl, by decide, by decide⟩ (fgetf fb_740_14 h0 hB0 ?_)
                intro z99 lz99 uz99 qz99
                refine And.intro ⟨rfl, by decide, by decide⟩ (And.intro rfl (And.intro (Or.inl rfl) (fputf fb_740_14 (by decide +kernel) hW (by omega) ?_)))
                intro IhB100 ehB100 hB100
                have t101 : IhB100 740 9 = I 740 9 := (congrFun (congrFun ehB100 740) 9).trans (fup_ne (by first | decide | omega))
                have t102 : IhB100 740 10 = I 740 10 := (congrFun (congrFun ehB100 740) 10).trans (fup_ne (by first | decide | omega))
                have t103 : IhB100 740 11 = I 740 11 := (congrFun (congrFun ehB100 740) 11).trans (fup_ne (by first | decide | omega))
                have t104 : IhB100 740 12 = I 740 12 := (congrFun (congrFun ehB100 740) 12).trans (fup_ne (by first | decide | omega))
                have t105 : IhB100 740 13 = I 740 13 := (congrFun (congrFun ehB100 740) 13).trans (fup_ne (by first | decide | omega))
                have t106 := fup_at ehB100 14 (by first | rfl | omega)
                have t107 : IhB100 740 15 = I 740 15 := (congrFun (congrFun ehB100 740) 15).trans (fup_ne (by first | decide | omega))
                have t108 : IhB100 740 16 = I 740 16 := (congrFun (congrFun ehB100 740) 16).trans (fup_ne (by first | decide | omega))
                have t109 : IhB100 740 18 = I 740 18 := (congrFun (congrFun ehB100 740) 18).trans (fup_ne (by first | decide | omega))
                have k110 := fBz_eq hB100 (a := 740) (j := 8) (by decide +kernel)
                have k111 := fBz_eq hB100 (a := 740) (j := 17) (by decide +kernel)
                refine Exists.intro xm_314 (And.intro mi_314 (And.intro ⟨rfl, rfl, rfl, rfl⟩ (And.intro rfl ?_)))
                refine fcall _ h0 (fzs_sub (by decide +kernel) hW) hB100 (ct_M_next_c8003 (fBz h0 hB100) (by omega)) ?_
                rintro IhB113 _ hB113 fhB113 ⟨rfl, hz112, g0z112, g1z112⟩
                have t114 := fhB113 740 14 (by decide +kernel)
                have t115 := fhB113 740 15 (by decide +kernel)
                have t116 := fhB113 740 16 (by decide +kernel)
                have t117 := fhB113 740 18 (by decide +kernel)
                have k118 := fBz_eq hB113 (a := 740) (j := 8) (by decide +kernel)
                have k119 := fBz_eq hB113 (a := 740) (j := 17) (by decide +kernel)
                exfalso
                omega
              · intro c120
                refine And.intro (⟨by decide, by decide⟩) ?_
                exact ⟨_, rfl, by omega, sBe_refl, (fun q => absurd q (by omega)), (p0_no (by omega) (by first | exact (fun q => nm_0 g0nil0 (by omega) (by rw [qnil0]; exact q.2.2)) | exact (fun q => by have q1 := q.1; clear q; omega) | exact (fun q => by have q1 := q.2.1; clear q; omega)) (by first | exact (fun q => sgP_0 g0z92 (by omega) q.1 q.2.1) | exact (fun q => by have q3 := q.2.2; omega)) (by first | exact (fun q => sgP_0 g0z94 (by omega) q.1 q.2.1) | exact (fun q => by have q3 := q.2.2; omega)) (by omega)), hp5, (fun q => absurd q (by omega))⟩
          · intro c121
            have sg := sgP_1 g0z92 (by omega)
            refine And.intro ⟨rfl, by decide, by decide⟩ (fgetf fb_740_15 h0 hB0 ?_)
            intro z122 lz122 uz122 qz122
            refine And.intro (And.intro (by first | exact fi_ lz122 uz122 rfl | omega) (by first | exact ⟨by decide, by decide⟩ | omega)) (And.intro ?_ ?_)
            · intro c123
              refine Exists.intro xm_423 (And.intro mi_423 (And.intro ⟨rfl, rfl, rfl, rfl⟩ (And.intro rfl ?_)))
              refine fcallp hB0 (ct_M_isSign_90da9 (fBz h0 hB0) (by first | exact ⟨by decide, by decide⟩ | omega)) ?_
              rintro _ ⟨z124, rfl, hz124, g0z124⟩
              refine And.intro (by omega) (And.intro ?_ ?_)
              · intro c125
                refine And.intro (⟨by decide, by decide⟩) ?_
                exact ⟨_, rfl, by omega, sBe_refl, (fun q => absurd q (by omega)), (p0_no (by omega) (by first | exact (fun q => nm_0 g0nil0 (by omega) (by rw [qnil0]; exact q.2.2)) | exact (fun q => by have q1 := q.1; clear q; omega) | exact (fun q => by have q1 := q.2.1; clear q; omega)) (by first | exact (fun q => sgP_0 g0z92 (by omega) q.1 q.2.1) | exact (fun q => by have q3 := q.2.2; omega)) (by first | exact (fun q => sgP_0 g0z124 (by omega) q.1 q.2.1) | exact (fun q => by have q3 := q.2.2; omega)) (by omega)), hp5, (fun q => absurd q (by omega))⟩
              · intro c126
                have sg2 := sgP_1 g0z124 (by omega)
                refine And.intro ⟨rfl, by decide, by decide⟩ (fgetf fb_740_14 h0 hB0 ?_)
                intro z127 lz127 uz127 qz127
                refine And.intro (And.intro (by first | exact fi_ lz127 uz127 rfl | omega) (by first | exact ⟨by decide, by decide⟩ | omega)) (And.intro ?_ ?_)
                · intro c128
                  have d9 := dkI_3 hp5 (by omega)
                  refine And.intro ⟨rfl, by decide, by decide⟩ (fgetf fb_740_14 h0 hB0 ?_)
                  intro z129 lz129 uz129 qz129
                  refine And.intro ⟨rfl, by decide, by decide⟩ (And.intro rfl (And.intro (Or.inl rfl) (fputf fb_740_14 (by decide +kernel) hW (by omega) ?_)))
                  intro IhB130 ehB130 hB130
                  have t131 : IhB130 740 9 = I 740 9 := (congrFun (congrFun ehB130 740) 9).trans (fup_ne (by first | decide | omega))
                  have t132 : IhB130 740 10 = I 740 10 := (congrFun (congrFun ehB130 740) 10).trans (fup_ne (by first | decide | omega))
                  have t133 : IhB130 740 11 = I 740 11 := (congrFun (congrFun ehB130 740) 11).trans (fup_ne (by first | decide | omega))
                  have t134 : IhB130 740 12 = I 740 12 := (congrFun (congrFun ehB130 740) 12).trans (fup_ne (by first | decide | omega))
                  have t135 : IhB130 740 13 = I 740 13 := (congrFun (congrFun ehB130 740) 13).trans (fup_ne (by first | decide | omega))
                  have t136 := fup_at ehB130 14 (by first | rfl | omega)
                  have t137 : IhB130 740 15 = I 740 15 := (congrFun (congrFun ehB130 740) 15).trans (fup_ne (by first | decide | omega))
                  have t138 : IhB130 740 16 = I 740 16 := (congrFun (congrFun ehB130 740) 16).trans (fup_ne (by first | decide | omega))
                  have t139 : IhB130 740 18 = I 740 18 := (congrFun (congrFun ehB130 740) 18).trans (fup_ne (by first | decide | omega))
                  have k140 := fBz_eq hB130 (a := 740) (j := 8) (by decide +kernel)
                  have k141 := fBz_eq hB130 (a := 740) (j := 17) (by decide +kernel)
                  refine Exists.intro xm_314 (And.intro mi_314 (And.intro ⟨rfl, rfl, rfl, rfl⟩ (And.intro rfl ?_)))
                  refine fcall _ h0 (fzs_sub (by decide +kernel) hW) hB130 (ct_M_next_c8003 (fBz h0 hB130) (by omega)) ?_
                  rintro IhB143 _ hB143 fhB143 ⟨rfl, hz142, g0z142, g1z142⟩
                  have t144 := fhB143 740 14 (by decide +kernel)
                  have t145 := fhB143 740 15 (by decide +kernel)
                  have t146 := fhB143 740 16 (by decide +kernel)
                  have t147 := fhB143 740 18 (by decide +kernel)
                  have k148 := fBz_eq hB143 (a := 740) (j := 8) (by decide +kernel)
                  have k149 := fBz_eq hB143 (a := 740) (j := 17) (by decide +kernel)
                  exfalso
                  omega
                · intro c150
                  refine And.intro (⟨by decide, by decide⟩) ?_
                  exact ⟨_, rfl, by omega, sBe_refl, (fun q => absurd q (by omega)), (p0_no (by omega) (by first | exact (fun q => nm_0 g0nil0 (by omega) (by rw [qnil0]; exact q.2.2)) | exact (fun q => by have q1 := q.1; clear q; omega) | exact (fun q => by have q1 := q.2.1; clear q; omega)) (by first | exact (fun q => sgP_0 g0z92 (by omega) q.1 q.2.1) | exact (fun q => by have q3 := q.2.2; omega)) (by first | exact (fun q => sgP_0 g0z124 (by omega) q.1 q.2.1) | exact (fun q => by have q3 := q.2.2; omega)) (by omega)), hp5, (fun q => absurd q (by omega))⟩
            · intro c151
              have d9 := dkI_3 hp5 (by omega)
              refine And.intro ⟨rfl, by decide, by decide⟩ (fgetf fb_740_15 h0 hB0 ?_)
              intro z152 lz152 uz152 qz152
              refine And.intro ⟨rfl, by decide, by decide⟩ (And.intro rfl (And.intro (Or.inl rfl) (fputf fb_740_15 (by decide +kernel) hW (by omega) ?_)))
              intro IhB153 ehB153 hB153
              have t154 : IhB153 740 9 = I 740 9 := (congrFun (congrFun ehB153 740) 9).trans (fup_ne (by first | decide | omega))
              have t155 : IhB153 740 10 = I 740 10 := (congrFun (congrFun ehB153 740) 10).trans (fup_ne (by first | decide | omega))
              have t156 : IhB153 740 11 = I 740 11 := (congrFun (congrFun ehB153 740) 11).trans (fup_ne (by first | decide | omega))
              have t157 : IhB153 740 12 = I 740 12 := (congrFun (congrFun ehB153 740) 12).trans (fup_ne (by first | decide | omega))
              have t158 : IhB153 740 13 = I 740 13 := (congrFun (congrFun ehB153 740) 13).trans (fup_ne (by first | decide | omega))
              have t159 : IhB153 740 14 = I 740 14 := (congrFun (congrFun ehB153 740) 14).trans (fup_ne (by first | decide | omega))
              have t160 := fup_at ehB153 15 (by first | rfl | omega)
              have t161 : IhB153 740 16 = I 740 16 := (congrFun (congrFun ehB153 740) 16).trans (fup_ne (by first | decide | omega))
              have t162 : IhB153 740 18 = I 740 18 := (congrFun (congrFun ehB153 740) 18).trans (fup_ne (by first | decide | omega))
              have k163 := fBz_eq hB153 (a := 740) (j := 8) (by decide +kernel)
              have k164 := fBz_eq hB153 (a := 740) (j := 17) (by decide +kernel)
              refine Exists.intro xm_314 (And.intro mi_314 (And.intro ⟨rfl, rfl, rfl, rfl⟩ (And.intro rfl ?_)))
              refine fcall _ h0 (fzs_sub (by decide +kernel) hW) hB153 (ct_M_next_c8003 (fBz h0 hB153) (by omega)) ?_
              rintro IhB166 _ hB166 fhB166 ⟨rfl, hz165, g0z165, g1z165⟩
              have t167 := fhB166 740 14 (by decide +kernel)
              have t168 := fhB166 740 15 (by decide +kernel)
              have t169 := fhB166 740 16 (by decide +kernel)
              have t170 := fhB166 740 18 (by decide +kernel)
              have k171 := fBz_eq hB166 (a := 740) (j := 8) (by decide +kernel)
              have k172 := fBz_eq hB166 (a := 740) (j := 17) (by decide +kernel)
              exfalso
              omega
        · intro c173
          refine And.intro ⟨rfl, by decide, by decide⟩ (fgetf fb_740_13 h0 hB0 ?_)
          intro z174 lz174 uz174 qz174
          refine Exists.intro xm_422 (And.intro mi_422 (And.intro ⟨rfl, rfl, rfl, rfl⟩ (And.intro True.intro ?_)))
          refine fcallp hB0 (ct_M_isName_49450 (fBz h0 hB0) (by first | exact ⟨ha1.1, ha1.2⟩ | omega) (by first | exact ⟨lz174, uz174⟩ | omega)) ?_
          rintro _ ⟨z175, rfl, hz175, g0z175⟩
          refine And.intro (by omega) (And.intro ?_ ?_)
          · intro c176
            refine Exists.intro xm_423 (And.intro mi_423 (And.intro ⟨rfl, rfl, rfl, rfl⟩ (And.intro rfl ?_)))
            refine fcallp hB0 (ct_M_isSign_90da9 (fBz h0 hB0) (by first | exact ⟨by decide, by decide⟩ | omega)) ?_
            rintro _ ⟨z177, rfl, hz177, g0z177⟩
            refine And.intro (by omega) (And.intro ?_ ?_)
            · intro c178
              refine Exists.intro xm_423 (And.intro mi_423 (And.intro ⟨rfl, rfl, rfl, rfl⟩ (And.intro rfl ?_)))
              refine fcallp hB0 (ct_M_isSign_90da9 (fBz h0 hB0) (by first | exact ⟨by decide, by decide⟩ | omega)) ?_
              rintro _ ⟨z179, rfl, hz179, g0z179⟩
              refine And.intro (by omega) (And.intro ?_ ?_)
              · intro c180
                refine And.intro (⟨by decide, by decide⟩) ?_
                exact ⟨_, rfl, by omega, sBe_refl, (fun q => absurd q (by omega)), (p0_no (by omega) (by first | exact (fun q => nm_0 g0z175 (by omega) (by rw [qz174]; exact q.2.2)) | exact (fun q => by have q1 := q.1; clear q; omega) | exact (fun q => by have q1 := q.2.1; clear q; omega)) (by first | exact (fun q => sgP_0 g0z177 (by omega) q.1 q.2.1) | exact (fun q => by have q3 := q.2.2; omega)) (by first | exact (fun q => sgP_0 g0z179 (by omega) q.1 q.2.1) | exact (fun q => by have q3 := q.2.2; omega)) (by omega)), hp5, (fun q => absurd q (by omega))⟩
              · intro c181
                have sg2 := sgP_1 g0z179 (by omega)
                refine And.intro ⟨rfl, by decide, by decide⟩ (fgetf fb_740_14 h0 hB0 ?_)
                intro z182 lz182 uz182 qz182
                refine And.intro (And.intro (by first | exact fi_ lz182 uz182 rfl | omega) (by first | exact ⟨by decide, by decide⟩ | omega)) (And.intro ?_ ?_)
                · intro c183
                  have d9 := dkI_3 hp5 (by omega)
                  refine And.intro ⟨rfl, by decide, by decide⟩ (fgetf fb_740_14 h0 hB0 ?_)
                  intro z184 lz184 uz184 qz184
                  refine And.intro ⟨rfl, by decide, by decide⟩ (And.intro rfl (And.intro (Or.inl rfl) (fputf fb_740_14 (by decide +kernel) hW (by omega) ?_)))
                  intro IhB185 ehB185 hB185
                  have t186 : IhB185 740 9 = I 740 9 := (congrFun (congrFun ehB185 740) 9).trans (fup_ne (by first | decide | omega))
                  have t187 : IhB185 740 10 = I 740 10 := (congrFun (congrFun ehB185 740) 10).trans (fup_ne (by first | decide | omega))
                  have t188 : IhB185 740 11 = I 740 11 := (congrFun (congrFun ehB185 740) 11).trans (fup_ne (by first | decide | omega))
                  have t189 : IhB185 740 12 = I 740 12 := (congrFun (congrFun ehB185 740) 12).trans (fup_ne (by first | decide | omega))
                  have t190 : IhB185 740 13 = I 740 13 := (congrFun (congrFun ehB185 740) 13).trans (fup_ne (by first | decide | omega))
                  have t191 := fup_at ehB185 14 (by first | rfl | omega)
                  have t192 : IhB185 740 15 = I 740 15 := (congrFun (congrFun ehB185 740) 15).trans (fup_ne (by first | decide | omega))
                  have t193 : IhB185 740 16 = I 740 16 := (congrFun (congrFun ehB185 740) 16).trans (fup_ne (by first | decide | omega))
                  have t194 : IhB185 740 18 = I 740 18 := (congrFun (congrFun ehB185 740) 18).trans (fup_ne (by first | decide | omega))
                  have k195 := fBz_eq hB185 (a := 740) (j := 8) (by decide +kernel)
                  have k196 := fBz_eq hB185 (a := 740) (j := 17) (by decide +kernel)
                  refine Exists.intro xm_314 (And.intro mi_314 (And.intro ⟨rfl, rfl, rfl, rfl⟩ (And.intro rfl ?_)))
                  refine fcall _ h0 (fzs_sub (by decide +kernel) hW) hB185 (ct_M_next_c8003 (fBz h0 hB185) (by omega)) ?_
                  rintro IhB198 _ hB198 fhB198 ⟨rfl, hz197, g0z197, g1z197⟩
                  have t199 := fhB198 740 14 (by decide +kernel)
                  have t200 := fhB198 740 15 (by decide +kernel)
                  have t201 := fhB198 740 16 (by decide +kernel)
                  have t202 := fhB198 740 18 (by decide +kernel)
                  have k203 := fBz_eq hB198 (a := 740) (j := 8) (by decide +kernel)
                  have k204 := fBz_eq hB198 (a := 740) (j := 17) (by decide +kernel)
                  exfalso
                  omega
                · intro c205
                  refine And.intro (⟨by decide, by decide⟩) ?_
                  exact ⟨_, rfl, by omega, sBe_refl, (fun q => absurd q (by omega)), (p0_no (by omega) (by first | exact (fun q => nm_0 g0z175 (by omega) (by rw [qz174]; exact q.2.2)) | exact (fun q => by have q1 := q.1; clear q; omega) | exact (fun q => by have q1 := q.2.1; clear q; omega)) (by first | exact (fun q => sgP_0 g0z177 (by omega) q.1 q.2.1) | exact (fun q => by have q3 := q.2.2; omega)) (by first | exact (fun q => sgP_0 g0z179 (by omega) q.1 q.2.1) | exact (fun q => by have q3 := q.2.2; omega)) (by omega)), hp5, (fun q => absurd q (by omega))⟩
            · intro c206
              have sg := sgP_1 g0z177 (by omega)
              refine And.intro ⟨rfl, by decide, by decide⟩ (fgetf fb_740_15 h0 hB0 ?_)
              intro z207 lz207 uz207 qz207
              refine And.intro (And.intro (by first | exact fi_ lz207 uz207 rfl | omega) (by first | exact ⟨by decide, by decide⟩ | omega)) (And.intro ?_ ?_)
              · intro c208
                refine Exists.intro xm_423 (And.intro mi_423 (And.intro ⟨rfl, rfl, rfl, rfl⟩ (And.intro rfl ?_)))
                refine fcallp hB0 (ct_M_isSign_90da9 (fBz h0 hB0) (by first | exact ⟨by decide, by decide⟩ | omega)) ?_
                rintro _ ⟨z209, rfl, hz209, g0z209⟩
                refine And.intro (by omega) (And.intro ?_ ?_)
                · intro c210
                  refine And.intro (⟨by decide, by decide⟩) ?_
                  exact ⟨_, rfl, by omega, sBe_refl, (fun q => absurd q (by omega)), (p0_no (by omega) (by first | exact (fun q => nm_0 g0z175 (by omega) (by rw [qz174]; exact q.2.2)) | exact (fun q => by have q1 := q.1; clear q; omega) | exact (fun q => by have q1 := q.2.1; clear q; omega)) (by first | exact (fun q => sgP_0 g0z177 (by omega) q.1 q.2.1) | exact (fun q => by have q3 := q.2.2; omega)) (by first | exact (fun q => sgP_0 g0z209 (by omega) q.1 q.2.1) | exact (fun q => by have q3 := q.2.2; omega)) (by omega)), hp5, (fun q => absurd q (by omega))⟩
                · intro c211
                  have sg2 := sgP_1 g0z209 (by omega)
                  refine And.intro ⟨rfl, by decide, by decide⟩ (fgetf fb_740_14 h0 hB0 ?_)
                  intro z212 lz212 uz212 qz212
                  refine And.intro (And.intro (by first | exact fi_ lz212 uz212 rfl | omega) (by first | exact ⟨by decide, by decide⟩ | omega)) (And.intro ?_ ?_)
                  · intro c213
                    have d9 := dkI_3 hp5 (by omega)
                    refine And.intro ⟨rfl, by decide, by decide⟩ (fgetf fb_740_14 h0 hB0 ?_)
                    intro z214 lz214 uz214 qz214
                    refine And.intro ⟨rfl, by decide, by decide⟩ (And.intro rfl (And.intro (Or.inl rfl) (fputf fb_740_14 (by decide +kernel) hW (by omega) ?_)))
                    intro IhB215 ehB215 hB215
                    have t216 : IhB215 740 9 = I 740 9 := (congrFun (congrFun ehB215 740) 9).trans (fup_ne (by first | decide | omega))
                    have t217 : IhB215 740 10 = I 740 10 := (congrFun (congrFun ehB215 740) 10).trans (fup_ne (by first | decide | omega))
                    have t218 : IhB215 740 11 = I 740 11 := (congrFun (congrFun ehB215 740) 11).trans (fup_ne (by first | decide | omega))
                    have t219 : IhB215 740 12 = I 740 12 := (congrFun (congrFun ehB215 740) 12).trans (fup_ne (by first | decide | omega))
                    have t220 : IhB215 740 13 = I 740 13 := (congrFun (congrFun ehB215 740) 13).trans (fup_ne (by first | decide | omega))
                    have t221 := fup_at ehB215 14 (by first | rfl | omega)
                    have t222 : IhB215 740 15 = I 740 15 := (congrFun (congrFun ehB215 740) 15).trans (fup_ne (by first | decide | omega))
                    have t223 : IhB215 740 16 = I 740 16 := (congrFun (congrFun ehB215 740) 16).trans (fup_ne (by first | decide | omega))
                    have t224 : IhB215 740 18 = I 740 18 := (congrFun (congrFun ehB215 740) 18).trans (fup_ne (by first | decide | omega))
                    have k225 := fBz_eq hB215 (a := 740) (j := 8) (by decide +kernel)
                    have k226 := fBz_eq hB215 (a := 740) (j := 17) (by decide +kernel)
                    refine Exists.intro xm_314 (And.intro mi_314 (And.intro ⟨rfl, rfl, rfl, rfl⟩ (And.intro rfl ?_)))
                    refine fcall _ h0 (fzs_sub (by decide +kernel) hW) hB215 (ct_M_next_c8003 (fBz h0 hB215) (by omega)) ?_
                    rintro IhB228 _ hB228 fhB228 ⟨rfl, hz227, g0z227, g1z227⟩
                    have t229 := fhB228 740 14 (by decide +kernel)
                    have t230 := fhB228 740 15 (by decide +kernel)
                    have t231 := fhB228 740 16 (by decide +kernel)
                    have t232 := fhB228 740 18 (by decide +kernel)
                    have k233 := fBz_eq hB228 (a := 740) (j := 8) (by decide +kernel)
                    have k234 := fBz_eq hB228 (a := 740) (j := 17) (by decide +kernel)
                    exfalso
                    omega
                  · intro c235
                    refine And.intro (⟨by decide, by decide⟩) ?_
                    exact ⟨_, rfl, by omega, sBe_refl, (fun q => absurd q (by omega)), (p0_no (by omega) (by first | exact (fun q => nm_0 g0z175 (by omega) (by rw [qz174]; exact q.2.2)) | exact (fun q => by have q1 := q.1; clear q; omega) | exact (fun q => by have q1 := q.2.1; clear q; omega)) (by first | exact (fun q => sgP_0 g0z177 (by omega) q.1 q.2.1) | exact (fun q => by have q3 := q.2.2; omega)) (by first | exact (fun q => sgP_0 g0z209 (by omega) q.1 q.2.1) | exact (fun q => by have q3 := q.2.2; omega)) (by omega)), hp5, (fun q => absurd q (by omega))⟩
              · intro c236
                have d9 := dkI_3 hp5 (by omega)
                refine And.intro ⟨rfl, by decide, by decide⟩ (fgetf fb_740_15 h0 hB0 ?_)
                intro z237 lz237 uz237 qz237
                refine And.intro ⟨rfl, by decide, by decide⟩ (And.intro rfl (And.intro (Or.inl rfl) (fputf fb_740_15 (by decide +kernel) hW (by omega) ?_)))
                intro IhB238 ehB238 hB238
                have t239 : IhB238 740 9 = I 740 9 := (congrFun (congrFun ehB238 740) 9).trans (fup_ne (by first | decide | omega))
                have t240 : IhB238 740 10 = I 740 10 := (congrFun (congrFun ehB238 740) 10).trans (fup_ne (by first | decide | omega))
                have t241 : IhB238 740 11 = I 740 11 := (congrFun (congrFun ehB238 740) 11).trans (fup_ne (by first | decide | omega))
                have t242 : IhB238 740 12 = I 740 12 := (congrFun (congrFun ehB238 740) 12).trans (fup_ne (by first | decide | omega))
                have t243 : IhB238 740 13 = I 740 13 := (congrFun (congrFun ehB238 740) 13).trans (fup_ne (by first | decide | omega))
                have t244 : IhB238 740 14 = I 740 14 := (congrFun (congrFun ehB238 740) 14).trans (fup_ne (by first | decide | omega))
                have t245 := fup_at ehB238 15 (by first | rfl | omega)
                have t246 : IhB238 740 16 = I 740 16 := (congrFun (congrFun ehB238 740) 16).trans (fup_ne (by first | decide | omega))
                have t247 : IhB238 740 18 = I 740 18 := (congrFun (congrFun ehB238 740) 18).trans (fup_ne (by first | decide | omega))
                have k248 := fBz_eq hB238 (a := 740) (j := 8) (by decide +kernel)
                have k249 := fBz_eq hB238 (a := 740) (j := 17) (by decide +kernel)
                refine Exists.intro xm_314 (And.intro mi_314 (And.intro ⟨rfl, rfl, rfl, rfl⟩ (And.intro rfl ?_)))
                refine fcall _ h0 (fzs_sub (by decide +kernel) hW) hB238 (ct_M_next_c8003 (fBz h0 hB238) (by omega)) ?_
                rintro IhB251 _ hB251 fhB251 ⟨rfl, hz250, g0z250, g1z250⟩
                have t252 := fhB251 740 14 (by decide +kernel)
                have t253 := fhB251 740 15 (by decide +kernel)
                have t254 := fhB251 740 16 (by decide +kernel)
                have t255 := fhB251 740 18 (by decide +kernel)
                have k256 := fBz_eq hB251 (a := 740) (j := 8) (by decide +kernel)
                have k257 := fBz_eq hB251 (a := 740) (j := 17) (by decide +kernel)
                exfalso
                omega
          · intro c258
            refine And.intro ⟨rfl, by decide, by decide⟩ (fgetf fb_740_13 h0 hB0 ?_)
            intro z259 lz259 uz259 qz259
            refine Exists.intro xm_421 (And.intro mi_421 (And.intro ⟨rfl, rfl, rfl, rfl⟩ (And.intro rfl ?_)))
            refine fcall _ h0 (fzs_sub (by decide +kernel) hW) hB0 (ct_M_step_2c704 (fBz h0 hB0) (by first | exact ⟨by decide, by decide⟩ | omega) (by first | exact ⟨lz259, uz259⟩ | omega) (by omega) (laP_cg hp3 (by omega))) ?_
            rintro IhB261 _ hB261 fhB261 ⟨rfl, hz260, g0z260⟩
            have t262 := fhB261 740 9 (by decide +kernel)
            have t263 := fhB261 740 10 (by decide +kernel)
            have t264 := fhB261 740 11 (by decide +kernel)
            have t265 := fhB261 740 12 (by decide +kernel)
            have t266 := fhB261 740 13 (by decide +kernel)
            have t267 := fhB261 740 14 (by decide +kernel)
            have t268 := fhB261 740 15 (by decide +kernel)
            have t269 := fhB261 740 18 (by decide +kernel)
            have k270 := fBz_eq hB261 (a := 740) (j := 8) (by decide +kernel)
            have k271 := fBz_eq hB261 (a := 740) (j := 17) (by decide +kernel)
            refine And.intro ⟨rfl, by decide, by decide⟩ (fgetf fb_740_18 h0 hB261 ?_)
            intro z272 lz272 uz272 qz272
            intro z273 hz273 ez273 bz273
            clear ez273
            try replace bz273 := bz273 (by omega)
            refine And.intro ⟨rfl, by decide, by decide⟩ (And.intro rfl (And.intro (Or.inl rfl) (fputf fb_740_18 (by decide +kernel) hW (by omega) ?_)))
            intro IhB274 ehB274 hB274
            have t275 : IhB274 740 9 = IhB261 740 9 := (congrFun (congrFun ehB274 740) 9).trans (fup_ne (by first | decide | omega))
            have t276 : IhB274 740 10 = IhB261 740 10 := (congrFun (congrFun ehB274 740) 10).trans (fup_ne (by first | decide | omega))
            have t277 : IhB274 740 11 = IhB261 740 11 := (congrFun (congrFun ehB274 740) 11).trans (fup_ne (by first | decide | omega))
            have t278 : IhB274 740 12 = IhB261 740 12 := (congrFun (congrFun ehB274 740) 12).trans (fup_ne (by first | decide | omega))
            have t279 : IhB274 740 13 = IhB261 740 13 := (congrFun (congrFun ehB274 740) 13).trans (fup_ne (by first | decide | omega))
            have t280 : IhB274 740 14 = IhB261 740 14 := (congrFun (congrFun ehB274 740) 14).trans (fup_ne (by first | decide | omega))
            have t281 : IhB274 740 15 = IhB261 740 15 := (congrFun (congrFun ehB274 740) 15).trans (fup_ne (by first | decide | omega))
            have t282 : IhB274 740 16 = IhB261 740 16 := (congrFun (congrFun ehB274 740) 16).trans (fup_ne (by first | decide | omega))
            have t283 := fup_at ehB274 18 (by first | rfl | omega)
            have k284 := fBz_eq hB274 (a := 740) (j := 8) (by decide +kernel)
            have k285 := fBz_eq hB274 (a := 740) (j := 17) (by decide +kernel)
            refine Exists.intro xm_314 (And.intro mi_314 (And.intro ⟨rfl, rfl, rfl, rfl⟩ (And.intro rfl ?_)))
            refine fcall _ h0 (fzs_sub (by decide +kernel) hW) hB274 (ct_M_next_c8003 (fBz h0 hB274) (by omega)) ?_
            rintro IhB287 _ hB287 fhB287 ⟨rfl, hz286, g0z286, g1z286⟩
            have t288 := fhB287 740 14 (by decide +kernel)
            have t289 := fhB287 740 15 (by decide +kernel)
            have t290 := fhB287 740 16 (by decide +kernel)
            have t291 := fhB287 740 18 (by decide +kernel)
            have k292 := fBz_eq hB287 (a := 740) (j := 8) (by decide +kernel)
            have k293 := fBz_eq hB287 (a := 740) (j := 17) (by decide +kernel)
            refine And.intro (⟨by decide, by decide⟩) ?_
            exact ⟨_, rfl, by omega, (par_leaf (M := IhB287 740 16) (by omega) (by omega) g0z260 (fun j => (fFr_S fhB287 (by decide +kernel) j).trans (fup_other ehB274 741 j (Or.inl (by decide)))) (by omega) (by omega)).1, (fun _ => (par_leaf (M := IhB287 740 16) (by omega) (by omega) g0z260 (fun j => (fFr_S fhB287 (by decide +kernel) j).trans (fup_other ehB274 741 j (Or.inl (by decide)))) (by omega) (by omega)).2), (p0_leaf (Or.inr ⟨by omega, by omega, (by have w := nm_1 g0z175 (by omega); rw [← qz174]; exact w), by omega, by omega⟩) g0z260 (by omega) (by omega) (by omega) (by omega) (hT_mk (fun j => (fup_other ehB274 747 j (Or.inl (by decide))).trans (fFr_at fhB261 747 (by decide +kernel) rfl j)) (by omega)) (by omega) g0z286 (fun j => (fFr_S fhB287 (by decide +kernel) j).trans (fup_other ehB274 741 j (Or.inl (by decide)))) (by omega) (by omega) (hT_mk (fFr_at fhB287 747 (by decide +kernel) rfl) (by omega)) (by omega) (by omega)), g1z286, (fun _ => by omega)⟩
    · intro c294
      have d9 := dkI_3 hp5 (by omega)
      refine And.intro ⟨rfl, by decide, by decide⟩ (fgetf fb_740_12 h0 hB0 ?_)
      intro z295 lz295 uz295 qz295
      refine Exists.intro xm_421 (And.intro mi_421 (And.intro ⟨rfl, rfl, rfl, rfl⟩ (And.intro rfl ?_)))
      refine fcall _ h0 (fzs_sub (by decide +kernel) hW) hB0 (ct_M_step_2c704 (fBz h0 hB0) (by first | exact ⟨by decide, by decide⟩ | omega) (by first | exact ⟨lz295, uz295⟩ | omega) (by omega) (laP_cg hp3 (by omega))) ?_
      rintro IhB297 _ hB297 fhB297 ⟨rfl, hz296, g0z296⟩
      have t298 := fhB297 740 9 (by decide +kernel)
      have t299 := fhB297 740 10 (by decide +kernel)
      have t300 := fhB297 740 11 (by decide +kernel)
      have t301 := fhB297 740 12 (by decide +kernel)
      have t302 := fhB297 740 13 (by decide +kernel)
      have t303 := fhB297 740 14 (by decide +kernel)
      have t304 := fhB297 740 15 (by decide +kernel)
      have t305 := fhB297 740 18 (by decide +kernel)
      have k306 := fBz_eq hB297 (a := 740) (j := 8) (by decide +kernel)
      have k307 := fBz_eq hB297 (a := 740) (j := 17) (by decide +kernel)
      refine And.intro ⟨rfl, by decide, by decide⟩ (fgetf fb_740_18 h0 hB297 ?_)
      intro z308 lz308 uz308 qz308
      intro z309 hz309 ez309 bz309
      clear ez309
      try replace bz309 := bz309 (by omega)
      refine And.intro ⟨rfl, by decide, by decide⟩ (And.intro rfl (And.intro (Or.inl rfl) (fputf fb_740_18 (by decide +kernel) hW (by omega) ?_)))
      intro IhB310 ehB310 hB310
      have t311 : IhB310 740 9 = IhB297 740 9 := (congrFun (congrFun ehB310 740) 9).trans (fup_ne (by first | decide | omega))
      have t312 : IhB310 740 10 = IhB297 740 10 := (congrFun (congrFun ehB310 740) 10).trans (fup_ne (by first | decide | omega))
      have t313 : IhB310 740 11 = IhB297 740 11 := (congrFun (congrFun ehB310 740) 11).trans (fup_ne (by first | decide | omega))
      have t314 : IhB310 740 12 = IhB297 740 12 := (congrFun (congrFun ehB310 740) 12).trans (fup_ne (by first | decide | omega))
      have t315 : IhB310 740 13 = IhB297 740 13 := (congrFun (congrFun ehB310 740) 13).trans (fup_ne (by first | decide | omega))
      have t316 : IhB310 740 14 = IhB297 740 14 := (congrFun (congrFun ehB310 740) 14).trans (fup_ne (by first | decide | omega))
      have t317 : IhB310 740 15 = IhB297 740 15 := (congrFun (congrFun ehB310 740) 15).trans (fup_ne (by first | decide | omega))
      have t318 : IhB310 740 16 = IhB297 740 16 := (congrFun (congrFun ehB310 740) 16).trans (fup_ne (by first | decide | omega))
      have t319 := fup_at ehB310 18 (by first | rfl | omega)
      have k320 := fBz_eq hB310 (a := 740) (j := 8) (by decide +kernel)
      have k321 := fBz_eq hB310 (a := 740) (j := 17) (by decide +kernel)
      refine Exists.intro xm_314 (And.intro mi_314 (And.intro ⟨rfl, rfl, rfl, rfl⟩ (And.intro rfl ?_)))
      refine fcall _ h0 (fzs_sub (by decide +kernel) hW) hB310 (ct_M_next_c8003 (fBz h0 hB310) (by omega)) ?_
      rintro IhB323 _ hB323 fhB323 ⟨rfl, hz322, g0z322, g1z322⟩
      have t324 := fhB323 740 14 (by decide +kernel)
      have t325 := fhB323 740 15 (by decide +kernel)
      have t326 := fhB323 740 16 (by decide +kernel)
      have t327 := fhB323 740 18 (by decide +kernel)
      have k328 := fBz_eq hB323 (a := 740) (j := 8) (by decide +kernel)
      have k329 := fBz_eq hB323 (a := 740) (j := 17) (by decide +kernel)
      refine And.intro (⟨by decide, by decide⟩) ?_
      exact ⟨_, rfl, by omega, (par_leaf (M := IhB323 740 16) (by omega) (by omega) g0z296 (fun j => (fFr_S fhB323 (by decide +kernel) j).trans (fup_other ehB310 741 j (Or.inl (by decide)))) (by omega) (by omega)).1, (fun _ => (par_leaf (M := IhB323 740 16) (by omega) (by omega) g0z296 (fun j => (fFr_S fhB323 (by decide +kernel) j).trans (fup_other ehB310 741 j (Or.inl (by decide)))) (by omega) (by omega)).2), (p0_leaf (Or.inl ⟨by omega, by omega, by omega⟩) g0z296 (by omega) (by omega) (by omega) (by omega) (hT_mk (fun j => (fup_other ehB310 747 j (Or.inl (by decide))).trans (fFr_at fhB297 747 (by decide +kernel) rfl j)) (by omega)) (by omega) g0z322 (fun j => (fFr_S fhB323 (by decide +kernel) j).trans (fup_other ehB310 741 j (Or.inl (by decide)))) (by omega) (by omega) (hT_mk (fFr_at fhB323 747 (by decide +kernel) rfl) (by omega)) (by omega) (by omega)), g1z322, (fun _ => by omega)⟩
end CT

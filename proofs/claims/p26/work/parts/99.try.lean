/-! contracts (written by gen95.py) -/
abbrev wz_5ef89 : List Nat := [748, 749]
theorem x6_259 : f60c xTc xTys xm_259 = true := by decide +kernel
theorem rL_741_741_1214_3414_200_0 : frL gJ bsJ 100 ((741, 741), (1214, 3414), (200, 0), ((-2147483648), 2147483647)) := frL_hull (by decide) (by decide +kernel)
theorem rL_749_749_0_99_1_0 : frL gJ bsJ 100 ((749, 749), (0, 99), (1, 0), ((-2147483648), 2147483647)) := frL_hull (by decide) (by decide +kernel)
theorem rL_741_741_1215_3609_200_194 : frL gJ bsJ 100 ((741, 741), (1215, 3609), (200, 194), ((-2147483648), 2147483647)) := frL_hull (by decide) (by decide +kernel)
theorem rS_749_749_0_99_1_0 : frS gJ bsJ znJ [749] 100 ((749, 749), (0, 99), (1, 0), ((-2147483648), 2147483647)) := frS_dflt (by decide) (by decide +kernel)
theorem rL_748_748_0_127_1_0 : frL gJ bsJ 100 ((748, 748), (0, 127), (1, 0), ((-2147483648), 2147483647)) := frL_hull (by decide) (by decide +kernel)
theorem x6_254 : f60c xTc xTys xm_254 = true := by decide +kernel
theorem rL_741_741_1210_3410_200_0 : frL gJ bsJ 100 ((741, 741), (1210, 3410), (200, 0), ((-2147483648), 2147483647)) := frL_hull (by decide) (by decide +kernel)
theorem x6_253 : f60c xTc xTys xm_253 = true := by decide +kernel
abbrev wz_4080a : List Nat := [748, 749, 20203]
theorem x6_250 : f60c xTc xTys xm_250 = true := by decide +kernel
theorem x6_309 : f60c xTc xTys xm_309 = true := by decide +kernel
abbrev wz_d6a43 : List Nat := [748, 749, 20008, 20400, 20401, 20402, 20403, 20404]
theorem x6_308 : f60c xTc xTys xm_308 = true := by decide +kernel
abbrev wz_6dafe : List Nat := [12216, 20605, 20840]
theorem x6_421 : f60c xTc xTys xm_421 = true := by decide +kernel
theorem fb_740_17 : bsJ 740 17 = ((-2147483648), 2147483647) := by decide +kernel
theorem fb_740_16 : bsJ 740 16 = (0, 97) := by decide +kernel
theorem rS_741_741_1215_3609_200_194 : frS gJ bsJ znJ [20605] 100 ((741, 741), (1215, 3609), (200, 194), ((-2147483648), 2147483647)) := frS_of (by decide +kernel)
theorem rS_741_741_4700_4899_1_0 : frS gJ bsJ znJ [20840] 100 ((741, 741), (4700, 4899), (1, 0), ((-2147483648), 2147483647)) := frS_of (by decide +kernel)
theorem x6_315 : f60c xTc xTys xm_315 = true := by decide +kernel
theorem rL_747_747_0_95_1_0 : frL gJ bsJ 100 ((747, 747), (0, 95), (1, 0), ((-2147483648), 2147483647)) := frL_hull (by decide) (by decide +kernel)
theorem x6_316 : f60c xTc xTys xm_316 = true := by decide +kernel
abbrev wz_1c18d : List Nat := [12209, 12210, 12211, 12212, 12213]
theorem x6_314 : f60c xTc xTys xm_314 = true := by decide +kernel
theorem fb_740_10 : bsJ 740 10 = (0, 96) := by decide +kernel
theorem fb_740_9 : bsJ 740 9 = (0, 96) := by decide +kernel
theorem fb_740_11 : bsJ 740 11 = ((-2147483648), 2147483647) := by decide +kernel
theorem fb_740_13 : bsJ 740 13 = ((-2147483648), 2147483647) := by decide +kernel
theorem fb_740_12 : bsJ 740 12 = ((-2147483648), 2147483647) := by decide +kernel
theorem x6_422 : f60c xTc xTys xm_422 = true := by decide +kernel
theorem x6_423 : f60c xTc xTys xm_423 = true := by decide +kernel
abbrev wz_2212a : List Nat := [12209, 12210, 12211, 12212, 12213, 12214, 12215, 12216, 12218, 20605, 20840]
theorem x6_404 : f60c xTc xTys xm_404 = true := by decide +kernel
theorem fb_740_14 : bsJ 740 14 = (0, 8) := by decide +kernel
theorem fb_740_15 : bsJ 740 15 = (0, 8) := by decide +kernel
theorem fb_740_18 : bsJ 740 18 = ((-2147483648), 2147483647) := by decide +kernel
theorem x6_387 : f60c xTc xTys xm_387 = true := by decide +kernel
theorem x6_370 : f60c xTc xTys xm_370 = true := by decide +kernel
theorem x6_353 : f60c xTc xTys xm_353 = true := by decide +kernel
theorem x6_336 : f60c xTc xTys xm_336 = true := by decide +kernel
theorem x6_319 : f60c xTc xTys xm_319 = true := by decide +kernel
theorem x6_405 : f60c xTc xTys xm_405 = true := by decide +kernel
theorem x6_388 : f60c xTc xTys xm_388 = true := by decide +kernel
theorem x6_371 : f60c xTc xTys xm_371 = true := by decide +kernel
theorem x6_354 : f60c xTc xTys xm_354 = true := by decide +kernel
theorem x6_337 : f60c xTc xTys xm_337 = true := by decide +kernel
theorem x6_320 : f60c xTc xTys xm_320 = true := by decide +kernel
theorem x6_406 : f60c xTc xTys xm_406 = true := by decide +kernel
theorem x6_389 : f60c xTc xTys xm_389 = true := by decide +kernel
theorem x6_372 : f60c xTc xTys xm_372 = true := by decide +kernel
section CT
variable {ρ : Nat → Int32} {base n : Nat} {F : Nat → Prop} {D : va_G} {dA : Nat → ClassId} {la : Launch}
abbrev jc_M_worked_0bc29_15 (x1 : Int) (I0 : fH) : Nat → fL → List fV → fH → Prop := fun m lv st I => ∃ (y1 : Int) (y2 : Int) (y3 : Int), lv = [(0, .inr (.inr (some 740))), (1, .inl y1), (2, .inl y2), (3, .inl y3)] ∧ st = [] ∧ (((0 ≤ y1 ∧ y1 ≤ 11) ∧ (0 ≤ y2 ∧ y2 ≤ 97) ∧ (0 ≤ y3 ∧ y3 ≤ 97) ∧ (0 ≤ I 748 104 ∧ I 748 104 ≤ 60) ∧ (y1 = x1) ∧ (y2 ≤ y3)) ∧ (hgt I0 741 (1215 + 200 * x1.toNat) 0 y3.toNat 0 = some y2.toNat)) ∧ m = (1 + 1 * (97 - y3) : Int).toNat
set_option maxRecDepth 8000 in
theorem ct_M_worked_0bc29 {I : fH} {x1 : Int} (h0 : fB bsJ I) (ha1 : (0 ≤ x1 ∧ x1 ≤ 11)) (hp0 : sI I 741) (hp1 : x1 < I 741 9) : fC ρ base n F xTc vwCl xTys D dA la gJ (fbz bsJ znJ (fKc wz_5ef89) I) xm_259 [.inr (.inr (some 740)), .inl x1] I (fun _ r => ∃ z, r = some (.inl z) ∧ ((-2147483648) ≤ z ∧ z ≤ 2147483647)) := by
  have hW : fzs wz_5ef89 (fKc wz_5ef89) := fKc_ok _
  refine f_meth (rb := rbJ) (J := [(15, (jc_M_worked_0bc29_15 x1 I))]) 99 400 xG xin_259 x6_259 okJ (fB_self h0) ?_ ?_
  · refine List.forall_mem_cons.mpr ⟨?_, fun q h => absurd h List.not_mem_nil⟩
    · rintro m _ _ I1 hB1 ⟨y1, y2, y3, rfl, rfl, ⟨hb, hx0⟩, hm⟩
      have hT := hp0.2.2.2 x1.toNat (by omega)
      have hT1 := hT.1
      have hT2 := hT.2.1
      refine And.intro ⟨rfl, by decide, by decide⟩ ?_
      refine Exists.intro xm_255 (And.intro mi_255 (And.intro ⟨rfl, rfl, rfl, rfl⟩ (And.intro rfl ?_)))
      refine fcallp hB1 (ct_M_textAt_ea474 (fBz h0 hB1) (by omega)) ?_
      rintro _ ⟨_, rfl, rfl⟩
      refine fload rL_741_741_1214_3414_200_0 h0 hB1 (by omega) ?_
      intro z2 lz2 uz2 qz2
      have w27 := (fld_at qz2 (1214 + 200 * x1.toNat) (by omega)).trans (sS_keep hB1 (by decide +kernel) _)
      refine And.intro (by omega) (And.intro ?_ ?_)
      · intro c3
        refine And.intro ⟨rfl, by decide, by decide⟩ ?_
        refine fload rL_749_749_0_99_1_0 h0 hB1 (by omega) ?_
        intro z4 lz4 uz4 qz4
        have pz4 := fld_at qz4 0 (by omega)
        refine And.intro (True.intro) ?_
        exact ⟨_, rfl, by omega⟩
      · intro c5
        refine And.intro ⟨rfl, by decide, by decide⟩ ?_
        refine Exists.intro xm_255 (And.intro mi_255 (And.intro ⟨rfl, rfl, rfl, rfl⟩ (And.intro rfl ?_)))
        refine fcallp hB1 (ct_M_textAt_ea474 (fBz h0 hB1) (by omega)) ?_
        rintro _ ⟨_, rfl, rfl⟩
        intro z7 hz7 ez7 bz7
        intro z8 hz8 ez8 bz8
        refine fload rL_741_741_1215_3609_200_194 h0 hB1 (by omega) ?_
        intro z9 lz9 uz9 qz9
        have w46 := (fld_at qz9 (1215 + 200 * x1.toNat + 2 * (0 + y3.toNat)) (by omega)).trans (sS_keep hB1 (by decide +kernel) _)
        refine And.intro ⟨rfl, by decide, by decide⟩ ?_
        refine Exists.intro xm_255 (And.intro mi_255 (And.intro ⟨rfl, rfl, rfl, rfl⟩ (And.intro rfl ?_)))
        refine fcallp hB1 (ct_M_textAt_ea474 (fBz h0 hB1) (by omega)) ?_
        rintro _ ⟨_, rfl, rfl⟩
        intro z11 hz11 ez11 bz11
        intro z12 hz12 ez12 bz12
        intro z13 hz13 ez13 bz13
        refine fload rL_741_741_1215_3609_200_194 h0 hB1 (by omega) ?_
        intro z14 lz14 uz14 qz14
        have w66 := (fld_at qz14 (1215 + 200 * x1.toNat + 2 * (0 + y3.toNat) + 1) (by omega)).trans (sS_keep hB1 (by decide +kernel) _)
        obtain ⟨hr0, hr⟩ : ∃ r, hgt I 741 (1215 + 200 * x1.toNat) 0 (y3.toNat + 1) 0 = some r := hgt_pre (l := (I 741 (1214 + 200 * x1.toNat)).toNat - (y3.toNat + 1)) (hgt_to hT.2.2 rfl rfl (by omega) rfl)
        obtain ⟨hh, he1, he2⟩ := Option.bind_eq_some_iff.mp hr
        have hh2 : hh = y2.toNat := Option.some.inj (he1.symm.trans hx0)
        have hc := hst_cases he2
        refine And.intro (by omega) (And.intro ?_ ?_)
        · intro c15
          refine And.intro (by omega) (And.intro ?_ ?_)
          · intro c16
            intro z17 hz17 bz17
            refine And.intro ⟨rfl, by decide, by decide⟩ ?_
            intro z18 hz18 ez18 bz18
            refine And.intro ⟨rfl, by decide, by decide⟩ ?_
            intro z19 hz19 ez19 bz19
            refine fload rL_749_749_0_99_1_0 h0 hB1 (by omega) ?_
            intro z20 lz20 uz20 qz20
            refine And.intro ⟨rfl, by decide, by decide⟩ ?_
            refine fload rL_749_749_0_99_1_0 h0 hB1 (by omega) ?_
            intro z21 lz21 uz21 qz21
            refine Exists.intro xm_261 (And.intro mi_261 (And.intro ⟨rfl, rfl, rfl, rfl⟩ (And.intro True.intro ?_)))
            refine fcallp hB1 (ct_M_joined_15edc (fBz h0 hB1) (by omega) (by omega) (by omega)) ?_
            rintro _ ⟨z22, rfl, hz22⟩
            refine fstore rS_749_749_0_99_1_0 (fzs_sub (by decide +kernel) hW) (by omega) (by omega) ?_
            intro IhB23 ehB23 hB23
            have t24 := fup_self ehB23
            have t25 : IhB23 748 104 = I1 748 104 := (congrFun (congrFun ehB23 748) 104).trans (fup_ne (by omega))
            exact fcutJ (I := IhB23) (j := (jc_M_worked_0bc29_15 x1 I)) (lv' := [(0, .inr (.inr (some 740))), (1, .inl _), (2, .inl _), (3, .inl _)]) (And.intro rfl (And.intro rfl (And.intro rfl (And.intro rfl True.intro)))) ⟨_, _, _, rfl, rfl, ⟨by omega, hgt_to hr rfl rfl (by omega) (by omega)⟩, rfl⟩ (by omega)
          · intro c26
            refine And.intro ⟨rfl, by decide, by decide⟩ ?_
            intro z27 hz27 ez27 bz27
            refine And.intro ⟨rfl, by decide, by decide⟩ ?_
            intro z28 hz28 ez28 bz28
            refine fload rL_749_749_0_99_1_0 h0 hB1 (by omega) ?_
            intro z29 lz29 uz29 qz29
            refine And.intro (by omega) (And.intro ?_ ?_)
            · intro c30
              refine fstore rS_749_749_0_99_1_0 (fzs_sub (by decide +kernel) hW) (by omega) (by omega) ?_
              intro IhB31 ehB31 hB31
              have t32 := fup_self ehB31
              have t33 : IhB31 748 104 = I1 748 104 := (congrFun (congrFun ehB31 748) 104).trans (fup_ne (by omega))
              exact fcutJ (I := IhB31) (j := (jc_M_worked_0bc29_15 x1 I)) (lv' := [(0, .inr (.inr (some 740))), (1, .inl _), (2, .inl _), (3, .inl _)]) (And.intro rfl (And.intro rfl (And.intro rfl (And.intro rfl True.intro)))) ⟨_, _, _, rfl, rfl, ⟨by omega, hgt_to hr rfl rfl (by omega) (by omega)⟩, rfl⟩ (by omega)
            · intro c34
              refine fstore rS_749_749_0_99_1_0 (fzs_sub (by decide +kernel) hW) (by omega) (by omega) ?_
              intro IhB35 ehB35 hB35
              have t36 := fup_self ehB35
              have t37 : IhB35 748 104 = I1 748 104 := (congrFun (congrFun ehB35 748) 104).trans (fup_ne (by omega))
              exact fcutJ (I := IhB35) (j := (jc_M_worked_0bc29_15 x1 I)) (lv' := [(0, .inr (.inr (some 740))), (1, .inl _), (2, .inl _), (3, .inl _)]) (And.intro rfl (And.intro rfl (And.intro rfl (And.intro rfl True.intro)))) ⟨_, _, _, rfl, rfl, ⟨by omega, hgt_to hr rfl rfl (by omega) (by omega)⟩, rfl⟩ (by omega)
        · intro c38
          refine And.intro ⟨rfl, by decide, by decide⟩ ?_
          refine And.intro (by omega) (And.intro ?_ ?_)
          · intro c39
            refine And.intro ⟨rfl, by decide, by decide⟩ ?_
            refine fload rL_748_748_0_127_1_0 h0 hB1 (by omega) ?_
            intro z40 lz40 uz40 qz40
            refine fstore rS_749_749_0_99_1_0 (fzs_sub (by decide +kernel) hW) (by omega) (by omega) ?_
            intro IhB41 ehB41 hB41
            have t42 := fup_self ehB41
            have t43 : IhB41 748 104 = I1 748 104 := (congrFun (congrFun ehB41 748) 104).trans (fup_ne (by omega))
            intro z44 hz44 bz44
            exact fcutJ (I := IhB41) (j := (jc_M_worked_0bc29_15 x1 I)) (lv' := [(0, .inr (.inr (some 740))), (1, .inl _), (2, .inl _), (3, .inl _)]) (And.intro rfl (And.intro rfl (And.intro rfl (And.intro rfl True.intro)))) ⟨_, _, _, rfl, rfl, ⟨by omega, hgt_to hr rfl rfl (by omega) (by omega)⟩, rfl⟩ (by omega)
          · intro c45
            refine fstore rS_749_749_0_99_1_0 (fzs_sub (by decide +kernel) hW) (by omega) (by omega) ?_
            intro IhB46 ehB46 hB46
            have t47 := fup_self ehB46
            have t48 : IhB46 748 104 = I1 748 104 := (congrFun (congrFun ehB46 748) 104).trans (fup_ne (by omega))
            intro z49 hz49 bz49
            exact fcutJ (I := IhB46) (j := (jc_M_worked_0bc29_15 x1 I)) (lv' := [(0, .inr (.inr (some 740))), (1, .inl _), (2, .inl _), (3, .inl _)]) (And.intro rfl (And.intro rfl (And.intro rfl (And.intro rfl True.intro)))) ⟨_, _, _, rfl, rfl, ⟨by omega, hgt_to hr rfl rfl (by omega) (by omega)⟩, rfl⟩ (by omega)
  · have hB0 := fB_self (zn := znJ) (K := fKc wz_5ef89) h0
    refine And.intro ⟨rfl, by decide, by decide⟩ ?_
    refine Exists.intro xm_260 (And.intro mi_260 (And.intro ⟨rfl, rfl, rfl, rfl⟩ (And.intro rfl ?_)))
    refine fcallp hB0 (ct_M_level_daf8a (fBz h0 hB0)) ?_
    rintro _ ⟨z50, rfl, hz50⟩
    refine fstore rS_748_748_0_127_1_0 (fzs_sub (by decide +kernel) hW) (by omega) (by omega) ?_
    intro IhB51 ehB51 hB51
    have t52 := fup_self ehB51
    have t53 := fup_at ehB51 104 (by omega)
    exact fcutJ (I := IhB51) (j := (jc_M_worked_0bc29_15 x1 I)) (lv' := [(0, .inr (.inr (some 740))), (1, .inl _), (2, .inl _), (3, .inl _)]) (And.intro rfl (And.intro rfl (And.intro rfl (And.intro rfl True.intro)))) ⟨_, _, _, rfl, rfl, ⟨by omega, hgt_to (k := 0) (r := 0) rfl rfl rfl (by omega) (by omega)⟩, rfl⟩ (by omega)
abbrev jc_M_counts_1278f_4 : Nat → fL → List fV → fH → Prop := fun m lv st I => ∃ (y1 : Int) (y2 : Int) (y3 : Int), lv = [(0, .inr (.inr (some 740))), (1, .inl y1), (2, .inl y2), (3, .inl y3)] ∧ st = [] ∧ (((0 ≤ y1 ∧ y1 ≤ 5) ∧ ((-1) ≤ y2 ∧ y2 ≤ 11) ∧ (0 ≤ y3 ∧ y3 ≤ 12) ∧ (y2 < I 741 9))) ∧ m = (1 + 1 * (12 - y3) : Int).toNat
set_option maxRecDepth 8000 in
theorem ct_M_counts_1278f {I : fH} {x1 : Int} (h0 : fB bsJ I) (ha1 : (0 ≤ x1 ∧ x1 ≤ 5)) : fC ρ base n F xTc vwCl xTys D dA la gJ (fbz bsJ znJ (fKc []) I) xm_254 [.inr (.inr (some 740)), .inl x1] I (fun _ r => ∃ z, r = some (.inl z) ∧ (((-1) ≤ z ∧ z ≤ 11) ∧ (z < I 741 9))) := by
  have hW : fzs [] (fKc []) := fKc_ok _
  refine f_meth (rb := rbJ) (J := [(4, jc_M_counts_1278f_4)]) 14 400 xG xin_254 x6_254 okJ (fB_self h0) ?_ ?_
  · refine List.forall_mem_cons.mpr ⟨?_, fun q h => absurd h List.not_mem_nil⟩
    · rintro m _ _ I1 hB1 ⟨y1, y2, y3, rfl, rfl, hb, hm⟩
      have k1 := fBz_eq hB1 (a := 741) (j := 9) (by decide +kernel)
      refine And.intro ⟨rfl, by decide, by decide⟩ ?_
      refine fload rL_741_741_9_9_1_0 h0 hB1 (by omega) ?_
      intro z2 lz2 uz2 qz2
      have pz2 := fld_at qz2 9 (by omega)
      refine And.intro (by omega) (And.intro ?_ ?_)
      · intro c3
        refine And.intro (True.intro) ?_
        exact ⟨_, rfl, by omega⟩
      · intro c4
        refine And.intro ⟨rfl, by decide, by decide⟩ ?_
        refine Exists.intro xm_255 (And.intro mi_255 (And.intro ⟨rfl, rfl, rfl, rfl⟩ (And.intro rfl ?_)))
        refine fcallp hB1 (ct_M_textAt_ea474 (fBz h0 hB1) (by omega)) ?_
        rintro _ ⟨_, rfl, rfl⟩
        refine fload rL_741_741_1210_3410_200_0 h0 hB1 (by omega) ?_
        intro z6 lz6 uz6 qz6
        refine And.intro (by omega) (And.intro ?_ ?_)
        · intro c7
          refine And.intro (by omega) (And.intro ?_ ?_)
          · intro c8
            exact fcutJ (I := I1) (j := jc_M_counts_1278f_4) (lv' := [(0, .inr (.inr (some 740))), (1, .inl _), (2, .inl _), (3, .inl _)]) (And.intro rfl (And.intro rfl (And.intro rfl (And.intro rfl True.intro)))) ⟨_, _, _, rfl, rfl, by omega, rfl⟩ (by omega)
          · intro c9
            refine And.intro (by omega) (And.intro ?_ ?_)
            · intro c10
              exact fcutJ (I := I1) (j := jc_M_counts_1278f_4) (lv' := [(0, .inr (.inr (some 740))), (1, .inl _), (2, .inl _), (3, .inl _)]) (And.intro rfl (And.intro rfl (And.intro rfl (And.intro rfl True.intro)))) ⟨_, _, _, rfl, rfl, by omega, rfl⟩ (by omega)
            · intro c11
              refine And.intro ⟨rfl, by decide, by decide⟩ ?_
              refine Exists.intro xm_255 (And.intro mi_255 (And.intro ⟨rfl, rfl, rfl, rfl⟩ (And.intro rfl ?_)))
              refine fcallp hB1 (ct_M_textAt_ea474 (fBz h0 hB1) (by omega)) ?_
              rintro _ ⟨_, rfl, rfl⟩
              refine fload rL_741_741_1211_3411_200_0 h0 hB1 (by omega) ?_
              intro z13 lz13 uz13 qz13
              refine And.intro ⟨rfl, by decide, by decide⟩ ?_
              refine Exists.intro xm_255 (And.intro mi_255 (And.intro ⟨rfl, rfl, rfl, rfl⟩ (And.intro rfl ?_)))
              refine fcallp hB1 (ct_M_textAt_ea474 (fBz h0 hB1) (by omega)) ?_
              rintro _ ⟨_, rfl, rfl⟩
              refine fload rL_741_741_1211_3411_200_0 h0 hB1 (by omega) ?_
              intro z15 lz15 uz15 qz15
              refine And.intro (by omega) (And.intro ?_ ?_)
              · intro c16
                exact fcutJ (I := I1) (j := jc_M_counts_1278f_4) (lv' := [(0, .inr (.inr (some 740))), (1, .inl _), (2, .inl _), (3, .inl _)]) (And.intro rfl (And.intro rfl (And.intro rfl (And.intro rfl True.intro)))) ⟨_, _, _, rfl, rfl, by omega, rfl⟩ (by omega)
              · intro c17
                exact fcutJ (I := I1) (j := jc_M_counts_1278f_4) (lv' := [(0, .inr (.inr (some 740))), (1, .inl _), (2, .inl _), (3, .inl _)]) (And.intro rfl (And.intro rfl (And.intro rfl (And.intro rfl True.intro)))) ⟨_, _, _, rfl, rfl, by omega, rfl⟩ (by omega)
        · intro c18
          refine Exists.intro xm_256 (And.intro mi_256 (And.intro ⟨rfl, rfl, rfl, rfl⟩ (And.intro rfl ?_)))
          refine fcallp hB1 (ct_M_isInForce_508bf (fBz h0 hB1) (by omega)) ?_
          rintro _ ⟨z19, rfl, hz19⟩
          refine And.intro (by omega) (And.intro ?_ ?_)
          · intro c20
            refine And.intro (by omega) (And.intro ?_ ?_)
            · intro c21
              exact fcutJ (I := I1) (j := jc_M_counts_1278f_4) (lv' := [(0, .inr (.inr (some 740))), (1, .inl _), (2, .inl _), (3, .inl _)]) (And.intro rfl (And.intro rfl (And.intro rfl (And.intro rfl True.intro)))) ⟨_, _, _, rfl, rfl, by omega, rfl⟩ (by omega)
            · intro c22
              refine And.intro (by omega) (And.intro ?_ ?_)
              · intro c23
                exact fcutJ (I := I1) (j := jc_M_counts_1278f_4) (lv' := [(0, .inr (.inr (some 740))), (1, .inl _), (2, .inl _), (3, .inl _)]) (And.intro rfl (And.intro rfl (And.intro rfl (And.intro rfl True.intro)))) ⟨_, _, _, rfl, rfl, by omega, rfl⟩ (by omega)
              · intro c24
                refine And.intro ⟨rfl, by decide, by decide⟩ ?_
                refine Exists.intro xm_255 (And.intro mi_255 (And.intro ⟨rfl, rfl, rfl, rfl⟩ (And.intro rfl ?_)))
                refine fcallp hB1 (ct_M_textAt_ea474 (fBz h0 hB1) (by omega)) ?_
                rintro _ ⟨_, rfl, rfl⟩
                refine fload rL_741_741_1211_3411_200_0 h0 hB1 (by omega) ?_
                intro z26 lz26 uz26 qz26
                refine And.intro ⟨rfl, by decide, by decide⟩ ?_
                refine Exists.intro xm_255 (And.intro mi_255 (And.intro ⟨rfl, rfl, rfl, rfl⟩ (And.intro rfl ?_)))
                refine fcallp hB1 (ct_M_textAt_ea474 (fBz h0 hB1) (by omega)) ?_
                rintro _ ⟨_, rfl, rfl⟩
                refine fload rL_741_741_1211_3411_200_0 h0 hB1 (by omega) ?_
                intro z28 lz28 uz28 qz28
                refine And.intro (by omega) (And.intro ?_ ?_)
                · intro c29
                  exact fcutJ (I := I1) (j := jc_M_counts_1278f_4) (lv' := [(0, .inr (.inr (some 740))), (1, .inl _), (2, .inl _), (3, .inl _)]) (And.intro rfl (And.intro rfl (And.intro rfl (And.intro rfl True.intro)))) ⟨_, _, _, rfl, rfl, by omega, rfl⟩ (by omega)
                · intro c30
                  exact fcutJ (I := I1) (j := jc_M_counts_1278f_4) (lv' := [(0, .inr (.inr (some 740))), (1, .inl _), (2, .inl _), (3, .inl _)]) (And.intro rfl (And.intro rfl (And.intro rfl (And.intro rfl True.intro)))) ⟨_, _, _, rfl, rfl, by omega, rfl⟩ (by omega)
          · intro c31
            refine And.intro (by omega) (And.intro ?_ ?_)
            · intro c32
              exact fcutJ (I := I1) (j := jc_M_counts_1278f_4) (lv' := [(0, .inr (.inr (some 740))), (1, .inl _), (2, .inl _), (3, .inl _)]) (And.intro rfl (And.intro rfl (And.intro rfl (And.intro rfl True.intro)))) ⟨_, _, _, rfl, rfl, by omega, rfl⟩ (by omega)
            · intro c33
              refine And.intro (by omega) (And.intro ?_ ?_)
              · intro c34
                exact fcutJ (I := I1) (j := jc_M_counts_1278f_4) (lv' := [(0, .inr (.inr (some 740))), (1, .inl _), (2, .inl _), (3, .inl _)]) (And.intro rfl (And.intro rfl (And.intro rfl (And.intro rfl True.intro)))) ⟨_, _, _, rfl, rfl, by omega, rfl⟩ (by omega)
              · intro c35
                refine And.intro ⟨rfl, by decide, by decide⟩ ?_
                refine Exists.intro xm_255 (And.intro mi_255 (And.intro ⟨rfl, rfl, rfl, rfl⟩ (And.intro rfl ?_)))
                refine fcallp hB1 (ct_M_textAt_ea474 (fBz h0 hB1) (by omega)) ?_
                rintro _ ⟨_, rfl, rfl⟩
                refine fload rL_741_741_1211_3411_200_0 h0 hB1 (by omega) ?_
                intro z37 lz37 uz37 qz37
                refine And.intro ⟨rfl, by decide, by decide⟩ ?_
                refine Exists.intro xm_255 (And.intro mi_255 (And.intro ⟨rfl, rfl, rfl, rfl⟩ (And.intro rfl ?_)))
                refine fcallp hB1 (ct_M_textAt_ea474 (fBz h0 hB1) (by omega)) ?_
                rintro _ ⟨_, rfl, rfl⟩
                refine fload rL_741_741_1211_3411_200_0 h0 hB1 (by omega) ?_
                intro z39 lz39 uz39 qz39
                refine And.intro (by omega) (And.intro ?_ ?_)
                · intro c40
                  exact fcutJ (I := I1) (j := jc_M_counts_1278f_4) (lv' := [(0, .inr (.inr (some 740))), (1, .inl _), (2, .inl _), (3, .inl _)]) (And.intro rfl (And.intro rfl (And.intro rfl (And.intro rfl True.intro)))) ⟨_, _, _, rfl, rfl, by omega, rfl⟩ (by omega)
                · intro c41
                  exact fcutJ (I := I1) (j := jc_M_counts_1278f_4) (lv' := [(0, .inr (.inr (some 740))), (1, .inl _), (2, .inl _), (3, .inl _)]) (And.intro rfl (And.intro rfl (And.intro rfl (And.intro rfl True.intro)))) ⟨_, _, _, rfl, rfl, by omega, rfl⟩ (by omega)
  · have hB0 := fB_self (zn := znJ) (K := fKc []) h0
    exact fcutJ (I := I) (j := jc_M_counts_1278f_4) (lv' := [(0, .inr (.inr (some 740))), (1, .inl _), (2, .inl _), (3, .inl _)]) (And.intro rfl (And.intro rfl (And.intro rfl (And.intro rfl True.intro)))) ⟨_, _, _, rfl, rfl, by omega, rfl⟩ (by omega)
set_option maxRecDepth 8000 in
theorem ct_M_mayOpen_42d58 {I : fH} {x1 : Int} {x2 : Int} (h0 : fB bsJ I) (ha1 : (0 ≤ x1 ∧ x1 ≤ 23)) (ha2 : (0 ≤ x2 ∧ x2 ≤ 23)) (hp0 : sI I 741) : fC ρ base n F xTc vwCl xTys D dA la gJ (fbz bsJ znJ (fKc wz_5ef89) I) xm_253 [.inr (.inr (some 740)), .inl x1, .inl x2] I (fun _ r => ∃ z, r = some (.inl z) ∧ (0 ≤ z ∧ z ≤ 1)) := by
  have hW : fzs wz_5ef89 (fKc wz_5ef89) := fKc_ok _
  refine f_meth (rb := rbJ) (J := []) 1 400 xG xin_253 x6_253 okJ (fB_self h0) ?_ ?_
  · exact fun q h => absurd h List.not_mem_nil
  · have hB0 := fB_self (zn := znJ) (K := fKc wz_5ef89) h0
    refine Exists.intro xm_254 (And.intro mi_254 (And.intro ⟨rfl, rfl, rfl, rfl⟩ (And.intro rfl ?_)))
    refine fcallp hB0 (ct_M_counts_1278f (fBz h0 hB0) (by omega)) ?_
    rintro _ ⟨z1, rfl, hz1⟩
    refine Exists.intro xm_258 (And.intro mi_258 (And.intro ⟨rfl, rfl, rfl, rfl⟩ (And.intro rfl ?_)))
    refine fcall _ h0 (fzs_sub (by decide +kernel) hW) hB0 (ct_M_nameOne_43c7d (fBz h0 hB0) (by omega)) ?_
    rintro IhB3 _ hB3 fhB3 rfl
    have k4 := fBz_eq hB3 (a := 741) (j := 9) (by decide +kernel)
    refine And.intro ⟨rfl, by decide, by decide⟩ ?_
    refine fstore rS_748_748_0_127_1_0 (fzs_sub (by decide +kernel) hW) (by omega) (by omega) ?_
    intro IhB5 ehB5 hB5
    have t6 := fup_self ehB5
    have t7 := fup_at ehB5 110 (by omega)
    have k8 := fBz_eq hB5 (a := 741) (j := 9) (by decide +kernel)
    refine And.intro (by omega) (And.intro ?_ ?_)
    · intro c9
      refine And.intro (⟨by omega, by omega⟩) ?_
      exact ⟨_, rfl, by omega⟩
    · intro c10
      refine Exists.intro xm_259 (And.intro mi_259 (And.intro ⟨rfl, rfl, rfl, rfl⟩ (And.intro rfl ?_)))
      refine fcall _ h0 (fzs_sub (by decide +kernel) hW) hB5 (ct_M_worked_0bc29 (fBz h0 hB5) (by omega) (sI_keep hp0 h0 hB5 (by decide +kernel)) (by omega)) ?_
      rintro IhB12 _ hB12 fhB12 ⟨z11, rfl, hz11⟩
      have k13 := fBz_eq hB12 (a := 741) (j := 9) (by decide +kernel)
      refine And.intro (by omega) (And.intro ?_ ?_)
      · intro c14
        refine And.intro (⟨by omega, by omega⟩) ?_
        exact ⟨_, rfl, by omega⟩
      · intro c15
        refine And.intro (⟨by omega, by omega⟩) ?_
        exact ⟨_, rfl, by omega⟩
set_option maxRecDepth 8000 in
theorem ct_M_turn_a8e81 {I : fH} {x1 : Int} {x2 : Int} {x3 : Int} (h0 : fB bsJ I) (ha1 : ((-2147483648) ≤ x1 ∧ x1 ≤ 2147483647)) (ha2 : ((-2147483648) ≤ x2 ∧ x2 ≤ 2147483647)) (ha3 : ((-2147483648) ≤ x3 ∧ x3 ≤ 2147483647)) (hp0 : sI I 741) : fC ρ base n F xTc vwCl xTys D dA la gJ (fbz bsJ znJ (fKc wz_4080a) I) xm_250 [.inr (.inr (some 740)), .inl x1, .inl x2, .inl x3] I (fun _ r => ∃ z, r = some (.inl z) ∧ ((-2147483648) ≤ z ∧ z ≤ 2147483647)) := by
  have hW : fzs wz_4080a (fKc wz_4080a) := fKc_ok _
  refine f_meth (rb := rbJ) (J := []) 1 400 xG xin_250 x6_250 okJ (fB_self h0) ?_ ?_
  · exact fun q h => absurd h List.not_mem_nil
  · have hB0 := fB_self (zn := znJ) (K := fKc wz_4080a) h0
    refine Exists.intro xm_251 (And.intro mi_251 (And.intro ⟨rfl, rfl, rfl, rfl⟩ (And.intro rfl ?_)))
    refine fcallp hB0 (ct_M_isLock_5e2b8 (fBz h0 hB0) (by omega)) ?_
    rintro _ ⟨z1, rfl, hz1⟩
    refine And.intro (by omega) (And.intro ?_ ?_)
    · intro c2
      refine And.intro (True.intro) ?_
      exact ⟨_, rfl, by omega⟩
    · intro c3
      refine Exists.intro xm_252 (And.intro mi_252 (And.intro ⟨rfl, rfl, rfl, rfl⟩ (And.intro rfl ?_)))
      refine fcallp hB0 (ct_M_isPerson_4d30c (fBz h0 hB0) (by omega)) ?_
      rintro _ ⟨z4, rfl, hz4⟩
      refine And.intro (by omega) (And.intro ?_ ?_)
      · intro c5
        refine And.intro (True.intro) ?_
        exact ⟨_, rfl, by omega⟩
      · intro c6
        refine And.intro (by omega) ?_
        refine Exists.intro xm_238 (And.intro mi_238 (And.intro ⟨rfl, rfl, rfl, rfl⟩ (And.intro True.intro ?_)))
        refine fcallp hB0 (ct_M_isIn_27230 (fBz h0 hB0) (by omega) (by omega) (by omega)) ?_
        rintro _ ⟨z7, rfl, hz7⟩
        refine And.intro (by omega) (And.intro ?_ ?_)
        · intro c8
          refine Exists.intro xm_248 (And.intro mi_248 (And.intro ⟨rfl, rfl, rfl, rfl⟩ (And.intro rfl ?_)))
          refine fcallp hB0 (ct_M_isDead_21e1a (fBz h0 hB0) (by omega)) ?_
          rintro _ ⟨z9, rfl, hz9⟩
          refine And.intro (by omega) (And.intro ?_ ?_)
          · intro c10
            refine And.intro (True.intro) ?_
            exact ⟨_, rfl, by omega⟩
          · intro c11
            refine Exists.intro xm_253 (And.intro mi_253 (And.intro ⟨rfl, rfl, rfl, rfl⟩ (And.intro rfl ?_)))
            refine fcall _ h0 (fzs_sub (by decide +kernel) hW) hB0 (ct_M_mayOpen_42d58 (fBz h0 hB0) (by omega) (by omega) (sI_keep hp0 h0 hB0 (by decide +kernel))) ?_
            rintro IhB13 _ hB13 fhB13 ⟨z12, rfl, hz12⟩
            refine And.intro (by omega) (And.intro ?_ ?_)
            · intro c14
              refine Exists.intro xm_242 (And.intro mi_242 (And.intro ⟨rfl, rfl, rfl, rfl⟩ (And.intro rfl ?_)))
              refine fcall _ h0 (fzs_sub (by decide +kernel) hW) hB13 (ct_M_put_4fc33 (fBz h0 hB13) (by omega) (by omega)) ?_
              rintro IhB16 _ hB16 fhB16 ⟨z15, rfl, hz15⟩
              refine And.intro (True.intro) ?_
              exact ⟨_, rfl, by omega⟩
            · intro c17
              refine And.intro (True.intro) ?_
              exact ⟨_, rfl, by omega⟩
        · intro c18
          refine And.intro (True.intro) ?_
          exact ⟨_, rfl, by omega⟩
abbrev jc_M_mayBirth_669a5_16 : Nat → fL → List fV → fH → Prop := fun m lv st I => ∃ (y1 : Int) (y2 : Int) (y3 : Int) (y4 : Int) (y5 : Int), lv = [(0, .inr (.inr (some 740))), (1, .inl y1), (2, .inl y2), (3, .inl y3), (4, .inl y4), (5, .inl y5)] ∧ st = [] ∧ ((((-1) ≤ y1 ∧ y1 ≤ 11) ∧ ((-2147483648) ≤ y2 ∧ y2 ≤ 2147483647) ∧ ((-2147483648) ≤ y3 ∧ y3 ≤ 2147483647) ∧ (0 ≤ y4 ∧ y4 ≤ 0) ∧ (0 ≤ y5 ∧ y5 ≤ 24))) ∧ m = (26 + 1 * (24 - y5) : Int).toNat
abbrev jc_M_mayBirth_669a5_76 : Nat → fL → List fV → fH → Prop := fun m lv st I => ∃ (y1 : Int) (y2 : Int) (y3 : Int) (y4 : Int) (y5 : Int), lv = [(0, .inr (.inr (some 740))), (1, .inl y1), (2, .inl y2), (3, .inl y3), (4, .inl y4), (5, .inl y5)] ∧ st = [] ∧ ((((-1) ≤ y1 ∧ y1 ≤ 11) ∧ ((-2147483648) ≤ y2 ∧ y2 ≤ 2147483647) ∧ ((-2147483648) ≤ y3 ∧ y3 ≤ 2147483647) ∧ ((-2147483648) ≤ y4 ∧ y4 ≤ 2147483647) ∧ (0 ≤ y5 ∧ y5 ≤ 24))) ∧ m = (1 + 1 * (24 - y5) : Int).toNat
set_option maxRecDepth 8000 in
theorem ct_M_mayBirth_669a5 {I : fH}  (h0 : fB bsJ I) (hp0 : sI I 741) : fC ρ base n F xTc vwCl xTys D dA la gJ (fbz bsJ znJ (fKc wz_5ef89) I) xm_309 [.inr (.inr (some 740))] I (fun _ r => ∃ z, r = some (.inl z) ∧ (0 ≤ z ∧ z ≤ 1)) := by
  have hW : fzs wz_5ef89 (fKc wz_5ef89) := fKc_ok _
  refine f_meth (rb := rbJ) (J := [(16, jc_M_mayBirth_669a5_16), (76, jc_M_mayBirth_669a5_76)]) 51 400 xG xin_309 x6_309 okJ (fB_self h0) ?_ ?_
  · refine List.forall_mem_cons.mpr ⟨?_, List.forall_mem_cons.mpr ⟨?_, fun q h => absurd h List.not_mem_nil⟩⟩
    · rintro m _ _ I1 hB1 ⟨y1, y2, y3, y4, y5, rfl, rfl, hb, hm⟩
      have k1 := fBz_eq hB1 (a := 741) (j := 9) (by decide +kernel)
      refine And.intro ⟨rfl, by decide, by decide⟩ ?_
      refine fload rL_741_741_8_8_1_0 h0 hB1 (by omega) ?_
      intro z2 lz2 uz2 qz2
      have pz2 := fld_at qz2 8 (by omega)
      refine And.intro (by omega) (And.intro ?_ ?_)
      · intro c3
        exact fcutJ (I := I1) (j := jc_M_mayBirth_669a5_76) (lv' := [(0, .inr (.inr (some 740))), (1, .inl _), (2, .inl _), (3, .inl _), (4, .inl _), (5, .inl _)]) (And.intro rfl (And.intro rfl (And.intro rfl (And.intro rfl (And.intro rfl (And.intro rfl True.intro)))))) ⟨_, _, _, _, _, rfl, rfl, by omega, rfl⟩ (by omega)
      · intro c4
        refine Exists.intro xm_248 (And.intro mi_248 (And.intro ⟨rfl, rfl, rfl, rfl⟩ (And.intro rfl ?_)))
        refine fcallp hB1 (ct_M_isDead_21e1a (fBz h0 hB1) (by omega)) ?_
        rintro _ ⟨z5, rfl, hz5⟩
        refine And.intro (by omega) (And.intro ?_ ?_)
        · intro c6
          intro z7 hz7 ez7 bz7
          refine Exists.intro xm_248 (And.intro mi_248 (And.intro ⟨rfl, rfl, rfl, rfl⟩ (And.intro rfl ?_)))
          refine fcallp hB1 (ct_M_isDead_21e1a (fBz h0 hB1) (by omega)) ?_
          rintro _ ⟨z8, rfl, hz8⟩
          refine And.intro (by omega) (And.intro ?_ ?_)
          · intro c9
            refine Exists.intro xm_300 (And.intro mi_300 (And.intro ⟨rfl, rfl, rfl, rfl⟩ (And.intro rfl ?_)))
            refine fcallp hB1 (ct_M_need_68cc2 (fBz h0 hB1) (by omega)) ?_
            rintro _ ⟨z10, rfl, hz10⟩
            intro z11 hz11 ez11 bz11
            exact fcutJ (I := I1) (j := jc_M_mayBirth_669a5_16) (lv' := [(0, .inr (.inr (some 740))), (1, .inl _), (2, .inl _), (3, .inl _), (4, .inl _), (5, .inl _)]) (And.intro rfl (And.intro rfl (And.intro rfl (And.intro rfl (And.intro rfl (And.intro rfl True.intro)))))) ⟨_, _, _, _, _, rfl, rfl, by omega, rfl⟩ (by omega)
          · intro c12
            intro z13 hz13 ez13 bz13
            exact fcutJ (I := I1) (j := jc_M_mayBirth_669a5_16) (lv' := [(0, .inr (.inr (some 740))), (1, .inl _), (2, .inl _), (3, .inl _), (4, .inl _), (5, .inl _)]) (And.intro rfl (And.intro rfl (And.intro rfl (And.intro rfl (And.intro rfl (And.intro rfl True.intro)))))) ⟨_, _, _, _, _, rfl, rfl, by omega, rfl⟩ (by omega)
        · intro c14
          intro z15 hz15 ez15 bz15
          refine Exists.intro xm_248 (And.intro mi_248 (And.intro ⟨rfl, rfl, rfl, rfl⟩ (And.intro rfl ?_)))
          refine fcallp hB1 (ct_M_isDead_21e1a (fBz h0 hB1) (by omega)) ?_
          rintro _ ⟨z16, rfl, hz16⟩
          refine And.intro (by omega) (And.intro ?_ ?_)
          · intro c17
            refine Exists.intro xm_300 (And.intro mi_300 (And.intro ⟨rfl, rfl, rfl, rfl⟩ (And.intro rfl ?_)))
            refine fcallp hB1 (ct_M_need_68cc2 (fBz h0 hB1) (by omega)) ?_
            rintro _ ⟨z18, rfl, hz18⟩
            intro z19 hz19 ez19 bz19
            exact fcutJ (I := I1) (j := jc_M_mayBirth_669a5_16) (lv' := [(0, .inr (.inr (some 740))), (1, .inl _), (2, .inl _), (3, .inl _), (4, .inl _), (5, .inl _)]) (And.intro rfl (And.intro rfl (And.intro rfl (And.intro rfl (And.intro rfl (And.intro rfl True.intro)))))) ⟨_, _, _, _, _, rfl, rfl, by omega, rfl⟩ (by omega)
          · intro c20
            intro z21 hz21 ez21 bz21
            exact fcutJ (I := I1) (j := jc_M_mayBirth_669a5_16) (lv' := [(0, .inr (.inr (some 740))), (1, .inl _), (2, .inl _), (3, .inl _), (4, .inl _), (5, .inl _)]) (And.intro rfl (And.intro rfl (And.intro rfl (And.intro rfl (And.intro rfl (And.intro rfl True.intro)))))) ⟨_, _, _, _, _, rfl, rfl, by omega, rfl⟩ (by omega)
    · rintro m _ _ I1 hB1 ⟨y1, y2, y3, y4, y5, rfl, rfl, hb, hm⟩
      have k22 := fBz_eq hB1 (a := 741) (j := 9) (by decide +kernel)
      refine And.intro ⟨rfl, by decide, by decide⟩ ?_
      refine fload rL_741_741_7_7_1_0 h0 hB1 (by omega) ?_
      intro z23 lz23 uz23 qz23
      have pz23 := fld_at qz23 7 (by omega)
      refine And.intro (by omega) (And.intro ?_ ?_)
      · intro c24
        refine And.intro ⟨rfl, by decide, by decide⟩ ?_
        refine fstore rS_748_748_0_127_1_0 (fzs_sub (by decide +kernel) hW) (by omega) (by omega) ?_
        intro IhB25 ehB25 hB25
        have t26 := fup_self ehB25
        have t27 : IhB25 741 7 = I1 741 7 := (congrFun (congrFun ehB25 741) 7).trans (fup_ne (by omega))
        have t28 := fup_at ehB25 112 (by omega)
        have k29 := fBz_eq hB25 (a := 741) (j := 9) (by decide +kernel)
        refine And.intro ⟨rfl, by decide, by decide⟩ ?_
        refine fstore rS_748_748_0_127_1_0 (fzs_sub (by decide +kernel) hW) (by omega) (by omega) ?_
        intro IhB30 ehB30 hB30
        have t31 := fup_self ehB30
        have t32 : IhB30 741 7 = IhB25 741 7 := (congrFun (congrFun ehB30 741) 7).trans (fup_ne (by omega))
        have t33 := fup_at ehB30 111 (by omega)
        have t34 : IhB30 748 112 = IhB25 748 112 := (congrFun (congrFun ehB30 748) 112).trans (fup_ne (by omega))
        have k35 := fBz_eq hB30 (a := 741) (j := 9) (by decide +kernel)
        refine And.intro ⟨rfl, by decide, by decide⟩ ?_
        refine fstore rS_748_748_0_127_1_0 (fzs_sub (by decide +kernel) hW) (by omega) (by omega) ?_
        intro IhB36 ehB36 hB36
        have t37 := fup_self ehB36
        have t38 : IhB36 741 7 = IhB30 741 7 := (congrFun (congrFun ehB36 741) 7).trans (fup_ne (by omega))
        have t39 : IhB36 748 111 = IhB30 748 111 := (congrFun (congrFun ehB36 748) 111).trans (fup_ne (by omega))
        have t40 : IhB36 748 112 = IhB30 748 112 := (congrFun (congrFun ehB36 748) 112).trans (fup_ne (by omega))
        have t41 := fup_at ehB36 117 (by omega)
        have k42 := fBz_eq hB36 (a := 741) (j := 9) (by decide +kernel)
        refine And.intro (by omega) (And.intro ?_ ?_)
        · intro c43
          refine And.intro (⟨by omega, by omega⟩) ?_
          exact ⟨_, rfl, by omega⟩
        · intro c44
          refine Exists.intro xm_259 (And.intro mi_259 (And.intro ⟨rfl, rfl, rfl, rfl⟩ (And.intro rfl ?_)))
          refine fcall _ h0 (fzs_sub (by decide +kernel) hW) hB36 (ct_M_worked_0bc29 (fBz h0 hB36) (by omega) (sI_keep hp0 h0 hB36 (by decide +kernel)) (by omega)) ?_
          rintro IhB46 _ hB46 fhB46 ⟨z45, rfl, hz45⟩
          have t47 := fhB46 741 7 (by decide +kernel)
          have k48 := fBz_eq hB46 (a := 741) (j := 9) (by decide +kernel)
          refine And.intro (by omega) (And.intro ?_ ?_)
          · intro c49
            refine And.intro (⟨by omega, by omega⟩) ?_
            exact ⟨_, rfl, by omega⟩
          · intro c50
            refine And.intro (⟨by omega, by omega⟩) ?_
            exact ⟨_, rfl, by omega⟩
      · intro c51
        refine Exists.intro xm_267 (And.intro mi_267 (And.intro ⟨rfl, rfl, rfl, rfl⟩ (And.intro rfl ?_)))
        refine fcallp hB1 (ct_M_kindOf_31275 (fBz h0 hB1) (by omega)) ?_
        rintro _ ⟨z52, rfl, hz52⟩
        refine And.intro (by omega) (And.intro ?_ ?_)
        · intro c53
          intro z54 hz54 ez54 bz54
          exact fcutJ (I := I1) (j := jc_M_mayBirth_669a5_76) (lv' := [(0, .inr (.inr (some 740))), (1, .inl _), (2, .inl _), (3, .inl _), (4, .inl _), (5, .inl _)]) (And.intro rfl (And.intro rfl (And.intro rfl (And.intro rfl (And.intro rfl (And.intro rfl True.intro)))))) ⟨_, _, _, _, _, rfl, rfl, by omega, rfl⟩ (by omega)
        · intro c55
          refine Exists.intro xm_245 (And.intro mi_245 (And.intro ⟨rfl, rfl, rfl, rfl⟩ (And.intro rfl ?_)))
          refine fcallp hB1 (ct_M_isGone_0de37 (fBz h0 hB1) (by omega)) ?_
          rintro _ ⟨z56, rfl, hz56⟩
          refine And.intro (by omega) (And.intro ?_ ?_)
          · intro c57
            intro z58 hz58 ez58 bz58
            exact fcutJ (I := I1) (j := jc_M_mayBirth_669a5_76) (lv' := [(0, .inr (.inr (some 740))), (1, .inl _), (2, .inl _), (3, .inl _), (4, .inl _), (5, .inl _)]) (And.intro rfl (And.intro rfl (And.intro rfl (And.intro rfl (And.intro rfl (And.intro rfl True.intro)))))) ⟨_, _, _, _, _, rfl, rfl, by omega, rfl⟩ (by omega)
          · intro c59
            refine And.intro ⟨rfl, by decide, by decide⟩ ?_
            refine Exists.intro xm_244 (And.intro mi_244 (And.intro ⟨rfl, rfl, rfl, rfl⟩ (And.intro rfl ?_)))
            refine fcallp hB1 (ct_M_workAt_83d38 (fBz h0 hB1) (by omega)) ?_
            rintro _ ⟨_, rfl, rfl⟩
            refine fload rL_741_741_535_857_14_0 h0 hB1 (by omega) ?_
            intro z61 lz61 uz61 qz61
            intro z62 hz62 ez62 bz62
            exact fcutJ (I := I1) (j := jc_M_mayBirth_669a5_76) (lv' := [(0, .inr (.inr (some 740))), (1, .inl _), (2, .inl _), (3, .inl _), (4, .inl _), (5, .inl _)]) (And.intro rfl (And.intro rfl (And.intro rfl (And.intro rfl (And.intro rfl (And.intro rfl True.intro)))))) ⟨_, _, _, _, _, rfl, rfl, by omega, rfl⟩ (by omega)
  · have hB0 := fB_self (zn := znJ) (K := fKc wz_5ef89) h0
    refine Exists.intro xm_254 (And.intro mi_254 (And.intro ⟨rfl, rfl, rfl, rfl⟩ (And.intro rfl ?_)))
    refine fcallp hB0 (ct_M_counts_1278f (fBz h0 hB0) (by omega)) ?_
    rintro _ ⟨z63, rfl, hz63⟩
    exact fcutJ (I := I) (j := jc_M_mayBirth_669a5_16) (lv' := [(0, .inr (.inr (some 740))), (1, .inl _), (2, .inl _), (3, .inl _), (4, .inl _), (5, .inl _)]) (And.intro rfl (And.intro rfl (And.intro rfl (And.intro rfl (And.intro rfl (And.intro rfl True.intro)))))) ⟨_, _, _, _, _, rfl, rfl, by omega, rfl⟩ (by omega)
set_option maxRecDepth 8000 in
theorem ct_M_birth_69b9b {I : fH} {x1 : Int} (h0 : fB bsJ I) (ha1 : ((-2147483648) ≤ x1 ∧ x1 ≤ 2147483647)) (hp0 : sI I 741) : fC ρ base n F xTc vwCl xTys D dA la gJ (fbz bsJ znJ (fKc wz_d6a43) I) xm_308 [.inr (.inr (some 740)), .inl x1] I (fun _ r => ∃ z, r = some (.inl z) ∧ ((0 ≤ z ∧ z ≤ 23) ∨ z = (-1000000003) ∨ z = (-1000000002) ∨ z = (-1000000001))) := by
  have hW : fzs wz_d6a43 (fKc wz_d6a43) := fKc_ok _
  refine f_meth (rb := rbJ) (J := []) 1 400 xG xin_308 x6_308 okJ (fB_self h0) ?_ ?_
  · exact fun q h => absurd h List.not_mem_nil
  · have hB0 := fB_self (zn := znJ) (K := fKc wz_d6a43) h0
    refine Exists.intro xm_241 (And.intro mi_241 (And.intro ⟨rfl, rfl, rfl, rfl⟩ (And.intro rfl ?_)))
    refine fcallp hB0 (ct_M_isCell_45859 (fBz h0 hB0) (by omega)) ?_
    rintro _ ⟨z1, rfl, hz1⟩
    refine And.intro (by omega) (And.intro ?_ ?_)
    · intro c2
      refine Exists.intro xm_309 (And.intro mi_309 (And.intro ⟨rfl, rfl, rfl, rfl⟩ (And.intro rfl ?_)))
      refine fcall _ h0 (fzs_sub (by decide +kernel) hW) hB0 (ct_M_mayBirth_669a5 (fBz h0 hB0) (sI_keep hp0 h0 hB0 (by decide +kernel))) ?_
      rintro IhB4 _ hB4 fhB4 ⟨z3, rfl, hz3⟩
      refine And.intro (by omega) (And.intro ?_ ?_)
      · intro c5
        refine Exists.intro xm_305 (And.intro mi_305 (And.intro ⟨rfl, rfl, rfl, rfl⟩ (And.intro rfl ?_)))
        refine fcall _ h0 (fzs_sub (by decide +kernel) hW) hB4 (ct_M_person_81c92 (fBz h0 hB4) (by omega) (by omega) (by omega)) ?_
        rintro IhB7 _ hB7 fhB7 ⟨z6, rfl, hz6⟩
        refine And.intro (True.intro) ?_
        exact ⟨_, rfl, by omega⟩
      · intro c8
        refine And.intro (True.intro) ?_
        exact ⟨_, rfl, by omega⟩
    · intro c9
      refine And.intro (True.intro) ?_
      exact ⟨_, rfl, by omega⟩
set_option maxRecDepth 8000 in
theorem ct_M_step_2c704 {I : fH} {x1 : Int} {x2 : Int} (h0 : fB bsJ I) (ha1 : (0 ≤ x1 ∧ x1 ≤ 2)) (ha2 : ((-2147483648) ≤ x2 ∧ x2 ≤ 2147483647)) (hp0 : 0 ≤ I 740 16 ∧ I 740 16 ≤ 96) (hp1 : (1215 ≤ I 740 17 ∧ I 740 17 ≤ 3415 ∧ (I 740 17 - 1215) % 200 = 0) ∨ I 740 17 = 4700) : fC ρ base n F xTc vwCl xTys D dA la gJ (fbz bsJ znJ (fKc wz_6dafe) I) xm_421 [.inr (.inr (some 740)), .inl x1, .inl x2] I (fun I' r => r = none ∧ (I' 740 16 = I 740 16 + 1) ∧ (sPut I I' (I 740 17) (I 740 16) x1 x2)) := by
  have hW : fzs wz_6dafe (fKc wz_6dafe) := fKc_ok _
  refine f_meth (rb := rbJ) (J := []) 1 400 xG xin_421 x6_421 okJ (fB_self h0) ?_ ?_
  · exact fun q h => absurd h List.not_mem_nil
  · have hB0 := fB_self (zn := znJ) (K := fKc wz_6dafe) h0
    refine And.intro ⟨rfl, by decide, by decide⟩ ?_
    refine And.intro ⟨rfl, by decide, by decide⟩ (fgetf fb_740_17 h0 hB0 ?_)
    intro z1 lz1 uz1 qz1
    refine And.intro ⟨rfl, by decide, by decide⟩ (fgetf fb_740_16 h0 hB0 ?_)
    intro z2 lz2 uz2 qz2
    intro z3 hz3 ez3 bz3
    refine fstoreX (W := [20605, 20840]) (fzs_sub (by decide +kernel) hW) (by rcases hp1 with hA | hA <;> first | exact frS_at rS_741_741_1215_3609_200_194 (by decide +kernel) (by omega) (by omega) | exact frS_at rS_741_741_4700_4899_1_0 (by decide +kernel) (by omega) (by omega)) ?_
    intro IhB4 ehB4 hB4
    have t5 := fup_self ehB4
    have t6 : IhB4 740 16 = I 740 16 := (congrFun (congrFun ehB4 740) 16).trans (fup_ne (by omega))
    have t7 : IhB4 740 17 = I 740 17 := (congrFun (congrFun ehB4 740) 17).trans (fup_ne (by omega))
    refine And.intro ⟨rfl, by decide, by decide⟩ ?_
    refine And.intro ⟨rfl, by decide, by decide⟩ (fgetf fb_740_17 h0 hB4 ?_)
    intro z8 lz8 uz8 qz8
    refine And.intro ⟨rfl, by decide, by decide⟩ (fgetf fb_740_16 h0 hB4 ?_)
    intro z9 lz9 uz9 qz9
    intro z10 hz10 ez10 bz10
    intro z11 hz11 ez11 bz11
    refine fstoreX (W := [20605, 20840]) (fzs_sub (by decide +kernel) hW) (by rcases hp1 with hA | hA <;> first | exact frS_at rS_741_741_1215_3609_200_194 (by decide +kernel) (by omega) (by omega) | exact frS_at rS_741_741_4700_4899_1_0 (by decide +kernel) (by omega) (by omega)) ?_
    intro IhB12 ehB12 hB12
    have t13 := fup_self ehB12
    have t14 : IhB12 740 16 = IhB4 740 16 := (congrFun (congrFun ehB12 740) 16).trans (fup_ne (by omega))
    have t15 : IhB12 740 17 = IhB4 740 17 := (congrFun (congrFun ehB12 740) 17).trans (fup_ne (by omega))
    refine And.intro ⟨rfl, by decide, by decide⟩ (fgetf fb_740_16 h0 hB12 ?_)
    intro z16 lz16 uz16 qz16
    refine And.intro ⟨rfl, by decide, by decide⟩ (And.intro rfl (And.intro (Or.inl rfl) (fputf fb_740_16 (by decide +kernel) hW (by omega) ?_)))
    intro IhB17 ehB17 hB17
    have t18 := fup_at ehB17 16 (by omega)
    have t19 : IhB17 740 17 = IhB12 740 17 := (congrFun (congrFun ehB17 740) 17).trans (fup_ne (by omega))
    exact ⟨rfl, by omega, ⟨fun j h1 h2 => (fup_other ehB17 741 j (Or.inl (by decide))).trans ((fup_other ehB12 741 j (Or.inr (by omega))).trans (fup_other ehB4 741 j (Or.inr (by omega)))), (fup_other ehB17 741 _ (Or.inl (by decide))).trans ((fup_other ehB12 741 _ (Or.inr (by omega))).trans (fup_at ehB4 _ (by omega))), (fup_other ehB17 741 _ (Or.inl (by decide))).trans (fup_at ehB12 _ (by omega))⟩⟩
set_option maxRecDepth 8000 in
theorem ct_M_isLetter_13ae5 {I : fH} {x1 : Int} (h0 : fB bsJ I) (ha1 : (0 ≤ x1 ∧ x1 ≤ 96)) : fC ρ base n F xTc vwCl xTys D dA la gJ (fbz bsJ znJ (fKc []) I) xm_315 [.inr (.inr (some 740)), .inl x1] I (fun _ r => ∃ z, r = some (.inl z) ∧ (((z = 1 ∧ (-2147483648) ≤ x1 ∧ x1 ≤ 95) ∨ z = 0) ∧ ((z = 1 → x1 < I 740 8 ∧ 97 ≤ I 747 x1.toNat ∧ I 747 x1.toNat ≤ 122) ∧ (z = 0 → ¬ (x1 < I 740 8 ∧ 97 ≤ I 747 x1.toNat ∧ I 747 x1.toNat ≤ 122))))) := by
  have hW : fzs [] (fKc []) := fKc_ok _
  refine f_meth (rb := rbJ) (J := []) 1 400 xG xin_315 x6_315 okJ (fB_self h0) ?_ ?_
  · exact fun q h => absurd h List.not_mem_nil
  · have hB0 := fB_self (zn := znJ) (K := fKc []) h0
    refine And.intro ⟨rfl, by decide, by decide⟩ (fgetf fb_740_8 h0 hB0 ?_)
    intro z1 lz1 uz1 qz1
    refine And.intro (by omega) (And.intro ?_ ?_)
    · intro c2
      refine And.intro (⟨by omega, by omega⟩) ?_
      exact ⟨_, rfl, by omega⟩
    · intro c3
      refine And.intro ⟨rfl, by decide, by decide⟩ ?_
      refine fload rL_747_747_0_95_1_0 h0 hB0 (by omega) ?_
      intro z4 lz4 uz4 qz4
      refine And.intro (by omega) ?_
      refine Exists.intro xm_238 (And.intro mi_238 (And.intro ⟨rfl, rfl, rfl, rfl⟩ (And.intro True.intro ?_)))
      refine fcallp hB0 (ct_M_isIn_27230 (fBz h0 hB0) (by omega) (by omega) (by omega)) ?_
      rintro _ ⟨z5, rfl, hz5⟩
      refine And.intro (by omega) (And.intro ?_ ?_)
      · intro c6
        refine And.intro (⟨by omega, by omega⟩) ?_
        exact ⟨_, rfl, by omega⟩
      · intro c7
        refine And.intro (⟨by omega, by omega⟩) ?_
        exact ⟨_, rfl, by omega⟩
set_option maxRecDepth 8000 in
theorem ct_M_isDigit_7604c {I : fH} {x1 : Int} (h0 : fB bsJ I) (ha1 : (0 ≤ x1 ∧ x1 ≤ 96)) : fC ρ base n F xTc vwCl xTys D dA la gJ (fbz bsJ znJ (fKc []) I) xm_316 [.inr (.inr (some 740)), .inl x1] I (fun _ r => ∃ z, r = some (.inl z) ∧ (((z = 1 ∧ (-2147483648) ≤ x1 ∧ x1 ≤ 95) ∨ z = 0) ∧ ((z = 1 → x1 < I 740 8 ∧ 48 ≤ I 747 x1.toNat ∧ I 747 x1.toNat ≤ 57) ∧ (z = 0 → ¬ (x1 < I 740 8 ∧ 48 ≤ I 747 x1.toNat ∧ I 747 x1.toNat ≤ 57))))) := by
  have hW : fzs [] (fKc []) := fKc_ok _
  refine f_meth (rb := rbJ) (J := []) 1 400 xG xin_316 x6_316 okJ (fB_self h0) ?_ ?_
  · exact fun q h => absurd h List.not_mem_nil
  · have hB0 := fB_self (zn := znJ) (K := fKc []) h0
    refine And.intro ⟨rfl, by decide, by decide⟩ (fgetf fb_740_8 h0 hB0 ?_)
    intro z1 lz1 uz1 qz1
    refine And.intro (by omega) (And.intro ?_ ?_)
    · intro c2
      refine And.intro (⟨by omega, by omega⟩) ?_
      exact ⟨_, rfl, by omega⟩
    · intro c3
      refine And.intro ⟨rfl, by decide, by decide⟩ ?_
      refine fload rL_747_747_0_95_1_0 h0 hB0 (by omega) ?_
      intro z4 lz4 uz4 qz4
      refine And.intro (by omega) ?_
      refine Exists.intro xm_238 (And.intro mi_238 (And.intro ⟨rfl, rfl, rfl, rfl⟩ (And.intro True.intro ?_)))
      refine fcallp hB0 (ct_M_isIn_27230 (fBz h0 hB0) (by omega) (by omega) (by omega)) ?_
      rintro _ ⟨z5, rfl, hz5⟩
      refine And.intro (by omega) (And.intro ?_ ?_)
      · intro c6
        refine And.intro (⟨by omega, by omega⟩) ?_
        exact ⟨_, rfl, by omega⟩
      · intro c7
        refine And.intro (⟨by omega, by omega⟩) ?_
        exact ⟨_, rfl, by omega⟩
abbrev jc_M_next_c8003_34 (I0 : fH) : Nat → fL → List fV → fH → Prop := fun m lv st I => ∃ (y1 : Int) (y2 : Int), lv = [(0, .inr (.inr (some 740))), (1, .inl y1), (2, .inl y2)] ∧ st = [] ∧ (((0 ≤ y1 ∧ y1 ≤ 1) ∧ (0 ≤ y2 ∧ y2 ≤ 96) ∧ (I0 740 10 ≤ I 740 10) ∧ (I 740 10 ≤ I 740 8))) ∧ m = (195 + 1 * (96 - I 740 10) : Int).toNat
abbrev jc_M_next_c8003_128 (I0 : fH) : Nat → fL → List fV → fH → Prop := fun m lv st I => ∃ (y1 : Int), lv = [(0, .inr (.inr (some 740))), (1, .inl y1)] ∧ st = [] ∧ (((0 ≤ y1 ∧ y1 ≤ 1) ∧ (I0 740 10 ≤ I 740 9) ∧ (I 740 9 ≤ I 740 10) ∧ (I 740 10 ≤ I 740 8) ∧ (I 740 9 < I 740 8) ∧ (I 740 10 = I 740 9 → 97 ≤ I 747 (I 740 9).toNat ∧ I 747 (I 740 9).toNat ≤ 122))) ∧ m = (98 + 1 * (96 - I 740 10) : Int).toNat
abbrev jc_M_next_c8003_214 (I0 : fH) : Nat → fL → List fV → fH → Prop := fun m lv st I => ∃ (y1 : Int), lv = [(0, .inr (.inr (some 740))), (1, .inl y1)] ∧ st = [] ∧ (((0 ≤ y1 ∧ y1 ≤ 1) ∧ (I0 740 10 ≤ I 740 9) ∧ (I 740 9 ≤ I 740 10) ∧ (I 740 10 ≤ I 740 8) ∧ (I 740 9 < I 740 8) ∧ (I 740 10 = I 740 9 → 48 ≤ I 747 (I 740 9).toNat ∧ I 747 (I 740 9).toNat ≤ 57))) ∧ m = (1 + 1 * (96 - I 740 10) : Int).toNat
set_option maxRecDepth 8000 in
theorem ct_M_next_c8003 {I : fH}  (h0 : fB bsJ I) (hp0 : I 740 10 ≤ I 740 8) : fC ρ base n F xTc vwCl xTys D dA la gJ (fbz bsJ znJ (fKc wz_1c18d) I) xm_314 [.inr (.inr (some 740))] I (fun I' r => r = none ∧ (I 740 10 ≤ I' 740 9 ∧ I' 740 9 ≤ I' 740 10 ∧ I' 740 10 ≤ I' 740 8 ∧ (I' 740 11 = 0 ∨ I' 740 9 < I' 740 10))) := by
  have hW : fzs wz_1c18d (fKc wz_1c18d) := fKc_ok _
  refine f_meth (rb := rbJ) (J := [(34, (jc_M_next_c8003_34 I)), (128, (jc_M_next_c8003_128 I)), (214, (jc_M_next_c8003_214 I))]) 292 400 xG xin_314 x6_314 okJ (fB_self h0) ?_ ?_
  · refine List.forall_mem_cons.mpr ⟨?_, List.forall_mem_cons.mpr ⟨?_, List.forall_mem_cons.mpr ⟨?_, fun q h => absurd h List.not_mem_nil⟩⟩⟩
    · rintro m _ _ I1 hB1 ⟨y1, y2, rfl, rfl, hb, hm⟩
      have k1 := fBz_eq hB1 (a := 740) (j := 8) (by decide +kernel)
      refine And.intro ⟨rfl, by decide, by decide⟩ (fgetf fb_740_10 h0 hB1 ?_)
      intro z2 lz2 uz2 qz2
      refine And.intro ⟨rfl, by decide, by decide⟩ (fgetf fb_740_8 h0 hB1 ?_)
      intro z3 lz3 uz3 qz3
      refine And.intro (by omega) (And.intro ?_ ?_)
      · intro c4
        refine And.intro (by omega) (And.intro ?_ ?_)
        · intro c5
          refine And.intro ⟨rfl, by decide, by decide⟩ (fgetf fb_740_10 h0 hB1 ?_)
          intro z6 lz6 uz6 qz6
          refine And.intro ⟨rfl, by decide, by decide⟩ (And.intro rfl (And.intro (Or.inl rfl) (fputf fb_740_9 (by decide +kernel) hW (by omega) ?_)))
          intro IhB7 ehB7 hB7
          have t8 : IhB7 740 8 = I1 740 8 := (congrFun (congrFun ehB7 740) 8).trans (fup_ne (by omega))
          have t9 := fup_at ehB7 9 (by omega)
          have t10 : IhB7 740 10 = I1 740 10 := (congrFun (congrFun ehB7 740) 10).trans (fup_ne (by omega))
          have t11 : IhB7 740 11 = I1 740 11 := (congrFun (congrFun ehB7 740) 11).trans (fup_ne (by omega))
          have k12 := fBz_eq hB7 (a := 740) (j := 8) (by decide +kernel)
          refine And.intro ⟨rfl, by decide, by decide⟩ (fgetf fb_740_9 h0 hB7 ?_)
          intro z13 lz13 uz13 qz13
          refine And.intro ⟨rfl, by decide, by decide⟩ (fgetf fb_740_8 h0 hB7 ?_)
          intro z14 lz14 uz14 qz14
          refine And.intro (by omega) (And.intro ?_ ?_)
          · intro c15
            refine And.intro ⟨rfl, by decide, by decide⟩ (fgetf fb_740_9 h0 hB7 ?_)
            intro z16 lz16 uz16 qz16
            subst qz16
            refine Exists.intro xm_315 (And.intro mi_315 (And.intro ⟨rfl, rfl, rfl, rfl⟩ (And.intro rfl ?_)))
            refine fcallp hB7 (ct_M_isLetter_13ae5 (fBz h0 hB7) (by omega)) ?_
            rintro _ ⟨z17, rfl, hz17⟩
            have wd : IhB7 740 10 = IhB7 740 9 → IhB7 747 (IhB7 740 10).toNat = IhB7 747 (IhB7 740 9).toNat := fun q => by rw [q]
            refine And.intro (by omega) (And.intro ?_ ?_)
            · intro c18
              refine And.intro ⟨rfl, by decide, by decide⟩ (fgetf fb_740_9 h0 hB7 ?_)
              intro z19 lz19 uz19 qz19
              subst qz19
              refine Exists.intro xm_316 (And.intro mi_316 (And.intro ⟨rfl, rfl, rfl, rfl⟩ (And.intro rfl ?_)))
              refine fcallp hB7 (ct_M_isDigit_7604c (fBz h0 hB7) (by omega)) ?_
              rintro _ ⟨z20, rfl, hz20⟩
              have wd : IhB7 740 10 = IhB7 740 9 → IhB7 747 (IhB7 740 10).toNat = IhB7 747 (IhB7 740 9).toNat := fun q => by rw [q]
              refine And.intro (by omega) (And.intro ?_ ?_)
              · intro c21
                refine And.intro ⟨rfl, by decide, by decide⟩ (And.intro rfl (And.intro (Or.inl rfl) (fputf fb_740_11 (by decide +kernel) hW (by omega) ?_)))
                intro IhB22 ehB22 hB22
                have t23 : IhB22 740 8 = IhB7 740 8 := (congrFun (congrFun ehB22 740) 8).trans (fup_ne (by omega))
                have t24 : IhB22 740 9 = IhB7 740 9 := (congrFun (congrFun ehB22 740) 9).trans (fup_ne (by omega))
                have t25 : IhB22 740 10 = IhB7 740 10 := (congrFun (congrFun ehB22 740) 10).trans (fup_ne (by omega))
                have t26 := fup_at ehB22 11 (by omega)
                have k27 := fBz_eq hB22 (a := 740) (j := 8) (by decide +kernel)
                refine And.intro ⟨rfl, by decide, by decide⟩ ?_
                refine And.intro ⟨rfl, by decide, by decide⟩ (fgetf fb_740_9 h0 hB22 ?_)
                intro z28 lz28 uz28 qz28
                refine fload rL_747_747_0_95_1_0 h0 hB22 (by omega) ?_
                intro z29 lz29 uz29 qz29
                refine And.intro ⟨rfl, by decide, by decide⟩ (And.intro rfl (And.intro (Or.inl rfl) (fputf fb_740_13 (by decide +kernel) hW (by omega) ?_)))
                intro IhB30 ehB30 hB30
                have t31 : IhB30 740 8 = IhB22 740 8 := (congrFun (congrFun ehB30 740) 8).trans (fup_ne (by omega))
                have t32 : IhB30 740 9 = IhB22 740 9 := (congrFun (congrFun ehB30 740) 9).trans (fup_ne (by omega))
                have t33 : IhB30 740 10 = IhB22 740 10 := (congrFun (congrFun ehB30 740) 10).trans (fup_ne (by omega))
                have t34 : IhB30 740 11 = IhB22 740 11 := (congrFun (congrFun ehB30 740) 11).trans (fup_ne (by omega))
                have t35 := fup_at ehB30 13 (by omega)
                have k36 := fBz_eq hB30 (a := 740) (j := 8) (by decide +kernel)
                refine And.intro ⟨rfl, by decide, by decide⟩ (fgetf fb_740_10 h0 hB30 ?_)
                intro z37 lz37 uz37 qz37
                refine And.intro ⟨rfl, by decide, by decide⟩ (And.intro rfl (And.intro (Or.inl rfl) (fputf fb_740_10 (by decide +kernel) hW (by omega) ?_)))
                intro IhB38 ehB38 hB38
                have t39 : IhB38 740 9 = IhB30 740 9 := (congrFun (congrFun ehB38 740) 9).trans (fup_ne (by omega))
                have t40 := fup_at ehB38 10 (by omega)
                have t41 : IhB38 740 11 = IhB30 740 11 := (congrFun (congrFun ehB38 740) 11).trans (fup_ne (by omega))
                have k42 := fBz_eq hB38 (a := 740) (j := 8) (by decide +kernel)
                exact ⟨rfl, by omega⟩
              · intro c43
                refine And.intro ⟨rfl, by decide, by decide⟩ (And.intro rfl (And.intro (Or.inl rfl) (fputf fb_740_12 (by decide +kernel) hW (by omega) ?_)))
                intro IhB44 ehB44 hB44
                have t45 : IhB44 740 9 = IhB7 740 9 := (congrFun (congrFun ehB44 740) 9).trans (fup_ne (by omega))
                have t46 : IhB44 740 10 = IhB7 740 10 := (congrFun (congrFun ehB44 740) 10).trans (fup_ne (by omega))
                have t47 : IhB44 740 11 = IhB7 740 11 := (congrFun (congrFun ehB44 740) 11).trans (fup_ne (by omega))
                have k48 := fBz_eq hB44 (a := 740) (j := 8) (by decide +kernel)
                exact fcutJ (I := IhB44) (j := (jc_M_next_c8003_214 I)) (lv' := [(0, .inr (.inr (some 740))), (1, .inl _)]) (And.intro rfl (And.intro rfl True.intro)) ⟨_, rfl, rfl, by omega, rfl⟩ (by omega)
            · intro c49
              exact fcutJ (I := IhB7) (j := (jc_M_next_c8003_128 I)) (lv' := [(0, .inr (.inr (some 740))), (1, .inl _)]) (And.intro rfl (And.intro rfl True.intro)) ⟨_, rfl, rfl, by omega, rfl⟩ (by omega)
          · intro c50
            refine And.intro ⟨rfl, by decide, by decide⟩ (And.intro rfl (And.intro (Or.inl rfl) (fputf fb_740_11 (by decide +kernel) hW (by omega) ?_)))
            intro IhB51 ehB51 hB51
            have t52 : IhB51 740 8 = IhB7 740 8 := (congrFun (congrFun ehB51 740) 8).trans (fup_ne (by omega))
            have t53 : IhB51 740 9 = IhB7 740 9 := (congrFun (congrFun ehB51 740) 9).trans (fup_ne (by omega))
            have t54 : IhB51 740 10 = IhB7 740 10 := (congrFun (congrFun ehB51 740) 10).trans (fup_ne (by omega))
            have t55 := fup_at ehB51 11 (by omega)
            have k56 := fBz_eq hB51 (a := 740) (j := 8) (by decide +kernel)
            exact ⟨rfl, by omega⟩
        · intro c57
          refine And.intro ⟨rfl, by decide, by decide⟩ (fgetf fb_740_10 h0 hB1 ?_)
          intro z58 lz58 uz58 qz58
          refine And.intro (by omega) (And.intro ?_ ?_)
          · intro c59
            refine And.intro ⟨rfl, by decide, by decide⟩ (fgetf fb_740_10 h0 hB1 ?_)
            intro z60 lz60 uz60 qz60
            refine And.intro ⟨rfl, by decide, by decide⟩ (And.intro rfl (And.intro (Or.inl rfl) (fputf fb_740_9 (by decide +kernel) hW (by omega) ?_)))
            intro IhB61 ehB61 hB61
            have t62 : IhB61 740 8 = I1 740 8 := (congrFun (congrFun ehB61 740) 8).trans (fup_ne (by omega))
            have t63 := fup_at ehB61 9 (by omega)
            have t64 : IhB61 740 10 = I1 740 10 := (congrFun (congrFun ehB61 740) 10).trans (fup_ne (by omega))
            have t65 : IhB61 740 11 = I1 740 11 := (congrFun (congrFun ehB61 740) 11).trans (fup_ne (by omega))
            have k66 := fBz_eq hB61 (a := 740) (j := 8) (by decide +kernel)
            refine And.intro ⟨rfl, by decide, by decide⟩ (fgetf fb_740_9 h0 hB61 ?_)
            intro z67 lz67 uz67 qz67
            refine And.intro ⟨rfl, by decide, by decide⟩ (fgetf fb_740_8 h0 hB61 ?_)
            intro z68 lz68 uz68 qz68
            refine And.intro (by omega) (And.intro ?_ ?_)
            · intro c69
              refine And.intro ⟨rfl, by decide, by decide⟩ (fgetf fb_740_9 h0 hB61 ?_)
              intro z70 lz70 uz70 qz70
              subst qz70
              refine Exists.intro xm_315 (And.intro mi_315 (And.intro ⟨rfl, rfl, rfl, rfl⟩ (And.intro rfl ?_)))
              refine fcallp hB61 (ct_M_isLetter_13ae5 (fBz h0 hB61) (by omega)) ?_
              rintro _ ⟨z71, rfl, hz71⟩
              have wd : IhB61 740 10 = IhB61 740 9 → IhB61 747 (IhB61 740 10).toNat = IhB61 747 (IhB61 740 9).toNat := fun q => by rw [q]
              refine And.intro (by omega) (And.intro ?_ ?_)
              · intro c72
                refine And.intro ⟨rfl, by decide, by decide⟩ (fgetf fb_740_9 h0 hB61 ?_)
                intro z73 lz73 uz73 qz73
                subst qz73
                refine Exists.intro xm_316 (And.intro mi_316 (And.intro ⟨rfl, rfl, rfl, rfl⟩ (And.intro rfl ?_)))
                refine fcallp hB61 (ct_M_isDigit_7604c (fBz h0 hB61) (by omega)) ?_
                rintro _ ⟨z74, rfl, hz74⟩
                have wd : IhB61 740 10 = IhB61 740 9 → IhB61 747 (IhB61 740 10).toNat = IhB61 747 (IhB61 740 9).toNat := fun q => by rw [q]
                refine And.intro (by omega) (And.intro ?_ ?_)
                · intro c75
                  refine And.intro ⟨rfl, by decide, by decide⟩ (And.intro rfl (And.intro (Or.inl rfl) (fputf fb_740_11 (by decide +kernel) hW (by omega) ?_)))
                  intro IhB76 ehB76 hB76
                  have t77 : IhB76 740 8 = IhB61 740 8 := (congrFun (congrFun ehB76 740) 8).trans (fup_ne (by omega))
                  have t78 : IhB76 740 9 = IhB61 740 9 := (congrFun (congrFun ehB76 740) 9).trans (fup_ne (by omega))
                  have t79 : IhB76 740 10 = IhB61 740 10 := (congrFun (congrFun ehB76 740) 10).trans (fup_ne (by omega))
                  have t80 := fup_at ehB76 11 (by omega)
                  have k81 := fBz_eq hB76 (a := 740) (j := 8) (by decide +kernel)
                  refine And.intro ⟨rfl, by decide, by decide⟩ ?_
                  refine And.intro ⟨rfl, by decide, by decide⟩ (fgetf fb_740_9 h0 hB76 ?_)
                  intro z82 lz82 uz82 qz82
                  refine fload rL_747_747_0_95_1_0 h0 hB76 (by omega) ?_
                  intro z83 lz83 uz83 qz83
                  refine And.intro ⟨rfl, by decide, by decide⟩ (And.intro rfl (And.intro (Or.inl rfl) (fputf fb_740_13 (by decide +kernel) hW (by omega) ?_)))
                  intro IhB84 ehB84 hB84
                  have t85 : IhB84 740 8 = IhB76 740 8 := (congrFun (congrFun ehB84 740) 8).trans (fup_ne (by omega))
                  have t86 : IhB84 740 9 = IhB76 740 9 := (congrFun (congrFun ehB84 740) 9).trans (fup_ne (by omega))
                  have t87 : IhB84 740 10 = IhB76 740 10 := (congrFun (congrFun ehB84 740) 10).trans (fup_ne (by omega))
                  have t88 : IhB84 740 11 = IhB76 740 11 := (congrFun (congrFun ehB84 740) 11).trans (fup_ne (by omega))
                  have t89 := fup_at ehB84 13 (by omega)
                  have k90 := fBz_eq hB84 (a := 740) (j := 8) (by decide +kernel)
                  refine And.intro ⟨rfl, by decide, by decide⟩ (fgetf fb_740_10 h0 hB84 ?_)
                  intro z91 lz91 uz91 qz91
                  refine And.intro ⟨rfl, by decide, by decide⟩ (And.intro rfl (And.intro (Or.inl rfl) (fputf fb_740_10 (by decide +kernel) hW (by omega) ?_)))
                  intro IhB92 ehB92 hB92
                  have t93 : IhB92 740 9 = IhB84 740 9 := (congrFun (congrFun ehB92 740) 9).trans (fup_ne (by omega))
                  have t94 := fup_at ehB92 10 (by omega)
                  have t95 : IhB92 740 11 = IhB84 740 11 := (congrFun (congrFun ehB92 740) 11).trans (fup_ne (by omega))
                  have k96 := fBz_eq hB92 (a := 740) (j := 8) (by decide +kernel)
                  exact ⟨rfl, by omega⟩
                · intro c97
                  refine And.intro ⟨rfl, by decide, by decide⟩ (And.intro rfl (And.intro (Or.inl rfl) (fputf fb_740_12 (by decide +kernel) hW (by omega) ?_)))
                  intro IhB98 ehB98 hB98
                  have t99 : IhB98 740 9 = IhB61 740 9 := (congrFun (congrFun ehB98 740) 9).trans (fup_ne (by omega))
                  have t100 : IhB98 740 10 = IhB61 740 10 := (congrFun (congrFun ehB98 740) 10).trans (fup_ne (by omega))
                  have t101 : IhB98 740 11 = IhB61 740 11 := (congrFun (congrFun ehB98 740) 11).trans (fup_ne (by omega))
                  have k102 := fBz_eq hB98 (a := 740) (j := 8) (by decide +kernel)
                  exact fcutJ (I := IhB98) (j := (jc_M_next_c8003_214 I)) (lv' := [(0, .inr (.inr (some 740))), (1, .inl _)]) (And.intro rfl (And.intro rfl True.intro)) ⟨_, rfl, rfl, by omega, rfl⟩ (by omega)
              · intro c103
                exact fcutJ (I := IhB61) (j := (jc_M_next_c8003_128 I)) (lv' := [(0, .inr (.inr (some 740))), (1, .inl _)]) (And.intro rfl (And.intro rfl True.intro)) ⟨_, rfl, rfl, by omega, rfl⟩ (by omega)
            · intro c104
              refine And.intro ⟨rfl, by decide, by decide⟩ (And.intro rfl (And.intro (Or.inl rfl) (fputf fb_740_11 (by decide +kernel) hW (by omega) ?_)))
              intro IhB105 ehB105 hB105
              have t106 : IhB105 740 8 = IhB61 740 8 := (congrFun (congrFun ehB105 740) 8).trans (fup_ne (by omega))
              have t107 : IhB105 740 9 = IhB61 740 9 := (congrFun (congrFun ehB105 740) 9).trans (fup_ne (by omega))
              have t108 : IhB105 740 10 = IhB61 740 10 := (congrFun (congrFun ehB105 740) 10).trans (fup_ne (by omega))
              have t109 := fup_at ehB105 11 (by omega)
              have k110 := fBz_eq hB105 (a := 740) (j := 8) (by decide +kernel)
              exact ⟨rfl, by omega⟩
          · intro c111
            refine And.intro ⟨rfl, by decide, by decide⟩ (fgetf fb_740_10 h0 hB1 ?_)
            intro z112 lz112 uz112 qz112
            refine And.intro ⟨rfl, by decide, by decide⟩ (And.intro rfl (And.intro (Or.inl rfl) (fputf fb_740_9 (by decide +kernel) hW (by omega) ?_)))
            intro IhB113 ehB113 hB113
            have t114 : IhB113 740 8 = I1 740 8 := (congrFun (congrFun ehB113 740) 8).trans (fup_ne (by omega))
            have t115 := fup_at ehB113 9 (by omega)
            have t116 : IhB113 740 10 = I1 740 10 := (congrFun (congrFun ehB113 740) 10).trans (fup_ne (by omega))
            have t117 : IhB113 740 11 = I1 740 11 := (congrFun (congrFun ehB113 740) 11).trans (fup_ne (by omega))
            have k118 := fBz_eq hB113 (a := 740) (j := 8) (by decide +kernel)
            refine And.intro ⟨rfl, by decide, by decide⟩ (fgetf fb_740_9 h0 hB113 ?_)
            intro z119 lz119 uz119 qz119
            refine And.intro ⟨rfl, by decide, by decide⟩ (fgetf fb_740_8 h0 hB113 ?_)
            intro z120 lz120 uz120 qz120
            refine And.intro (by omega) (And.intro ?_ ?_)
            · intro c121
              refine And.intro ⟨rfl, by decide, by decide⟩ (fgetf fb_740_9 h0 hB113 ?_)
              intro z122 lz122 uz122 qz122
              subst qz122
              refine Exists.intro xm_315 (And.intro mi_315 (And.intro ⟨rfl, rfl, rfl, rfl⟩ (And.intro rfl ?_)))
              refine fcallp hB113 (ct_M_isLetter_13ae5 (fBz h0 hB113) (by omega)) ?_
              rintro _ ⟨z123, rfl, hz123⟩
              have wd : IhB113 740 10 = IhB113 740 9 → IhB113 747 (IhB113 740 10).toNat = IhB113 747 (IhB113 740 9).toNat := fun q => by rw [q]
              refine And.intro (by omega) (And.intro ?_ ?_)
              · intro c124
                refine And.intro ⟨rfl, by decide, by decide⟩ (fgetf fb_740_9 h0 hB113 ?_)
                intro z125 lz125 uz125 qz125
                subst qz125
                refine Exists.intro xm_316 (And.intro mi_316 (And.intro ⟨rfl, rfl, rfl, rfl⟩ (And.intro rfl ?_)))
                refine fcallp hB113 (ct_M_isDigit_7604c (fBz h0 hB113) (by omega)) ?_
                rintro _ ⟨z126, rfl, hz126⟩
                have wd : IhB113 740 10 = IhB113 740 9 → IhB113 747 (IhB113 740 10).toNat = IhB113 747 (IhB113 740 9).toNat := fun q => by rw [q]
                refine And.intro (by omega) (And.intro ?_ ?_)
                · intro c127
                  refine And.intro ⟨rfl, by decide, by decide⟩ (And.intro rfl (And.intro (Or.inl rfl) (fputf fb_740_11 (by decide +kernel) hW (by omega) ?_)))
                  intro IhB128 ehB128 hB128
                  have t129 : IhB128 740 8 = IhB113 740 8 := (congrFun (congrFun ehB128 740) 8).trans (fup_ne (by omega))
                  have t130 : IhB128 740 9 = IhB113 740 9 := (congrFun (congrFun ehB128 740) 9).trans (fup_ne (by omega))
                  have t131 : IhB128 740 10 = IhB113 740 10 := (congrFun (congrFun ehB128 740) 10).trans (fup_ne (by omega))
                  have t132 := fup_at ehB128 11 (by omega)
                  have k133 := fBz_eq hB128 (a := 740) (j := 8) (by decide +kernel)
                  refine And.intro ⟨rfl, by decide, by decide⟩ ?_
                  refine And.intro ⟨rfl, by decide, by decide⟩ (fgetf fb_740_9 h0 hB128 ?_)
                  intro z134 lz134 uz134 qz134
                  refine fload rL_747_747_0_95_1_0 h0 hB128 (by omega) ?_
                  intro z135 lz135 uz135 qz135
                  refine And.intro ⟨rfl, by decide, by decide⟩ (And.intro rfl (And.intro (Or.inl rfl) (fputf fb_740_13 (by decide +kernel) hW (by omega) ?_)))
                  intro IhB136 ehB136 hB136
                  have t137 : IhB136 740 8 = IhB128 740 8 := (congrFun (congrFun ehB136 740) 8).trans (fup_ne (by omega))
                  have t138 : IhB136 740 9 = IhB128 740 9 := (congrFun (congrFun ehB136 740) 9).trans (fup_ne (by omega))
                  have t139 : IhB136 740 10 = IhB128 740 10 := (congrFun (congrFun ehB136 740) 10).trans (fup_ne (by omega))
                  have t140 : IhB136 740 11 = IhB128 740 11 := (congrFun (congrFun ehB136 740) 11).trans (fup_ne (by omega))
                  have t141 := fup_at ehB136 13 (by omega)
                  have k142 := fBz_eq hB136 (a := 740) (j := 8) (by decide +kernel)
                  refine And.intro ⟨rfl, by decide, by decide⟩ (fgetf fb_740_10 h0 hB136 ?_)
                  intro z143 lz143 uz143 qz143
                  refine And.intro ⟨rfl, by decide, by decide⟩ (And.intro rfl (And.intro (Or.inl rfl) (fputf fb_740_10 (by decide +kernel) hW (by omega) ?_)))
                  intro IhB144 ehB144 hB144
                  have t145 : IhB144 740 9 = IhB136 740 9 := (congrFun (congrFun ehB144 740) 9).trans (fup_ne (by omega))
                  have t146 := fup_at ehB144 10 (by omega)
                  have t147 : IhB144 740 11 = IhB136 740 11 := (congrFun (congrFun ehB144 740) 11).trans (fup_ne (by omega))
                  have k148 := fBz_eq hB144 (a := 740) (j := 8) (by decide +kernel)
                  exact ⟨rfl, by omega⟩
                · intro c149
                  refine And.intro ⟨rfl, by decide, by decide⟩ (And.intro rfl (And.intro (Or.inl rfl) (fputf fb_740_12 (by decide +kernel) hW (by omega) ?_)))
                  intro IhB150 ehB150 hB150
                  have t151 : IhB150 740 9 = IhB113 740 9 := (congrFun (congrFun ehB150 740) 9).trans (fup_ne (by omega))
                  have t152 : IhB150 740 10 = IhB113 740 10 := (congrFun (congrFun ehB150 740) 10).trans (fup_ne (by omega))
                  have t153 : IhB150 740 11 = IhB113 740 11 := (congrFun (congrFun ehB150 740) 11).trans (fup_ne (by omega))
                  have k154 := fBz_eq hB150 (a := 740) (j := 8) (by decide +kernel)
                  exact fcutJ (I := IhB150) (j := (jc_M_next_c8003_214 I)) (lv' := [(0, .inr (.inr (some 740))), (1, .inl _)]) (And.intro rfl (And.intro rfl True.intro)) ⟨_, rfl, rfl, by omega, rfl⟩ (by omega)
              · intro c155
                exact fcutJ (I := IhB113) (j := (jc_M_next_c8003_128 I)) (lv' := [(0, .inr (.inr (some 740))), (1, .inl _)]) (And.intro rfl (And.intro rfl True.intro)) ⟨_, rfl, rfl, by omega, rfl⟩ (by omega)
            · intro c156
              refine And.intro ⟨rfl, by decide, by decide⟩ (And.intro rfl (And.intro (Or.inl rfl) (fputf fb_740_11 (by decide +kernel) hW (by omega) ?_)))
              intro IhB157 ehB157 hB157
              have t158 : IhB157 740 8 = IhB113 740 8 := (congrFun (congrFun ehB157 740) 8).trans (fup_ne (by omega))
              have t159 : IhB157 740 9 = IhB113 740 9 := (congrFun (congrFun ehB157 740) 9).trans (fup_ne (by omega))
              have t160 : IhB157 740 10 = IhB113 740 10 := (congrFun (congrFun ehB157 740) 10).trans (fup_ne (by omega))
              have t161 := fup_at ehB157 11 (by omega)
              have k162 := fBz_eq hB157 (a := 740) (j := 8) (by decide +kernel)
              exact ⟨rfl, by omega⟩
      · intro c163
        refine And.intro ⟨rfl, by decide, by decide⟩ ?_
        refine And.intro ⟨rfl, by decide, by decide⟩ (fgetf fb_740_10 h0 hB1 ?_)
        intro z164 lz164 uz164 qz164
        refine fload rL_747_747_0_95_1_0 h0 hB1 (by omega) ?_
        intro z165 lz165 uz165 qz165
        refine And.intro (by omega) (And.intro ?_ ?_)
        · intro c166
          refine And.intro (by omega) (And.intro ?_ ?_)
          · intro c167
            refine And.intro ⟨rfl, by decide, by decide⟩ (fgetf fb_740_10 h0 hB1 ?_)
            intro z168 lz168 uz168 qz168
            refine And.intro ⟨rfl, by decide, by decide⟩ (And.intro rfl (And.intro (Or.inl rfl) (fputf fb_740_9 (by decide +kernel) hW (by omega) ?_)))
            intro IhB169 ehB169 hB169
            have t170 : IhB169 740 8 = I1 740 8 := (congrFun (congrFun ehB169 740) 8).trans (fup_ne (by omega))
            have t171 := fup_at ehB169 9 (by omega)
            have t172 : IhB169 740 10 = I1 740 10 := (congrFun (congrFun ehB169 740) 10).trans (fup_ne (by omega))
            have t173 : IhB169 740 11 = I1 740 11 := (congrFun (congrFun ehB169 740) 11).trans (fup_ne (by omega))
            have k174 := fBz_eq hB169 (a := 740) (j := 8) (by decide +kernel)
            refine And.intro ⟨rfl, by decide, by decide⟩ (fgetf fb_740_9 h0 hB169 ?_)
            intro z175 lz175 uz175 qz175
            refine And.intro ⟨rfl, by decide, by decide⟩ (fgetf fb_740_8 h0 hB169 ?_)
            intro z176 lz176 uz176 qz176
            refine And.intro (by omega) (And.intro ?_ ?_)
            · intro c177
              refine And.intro ⟨rfl, by decide, by decide⟩ (fgetf fb_740_9 h0 hB169 ?_)
              intro z178 lz178 uz178 qz178
              subst qz178
              refine Exists.intro xm_315 (And.intro mi_315 (And.intro ⟨rfl, rfl, rfl, rfl⟩ (And.intro rfl ?_)))
              refine fcallp hB169 (ct_M_isLetter_13ae5 (fBz h0 hB169) (by omega)) ?_
              rintro _ ⟨z179, rfl, hz179⟩
              have wd : IhB169 740 10 = IhB169 740 9 → IhB169 747 (IhB169 740 10).toNat = IhB169 747 (IhB169 740 9).toNat := fun q => by rw [q]
              refine And.intro (by omega) (And.intro ?_ ?_)
              · intro c180
                refine And.intro ⟨rfl, by decide, by decide⟩ (fgetf fb_740_9 h0 hB169 ?_)
                intro z181 lz181 uz181 qz181
                subst qz181
                refine Exists.intro xm_316 (And.intro mi_316 (And.intro ⟨rfl, rfl, rfl, rfl⟩ (And.intro rfl ?_)))
                refine fcallp hB169 (ct_M_isDigit_7604c (fBz h0 hB169) (by omega)) ?_
                rintro _ ⟨z182, rfl, hz182⟩
                have wd : IhB169 740 10 = IhB169 740 9 → IhB169 747 (IhB169 740 10).toNat = IhB169 747 (IhB169 740 9).toNat := fun q => by rw [q]
                refine And.intro (by omega) (And.intro ?_ ?_)
                · intro c183
                  refine And.intro ⟨rfl, by decide, by decide⟩ (And.intro rfl (And.intro (Or.inl rfl) (fputf fb_740_11 (by decide +kernel) hW (by omega) ?_)))
                  intro IhB184 ehB184 hB184
                  have t185 : IhB184 740 8 = IhB169 740 8 := (congrFun (congrFun ehB184 740) 8).trans (fup_ne (by omega))
                  have t186 : IhB184 740 9 = IhB169 740 9 := (congrFun (congrFun ehB184 740) 9).trans (fup_ne (by omega))
                  have t187 : IhB184 740 10 = IhB169 740 10 := (congrFun (congrFun ehB184 740) 10).trans (fup_ne (by omega))
                  have t188 := fup_at ehB184 11 (by omega)
                  have k189 := fBz_eq hB184 (a := 740) (j := 8) (by decide +kernel)
                  refine And.intro ⟨rfl, by decide, by decide⟩ ?_
                  refine And.intro ⟨rfl, by decide, by decide⟩ (fgetf fb_740_9 h0 hB184 ?_)
                  intro z190 lz190 uz190 qz190
                  refine fload rL_747_747_0_95_1_0 h0 hB184 (by omega) ?_
                  intro z191 lz191 uz191 qz191
                  refine And.intro ⟨rfl, by decide, by decide⟩ (And.intro rfl (And.intro (Or.inl rfl) (fputf fb_740_13 (by decide +kernel) hW (by omega) ?_)))
                  intro IhB192 ehB192 hB192
                  have t193 : IhB192 740 8 = IhB184 740 8 := (congrFun (congrFun ehB192 740) 8).trans (fup_ne (by omega))
                  have t194 : IhB192 740 9 = IhB184 740 9 := (congrFun (congrFun ehB192 740) 9).trans (fup_ne (by omega))
                  have t195 : IhB192 740 10 = IhB184 740 10 := (congrFun (congrFun ehB192 740) 10).trans (fup_ne (by omega))
                  have t196 : IhB192 740 11 = IhB184 740 11 := (congrFun (congrFun ehB192 740) 11).trans (fup_ne (by omega))
                  have t197 := fup_at ehB192 13 (by omega)
                  have k198 := fBz_eq hB192 (a := 740) (j := 8) (by decide +kernel)
                  refine And.intro ⟨rfl, by decide, by decide⟩ (fgetf fb_740_10 h0 hB192 ?_)
                  intro z199 lz199 uz199 qz199
                  refine And.intro ⟨rfl, by decide, by decide⟩ (And.intro rfl (And.intro (Or.inl rfl) (fputf fb_740_10 (by decide +kernel) hW (by omega) ?_)))
                  intro IhB200 ehB200 hB200
                  have t201 : IhB200 740 9 = IhB192 740 9 := (congrFun (congrFun ehB200 740) 9).trans (fup_ne (by omega))
                  have t202 := fup_at ehB200 10 (by omega)
                  have t203 : IhB200 740 11 = IhB192 740 11 := (congrFun (congrFun ehB200 740) 11).trans (fup_ne (by omega))
                  have k204 := fBz_eq hB200 (a := 740) (j := 8) (by decide +kernel)
                  exact ⟨rfl, by omega⟩
                · intro c205
                  refine And.intro ⟨rfl, by decide, by decide⟩ (And.intro rfl (And.intro (Or.inl rfl) (fputf fb_740_12 (by decide +kernel) hW (by omega) ?_)))
                  intro IhB206 ehB206 hB206
                  have t207 : IhB206 740 9 = IhB169 740 9 := (congrFun (congrFun ehB206 740) 9).trans (fup_ne (by omega))
                  have t208 : IhB206 740 10 = IhB169 740 10 := (congrFun (congrFun ehB206 740) 10).trans (fup_ne (by omega))
                  have t209 : IhB206 740 11 = IhB169 740 11 := (congrFun (congrFun ehB206 740) 11).trans (fup_ne (by omega))
                  have k210 := fBz_eq hB206 (a := 740) (j := 8) (by decide +kernel)
                  exact fcutJ (I := IhB206) (j := (jc_M_next_c8003_214 I)) (lv' := [(0, .inr (.inr (some 740))), (1, .inl _)]) (And.intro rfl (And.intro rfl True.intro)) ⟨_, rfl, rfl, by omega, rfl⟩ (by omega)
              · intro c211
                exact fcutJ (I := IhB169) (j := (jc_M_next_c8003_128 I)) (lv' := [(0, .inr (.inr (some 740))), (1, .inl _)]) (And.intro rfl (And.intro rfl True.intro)) ⟨_, rfl, rfl, by omega, rfl⟩ (by omega)
            · intro c212
              refine And.intro ⟨rfl, by decide, by decide⟩ (And.intro rfl (And.intro (Or.inl rfl) (fputf fb_740_11 (by decide +kernel) hW (by omega) ?_)))
              intro IhB213 ehB213 hB213
              have t214 : IhB213 740 8 = IhB169 740 8 := (congrFun (congrFun ehB213 740) 8).trans (fup_ne (by omega))
              have t215 : IhB213 740 9 = IhB169 740 9 := (congrFun (congrFun ehB213 740) 9).trans (fup_ne (by omega))
              have t216 : IhB213 740 10 = IhB169 740 10 := (congrFun (congrFun ehB213 740) 10).trans (fup_ne (by omega))
              have t217 := fup_at ehB213 11 (by omega)
              have k218 := fBz_eq hB213 (a := 740) (j := 8) (by decide +kernel)
              exact ⟨rfl, by omega⟩
          · intro c219
            refine And.intro ⟨rfl, by decide, by decide⟩ (fgetf fb_740_10 h0 hB1 ?_)
            intro z220 lz220 uz220 qz220
            refine And.intro (by omega) (And.intro ?_ ?_)
            · intro c221
              refine And.intro ⟨rfl, by decide, by decide⟩ (fgetf fb_740_10 h0 hB1 ?_)
              intro z222 lz222 uz222 qz222
              refine And.intro ⟨rfl, by decide, by decide⟩ (And.intro rfl (And.intro (Or.inl rfl) (fputf fb_740_9 (by decide +kernel) hW (by omega) ?_)))
              intro IhB223 ehB223 hB223
              have t224 : IhB223 740 8 = I1 740 8 := (congrFun (congrFun ehB223 740) 8).trans (fup_ne (by omega))
              have t225 := fup_at ehB223 9 (by omega)
              have t226 : IhB223 740 10 = I1 740 10 := (congrFun (congrFun ehB223 740) 10).trans (fup_ne (by omega))
              have t227 : IhB223 740 11 = I1 740 11 := (congrFun (congrFun ehB223 740) 11).trans (fup_ne (by omega))
              have k228 := fBz_eq hB223 (a := 740) (j := 8) (by decide +kernel)
              refine And.intro ⟨rfl, by decide, by decide⟩ (fgetf fb_740_9 h0 hB223 ?_)
              intro z229 lz229 uz229 qz229
              refine And.intro ⟨rfl, by decide, by decide⟩ (fgetf fb_740_8 h0 hB223 ?_)
              intro z230 lz230 uz230 qz230
              refine And.intro (by omega) (And.intro ?_ ?_)
              · intro c231
                refine And.intro ⟨rfl, by decide, by decide⟩ (fgetf fb_740_9 h0 hB223 ?_)
                intro z232 lz232 uz232 qz232
                subst qz232
                refine Exists.intro xm_315 (And.intro mi_315 (And.intro ⟨rfl, rfl, rfl, rfl⟩ (And.intro rfl ?_)))
                refine fcallp hB223 (ct_M_isLetter_13ae5 (fBz h0 hB223) (by omega)) ?_
                rintro _ ⟨z233, rfl, hz233⟩
                have wd : IhB223 740 10 = IhB223 740 9 → IhB223 747 (IhB223 740 10).toNat = IhB223 747 (IhB223 740 9).toNat := fun q => by rw [q]
                refine And.intro (by omega) (And.intro ?_ ?_)
                · intro c234
                  refine And.intro ⟨rfl, by decide, by decide⟩ (fgetf fb_740_9 h0 hB223 ?_)
                  intro z235 lz235 uz235 qz235
                  subst qz235
                  refine Exists.intro xm_316 (And.intro mi_316 (And.intro ⟨rfl, rfl, rfl, rfl⟩ (And.intro rfl ?_)))
                  refine fcallp hB223 (ct_M_isDigit_7604c (fBz h0 hB223) (by omega)) ?_
                  rintro _ ⟨z236, rfl, hz236⟩
                  have wd : IhB223 740 10 = IhB223 740 9 → IhB223 747 (IhB223 740 10).toNat = IhB223 747 (IhB223 740 9).toNat := fun q => by rw [q]
                  refine And.intro (by omega) (And.intro ?_ ?_)
                  · intro c237
                    refine And.intro ⟨rfl, by decide, by decide⟩ (And.intro rfl (And.intro (Or.inl rfl) (fputf fb_740_11 (by decide +kernel) hW (by omega) ?_)))
                    intro IhB238 ehB238 hB238
                    have t239 : IhB238 740 8 = IhB223 740 8 := (congrFun (congrFun ehB238 740) 8).trans (fup_ne (by omega))
                    have t240 : IhB238 740 9 = IhB223 740 9 := (congrFun (congrFun ehB238 740) 9).trans (fup_ne (by omega))
                    have t241 : IhB238 740 10 = IhB223 740 10 := (congrFun (congrFun ehB238 740) 10).trans (fup_ne (by omega))
                    have t242 := fup_at ehB238 11 (by omega)
                    have k243 := fBz_eq hB238 (a := 740) (j := 8) (by decide +kernel)
                    refine And.intro ⟨rfl, by decide, by decide⟩ ?_
                    refine And.intro ⟨rfl, by decide, by decide⟩ (fgetf fb_740_9 h0 hB238 ?_)
                    intro z244 lz244 uz244 qz244
                    refine fload rL_747_747_0_95_1_0 h0 hB238 (by omega) ?_
                    intro z245 lz245 uz245 qz245
                    refine And.intro ⟨rfl, by decide, by decide⟩ (And.intro rfl (And.intro (Or.inl rfl) (fputf fb_740_13 (by decide +kernel) hW (by omega) ?_)))
                    intro IhB246 ehB246 hB246
                    have t247 : IhB246 740 8 = IhB238 740 8 := (congrFun (congrFun ehB246 740) 8).trans (fup_ne (by omega))
                    have t248 : IhB246 740 9 = IhB238 740 9 := (congrFun (congrFun ehB246 740) 9).trans (fup_ne (by omega))
                    have t249 : IhB246 740 10 = IhB238 740 10 := (congrFun (congrFun ehB246 740) 10).trans (fup_ne (by omega))
                    have t250 : IhB246 740 11 = IhB238 740 11 := (congrFun (congrFun ehB246 740) 11).trans (fup_ne (by omega))
                    have t251 := fup_at ehB246 13 (by omega)
                    have k252 := fBz_eq hB246 (a := 740) (j := 8) (by decide +kernel)
                    refine And.intro ⟨rfl, by decide, by decide⟩ (fgetf fb_740_10 h0 hB246 ?_)
                    intro z253 lz253 uz253 qz253
                    refine And.intro ⟨rfl, by decide, by decide⟩ (And.intro rfl (And.intro (Or.inl rfl) (fputf fb_740_10 (by decide +kernel) hW (by omega) ?_)))
                    intro IhB254 ehB254 hB254
                    have t255 : IhB254 740 9 = IhB246 740 9 := (congrFun (congrFun ehB254 740) 9).trans (fup_ne (by omega))
                    have t256 := fup_at ehB254 10 (by omega)
                    have t257 : IhB254 740 11 = IhB246 740 11 := (congrFun (congrFun ehB254 740) 11).trans (fup_ne (by omega))
                    have k258 := fBz_eq hB254 (a := 740) (j := 8) (by decide +kernel)
                    exact ⟨rfl, by omega⟩
                  · intro c259
                    refine And.intro ⟨rfl, by decide, by decide⟩ (And.intro rfl (And.intro (Or.inl rfl) (fputf fb_740_12 (by decide +kernel) hW (by omega) ?_)))
                    intro IhB260 ehB260 hB260
                    have t261 : IhB260 740 9 = IhB223 740 9 := (congrFun (congrFun ehB260 740) 9).trans (fup_ne (by omega))
                    have t262 : IhB260 740 10 = IhB223 740 10 := (congrFun (congrFun ehB260 740) 10).trans (fup_ne (by omega))
                    have t263 : IhB260 740 11 = IhB223 740 11 := (congrFun (congrFun ehB260 740) 11).trans (fup_ne (by omega))
                    have k264 := fBz_eq hB260 (a := 740) (j := 8) (by decide +kernel)
                    exact fcutJ (I := IhB260) (j := (jc_M_next_c8003_214 I)) (lv' := [(0, .inr (.inr (some 740))), (1, .inl _)]) (And.intro rfl (And.intro rfl True.intro)) ⟨_, rfl, rfl, by omega, rfl⟩ (by omega)
                · intro c265
                  exact fcutJ (I := IhB223) (j := (jc_M_next_c8003_128 I)) (lv' := [(0, .inr (.inr (some 740))), (1, .inl _)]) (And.intro rfl (And.intro rfl True.intro)) ⟨_, rfl, rfl, by omega, rfl⟩ (by omega)
              · intro c266
                refine And.intro ⟨rfl, by decide, by decide⟩ (And.intro rfl (And.intro (Or.inl rfl) (fputf fb_740_11 (by decide +kernel) hW (by omega) ?_)))
                intro IhB267 ehB267 hB267
                have t268 : IhB267 740 8 = IhB223 740 8 := (congrFun (congrFun ehB267 740) 8).trans (fup_ne (by omega))
                have t269 : IhB267 740 9 = IhB223 740 9 := (congrFun (congrFun ehB267 740) 9).trans (fup_ne (by omega))
                have t270 : IhB267 740 10 = IhB223 740 10 := (congrFun (congrFun ehB267 740) 10).trans (fup_ne (by omega))
                have t271 := fup_at ehB267 11 (by omega)
                have k272 := fBz_eq hB267 (a := 740) (j := 8) (by decide +kernel)
                exact ⟨rfl, by omega⟩
            · intro c273
              refine And.intro ⟨rfl, by decide, by decide⟩ (fgetf fb_740_10 h0 hB1 ?_)
              intro z274 lz274 uz274 qz274
              refine And.intro ⟨rfl, by decide, by decide⟩ (And.intro rfl (And.intro (Or.inl rfl) (fputf fb_740_9 (by decide +kernel) hW (by omega) ?_)))
              intro IhB275 ehB275 hB275
              have t276 : IhB275 740 8 = I1 740 8 := (congrFun (congrFun ehB275 740) 8).trans (fup_ne (by omega))
              have t277 := fup_at ehB275 9 (by omega)
              have t278 : IhB275 740 10 = I1 740 10 := (congrFun (congrFun ehB275 740) 10).trans (fup_ne (by omega))
              have t279 : IhB275 740 11 = I1 740 11 := (congrFun (congrFun ehB275 740) 11).trans (fup_ne (by omega))
              have k280 := fBz_eq hB275 (a := 740) (j := 8) (by decide +kernel)
              refine And.intro ⟨rfl, by decide, by decide⟩ (fgetf fb_740_9 h0 hB275 ?_)
              intro z281 lz281 uz281 qz281
              refine And.intro ⟨rfl, by decide, by decide⟩ (fgetf fb_740_8 h0 hB275 ?_)
              intro z282 lz282 uz282 qz282
              refine And.intro (by omega) (And.intro ?_ ?_)
              · intro c283
                refine And.intro ⟨rfl, by decide, by decide⟩ (fgetf fb_740_9 h0 hB275 ?_)
                intro z284 lz284 uz284 qz284
                subst qz284
                refine Exists.intro xm_315 (And.intro mi_315 (And.intro ⟨rfl, rfl, rfl, rfl⟩ (And.intro rfl ?_)))
                refine fcallp hB275 (ct_M_isLetter_13ae5 (fBz h0 hB275) (by omega)) ?_
                rintro _ ⟨z285, rfl, hz285⟩
                have wd : IhB275 740 10 = IhB275 740 9 → IhB275 747 (IhB275 740 10).toNat = IhB275 747 (IhB275 740 9).toNat := fun q => by rw [q]
                refine And.intro (by omega) (And.intro ?_ ?_)
                · intro c286
                  refine And.intro ⟨rfl, by decide, by decide⟩ (fgetf fb_740_9 h0 hB275 ?_)
                  intro z287 lz287 uz287 qz287
                  subst qz287
                  refine Exists.intro xm_316 (And.intro mi_316 (And.intro ⟨rfl, rfl, rfl, rfl⟩ (And.intro rfl ?_)))
                  refine fcallp hB275 (ct_M_isDigit_7604c (fBz h0 hB275) (by omega)) ?_
                  rintro _ ⟨z288, rfl, hz288⟩
                  have wd : IhB275 740 10 = IhB275 740 9 → IhB275 747 (IhB275 740 10).toNat = IhB275 747 (IhB275 740 9).toNat := fun q => by rw [q]
                  refine And.intro (by omega) (And.intro ?_ ?_)
                  · intro c289
                    refine And.intro ⟨rfl, by decide, by decide⟩ (And.intro rfl (And.intro (Or.inl rfl) (fputf fb_740_11 (by decide +kernel) hW (by omega) ?_)))
                    intro IhB290 ehB290 hB290
                    have t291 : IhB290 740 8 = IhB275 740 8 := (congrFun (congrFun ehB290 740) 8).trans (fup_ne (by omega))
                    have t292 : IhB290 740 9 = IhB275 740 9 := (congrFun (congrFun ehB290 740) 9).trans (fup_ne (by omega))
                    have t293 : IhB290 740 10 = IhB275 740 10 := (congrFun (congrFun ehB290 740) 10).trans (fup_ne (by omega))
                    have t294 := fup_at ehB290 11 (by omega)
                    have k295 := fBz_eq hB290 (a := 740) (j := 8) (by decide +kernel)
                    refine And.intro ⟨rfl, by decide, by decide⟩ ?_
                    refine And.intro ⟨rfl, by decide, by decide⟩ (fgetf fb_740_9 h0 hB290 ?_)
                    intro z296 lz296 uz296 qz296
                    refine fload rL_747_747_0_95_1_0 h0 hB290 (by omega) ?_
                    intro z297 lz297 uz297 qz297
                    refine And.intro ⟨rfl, by decide, by decide⟩ (And.intro rfl (And.intro (Or.inl rfl) (fputf fb_740_13 (by decide +kernel) hW (by omega) ?_)))
                    intro IhB298 ehB298 hB298
                    have t299 : IhB298 740 8 = IhB290 740 8 := (congrFun (congrFun ehB298 740) 8).trans (fup_ne (by omega))
                    have t300 : IhB298 740 9 = IhB290 740 9 := (congrFun (congrFun ehB298 740) 9).trans (fup_ne (by omega))
                    have t301 : IhB298 740 10 = IhB290 740 10 := (congrFun (congrFun ehB298 740) 10).trans (fup_ne (by omega))
                    have t302 : IhB298 740 11 = IhB290 740 11 := (congrFun (congrFun ehB298 740) 11).trans (fup_ne (by omega))
                    have t303 := fup_at ehB298 13 (by omega)
                    have k304 := fBz_eq hB298 (a := 740) (j := 8) (by decide +kernel)
                    refine And.intro ⟨rfl, by decide, by decide⟩ (fgetf fb_740_10 h0 hB298 ?_)
                    intro z305 lz305 uz305 qz305
                    refine And.intro ⟨rfl, by decide, by decide⟩ (And.intro rfl (And.intro (Or.inl rfl) (fputf fb_740_10 (by decide +kernel) hW (by omega) ?_)))
                    intro IhB306 ehB306 hB306
                    have t307 : IhB306 740 9 = IhB298 740 9 := (congrFun (congrFun ehB306 740) 9).trans (fup_ne (by omega))
                    have t308 := fup_at ehB306 10 (by omega)
                    have t309 : IhB306 740 11 = IhB298 740 11 := (congrFun (congrFun ehB306 740) 11).trans (fup_ne (by omega))
                    have k310 := fBz_eq hB306 (a := 740) (j := 8) (by decide +kernel)
                    exact ⟨rfl, by omega⟩
                  · intro c311
                    refine And.intro ⟨rfl, by decide, by decide⟩ (And.intro rfl (And.intro (Or.inl rfl) (fputf fb_740_12 (by decide +kernel) hW (by omega) ?_)))
                    intro IhB312 ehB312 hB312
                    have t313 : IhB312 740 9 = IhB275 740 9 := (congrFun (congrFun ehB312 740) 9).trans (fup_ne (by omega))
                    have t314 : IhB312 740 10 = IhB275 740 10 := (congrFun (congrFun ehB312 740) 10).trans (fup_ne (by omega))
                    have t315 : IhB312 740 11 = IhB275 740 11 := (congrFun (congrFun ehB312 740) 11).trans (fup_ne (by omega))
                    have k316 := fBz_eq hB312 (a := 740) (j := 8) (by decide +kernel)
                    exact fcutJ (I := IhB312) (j := (jc_M_next_c8003_214 I)) (lv' := [(0, .inr (.inr (some 740))), (1, .inl _)]) (And.intro rfl (And.intro rfl True.intro)) ⟨_, rfl, rfl, by omega, rfl⟩ (by omega)
                · intro c317
                  exact fcutJ (I := IhB275) (j := (jc_M_next_c8003_128 I)) (lv' := [(0, .inr (.inr (some 740))), (1, .inl _)]) (And.intro rfl (And.intro rfl True.intro)) ⟨_, rfl, rfl, by omega, rfl⟩ (by omega)
              · intro c318
                refine And.intro ⟨rfl, by decide, by decide⟩ (And.intro rfl (And.intro (Or.inl rfl) (fputf fb_740_11 (by decide +kernel) hW (by omega) ?_)))
                intro IhB319 ehB319 hB319
                have t320 : IhB319 740 8 = IhB275 740 8 := (congrFun (congrFun ehB319 740) 8).trans (fup_ne (by omega))
                have t321 : IhB319 740 9 = IhB275 740 9 := (congrFun (congrFun ehB319 740) 9).trans (fup_ne (by omega))
                have t322 : IhB319 740 10 = IhB275 740 10 := (congrFun (congrFun ehB319 740) 10).trans (fup_ne (by omega))
                have t323 := fup_at ehB319 11 (by omega)
                have k324 := fBz_eq hB319 (a := 740) (j := 8) (by decide +kernel)
                exact ⟨rfl, by omega⟩
        · intro c325
          refine And.intro ⟨rfl, by decide, by decide⟩ (fgetf fb_740_10 h0 hB1 ?_)
          intro z326 lz326 uz326 qz326
          refine And.intro ⟨rfl, by decide, by decide⟩ (And.intro rfl (And.intro (Or.inl rfl) (fputf fb_740_10 (by decide +kernel) hW (by omega) ?_)))
          intro IhB327 ehB327 hB327
          have t328 : IhB327 740 8 = I1 740 8 := (congrFun (congrFun ehB327 740) 8).trans (fup_ne (by omega))
          have t329 : IhB327 740 9 = I1 740 9 := (congrFun (congrFun ehB327 740) 9).trans (fup_ne (by omega))
          have t330 := fup_at ehB327 10 (by omega)
          have t331 : IhB327 740 11 = I1 740 11 := (congrFun (congrFun ehB327 740) 11).trans (fup_ne (by omega))
          have k332 := fBz_eq hB327 (a := 740) (j := 8) (by decide +kernel)
          exact fcutJ (I := IhB327) (j := (jc_M_next_c8003_34 I)) (lv' := [(0, .inr (.inr (some 740))), (1, .inl _), (2, .inl _)]) (And.intro rfl (And.intro rfl (And.intro rfl True.intro))) ⟨_, _, rfl, rfl, by omega, rfl⟩ (by omega)
    · rintro m _ _ I1 hB1 ⟨y1, rfl, rfl, hb, hm⟩
      have k333 := fBz_eq hB1 (a := 740) (j := 8) (by decide +kernel)
      refine And.intro ⟨rfl, by decide, by decide⟩ (fgetf fb_740_10 h0 hB1 ?_)
      intro z334 lz334 uz334 qz334
      subst qz334
      refine Exists.intro xm_315 (And.intro mi_315 (And.intro ⟨rfl, rfl, rfl, rfl⟩ (And.intro rfl ?_)))
      refine fcallp hB1 (ct_M_isLetter_13ae5 (fBz h0 hB1) (by omega)) ?_
      rintro _ ⟨z335, rfl, hz335⟩
      have wc : I1 740 10 = I1 740 9 → I1 747 (I1 740 10).toNat = I1 747 (I1 740 9).toNat := fun q => by rw [q]
      refine And.intro (by omega) (And.intro ?_ ?_)
      · intro c336
        refine And.intro (by omega) (And.intro ?_ ?_)
        · intro c337
          refine And.intro ⟨rfl, by decide, by decide⟩ (And.intro rfl (And.intro (Or.inl rfl) (fputf fb_740_11 (by decide +kernel) hW (by omega) ?_)))
          intro IhB338 ehB338 hB338
          have t339 : IhB338 740 9 = I1 740 9 := (congrFun (congrFun ehB338 740) 9).trans (fup_ne (by omega))
          have t340 : IhB338 740 10 = I1 740 10 := (congrFun (congrFun ehB338 740) 10).trans (fup_ne (by omega))
          have t341 := fup_at ehB338 11 (by omega)
          have k342 := fBz_eq hB338 (a := 740) (j := 8) (by decide +kernel)
          refine And.intro ⟨rfl, by decide, by decide⟩ (fgetf fb_740_10 h0 hB338 ?_)
          intro z343 lz343 uz343 qz343
          refine And.intro ⟨rfl, by decide, by decide⟩ (fgetf fb_740_9 h0 hB338 ?_)
          intro z344 lz344 uz344 qz344
          refine And.intro (by omega) (And.intro ?_ ?_)
          · intro c345
            refine And.intro ⟨rfl, by decide, by decide⟩ (And.intro rfl (And.intro (Or.inl rfl) (fputf fb_740_13 (by decide +kernel) hW (by omega) ?_)))
            intro IhB346 ehB346 hB346
            have t347 : IhB346 740 9 = IhB338 740 9 := (congrFun (congrFun ehB346 740) 9).trans (fup_ne (by omega))
            have t348 : IhB346 740 10 = IhB338 740 10 := (congrFun (congrFun ehB346 740) 10).trans (fup_ne (by omega))
            have t349 : IhB346 740 11 = IhB338 740 11 := (congrFun (congrFun ehB346 740) 11).trans (fup_ne (by omega))
            have t350 := fup_at ehB346 13 (by omega)
            have k351 := fBz_eq hB346 (a := 740) (j := 8) (by decide +kernel)
            exact ⟨rfl, by omega⟩
          · intro c352
            refine And.intro ⟨rfl, by decide, by decide⟩ ?_
            refine And.intro ⟨rfl, by decide, by decide⟩ (fgetf fb_740_9 h0 hB338 ?_)
            intro z353 lz353 uz353 qz353
            refine fload rL_747_747_0_95_1_0 h0 hB338 (by omega) ?_
            intro z354 lz354 uz354 qz354
            refine And.intro ⟨rfl, by decide, by decide⟩ (And.intro rfl (And.intro (Or.inl rfl) (fputf fb_740_13 (by decide +kernel) hW (by omega) ?_)))
            intro IhB355 ehB355 hB355
            have t356 : IhB355 740 9 = IhB338 740 9 := (congrFun (congrFun ehB355 740) 9).trans (fup_ne (by omega))
            have t357 : IhB355 740 10 = IhB338 740 10 := (congrFun (congrFun ehB355 740) 10).trans (fup_ne (by omega))
            have t358 : IhB355 740 11 = IhB338 740 11 := (congrFun (congrFun ehB355 740) 11).trans (fup_ne (by omega))
            have t359 := fup_at ehB355 13 (by omega)
            have k360 := fBz_eq hB355 (a := 740) (j := 8) (by decide +kernel)
            exact ⟨rfl, by omega⟩
        · intro c361
          refine And.intro ⟨rfl, by decide, by decide⟩ (And.intro rfl (And.intro (Or.inl rfl) (fputf fb_740_11 (by decide +kernel) hW (by omega) ?_)))
          intro IhB362 ehB362 hB362
          have t363 : IhB362 740 9 = I1 740 9 := (congrFun (congrFun ehB362 740) 9).trans (fup_ne (by omega))
          have t364 : IhB362 740 10 = I1 740 10 := (congrFun (congrFun ehB362 740) 10).trans (fup_ne (by omega))
          have t365 := fup_at ehB362 11 (by omega)
          have k366 := fBz_eq hB362 (a := 740) (j := 8) (by decide +kernel)
          refine And.intro ⟨rfl, by decide, by decide⟩ (fgetf fb_740_10 h0 hB362 ?_)
          intro z367 lz367 uz367 qz367
          refine And.intro ⟨rfl, by decide, by decide⟩ (fgetf fb_740_9 h0 hB362 ?_)
          intro z368 lz368 uz368 qz368
          refine And.intro (by omega) (And.intro ?_ ?_)
          · intro c369
            refine And.intro ⟨rfl, by decide, by decide⟩ (And.intro rfl (And.intro (Or.inl rfl) (fputf fb_740_13 (by decide +kernel) hW (by omega) ?_)))
            intro IhB370 ehB370 hB370
            have t371 : IhB370 740 9 = IhB362 740 9 := (congrFun (congrFun ehB370 740) 9).trans (fup_ne (by omega))
            have t372 : IhB370 740 10 = IhB362 740 10 := (congrFun (congrFun ehB370 740) 10).trans (fup_ne (by omega))
            have t373 : IhB370 740 11 = IhB362 740 11 := (congrFun (congrFun ehB370 740) 11).trans (fup_ne (by omega))
            have t374 := fup_at ehB370 13 (by omega)
            have k375 := fBz_eq hB370 (a := 740) (j := 8) (by decide +kernel)
            exact ⟨rfl, by omega⟩
          · intro c376
            refine And.intro ⟨rfl, by decide, by decide⟩ ?_
            refine And.intro ⟨rfl, by decide, by decide⟩ (fgetf fb_740_9 h0 hB362 ?_)
            intro z377 lz377 uz377 qz377
            refine fload rL_747_747_0_95_1_0 h0 hB362 (by omega) ?_
            intro z378 lz378 uz378 qz378
            refine And.intro ⟨rfl, by decide, by decide⟩ (And.intro rfl (And.intro (Or.inl rfl) (fputf fb_740_13 (by decide +kernel) hW (by omega) ?_)))
            intro IhB379 ehB379 hB379
            have t380 : IhB379 740 9 = IhB362 740 9 := (congrFun (congrFun ehB379 740) 9).trans (fup_ne (by omega))
            have t381 : IhB379 740 10 = IhB362 740 10 := (congrFun (congrFun ehB379 740) 10).trans (fup_ne (by omega))
            have t382 : IhB379 740 11 = IhB362 740 11 := (congrFun (congrFun ehB379 740) 11).trans (fup_ne (by omega))
            have t383 := fup_at ehB379 13 (by omega)
            have k384 := fBz_eq hB379 (a := 740) (j := 8) (by decide +kernel)
            exact ⟨rfl, by omega⟩
      · intro c385
        refine And.intro ⟨rfl, by decide, by decide⟩ (fgetf fb_740_10 h0 hB1 ?_)
        intro z386 lz386 uz386 qz386
        refine And.intro ⟨rfl, by decide, by decide⟩ (And.intro rfl (And.intro (Or.inl rfl) (fputf fb_740_10 (by decide +kernel) hW (by omega) ?_)))
        intro IhB387 ehB387 hB387
        have t388 : IhB387 740 9 = I1 740 9 := (congrFun (congrFun ehB387 740) 9).trans (fup_ne (by omega))
        have t389 := fup_at ehB387 10 (by omega)
        have t390 : IhB387 740 11 = I1 740 11 := (congrFun (congrFun ehB387 740) 11).trans (fup_ne (by omega))
        have k391 := fBz_eq hB387 (a := 740) (j := 8) (by decide +kernel)
        exact fcutJ (I := IhB387) (j := (jc_M_next_c8003_128 I)) (lv' := [(0, .inr (.inr (some 740))), (1, .inl _)]) (And.intro rfl (And.intro rfl True.intro)) ⟨_, rfl, rfl, by omega, rfl⟩ (by omega)
    · rintro m _ _ I1 hB1 ⟨y1, rfl, rfl, hb, hm⟩
      have k392 := fBz_eq hB1 (a := 740) (j := 8) (by decide +kernel)
      refine And.intro ⟨rfl, by decide, by decide⟩ (fgetf fb_740_10 h0 hB1 ?_)
      intro z393 lz393 uz393 qz393
      subst qz393
      refine Exists.intro xm_316 (And.intro mi_316 (And.intro ⟨rfl, rfl, rfl, rfl⟩ (And.intro rfl ?_)))
      refine fcallp hB1 (ct_M_isDigit_7604c (fBz h0 hB1) (by omega)) ?_
      rintro _ ⟨z394, rfl, hz394⟩
      have wc : I1 740 10 = I1 740 9 → I1 747 (I1 740 10).toNat = I1 747 (I1 740 9).toNat := fun q => by rw [q]
      refine And.intro (by omega) (And.intro ?_ ?_)
      · intro c395
        refine And.intro (by omega) (And.intro ?_ ?_)
        · intro c396
          refine And.intro ⟨rfl, by decide, by decide⟩ (And.intro rfl (And.intro (Or.inl rfl) (fputf fb_740_11 (by decide +kernel) hW (by omega) ?_)))
          intro IhB397 ehB397 hB397
          have t398 : IhB397 740 9 = I1 740 9 := (congrFun (congrFun ehB397 740) 9).trans (fup_ne (by omega))
          have t399 : IhB397 740 10 = I1 740 10 := (congrFun (congrFun ehB397 740) 10).trans (fup_ne (by omega))
          have t400 := fup_at ehB397 11 (by omega)
          have k401 := fBz_eq hB397 (a := 740) (j := 8) (by decide +kernel)
          exact ⟨rfl, by omega⟩
        · intro c402
          refine And.intro ⟨rfl, by decide, by decide⟩ (fgetf fb_740_10 h0 hB1 ?_)
          intro z403 lz403 uz403 qz403
          refine And.intro ⟨rfl, by decide, by decide⟩ (fgetf fb_740_9 h0 hB1 ?_)
          intro z404 lz404 uz404 qz404
          refine And.intro (by omega) (And.intro ?_ ?_)
          · intro c405
            refine And.intro ⟨rfl, by decide, by decide⟩ (And.intro rfl (And.intro (Or.inl rfl) (fputf fb_740_11 (by decide +kernel) hW (by omega) ?_)))
            intro IhB406 ehB406 hB406
            have t407 : IhB406 740 9 = I1 740 9 := (congrFun (congrFun ehB406 740) 9).trans (fup_ne (by omega))
            have t408 : IhB406 740 10 = I1 740 10 := (congrFun (congrFun ehB406 740) 10).trans (fup_ne (by omega))
            have t409 := fup_at ehB406 11 (by omega)
            have k410 := fBz_eq hB406 (a := 740) (j := 8) (by decide +kernel)
            exact ⟨rfl, by omega⟩
          · intro c411
            refine And.intro ⟨rfl, by decide, by decide⟩ (And.intro rfl (And.intro (Or.inl rfl) (fputf fb_740_11 (by decide +kernel) hW (by omega) ?_)))
            intro IhB412 ehB412 hB412
            have t413 : IhB412 740 9 = I1 740 9 := (congrFun (congrFun ehB412 740) 9).trans (fup_ne (by omega))
            have t414 : IhB412 740 10 = I1 740 10 := (congrFun (congrFun ehB412 740) 10).trans (fup_ne (by omega))
            have t415 := fup_at ehB412 11 (by omega)
            have k416 := fBz_eq hB412 (a := 740) (j := 8) (by decide +kernel)
            exact ⟨rfl, by omega⟩
      · intro c417
        refine And.intro ⟨rfl, by decide, by decide⟩ (fgetf fb_740_10 h0 hB1 ?_)
        intro z418 lz418 uz418 qz418
        refine And.intro ⟨rfl, by decide, by decide⟩ (fgetf fb_740_9 h0 hB1 ?_)
        intro z419 lz419 uz419 qz419
        refine And.intro (by omega) (And.intro ?_ ?_)
        · intro c420
          refine And.intro ⟨rfl, by decide, by decide⟩ (fgetf fb_740_12 h0 hB1 ?_)
          intro z421 lz421 uz421 qz421
          refine And.intro ⟨rfl, by decide, by decide⟩ (And.intro rfl (And.intro (Or.inl rfl) (fputf fb_740_12 (by decide +kernel) hW (by omega) ?_)))
          intro IhB422 ehB422 hB422
          have t423 : IhB422 740 9 = I1 740 9 := (congrFun (congrFun ehB422 740) 9).trans (fup_ne (by omega))
          have t424 : IhB422 740 10 = I1 740 10 := (congrFun (congrFun ehB422 740) 10).trans (fup_ne (by omega))
          have t425 : IhB422 740 11 = I1 740 11 := (congrFun (congrFun ehB422 740) 11).trans (fup_ne (by omega))
          have t426 := fup_at ehB422 12 (by omega)
          have k427 := fBz_eq hB422 (a := 740) (j := 8) (by decide +kernel)
          refine And.intro ⟨rfl, by decide, by decide⟩ (fgetf fb_740_10 h0 hB422 ?_)
          intro z428 lz428 uz428 qz428
          refine And.intro ⟨rfl, by decide, by decide⟩ (And.intro rfl (And.intro (Or.inl rfl) (fputf fb_740_10 (by decide +kernel) hW (by omega) ?_)))
          intro IhB429 ehB429 hB429
          have t430 : IhB429 740 9 = IhB422 740 9 := (congrFun (congrFun ehB429 740) 9).trans (fup_ne (by omega))
          have t431 := fup_at ehB429 10 (by omega)
          have t432 : IhB429 740 11 = IhB422 740 11 := (congrFun (congrFun ehB429 740) 11).trans (fup_ne (by omega))
          have t433 : IhB429 740 12 = IhB422 740 12 := (congrFun (congrFun ehB429 740) 12).trans (fup_ne (by omega))
          have k434 := fBz_eq hB429 (a := 740) (j := 8) (by decide +kernel)
          exact fcutJ (I := IhB429) (j := (jc_M_next_c8003_214 I)) (lv' := [(0, .inr (.inr (some 740))), (1, .inl _)]) (And.intro rfl (And.intro rfl True.intro)) ⟨_, rfl, rfl, by omega, rfl⟩ (by omega)
        · intro c435
          refine And.intro ⟨rfl, by decide, by decide⟩ (fgetf fb_740_12 h0 hB1 ?_)
          intro z436 lz436 uz436 qz436
          intro z437 hz437 ez437 bz437
          refine And.intro ⟨rfl, by decide, by decide⟩ ?_
          refine And.intro ⟨rfl, by decide, by decide⟩ (fgetf fb_740_10 h0 hB1 ?_)
          intro z438 lz438 uz438 qz438
          refine fload rL_747_747_0_95_1_0 h0 hB1 (by omega) ?_
          intro z439 lz439 uz439 qz439
          intro z440 hz440 ez440 bz440
          intro z441 hz441 ez441 bz441
          refine And.intro ⟨rfl, by decide, by decide⟩ (And.intro rfl (And.intro (Or.inl rfl) (fputf fb_740_12 (by decide +kernel) hW (by omega) ?_)))
          intro IhB442 ehB442 hB442
          have t443 : IhB442 740 9 = I1 740 9 := (congrFun (congrFun ehB442 740) 9).trans (fup_ne (by omega))
          have t444 : IhB442 740 10 = I1 740 10 := (congrFun (congrFun ehB442 740) 10).trans (fup_ne (by omega))
          have t445 : IhB442 740 11 = I1 740 11 := (congrFun (congrFun ehB442 740) 11).trans (fup_ne (by omega))
          have t446 := fup_at ehB442 12 (by omega)
          have k447 := fBz_eq hB442 (a := 740) (j := 8) (by decide +kernel)
          refine And.intro ⟨rfl, by decide, by decide⟩ (fgetf fb_740_10 h0 hB442 ?_)
          intro z448 lz448 uz448 qz448
          refine And.intro ⟨rfl, by decide, by decide⟩ (And.intro rfl (And.intro (Or.inl rfl) (fputf fb_740_10 (by decide +kernel) hW (by omega) ?_)))
          intro IhB449 ehB449 hB449
          have t450 : IhB449 740 9 = IhB442 740 9 := (congrFun (congrFun ehB449 740) 9).trans (fup_ne (by omega))
          have t451 := fup_at ehB449 10 (by omega)
          have t452 : IhB449 740 11 = IhB442 740 11 := (congrFun (congrFun ehB449 740) 11).trans (fup_ne (by omega))
          have t453 : IhB449 740 12 = IhB442 740 12 := (congrFun (congrFun ehB449 740) 12).trans (fup_ne (by omega))
          have k454 := fBz_eq hB449 (a := 740) (j := 8) (by decide +kernel)
          exact fcutJ (I := IhB449) (j := (jc_M_next_c8003_214 I)) (lv' := [(0, .inr (.inr (some 740))), (1, .inl _)]) (And.intro rfl (And.intro rfl True.intro)) ⟨_, rfl, rfl, by omega, rfl⟩ (by omega)
  · have hB0 := fB_self (zn := znJ) (K := fKc wz_1c18d) h0
    refine And.intro ⟨rfl, by decide, by decide⟩ (fgetf fb_740_10 h0 hB0 ?_)
    intro z455 lz455 uz455 qz455
    refine And.intro (by omega) (And.intro ?_ ?_)
    · intro c456
      refine And.intro ⟨rfl, by decide, by decide⟩ (fgetf fb_740_10 h0 hB0 ?_)
      intro z457 lz457 uz457 qz457
      exact fcutJ (I := I) (j := (jc_M_next_c8003_34 I)) (lv' := [(0, .inr (.inr (some 740))), (1, .inl _), (2, .inl _)]) (And.intro rfl (And.intro rfl (And.intro rfl True.intro))) ⟨_, _, rfl, rfl, by omega, rfl⟩ (by omega)
    · intro c458
      refine And.intro ⟨rfl, by decide, by decide⟩ (fgetf fb_740_11 h0 hB0 ?_)
      intro z459 lz459 uz459 qz459
      refine And.intro (by omega) (And.intro ?_ ?_)
      · intro c460
        refine And.intro ⟨rfl, by decide, by decide⟩ (fgetf fb_740_10 h0 hB0 ?_)
        intro z461 lz461 uz461 qz461
        exact fcutJ (I := I) (j := (jc_M_next_c8003_34 I)) (lv' := [(0, .inr (.inr (some 740))), (1, .inl _), (2, .inl _)]) (And.intro rfl (And.intro rfl (And.intro rfl True.intro))) ⟨_, _, rfl, rfl, by omega, rfl⟩ (by omega)
      · intro c462
        refine And.intro ⟨rfl, by decide, by decide⟩ (fgetf fb_740_11 h0 hB0 ?_)
        intro z463 lz463 uz463 qz463
        refine And.intro (by omega) (And.intro ?_ ?_)
        · intro c464
          refine And.intro ⟨rfl, by decide, by decide⟩ (fgetf fb_740_10 h0 hB0 ?_)
          intro z465 lz465 uz465 qz465
          exact fcutJ (I := I) (j := (jc_M_next_c8003_34 I)) (lv' := [(0, .inr (.inr (some 740))), (1, .inl _), (2, .inl _)]) (And.intro rfl (And.intro rfl (And.intro rfl True.intro))) ⟨_, _, rfl, rfl, by omega, rfl⟩ (by omega)
        · intro c466
          refine And.intro ⟨rfl, by decide, by decide⟩ (fgetf fb_740_10 h0 hB0 ?_)
          intro z467 lz467 uz467 qz467
          exact fcutJ (I := I) (j := (jc_M_next_c8003_34 I)) (lv' := [(0, .inr (.inr (some 740))), (1, .inl _), (2, .inl _)]) (And.intro rfl (And.intro rfl (And.intro rfl True.intro))) ⟨_, _, rfl, rfl, by omega, rfl⟩ (by omega)
abbrev jc_M_isName_49450_132 : Nat → fL → List fV → fH → Prop := fun m lv st I => lv = [] ∧ st = [] ∧ (True) ∧ m = (1 : Int).toNat
abbrev jc_M_isName_49450_148 : Nat → fL → List fV → fH → Prop := fun m lv st I => lv = [] ∧ st = [] ∧ (True) ∧ m = (2 : Int).toNat
abbrev jc_M_isName_49450_175 : Nat → fL → List fV → fH → Prop := fun m lv st I => lv = [] ∧ st = [] ∧ (True) ∧ m = (3 : Int).toNat
set_option maxRecDepth 8000 in
theorem ct_M_isName_49450 {I : fH} {x0 : Int} {x1 : Int} (h0 : fB bsJ I) (ha0 : ((-1) ≤ x0 ∧ x0 ≤ 5)) (ha1 : ((-2147483648) ≤ x1 ∧ x1 ≤ 2147483647)) : fC ρ base n F xTc vwCl xTys D dA la gJ (fbz bsJ znJ (fKc []) I) xm_422 [.inl x0, .inl x1] I (fun _ r => ∃ z, r = some (.inl z) ∧ ((0 ≤ z ∧ z ≤ 1) ∧ (z = 1 → 97 ≤ x1 ∧ x1 ≤ 121))) := by
  have hW : fzs [] (fKc []) := fKc_ok _
  refine f_meth (rb := rbJ) (J := [(132, jc_M_isName_49450_132), (148, jc_M_isName_49450_148), (175, jc_M_isName_49450_175)]) 4 400 xG xin_422 x6_422 okJ (fB_self h0) ?_ ?_
  · refine List.forall_mem_cons.mpr ⟨?_, List.forall_mem_cons.mpr ⟨?_, List.forall_mem_cons.mpr ⟨?_, fun q h => absurd h List.not_mem_nil⟩⟩⟩
    · rintro m _ _ I1 hB1 ⟨rfl, rfl, hb, hm⟩
      refine And.intro (⟨by omega, by omega⟩) ?_
      exact ⟨_, rfl, by omega⟩
    · rintro m _ _ I1 hB1 ⟨rfl, rfl, hb, hm⟩
      refine And.intro (⟨by omega, by omega⟩) ?_
      exact ⟨_, rfl, by omega⟩
    · rintro m _ _ I1 hB1 ⟨rfl, rfl, hb, hm⟩
      refine And.intro (⟨by omega, by omega⟩) ?_
      exact ⟨_, rfl, by omega⟩
  · have hB0 := fB_self (zn := znJ) (K := fKc []) h0
    refine And.intro (by omega) (And.intro ?_ ?_)
    · refine And.intro (fun ex => ?_) (And.intro (fun ex => ?_) (And.intro (fun ex => ?_) (And.intro (fun ex => ?_) (And.intro (fun ex => ?_) (And.intro (fun ex => ?_) (And.intro (fun ex => ?_) (And.intro (fun ex => ?_) (And.intro (fun ex => ?_) (And.intro (fun ex => ?_) (And.intro (fun ex => ?_) (And.intro (fun ex => ?_) (And.intro (fun ex => ?_) (And.intro (fun ex => ?_) (And.intro (fun ex => ?_) (And.intro (fun ex => ?_) (And.intro (fun ex => ?_) (And.intro (fun ex => ?_) (And.intro (fun ex => ?_) (And.intro (fun ex => ?_) (And.intro (fun ex => ?_) (And.intro (fun ex => ?_) (And.intro (fun ex => ?_) (And.intro (fun ex => ?_) (And.intro (fun ex => ?_) (True.intro)))))))))))))))))))))))))
      · skip
        refine And.intro (by omega) (And.intro ?_ ?_)
        · intro c1
          exact fcutJ (I := I) (j := jc_M_isName_49450_132) (lv' := []) (True.intro) ⟨rfl, rfl, True.intro, rfl⟩ (by omega)
        · intro c2
          refine And.intro (by omega) (And.intro ?_ ?_)
          · intro c3
            exact fcutJ (I := I) (j := jc_M_isName_49450_132) (lv' := []) (True.intro) ⟨rfl, rfl, True.intro, rfl⟩ (by omega)
          · intro c4
            refine And.intro (by omega) (And.intro ?_ ?_)
            · intro c5
              refine And.intro (⟨by omega, by omega⟩) ?_
              exact ⟨_, rfl, by omega⟩
            · intro c6
              exact fcutJ (I := I) (j := jc_M_isName_49450_132) (lv' := []) (True.intro) ⟨rfl, rfl, True.intro, rfl⟩ (by omega)
      · skip
        refine And.intro (⟨by omega, by omega⟩) ?_
        exact ⟨_, rfl, by omega⟩
      · skip
        refine And.intro (by omega) (And.intro ?_ ?_)
        · intro c7
          exact fcutJ (I := I) (j := jc_M_isName_49450_132) (lv' := []) (True.intro) ⟨rfl, rfl, True.intro, rfl⟩ (by omega)
        · intro c8
          refine And.intro (by omega) (And.intro ?_ ?_)
          · intro c9
            exact fcutJ (I := I) (j := jc_M_isName_49450_132) (lv' := []) (True.intro) ⟨rfl, rfl, True.intro, rfl⟩ (by omega)
          · intro c10
            refine And.intro (by omega) (And.intro ?_ ?_)
            · intro c11
              refine And.intro (⟨by omega, by omega⟩) ?_
              exact ⟨_, rfl, by omega⟩
            · intro c12
              exact fcutJ (I := I) (j := jc_M_isName_49450_132) (lv' := []) (True.intro) ⟨rfl, rfl, True.intro, rfl⟩ (by omega)
      · skip
        refine And.intro (⟨by omega, by omega⟩) ?_
        exact ⟨_, rfl, by omega⟩
      · skip
        refine And.intro (by omega) (And.intro ?_ ?_)
        · intro c13
          refine And.intro (⟨by omega, by omega⟩) ?_
          exact ⟨_, rfl, by omega⟩
        · intro c14
          refine And.intro (⟨by omega, by omega⟩) ?_
          exact ⟨_, rfl, by omega⟩
      · skip
        refine And.intro (by omega) (And.intro ?_ ?_)
        · intro c15
          refine And.intro (⟨by omega, by omega⟩) ?_
          exact ⟨_, rfl, by omega⟩
        · intro c16
          refine And.intro (⟨by omega, by omega⟩) ?_
          exact ⟨_, rfl, by omega⟩
      · skip
        refine And.intro (by omega) (And.intro ?_ ?_)
        · intro c17
          refine And.intro (⟨by omega, by omega⟩) ?_
          exact ⟨_, rfl, by omega⟩
        · intro c18
          refine And.intro (⟨by omega, by omega⟩) ?_
          exact ⟨_, rfl, by omega⟩
      · skip
        refine And.intro (⟨by omega, by omega⟩) ?_
        exact ⟨_, rfl, by omega⟩
      · skip
        refine And.intro (⟨by omega, by omega⟩) ?_
        exact ⟨_, rfl, by omega⟩
      · skip
        refine And.intro (⟨by omega, by omega⟩) ?_
        exact ⟨_, rfl, by omega⟩
      · skip
        refine And.intro (by omega) (And.intro ?_ ?_)
        · intro c19
          refine And.intro (⟨by omega, by omega⟩) ?_
          exact ⟨_, rfl, by omega⟩
        · intro c20
          refine And.intro (⟨by omega, by omega⟩) ?_
          exact ⟨_, rfl, by omega⟩
      · skip
        refine And.intro (by omega) (And.intro ?_ ?_)
        · intro c21
          refine And.intro (⟨by omega, by omega⟩) ?_
          exact ⟨_, rfl, by omega⟩
        · intro c22
          refine And.intro (⟨by omega, by omega⟩) ?_
          exact ⟨_, rfl, by omega⟩
      · skip
        refine And.intro (by omega) (And.intro ?_ ?_)
        · intro c23
          refine And.intro (⟨by omega, by omega⟩) ?_
          exact ⟨_, rfl, by omega⟩
        · intro c24
          refine And.intro (⟨by omega, by omega⟩) ?_
          exact ⟨_, rfl, by omega⟩
      · skip
        refine And.intro (by omega) (And.intro ?_ ?_)
        · intro c25
          exact fcutJ (I := I) (j := jc_M_isName_49450_148) (lv' := []) (True.intro) ⟨rfl, rfl, True.intro, rfl⟩ (by omega)
        · intro c26
          refine And.intro (by omega) (And.intro ?_ ?_)
          · intro c27
            refine And.intro (⟨by omega, by omega⟩) ?_
            exact ⟨_, rfl, by omega⟩
          · intro c28
            exact fcutJ (I := I) (j := jc_M_isName_49450_148) (lv' := []) (True.intro) ⟨rfl, rfl, True.intro, rfl⟩ (by omega)
      · skip
        refine And.intro (by omega) (And.intro ?_ ?_)
        · intro c29
          refine And.intro (⟨by omega, by omega⟩) ?_
          exact ⟨_, rfl, by omega⟩
        · intro c30
          refine And.intro (⟨by omega, by omega⟩) ?_
          exact ⟨_, rfl, by omega⟩
      · skip
        refine And.intro (by omega) (And.intro ?_ ?_)
        · intro c31
          exact fcutJ (I := I) (j := jc_M_isName_49450_175) (lv' := []) (True.intro) ⟨rfl, rfl, True.intro, rfl⟩ (by omega)
        · intro c32
          refine And.intro (by omega) (And.intro ?_ ?_)
          · intro c33
            refine And.intro (⟨by omega, by omega⟩) ?_
            exact ⟨_, rfl, by omega⟩
          · intro c34
            exact fcutJ (I := I) (j := jc_M_isName_49450_175) (lv' := []) (True.intro) ⟨rfl, rfl, True.intro, rfl⟩ (by omega)
      · skip
        refine And.intro (⟨by omega, by omega⟩) ?_
        exact ⟨_, rfl, by omega⟩
      · skip
        refine And.intro (⟨by omega, by omega⟩) ?_
        exact ⟨_, rfl, by omega⟩
      · skip
        refine And.intro (by omega) (And.intro ?_ ?_)
        · intro c35
          exact fcutJ (I := I) (j := jc_M_isName_49450_132) (lv' := []) (True.intro) ⟨rfl, rfl, True.intro, rfl⟩ (by omega)
        · intro c36
          refine And.intro (by omega) (And.intro ?_ ?_)
          · intro c37
            exact fcutJ (I := I) (j := jc_M_isName_49450_132) (lv' := []) (True.intro) ⟨rfl, rfl, True.intro, rfl⟩ (by omega)
          · intro c38
            refine And.intro (by omega) (And.intro ?_ ?_)
            · intro c39
              refine And.intro (⟨by omega, by omega⟩) ?_
              exact ⟨_, rfl, by omega⟩
            · intro c40
              exact fcutJ (I := I) (j := jc_M_isName_49450_132) (lv' := []) (True.intro) ⟨rfl, rfl, True.intro, rfl⟩ (by omega)
      · skip
        refine And.intro (⟨by omega, by omega⟩) ?_
        exact ⟨_, rfl, by omega⟩
      · skip
        refine And.intro (by omega) (And.intro ?_ ?_)
        · intro c41
          refine And.intro (⟨by omega, by omega⟩) ?_
          exact ⟨_, rfl, by omega⟩
        · intro c42
          refine And.intro (⟨by omega, by omega⟩) ?_
          exact ⟨_, rfl, by omega⟩
      · skip
        refine And.intro (⟨by omega, by omega⟩) ?_
        exact ⟨_, rfl, by omega⟩
      · skip
        refine And.intro (⟨by omega, by omega⟩) ?_
        exact ⟨_, rfl, by omega⟩
      · skip
        refine And.intro (⟨by omega, by omega⟩) ?_
        exact ⟨_, rfl, by omega⟩
      · skip
        refine And.intro (by omega) (And.intro ?_ ?_)
        · intro c43
          refine And.intro (⟨by omega, by omega⟩) ?_
          exact ⟨_, rfl, by omega⟩
        · intro c44
          refine And.intro (⟨by omega, by omega⟩) ?_
          exact ⟨_, rfl, by omega⟩
    · intro c45
      refine And.intro (⟨by omega, by omega⟩) ?_
      exact ⟨_, rfl, by omega⟩
set_option maxRecDepth 8000 in
theorem ct_M_isSign_90da9 {I : fH} {x1 : Int} (h0 : fB bsJ I) (ha1 : (33 ≤ x1 ∧ x1 ≤ 124)) : fC ρ base n F xTc vwCl xTys D dA la gJ (fbz bsJ znJ (fKc []) I) xm_423 [.inr (.inr (some 740)), .inl x1] I (fun _ r => ∃ z, r = some (.inl z) ∧ ((0 ≤ z ∧ z ≤ 1) ∧ (z = 1 → I 740 11 = 3 ∧ I 740 13 = x1))) := by
  have hW : fzs [] (fKc []) := fKc_ok _
  refine f_meth (rb := rbJ) (J := []) 1 400 xG xin_423 x6_423 okJ (fB_self h0) ?_ ?_
  · exact fun q h => absurd h List.not_mem_nil
  · have hB0 := fB_self (zn := znJ) (K := fKc []) h0
    refine And.intro ⟨rfl, by decide, by decide⟩ (fgetf fb_740_11 h0 hB0 ?_)
    intro z1 lz1 uz1 qz1
    refine And.intro (by omega) (And.intro ?_ ?_)
    · intro c2
      refine And.intro (⟨by omega, by omega⟩) ?_
      exact ⟨_, rfl, by omega⟩
    · intro c3
      refine And.intro ⟨rfl, by decide, by decide⟩ (fgetf fb_740_13 h0 hB0 ?_)
      intro z4 lz4 uz4 qz4
      refine And.intro (by omega) (And.intro ?_ ?_)
      · intro c5
        refine And.intro (⟨by omega, by omega⟩) ?_
        exact ⟨_, rfl, by omega⟩
      · intro c6
        refine And.intro (⟨by omega, by omega⟩) ?_
        exact ⟨_, rfl, by omega⟩
set_option maxRecDepth 8000 in
theorem ct_M_part0_cc4b8 {I : fH} {x1 : Int} (h0 : fB bsJ I) (ha1 : ((-1) ≤ x1 ∧ x1 ≤ 5)) (hp0 : I 740 9 ≤ I 740 10 ∧ I 740 10 ≤ I 740 8 ∧ (I 740 11 = 0 ∨ I 740 9 < I 740 10)) (hp1 : 0 ≤ I 740 16 ∧ I 740 16 ≤ I 740 9) (hp2 : 16 ≤ I 740 14 + I 740 15) (hp3 : (1215 ≤ I 740 17 ∧ I 740 17 ≤ 3415 ∧ (I 740 17 - 1215) % 200 = 0) ∨ I 740 17 = 4700) : fC ρ base n F xTc vwCl xTys D dA la gJ (fbz bsJ znJ (fKc wz_2212a) I) xm_404 [.inr (.inr (some 740)), .inl x1] I (fun I' r => ∃ z, r = some (.inl z) ∧ ((0 ≤ z ∧ z ≤ 1) ∧ (I 740 9 ≤ I' 740 9 ∧ I' 740 9 ≤ I' 740 10 ∧ I' 740 10 ≤ I' 740 8 ∧ (I' 740 11 = 0 ∨ I' 740 9 < I' 740 10) ∧ (z = 1 → I 740 16 ≤ I' 740 16 ∧ I' 740 16 - I 740 16 ≤ I' 740 9 - I 740 9 ∧ I' 740 14 = I 740 14 ∧ I' 740 15 = I 740 15))) ∧ (sBe I I' (I 740 17) (I 740 16)) ∧ (z = 1 → sOne I' (I 740 17) (I 740 16) (I' 740 16))) := by
  have hW : fzs wz_2212a (fKc wz_2212a) := fKc_ok _
  refine f_meth (rb := rbJ) (J := []) 1 400 xG xin_404 x6_404 okJ (fB_self h0) ?_ ?_
  · exact fun q h => absurd h List.not_mem_nil
  · have hB0 := fB_self (zn := znJ) (K := fKc wz_2212a) h0
    refine And.intro ⟨rfl, by decide, by decide⟩ (fgetf fb_740_11 h0 hB0 ?_)
    intro z1 lz1 uz1 qz1
    refine And.intro (by omega) (And.intro ?_ ?_)
    · intro c2
      refine And.intro ⟨rfl, by decide, by decide⟩ (fgetf fb_740_11 h0 hB0 ?_)
      intro z3 lz3 uz3 qz3
      refine And.intro (by omega) (And.intro ?_ ?_)
      · intro c4
        refine Exists.intro xm_423 (And.intro mi_423 (And.intro ⟨rfl, rfl, rfl, rfl⟩ (And.intro rfl ?_)))
        refine fcallp hB0 (ct_M_isSign_90da9 (fBz h0 hB0) (by omega)) ?_
        rintro _ ⟨z5, rfl, hz5⟩
        refine And.intro (by omega) (And.intro ?_ ?_)
        · intro c6
          refine Exists.intro xm_423 (And.intro mi_423 (And.intro ⟨rfl, rfl, rfl, rfl⟩ (And.intro rfl ?_)))
          refine fcallp hB0 (ct_M_isSign_90da9 (fBz h0 hB0) (by omega)) ?_
          rintro _ ⟨z7, rfl, hz7⟩
          refine And.intro (by omega) (And.intro ?_ ?_)
          · intro c8
            refine And.intro (⟨by omega, by omega⟩) ?_
            exact ⟨_, rfl, by omega, sBe_refl, (fun q => absurd q (by omega))⟩
          · intro c9
            refine And.intro ⟨rfl, by decide, by decide⟩ (fgetf fb_740_14 h0 hB0 ?_)
            intro z10 lz10 uz10 qz10
            refine And.intro (by omega) (And.intro ?_ ?_)
            · intro c11
              refine And.intro ⟨rfl, by decide, by decide⟩ (fgetf fb_740_14 h0 hB0 ?_)
              intro z12 lz12 uz12 qz12
              refine And.intro ⟨rfl, by decide, by decide⟩ (And.intro rfl (And.intro (Or.inl rfl) (fputf fb_740_14 (by decide +kernel) hW (by omega) ?_)))
              intro IhB13 ehB13 hB13
              have t14 : IhB13 740 9 = I 740 9 := (congrFun (congrFun ehB13 740) 9).trans (fup_ne (by omega))
              have t15 : IhB13 740 10 = I 740 10 := (congrFun (congrFun ehB13 740) 10).trans (fup_ne (by omega))
              have t16 : IhB13 740 11 = I 740 11 := (congrFun (congrFun ehB13 740) 11).trans (fup_ne (by omega))
              have t17 : IhB13 740 13 = I 740 13 := (congrFun (congrFun ehB13 740) 13).trans (fup_ne (by omega))
              have t18 := fup_at ehB13 14 (by omega)
              have t19 : IhB13 740 15 = I 740 15 := (congrFun (congrFun ehB13 740) 15).trans (fup_ne (by omega))
              have t20 : IhB13 740 16 = I 740 16 := (congrFun (congrFun ehB13 740) 16).trans (fup_ne (by omega))
              have k21 := fBz_eq hB13 (a := 740) (j := 8) (by decide +kernel)
              have k22 := fBz_eq hB13 (a := 740) (j := 17) (by decide +kernel)
              refine Exists.intro xm_314 (And.intro mi_314 (And.intro ⟨rfl, rfl, rfl, rfl⟩ (And.intro rfl ?_)))
              refine fcall _ h0 (fzs_sub (by decide +kernel) hW) hB13 (ct_M_next_c8003 (fBz h0 hB13) (by omega)) ?_
              rintro IhB24 _ hB24 fhB24 ⟨rfl, hz23⟩
              have t25 := fhB24 740 14 (by decide +kernel)
              have t26 := fhB24 740 15 (by decide +kernel)
              have t27 := fhB24 740 16 (by decide +kernel)
              have k28 := fBz_eq hB24 (a := 740) (j := 8) (by decide +kernel)
              have k29 := fBz_eq hB24 (a := 740) (j := 17) (by decide +kernel)
              exfalso
              omega
            · intro c30
              refine And.intro (⟨by omega, by omega⟩) ?_
              exact ⟨_, rfl, by omega, sBe_refl, (fun q => absurd q (by omega))⟩
        · intro c31
          refine And.intro ⟨rfl, by decide, by decide⟩ (fgetf fb_740_15 h0 hB0 ?_)
          intro z32 lz32 uz32 qz32
          refine And.intro (by omega) (And.intro ?_ ?_)
          · intro c33
            refine Exists.intro xm_423 (And.intro mi_423 (And.intro ⟨rfl, rfl, rfl, rfl⟩ (And.intro rfl ?_)))
            refine fcallp hB0 (ct_M_isSign_90da9 (fBz h0 hB0) (by omega)) ?_
            rintro _ ⟨z34, rfl, hz34⟩
            refine And.intro (by omega) (And.intro ?_ ?_)
            · intro c35
              refine And.intro (⟨by omega, by omega⟩) ?_
              exact ⟨_, rfl, by omega, sBe_refl, (fun q => absurd q (by omega))⟩
            · intro c36
              refine And.intro ⟨rfl, by decide, by decide⟩ (fgetf fb_740_14 h0 hB0 ?_)
              intro z37 lz37 uz37 qz37
              refine And.intro (by omega) (And.intro ?_ ?_)
              · intro c38
                refine And.intro ⟨rfl, by decide, by decide⟩ (fgetf fb_740_14 h0 hB0 ?_)
                intro z39 lz39 uz39 qz39
                refine And.intro ⟨rfl, by decide, by decide⟩ (And.intro rfl (And.intro (Or.inl rfl) (fputf fb_740_14 (by decide +kernel) hW (by omega) ?_)))
                intro IhB40 ehB40 hB40
                have t41 : IhB40 740 9 = I 740 9 := (congrFun (congrFun ehB40 740) 9).trans (fup_ne (by omega))
                have t42 : IhB40 740 10 = I 740 10 := (congrFun (congrFun ehB40 740) 10).trans (fup_ne (by omega))
                have t43 : IhB40 740 11 = I 740 11 := (congrFun (congrFun ehB40 740) 11).trans (fup_ne (by omega))
                have t44 : IhB40 740 13 = I 740 13 := (congrFun (congrFun ehB40 740) 13).trans (fup_ne (by omega))
                have t45 := fup_at ehB40 14 (by omega)
                have t46 : IhB40 740 15 = I 740 15 := (congrFun (congrFun ehB40 740) 15).trans (fup_ne (by omega))
                have t47 : IhB40 740 16 = I 740 16 := (congrFun (congrFun ehB40 740) 16).trans (fup_ne (by omega))
                have k48 := fBz_eq hB40 (a := 740) (j := 8) (by decide +kernel)
                have k49 := fBz_eq hB40 (a := 740) (j := 17) (by decide +kernel)
                refine Exists.intro xm_314 (And.intro mi_314 (And.intro ⟨rfl, rfl, rfl, rfl⟩ (And.intro rfl ?_)))
                refine fcall _ h0 (fzs_sub (by decide +kernel) hW) hB40 (ct_M_next_c8003 (fBz h0 hB40) (by omega)) ?_
                rintro IhB51 _ hB51 fhB51 ⟨rfl, hz50⟩
                have t52 := fhB51 740 14 (by decide +kernel)
                have t53 := fhB51 740 15 (by decide +kernel)
                have t54 := fhB51 740 16 (by decide +kernel)
                have k55 := fBz_eq hB51 (a := 740) (j := 8) (by decide +kernel)
                have k56 := fBz_eq hB51 (a := 740) (j := 17) (by decide +kernel)
                exfalso
                omega
              · intro c57
                refine And.intro (⟨by omega, by omega⟩) ?_
                exact ⟨_, rfl, by omega, sBe_refl, (fun q => absurd q (by omega))⟩
          · intro c58
            refine And.intro ⟨rfl, by decide, by decide⟩ (fgetf fb_740_15 h0 hB0 ?_)
            intro z59 lz59 uz59 qz59
            refine And.intro ⟨rfl, by decide, by decide⟩ (And.intro rfl (And.intro (Or.inl rfl) (fputf fb_740_15 (by decide +kernel) hW (by omega) ?_)))
            intro IhB60 ehB60 hB60
            have t61 : IhB60 740 9 = I 740 9 := (congrFun (congrFun ehB60 740) 9).trans (fup_ne (by omega))
            have t62 : IhB60 740 10 = I 740 10 := (congrFun (congrFun ehB60 740) 10).trans (fup_ne (by omega))
            have t63 : IhB60 740 11 = I 740 11 := (congrFun (congrFun ehB60 740) 11).trans (fup_ne (by omega))
            have t64 : IhB60 740 13 = I 740 13 := (congrFun (congrFun ehB60 740) 13).trans (fup_ne (by omega))
            have t65 : IhB60 740 14 = I 740 14 := (congrFun (congrFun ehB60 740) 14).trans (fup_ne (by omega))
            have t66 := fup_at ehB60 15 (by omega)
            have t67 : IhB60 740 16 = I 740 16 := (congrFun (congrFun ehB60 740) 16).trans (fup_ne (by omega))
            have k68 := fBz_eq hB60 (a := 740) (j := 8) (by decide +kernel)
            have k69 := fBz_eq hB60 (a := 740) (j := 17) (by decide +kernel)
            refine Exists.intro xm_314 (And.intro mi_314 (And.intro ⟨rfl, rfl, rfl, rfl⟩ (And.intro rfl ?_)))
            refine fcall _ h0 (fzs_sub (by decide +kernel) hW) hB60 (ct_M_next_c8003 (fBz h0 hB60) (by omega)) ?_
            rintro IhB71 _ hB71 fhB71 ⟨rfl, hz70⟩
            have t72 := fhB71 740 14 (by decide +kernel)
            have t73 := fhB71 740 15 (by decide +kernel)
            have t74 := fhB71 740 16 (by decide +kernel)
            have k75 := fBz_eq hB71 (a := 740) (j := 8) (by decide +kernel)
            have k76 := fBz_eq hB71 (a := 740) (j := 17) (by decide +kernel)
            exfalso
            omega
      · intro c77
        refine And.intro ⟨rfl, by decide, by decide⟩ (fgetf fb_740_13 h0 hB0 ?_)
        intro z78 lz78 uz78 qz78
        refine And.intro (by omega) (And.intro ?_ ?_)
        · intro c79
          refine Exists.intro xm_423 (And.intro mi_423 (And.intro ⟨rfl, rfl, rfl, rfl⟩ (And.intro rfl ?_)))
          refine fcallp hB0 (ct_M_isSign_90da9 (fBz h0 hB0) (by omega)) ?_
          rintro _ ⟨z80, rfl, hz80⟩
          refine And.intro (by omega) (And.intro ?_ ?_)
          · intro c81
            refine Exists.intro xm_423 (And.intro mi_423 (And.intro ⟨rfl, rfl, rfl, rfl⟩ (And.intro rfl ?_)))
            refine fcallp hB0 (ct_M_isSign_90da9 (fBz h0 hB0) (by omega)) ?_
            rintro _ ⟨z82, rfl, hz82⟩
            refine And.intro (by omega) (And.intro ?_ ?_)
            · intro c83
              refine And.intro (⟨by omega, by omega⟩) ?_
              exact ⟨_, rfl, by omega, sBe_refl, (fun q => absurd q (by omega))⟩
            · intro c84
              refine And.intro ⟨rfl, by decide, by decide⟩ (fgetf fb_740_14 h0 hB0 ?_)
              intro z85 lz85 uz85 qz85
              refine And.intro (by omega) (And.intro ?_ ?_)
              · intro c86
                refine And.intro ⟨rfl, by decide, by decide⟩ (fgetf fb_740_14 h0 hB0 ?_)
                intro z87 lz87 uz87 qz87
                refine And.intro ⟨rfl, by decide, by decide⟩ (And.intro rfl (And.intro (Or.inl rfl) (fputf fb_740_14 (by decide +kernel) hW (by omega) ?_)))
                intro IhB88 ehB88 hB88
                have t89 : IhB88 740 9 = I 740 9 := (congrFun (congrFun ehB88 740) 9).trans (fup_ne (by omega))
                have t90 : IhB88 740 10 = I 740 10 := (congrFun (congrFun ehB88 740) 10).trans (fup_ne (by omega))
                have t91 : IhB88 740 11 = I 740 11 := (congrFun (congrFun ehB88 740) 11).trans (fup_ne (by omega))
                have t92 : IhB88 740 13 = I 740 13 := (congrFun (congrFun ehB88 740) 13).trans (fup_ne (by omega))
                have t93 := fup_at ehB88 14 (by omega)
                have t94 : IhB88 740 15 = I 740 15 := (congrFun (congrFun ehB88 740) 15).trans (fup_ne (by omega))
                have t95 : IhB88 740 16 = I 740 16 := (congrFun (congrFun ehB88 740) 16).trans (fup_ne (by omega))
                have k96 := fBz_eq hB88 (a := 740) (j := 8) (by decide +kernel)
                have k97 := fBz_eq hB88 (a := 740) (j := 17) (by decide +kernel)
                refine Exists.intro xm_314 (And.intro mi_314 (And.intro ⟨rfl, rfl, rfl, rfl⟩ (And.intro rfl ?_)))
                refine fcall _ h0 (fzs_sub (by decide +kernel) hW) hB88 (ct_M_next_c8003 (fBz h0 hB88) (by omega)) ?_
                rintro IhB99 _ hB99 fhB99 ⟨rfl, hz98⟩
                have t100 := fhB99 740 14 (by decide +kernel)
                have t101 := fhB99 740 15 (by decide +kernel)
                have t102 := fhB99 740 16 (by decide +kernel)
                have k103 := fBz_eq hB99 (a := 740) (j := 8) (by decide +kernel)
                have k104 := fBz_eq hB99 (a := 740) (j := 17) (by decide +kernel)
                exfalso
                omega
              · intro c105
                refine And.intro (⟨by omega, by omega⟩) ?_
                exact ⟨_, rfl, by omega, sBe_refl, (fun q => absurd q (by omega))⟩
          · intro c106
            refine And.intro ⟨rfl, by decide, by decide⟩ (fgetf fb_740_15 h0 hB0 ?_)
            intro z107 lz107 uz107 qz107
            refine And.intro (by omega) (And.intro ?_ ?_)
            · intro c108
              refine Exists.intro xm_423 (And.intro mi_423 (And.intro ⟨rfl, rfl, rfl, rfl⟩ (And.intro rfl ?_)))
              refine fcallp hB0 (ct_M_isSign_90da9 (fBz h0 hB0) (by omega)) ?_
              rintro _ ⟨z109, rfl, hz109⟩
              refine And.intro (by omega) (And.intro ?_ ?_)
              · intro c110
                refine And.intro (⟨by omega, by omega⟩) ?_
                exact ⟨_, rfl, by omega, sBe_refl, (fun q => absurd q (by omega))⟩
              · intro c111
                refine And.intro ⟨rfl, by decide, by decide⟩ (fgetf fb_740_14 h0 hB0 ?_)
                intro z112 lz112 uz112 qz112
                refine And.intro (by omega) (And.intro ?_ ?_)
                · intro c113
                  refine And.intro ⟨rfl, by decide, by decide⟩ (fgetf fb_740_14 h0 hB0 ?_)
                  intro z114 lz114 uz114 qz114
                  refine And.intro ⟨rfl, by decide, by decide⟩ (And.intro rfl (And.intro (Or.inl rfl) (fputf fb_740_14 (by decide +kernel) hW (by omega) ?_)))
                  intro IhB115 ehB115 hB115
                  have t116 : IhB115 740 9 = I 740 9 := (congrFun (congrFun ehB115 740) 9).trans (fup_ne (by omega))
                  have t117 : IhB115 740 10 = I 740 10 := (congrFun (congrFun ehB115 740) 10).trans (fup_ne (by omega))
                  have t118 : IhB115 740 11 = I 740 11 := (congrFun (congrFun ehB115 740) 11).trans (fup_ne (by omega))
                  have t119 : IhB115 740 13 = I 740 13 := (congrFun (congrFun ehB115 740) 13).trans (fup_ne (by omega))
                  have t120 := fup_at ehB115 14 (by omega)
                  have t121 : IhB115 740 15 = I 740 15 := (congrFun (congrFun ehB115 740) 15).trans (fup_ne (by omega))
                  have t122 : IhB115 740 16 = I 740 16 := (congrFun (congrFun ehB115 740) 16).trans (fup_ne (by omega))
                  have k123 := fBz_eq hB115 (a := 740) (j := 8) (by decide +kernel)
                  have k124 := fBz_eq hB115 (a := 740) (j := 17) (by decide +kernel)
                  refine Exists.intro xm_314 (And.intro mi_314 (And.intro ⟨rfl, rfl, rfl, rfl⟩ (And.intro rfl ?_)))
                  refine fcall _ h0 (fzs_sub (by decide +kernel) hW) hB115 (ct_M_next_c8003 (fBz h0 hB115) (by omega)) ?_
                  rintro IhB126 _ hB126 fhB126 ⟨rfl, hz125⟩
                  have t127 := fhB126 740 14 (by decide +kernel)
                  have t128 := fhB126 740 15 (by decide +kernel)
                  have t129 := fhB126 740 16 (by decide +kernel)
                  have k130 := fBz_eq hB126 (a := 740) (j := 8) (by decide +kernel)
                  have k131 := fBz_eq hB126 (a := 740) (j := 17) (by decide +kernel)
                  exfalso
                  omega
                · intro c132
                  refine And.intro (⟨by omega, by omega⟩) ?_
                  exact ⟨_, rfl, by omega, sBe_refl, (fun q => absurd q (by omega))⟩
            · intro c133
              refine And.intro ⟨rfl, by decide, by decide⟩ (fgetf fb_740_15 h0 hB0 ?_)
              intro z134 lz134 uz134 qz134
              refine And.intro ⟨rfl, by decide, by decide⟩ (And.intro rfl (And.intro (Or.inl rfl) (fputf fb_740_15 (by decide +kernel) hW (by omega) ?_)))
              intro IhB135 ehB135 hB135
              have t136 : IhB135 740 9 = I 740 9 := (congrFun (congrFun ehB135 740) 9).trans (fup_ne (by omega))
              have t137 : IhB135 740 10 = I 740 10 := (congrFun (congrFun ehB135 740) 10).trans (fup_ne (by omega))
              have t138 : IhB135 740 11 = I 740 11 := (congrFun (congrFun ehB135 740) 11).trans (fup_ne (by omega))
              have t139 : IhB135 740 13 = I 740 13 := (congrFun (congrFun ehB135 740) 13).trans (fup_ne (by omega))
              have t140 : IhB135 740 14 = I 740 14 := (congrFun (congrFun ehB135 740) 14).trans (fup_ne (by omega))
              have t141 := fup_at ehB135 15 (by omega)
              have t142 : IhB135 740 16 = I 740 16 := (congrFun (congrFun ehB135 740) 16).trans (fup_ne (by omega))
              have k143 := fBz_eq hB135 (a := 740) (j := 8) (by decide +kernel)
              have k144 := fBz_eq hB135 (a := 740) (j := 17) (by decide +kernel)
              refine Exists.intro xm_314 (And.intro mi_314 (And.intro ⟨rfl, rfl, rfl, rfl⟩ (And.intro rfl ?_)))
              refine fcall _ h0 (fzs_sub (by decide +kernel) hW) hB135 (ct_M_next_c8003 (fBz h0 hB135) (by omega)) ?_
              rintro IhB146 _ hB146 fhB146 ⟨rfl, hz145⟩
              have t147 := fhB146 740 14 (by decide +kernel)
              have t148 := fhB146 740 15 (by decide +kernel)
              have t149 := fhB146 740 16 (by decide +kernel)
              have k150 := fBz_eq hB146 (a := 740) (j := 8) (by decide +kernel)
              have k151 := fBz_eq hB146 (a := 740) (j := 17) (by decide +kernel)
              exfalso
              omega
        · intro c152
          refine And.intro ⟨rfl, by decide, by decide⟩ (fgetf fb_740_13 h0 hB0 ?_)
          intro z153 lz153 uz153 qz153
          refine Exists.intro xm_422 (And.intro mi_422 (And.intro ⟨rfl, rfl, rfl, rfl⟩ (And.intro True.intro ?_)))
          refine fcallp hB0 (ct_M_isName_49450 (fBz h0 hB0) (by omega) (by omega)) ?_
          rintro _ ⟨z154, rfl, hz154⟩
          refine And.intro (by omega) (And.intro ?_ ?_)
          · intro c155
            refine Exists.intro xm_423 (And.intro mi_423 (And.intro ⟨rfl, rfl, rfl, rfl⟩ (And.intro rfl ?_)))
            refine fcallp hB0 (ct_M_isSign_90da9 (fBz h0 hB0) (by omega)) ?_
            rintro _ ⟨z156, rfl, hz156⟩
            refine And.intro (by omega) (And.intro ?_ ?_)
            · intro c157
              refine Exists.intro xm_423 (And.intro mi_423 (And.intro ⟨rfl, rfl, rfl, rfl⟩ (And.intro rfl ?_)))
              refine fcallp hB0 (ct_M_isSign_90da9 (fBz h0 hB0) (by omega)) ?_
              rintro _ ⟨z158, rfl, hz158⟩
              refine And.intro (by omega) (And.intro ?_ ?_)
              · intro c159
                refine And.intro (⟨by omega, by omega⟩) ?_
                exact ⟨_, rfl, by omega, sBe_refl, (fun q => absurd q (by omega))⟩
              · intro c160
                refine And.intro ⟨rfl, by decide, by decide⟩ (fgetf fb_740_14 h0 hB0 ?_)
                intro z161 lz161 uz161 qz161
                refine And.intro (by omega) (And.intro ?_ ?_)
                · intro c162
                  refine And.intro ⟨rfl, by decide, by decide⟩ (fgetf fb_740_14 h0 hB0 ?_)
                  intro z163 lz163 uz163 qz163
                  refine And.intro ⟨rfl, by decide, by decide⟩ (And.intro rfl (And.intro (Or.inl rfl) (fputf fb_740_14 (by decide +kernel) hW (by omega) ?_)))
                  intro IhB164 ehB164 hB164
                  have t165 : IhB164 740 9 = I 740 9 := (congrFun (congrFun ehB164 740) 9).trans (fup_ne (by omega))
                  have t166 : IhB164 740 10 = I 740 10 := (congrFun (congrFun ehB164 740) 10).trans (fup_ne (by omega))
                  have t167 : IhB164 740 11 = I 740 11 := (congrFun (congrFun ehB164 740) 11).trans (fup_ne (by omega))
                  have t168 : IhB164 740 13 = I 740 13 := (congrFun (congrFun ehB164 740) 13).trans (fup_ne (by omega))
                  have t169 := fup_at ehB164 14 (by omega)
                  have t170 : IhB164 740 15 = I 740 15 := (congrFun (congrFun ehB164 740) 15).trans (fup_ne (by omega))
                  have t171 : IhB164 740 16 = I 740 16 := (congrFun (congrFun ehB164 740) 16).trans (fup_ne (by omega))
                  have k172 := fBz_eq hB164 (a := 740) (j := 8) (by decide +kernel)
                  have k173 := fBz_eq hB164 (a := 740) (j := 17) (by decide +kernel)
                  refine Exists.intro xm_314 (And.intro mi_314 (And.intro ⟨rfl, rfl, rfl, rfl⟩ (And.intro rfl ?_)))
                  refine fcall _ h0 (fzs_sub (by decide +kernel) hW) hB164 (ct_M_next_c8003 (fBz h0 hB164) (by omega)) ?_
                  rintro IhB175 _ hB175 fhB175 ⟨rfl, hz174⟩
                  have t176 := fhB175 740 14 (by decide +kernel)
                  have t177 := fhB175 740 15 (by decide +kernel)
                  have t178 := fhB175 740 16 (by decide +kernel)
                  have k179 := fBz_eq hB175 (a := 740) (j := 8) (by decide +kernel)
                  have k180 := fBz_eq hB175 (a := 740) (j := 17) (by decide +kernel)
                  exfalso
                  omega
                · intro c181
                  refine And.intro (⟨by omega, by omega⟩) ?_
                  exact ⟨_, rfl, by omega, sBe_refl, (fun q => absurd q (by omega))⟩
            · intro c182
              refine And.intro ⟨rfl, by decide, by decide⟩ (fgetf fb_740_15 h0 hB0 ?_)
              intro z183 lz183 uz183 qz183
              refine And.intro (by omega) (And.intro ?_ ?_)
              · intro c184
                refine Exists.intro xm_423 (And.intro mi_423 (And.intro ⟨rfl, rfl, rfl, rfl⟩ (And.intro rfl ?_)))
                refine fcallp hB0 (ct_M_isSign_90da9 (fBz h0 hB0) (by omega)) ?_
                rintro _ ⟨z185, rfl, hz185⟩
                refine And.intro (by omega) (And.intro ?_ ?_)
                · intro c186
                  refine And.intro (⟨by omega, by omega⟩) ?_
                  exact ⟨_, rfl, by omega, sBe_refl, (fun q => absurd q (by omega))⟩
                · intro c187
                  refine And.intro ⟨rfl, by decide, by decide⟩ (fgetf fb_740_14 h0 hB0 ?_)
                  intro z188 lz188 uz188 qz188
                  refine And.intro (by omega) (And.intro ?_ ?_)
                  · intro c189
                    refine And.intro ⟨rfl, by decide, by decide⟩ (fgetf fb_740_14 h0 hB0 ?_)
                    intro z190 lz190 uz190 qz190
                    refine And.intro ⟨rfl, by decide, by decide⟩ (And.intro rfl (And.intro (Or.inl rfl) (fputf fb_740_14 (by decide +kernel) hW (by omega) ?_)))
                    intro IhB191 ehB191 hB191
                    have t192 : IhB191 740 9 = I 740 9 := (congrFun (congrFun ehB191 740) 9).trans (fup_ne (by omega))
                    have t193 : IhB191 740 10 = I 740 10 := (congrFun (congrFun ehB191 740) 10).trans (fup_ne (by omega))
                    have t194 : IhB191 740 11 = I 740 11 := (congrFun (congrFun ehB191 740) 11).trans (fup_ne (by omega))
                    have t195 : IhB191 740 13 = I 740 13 := (congrFun (congrFun ehB191 740) 13).trans (fup_ne (by omega))
                    have t196 := fup_at ehB191 14 (by omega)
                    have t197 : IhB191 740 15 = I 740 15 := (congrFun (congrFun ehB191 740) 15).trans (fup_ne (by omega))
                    have t198 : IhB191 740 16 = I 740 16 := (congrFun (congrFun ehB191 740) 16).trans (fup_ne (by omega))
                    have k199 := fBz_eq hB191 (a := 740) (j := 8) (by decide +kernel)
                    have k200 := fBz_eq hB191 (a := 740) (j := 17) (by decide +kernel)
                    refine Exists.intro xm_314 (And.intro mi_314 (And.intro ⟨rfl, rfl, rfl, rfl⟩ (And.intro rfl ?_)))
                    refine fcall _ h0 (fzs_sub (by decide +kernel) hW) hB191 (ct_M_next_c8003 (fBz h0 hB191) (by omega)) ?_
                    rintro IhB202 _ hB202 fhB202 ⟨rfl, hz201⟩
                    have t203 := fhB202 740 14 (by decide +kernel)
                    have t204 := fhB202 740 15 (by decide +kernel)
                    have t205 := fhB202 740 16 (by decide +kernel)
                    have k206 := fBz_eq hB202 (a := 740) (j := 8) (by decide +kernel)
                    have k207 := fBz_eq hB202 (a := 740) (j := 17) (by decide +kernel)
                    exfalso
                    omega
                  · intro c208
                    refine And.intro (⟨by omega, by omega⟩) ?_
                    exact ⟨_, rfl, by omega, sBe_refl, (fun q => absurd q (by omega))⟩
              · intro c209
                refine And.intro ⟨rfl, by decide, by decide⟩ (fgetf fb_740_15 h0 hB0 ?_)
                intro z210 lz210 uz210 qz210
                refine And.intro ⟨rfl, by decide, by decide⟩ (And.intro rfl (And.intro (Or.inl rfl) (fputf fb_740_15 (by decide +kernel) hW (by omega) ?_)))
                intro IhB211 ehB211 hB211
                have t212 : IhB211 740 9 = I 740 9 := (congrFun (congrFun ehB211 740) 9).trans (fup_ne (by omega))
                have t213 : IhB211 740 10 = I 740 10 := (congrFun (congrFun ehB211 740) 10).trans (fup_ne (by omega))
                have t214 : IhB211 740 11 = I 740 11 := (congrFun (congrFun ehB211 740) 11).trans (fup_ne (by omega))
                have t215 : IhB211 740 13 = I 740 13 := (congrFun (congrFun ehB211 740) 13).trans (fup_ne (by omega))
                have t216 : IhB211 740 14 = I 740 14 := (congrFun (congrFun ehB211 740) 14).trans (fup_ne (by omega))
                have t217 := fup_at ehB211 15 (by omega)
                have t218 : IhB211 740 16 = I 740 16 := (congrFun (congrFun ehB211 740) 16).trans (fup_ne (by omega))
                have k219 := fBz_eq hB211 (a := 740) (j := 8) (by decide +kernel)
                have k220 := fBz_eq hB211 (a := 740) (j := 17) (by decide +kernel)
                refine Exists.intro xm_314 (And.intro mi_314 (And.intro ⟨rfl, rfl, rfl, rfl⟩ (And.intro rfl ?_)))
                refine fcall _ h0 (fzs_sub (by decide +kernel) hW) hB211 (ct_M_next_c8003 (fBz h0 hB211) (by omega)) ?_
                rintro IhB222 _ hB222 fhB222 ⟨rfl, hz221⟩
                have t223 := fhB222 740 14 (by decide +kernel)
                have t224 := fhB222 740 15 (by decide +kernel)
                have t225 := fhB222 740 16 (by decide +kernel)
                have k226 := fBz_eq hB222 (a := 740) (j := 8) (by decide +kernel)
                have k227 := fBz_eq hB222 (a := 740) (j := 17) (by decide +kernel)
                exfalso
                omega
          · intro c228
            refine And.intro ⟨rfl, by decide, by decide⟩ (fgetf fb_740_13 h0 hB0 ?_)
            intro z229 lz229 uz229 qz229
            refine Exists.intro xm_421 (And.intro mi_421 (And.intro ⟨rfl, rfl, rfl, rfl⟩ (And.intro rfl ?_)))
            refine fcall _ h0 (fzs_sub (by decide +kernel) hW) hB0 (ct_M_step_2c704 (fBz h0 hB0) (by omega) (by omega) (by omega) (by omega)) ?_
            rintro IhB231 _ hB231 fhB231 ⟨rfl, hz230, g0z230⟩
            have t232 := fhB231 740 9 (by decide +kernel)
            have t233 := fhB231 740 10 (by decide +kernel)
            have t234 := fhB231 740 11 (by decide +kernel)
            have t235 := fhB231 740 13 (by decide +kernel)
            have t236 := fhB231 740 14 (by decide +kernel)
            have t237 := fhB231 740 15 (by decide +kernel)
            have k238 := fBz_eq hB231 (a := 740) (j := 8) (by decide +kernel)
            have k239 := fBz_eq hB231 (a := 740) (j := 17) (by decide +kernel)
            refine And.intro ⟨rfl, by decide, by decide⟩ (fgetf fb_740_18 h0 hB231 ?_)
            intro z240 lz240 uz240 qz240
            intro z241 hz241 ez241 bz241
            refine And.intro ⟨rfl, by decide, by decide⟩ (And.intro rfl (And.intro (Or.inl rfl) (fputf fb_740_18 (by decide +kernel) hW (by omega) ?_)))
            intro IhB242 ehB242 hB242
            have t243 : IhB242 740 9 = IhB231 740 9 := (congrFun (congrFun ehB242 740) 9).trans (fup_ne (by omega))
            have t244 : IhB242 740 10 = IhB231 740 10 := (congrFun (congrFun ehB242 740) 10).trans (fup_ne (by omega))
            have t245 : IhB242 740 11 = IhB231 740 11 := (congrFun (congrFun ehB242 740) 11).trans (fup_ne (by omega))
            have t246 : IhB242 740 13 = IhB231 740 13 := (congrFun (congrFun ehB242 740) 13).trans (fup_ne (by omega))
            have t247 : IhB242 740 14 = IhB231 740 14 := (congrFun (congrFun ehB242 740) 14).trans (fup_ne (by omega))
            have t248 : IhB242 740 15 = IhB231 740 15 := (congrFun (congrFun ehB242 740) 15).trans (fup_ne (by omega))
            have t249 : IhB242 740 16 = IhB231 740 16 := (congrFun (congrFun ehB242 740) 16).trans (fup_ne (by omega))
            have t250 := fup_at ehB242 18 (by omega)
            have k251 := fBz_eq hB242 (a := 740) (j := 8) (by decide +kernel)
            have k252 := fBz_eq hB242 (a := 740) (j := 17) (by decide +kernel)
            refine Exists.intro xm_314 (And.intro mi_314 (And.intro ⟨rfl, rfl, rfl, rfl⟩ (And.intro rfl ?_)))
            refine fcall _ h0 (fzs_sub (by decide +kernel) hW) hB242 (ct_M_next_c8003 (fBz h0 hB242) (by omega)) ?_
            rintro IhB254 _ hB254 fhB254 ⟨rfl, hz253⟩
            have t255 := fhB254 740 14 (by decide +kernel)
            have t256 := fhB254 740 15 (by decide +kernel)
            have t257 := fhB254 740 16 (by decide +kernel)
            have t258 := fhB254 740 18 (by decide +kernel)
            have k259 := fBz_eq hB254 (a := 740) (j := 8) (by decide +kernel)
            have k260 := fBz_eq hB254 (a := 740) (j := 17) (by decide +kernel)
            refine And.intro (⟨by omega, by omega⟩) ?_
            exact ⟨_, rfl, by omega, (par_leaf (by omega) (by omega) g0z230 (fun j => (fFr_S fhB254 (by decide +kernel) j).trans (fup_other ehB242 741 j (Or.inl (by decide)))) (by omega) (by omega)).1, (fun _ => (par_leaf (by omega) (by omega) g0z230 (fun j => (fFr_S fhB254 (by decide +kernel) j).trans (fup_other ehB242 741 j (Or.inl (by decide)))) (by omega) (by omega)).2)⟩
    · intro c261
      refine And.intro ⟨rfl, by decide, by decide⟩ (fgetf fb_740_12 h0 hB0 ?_)
      intro z262 lz262 uz262 qz262
      refine Exists.intro xm_421 (And.intro mi_421 (And.intro ⟨rfl, rfl, rfl, rfl⟩ (And.intro rfl ?_)))
      refine fcall _ h0 (fzs_sub (by decide +kernel) hW) hB0 (ct_M_step_2c704 (fBz h0 hB0) (by omega) (by omega) (by omega) (by omega)) ?_
      rintro IhB264 _ hB264 fhB264 ⟨rfl, hz263, g0z263⟩
      have t265 := fhB264 740 9 (by decide +kernel)
      have t266 := fhB264 740 10 (by decide +kernel)
      have t267 := fhB264 740 11 (by decide +kernel)
      have t268 := fhB264 740 12 (by decide +kernel)
      have t269 := fhB264 740 13 (by decide +kernel)
      have t270 := fhB264 740 14 (by decide +kernel)
      have t271 := fhB264 740 15 (by decide +kernel)
      have k272 := fBz_eq hB264 (a := 740) (j := 8) (by decide +kernel)
      have k273 := fBz_eq hB264 (a := 740) (j := 17) (by decide +kernel)
      refine And.intro ⟨rfl, by decide, by decide⟩ (fgetf fb_740_18 h0 hB264 ?_)
      intro z274 lz274 uz274 qz274
      intro z275 hz275 ez275 bz275
      refine And.intro ⟨rfl, by decide, by decide⟩ (And.intro rfl (And.intro (Or.inl rfl) (fputf fb_740_18 (by decide +kernel) hW (by omega) ?_)))
      intro IhB276 ehB276 hB276
      have t277 : IhB276 740 9 = IhB264 740 9 := (congrFun (congrFun ehB276 740) 9).trans (fup_ne (by omega))
      have t278 : IhB276 740 10 = IhB264 740 10 := (congrFun (congrFun ehB276 740) 10).trans (fup_ne (by omega))
      have t279 : IhB276 740 11 = IhB264 740 11 := (congrFun (congrFun ehB276 740) 11).trans (fup_ne (by omega))
      have t280 : IhB276 740 12 = IhB264 740 12 := (congrFun (congrFun ehB276 740) 12).trans (fup_ne (by omega))
      have t281 : IhB276 740 13 = IhB264 740 13 := (congrFun (congrFun ehB276 740) 13).trans (fup_ne (by omega))
      have t282 : IhB276 740 14 = IhB264 740 14 := (congrFun (congrFun ehB276 740) 14).trans (fup_ne (by omega))
      have t283 : IhB276 740 15 = IhB264 740 15 := (congrFun (congrFun ehB276 740) 15).trans (fup_ne (by omega))
      have t284 : IhB276 740 16 = IhB264 740 16 := (congrFun (congrFun ehB276 740) 16).trans (fup_ne (by omega))
      have t285 := fup_at ehB276 18 (by omega)
      have k286 := fBz_eq hB276 (a := 740) (j := 8) (by decide +kernel)
      have k287 := fBz_eq hB276 (a := 740) (j := 17) (by decide +kernel)
      refine Exists.intro xm_314 (And.intro mi_314 (And.intro ⟨rfl, rfl, rfl, rfl⟩ (And.intro rfl ?_)))
      refine fcall _ h0 (fzs_sub (by decide +kernel) hW) hB276 (ct_M_next_c8003 (fBz h0 hB276) (by omega)) ?_
      rintro IhB289 _ hB289 fhB289 ⟨rfl, hz288⟩
      have t290 := fhB289 740 14 (by decide +kernel)
      have t291 := fhB289 740 15 (by decide +kernel)
      have t292 := fhB289 740 16 (by decide +kernel)
      have t293 := fhB289 740 18 (by decide +kernel)
      have k294 := fBz_eq hB289 (a := 740) (j := 8) (by decide +kernel)
      have k295 := fBz_eq hB289 (a := 740) (j := 17) (by decide +kernel)
      refine And.intro (⟨by omega, by omega⟩) ?_
      exact ⟨_, rfl, by omega, (par_leaf (by omega) (by omega) g0z263 (fun j => (fFr_S fhB289 (by decide +kernel) j).trans (fup_other ehB276 741 j (Or.inl (by decide)))) (by omega) (by omega)).1, (fun _ => (par_leaf (by omega) (by omega) g0z263 (fun j => (fFr_S fhB289 (by decide +kernel) j).trans (fup_other ehB276 741 j (Or.inl (by decide)))) (by omega) (by omega)).2)⟩
abbrev jc_M_term_10b42_10 (I0 : fH) : Nat → fL → List fV → fH → Prop := fun m lv st I => ∃ (y1 : Int), lv = [(0, .inr (.inr (some 740))), (1, .inl y1)] ∧ st = [] ∧ ((((-1) ≤ y1 ∧ y1 ≤ 5) ∧ (I0 740 9 ≤ I 740 9) ∧ (I 740 9 ≤ I 740 10) ∧ (I 740 10 ≤ I 740 8) ∧ (I 740 11 = 0 ∨ I 740 9 < I 740 10) ∧ (I0 740 16 ≤ I 740 16) ∧ (I 740 16 - I0 740 16 ≤ I 740 9 - I0 740 9) ∧ (I 740 14 = I0 740 14) ∧ (I 740 15 = I0 740 15)) ∧ (sBe I0 I (I0 740 17) (I0 740 16)) ∧ (sOne I (I0 740 17) (I0 740 16) (I 740 16))) ∧ m = (1 + 1 * (96 - I 740 9) : Int).toNat
set_option maxRecDepth 8000 in
theorem ct_M_term_10b42 {I : fH} {x1 : Int} (h0 : fB bsJ I) (ha1 : ((-1) ≤ x1 ∧ x1 ≤ 5)) (hp0 : I 740 9 ≤ I 740 10 ∧ I 740 10 ≤ I 740 8 ∧ (I 740 11 = 0 ∨ I 740 9 < I 740 10)) (hp1 : 0 ≤ I 740 16 ∧ I 740 16 ≤ I 740 9) (hp2 : 16 ≤ I 740 14 + I 740 15) (hp3 : (1215 ≤ I 740 17 ∧ I 740 17 ≤ 3415 ∧ (I 740 17 - 1215) % 200 = 0) ∨ I 740 17 = 4700) : fC ρ base n F xTc vwCl xTys D dA la gJ (fbz bsJ znJ (fKc wz_2212a) I) xm_387 [.inr (.inr (some 740)), .inl x1] I (fun I' r => ∃ z, r = some (.inl z) ∧ ((0 ≤ z ∧ z ≤ 1) ∧ (I 740 9 ≤ I' 740 9 ∧ I' 740 9 ≤ I' 740 10 ∧ I' 740 10 ≤ I' 740 8 ∧ (I' 740 11 = 0 ∨ I' 740 9 < I' 740 10) ∧ (z = 1 → I 740 16 ≤ I' 740 16 ∧ I' 740 16 - I 740 16 ≤ I' 740 9 - I 740 9 ∧ I' 740 14 = I 740 14 ∧ I' 740 15 = I 740 15))) ∧ (sBe I I' (I 740 17) (I 740 16)) ∧ (z = 1 → sOne I' (I 740 17) (I 740 16) (I' 740 16))) := by
  have hW : fzs wz_2212a (fKc wz_2212a) := fKc_ok _
  refine f_meth (rb := rbJ) (J := [(10, (jc_M_term_10b42_10 I))]) 98 400 xG xin_387 x6_387 okJ (fB_self h0) ?_ ?_
  · refine List.forall_mem_cons.mpr ⟨?_, fun q h => absurd h List.not_mem_nil⟩
    · rintro m _ _ I1 hB1 ⟨y1, rfl, rfl, ⟨hb, hx0, hx1⟩, hm⟩
      have k1 := fBz_eq hB1 (a := 740) (j := 8) (by decide +kernel)
      have k2 := fBz_eq hB1 (a := 740) (j := 17) (by decide +kernel)
      refine Exists.intro xm_423 (And.intro mi_423 (And.intro ⟨rfl, rfl, rfl, rfl⟩ (And.intro rfl ?_)))
      refine fcallp hB1 (ct_M_isSign_90da9 (fBz h0 hB1) (by omega)) ?_
      rintro _ ⟨z3, rfl, hz3⟩
      refine And.intro (by omega) (And.intro ?_ ?_)
      · intro c4
        refine And.intro ⟨rfl, by decide, by decide⟩ (fgetf fb_740_13 h0 hB1 ?_)
        intro z5 lz5 uz5 qz5
        refine Exists.intro xm_314 (And.intro mi_314 (And.intro ⟨rfl, rfl, rfl, rfl⟩ (And.intro rfl ?_)))
        refine fcall _ h0 (fzs_sub (by decide +kernel) hW) hB1 (ct_M_next_c8003 (fBz h0 hB1) (by omega)) ?_
        rintro IhB7 _ hB7 fhB7 ⟨rfl, hz6⟩
        have t8 := fhB7 740 14 (by decide +kernel)
        have t9 := fhB7 740 15 (by decide +kernel)
        have t10 := fhB7 740 16 (by decide +kernel)
        have k11 := fBz_eq hB7 (a := 740) (j := 8) (by decide +kernel)
        have k12 := fBz_eq hB7 (a := 740) (j := 17) (by decide +kernel)
        refine Exists.intro xm_404 (And.intro mi_404 (And.intro ⟨rfl, rfl, rfl, rfl⟩ (And.intro rfl ?_)))
        refine fcall _ h0 (fzs_sub (by decide +kernel) hW) hB7 (ct_M_part0_cc4b8 (fBz h0 hB7) (by omega) (by omega) (by omega) (by omega) (by omega)) ?_
        rintro IhB14 _ hB14 fhB14 ⟨z13, rfl, hz13, g0z13, g1z13⟩
        have k15 := fBz_eq hB14 (a := 740) (j := 8) (by decide +kernel)
        have k16 := fBz_eq hB14 (a := 740) (j := 17) (by decide +kernel)
        refine And.intro (by omega) (And.intro ?_ ?_)
        · intro c17
          refine Exists.intro xm_421 (And.intro mi_421 (And.intro ⟨rfl, rfl, rfl, rfl⟩ (And.intro rfl ?_)))
          refine fcall _ h0 (fzs_sub (by decide +kernel) hW) hB14 (ct_M_step_2c704 (fBz h0 hB14) (by omega) (by omega) (by omega) (by omega)) ?_
          rintro IhB19 _ hB19 fhB19 ⟨rfl, hz18, g0z18⟩
          have t20 := fhB19 740 9 (by decide +kernel)
          have t21 := fhB19 740 10 (by decide +kernel)
          have t22 := fhB19 740 11 (by decide +kernel)
          have t23 := fhB19 740 13 (by decide +kernel)
          have t24 := fhB19 740 14 (by decide +kernel)
          have t25 := fhB19 740 15 (by decide +kernel)
          have k26 := fBz_eq hB19 (a := 740) (j := 8) (by decide +kernel)
          have k27 := fBz_eq hB19 (a := 740) (j := 17) (by decide +kernel)
          exact fcutJ (I := IhB19) (j := (jc_M_term_10b42_10 I)) (lv' := [(0, .inr (.inr (some 740))), (1, .inl _)]) (And.intro rfl (And.intro rfl True.intro)) ⟨_, rfl, rfl, ⟨by omega, (par_be hx0 (fFr_S fhB7 (by decide +kernel)) g0z13 g0z18 (by omega) (by omega) (by omega) (by omega)), (par_one (by omega) hx1 (fFr_S fhB7 (by decide +kernel)) g0z13 (g1z13 (by omega)) g0z18 (by omega) (by omega) (by omega) (by omega) (by omega) (by omega))⟩, rfl⟩ (by omega)
        · intro c28
          refine And.intro (⟨by omega, by omega⟩) ?_
          exact ⟨_, rfl, by omega, (par_bel hx0 (fFr_S fhB7 (by decide +kernel)) g0z13 (by omega) (by omega)), (fun q => absurd q (by omega))⟩
      · intro c29
        refine Exists.intro xm_423 (And.intro mi_423 (And.intro ⟨rfl, rfl, rfl, rfl⟩ (And.intro rfl ?_)))
        refine fcallp hB1 (ct_M_isSign_90da9 (fBz h0 hB1) (by omega)) ?_
        rintro _ ⟨z30, rfl, hz30⟩
        refine And.intro (by omega) (And.intro ?_ ?_)
        · intro c31
          refine And.intro (⟨by omega, by omega⟩) ?_
          exact ⟨_, rfl, by omega, hx0, (fun _ => hx1)⟩
        · intro c32
          refine And.intro ⟨rfl, by decide, by decide⟩ (fgetf fb_740_13 h0 hB1 ?_)
          intro z33 lz33 uz33 qz33
          refine Exists.intro xm_314 (And.intro mi_314 (And.intro ⟨rfl, rfl, rfl, rfl⟩ (And.intro rfl ?_)))
          refine fcall _ h0 (fzs_sub (by decide +kernel) hW) hB1 (ct_M_next_c8003 (fBz h0 hB1) (by omega)) ?_
          rintro IhB35 _ hB35 fhB35 ⟨rfl, hz34⟩
          have t36 := fhB35 740 14 (by decide +kernel)
          have t37 := fhB35 740 15 (by decide +kernel)
          have t38 := fhB35 740 16 (by decide +kernel)
          have k39 := fBz_eq hB35 (a := 740) (j := 8) (by decide +kernel)
          have k40 := fBz_eq hB35 (a := 740) (j := 17) (by decide +kernel)
          refine Exists.intro xm_404 (And.intro mi_404 (And.intro ⟨rfl, rfl, rfl, rfl⟩ (And.intro rfl ?_)))
          refine fcall _ h0 (fzs_sub (by decide +kernel) hW) hB35 (ct_M_part0_cc4b8 (fBz h0 hB35) (by omega) (by omega) (by omega) (by omega) (by omega)) ?_
          rintro IhB42 _ hB42 fhB42 ⟨z41, rfl, hz41, g0z41, g1z41⟩
          have k43 := fBz_eq hB42 (a := 740) (j := 8) (by decide +kernel)
          have k44 := fBz_eq hB42 (a := 740) (j := 17) (by decide +kernel)
          refine And.intro (by omega) (And.intro ?_ ?_)
          · intro c45
            refine Exists.intro xm_421 (And.intro mi_421 (And.intro ⟨rfl, rfl, rfl, rfl⟩ (And.intro rfl ?_)))
            refine fcall _ h0 (fzs_sub (by decide +kernel) hW) hB42 (ct_M_step_2c704 (fBz h0 hB42) (by omega) (by omega) (by omega) (by omega)) ?_
            rintro IhB47 _ hB47 fhB47 ⟨rfl, hz46, g0z46⟩
            have t48 := fhB47 740 9 (by decide +kernel)
            have t49 := fhB47 740 10 (by decide +kernel)
            have t50 := fhB47 740 11 (by decide +kernel)
            have t51 := fhB47 740 13 (by decide +kernel)
            have t52 := fhB47 740 14 (by decide +kernel)
            have t53 := fhB47 740 15 (by decide +kernel)
            have k54 := fBz_eq hB47 (a := 740) (j := 8) (by decide +kernel)
            have k55 := fBz_eq hB47 (a := 740) (j := 17) (by decide +kernel)
            exact fcutJ (I := IhB47) (j := (jc_M_term_10b42_10 I)) (lv' := [(0, .inr (.inr (some 740))), (1, .inl _)]) (And.intro rfl (And.intro rfl True.intro)) ⟨_, rfl, rfl, ⟨by omega, (par_be hx0 (fFr_S fhB35 (by decide +kernel)) g0z41 g0z46 (by omega) (by omega) (by omega) (by omega)), (par_one (by omega) hx1 (fFr_S fhB35 (by decide +kernel)) g0z41 (g1z41 (by omega)) g0z46 (by omega) (by omega) (by omega) (by omega) (by omega) (by omega))⟩, rfl⟩ (by omega)
          · intro c56
            refine And.intro (⟨by omega, by omega⟩) ?_
            exact ⟨_, rfl, by omega, (par_bel hx0 (fFr_S fhB35 (by decide +kernel)) g0z41 (by omega) (by omega)), (fun q => absurd q (by omega))⟩
  · have hB0 := fB_self (zn := znJ) (K := fKc wz_2212a) h0
    refine Exists.intro xm_404 (And.intro mi_404 (And.intro ⟨rfl, rfl, rfl, rfl⟩ (And.intro rfl ?_)))
    refine fcall _ h0 (fzs_sub (by decide +kernel) hW) hB0 (ct_M_part0_cc4b8 (fBz h0 hB0) (by omega) (by omega) (by omega) (by omega) (by omega)) ?_
    rintro IhB58 _ hB58 fhB58 ⟨z57, rfl, hz57, g0z57, g1z57⟩
    have k59 := fBz_eq hB58 (a := 740) (j := 8) (by decide +kernel)
    have k60 := fBz_eq hB58 (a := 740) (j := 17) (by decide +kernel)
    refine And.intro (by omega) (And.intro ?_ ?_)
    · intro c61
      exact fcutJ (I := IhB58) (j := (jc_M_term_10b42_10 I)) (lv' := [(0, .inr (.inr (some 740))), (1, .inl _)]) (And.intro rfl (And.intro rfl True.intro)) ⟨_, rfl, rfl, ⟨by omega, g0z57, (g1z57 (by omega))⟩, rfl⟩ (by omega)
    · intro c62
      refine And.intro (⟨by omega, by omega⟩) ?_
      exact ⟨_, rfl, by omega, g0z57, (fun q => absurd q (by omega))⟩
abbrev jc_M_sum_87c34_10 (I0 : fH) : Nat → fL → List fV → fH → Prop := fun m lv st I => ∃ (y1 : Int), lv = [(0, .inr (.inr (some 740))), (1, .inl y1)] ∧ st = [] ∧ ((((-1) ≤ y1 ∧ y1 ≤ 5) ∧ (I0 740 9 ≤ I 740 9) ∧ (I 740 9 ≤ I 740 10) ∧ (I 740 10 ≤ I 740 8) ∧ (I 740 11 = 0 ∨ I 740 9 < I 740 10) ∧ (I0 740 16 ≤ I 740 16) ∧ (I 740 16 - I0 740 16 ≤ I 740 9 - I0 740 9) ∧ (I 740 14 = I0 740 14) ∧ (I 740 15 = I0 740 15)) ∧ (sBe I0 I (I0 740 17) (I0 740 16)) ∧ (sOne I (I0 740 17) (I0 740 16) (I 740 16))) ∧ m = (1 + 1 * (96 - I 740 9) : Int).toNat
set_option maxRecDepth 8000 in
theorem ct_M_sum_87c34 {I : fH} {x1 : Int} (h0 : fB bsJ I) (ha1 : ((-1) ≤ x1 ∧ x1 ≤ 5)) (hp0 : I 740 9 ≤ I 740 10 ∧ I 740 10 ≤ I 740 8 ∧ (I 740 11 = 0 ∨ I 740 9 < I 740 10)) (hp1 : 0 ≤ I 740 16 ∧ I 740 16 ≤ I 740 9) (hp2 : 16 ≤ I 740 14 + I 740 15) (hp3 : (1215 ≤ I 740 17 ∧ I 740 17 ≤ 3415 ∧ (I 740 17 - 1215) % 200 = 0) ∨ I 740 17 = 4700) : fC ρ base n F xTc vwCl xTys D dA la gJ (fbz bsJ znJ (fKc wz_2212a) I) xm_370 [.inr (.inr (some 740)), .inl x1] I (fun I' r => ∃ z, r = some (.inl z) ∧ ((0 ≤ z ∧ z ≤ 1) ∧ (I 740 9 ≤ I' 740 9 ∧ I' 740 9 ≤ I' 740 10 ∧ I' 740 10 ≤ I' 740 8 ∧ (I' 740 11 = 0 ∨ I' 740 9 < I' 740 10) ∧ (z = 1 → I 740 16 ≤ I' 740 16 ∧ I' 740 16 - I 740 16 ≤ I' 740 9 - I 740 9 ∧ I' 740 14 = I 740 14 ∧ I' 740 15 = I 740 15))) ∧ (sBe I I' (I 740 17) (I 740 16)) ∧ (z = 1 → sOne I' (I 740 17) (I 740 16) (I' 740 16))) := by
  have hW : fzs wz_2212a (fKc wz_2212a) := fKc_ok _
  refine f_meth (rb := rbJ) (J := [(10, (jc_M_sum_87c34_10 I))]) 98 400 xG xin_370 x6_370 okJ (fB_self h0) ?_ ?_
  · refine List.forall_mem_cons.mpr ⟨?_, fun q h => absurd h List.not_mem_nil⟩
    · rintro m _ _ I1 hB1 ⟨y1, rfl, rfl, ⟨hb, hx0, hx1⟩, hm⟩
      have k1 := fBz_eq hB1 (a := 740) (j := 8) (by decide +kernel)
      have k2 := fBz_eq hB1 (a := 740) (j := 17) (by decide +kernel)
      refine Exists.intro xm_423 (And.intro mi_423 (And.intro ⟨rfl, rfl, rfl, rfl⟩ (And.intro rfl ?_)))
      refine fcallp hB1 (ct_M_isSign_90da9 (fBz h0 hB1) (by omega)) ?_
      rintro _ ⟨z3, rfl, hz3⟩
      refine And.intro (by omega) (And.intro ?_ ?_)
      · intro c4
        refine And.intro ⟨rfl, by decide, by decide⟩ (fgetf fb_740_13 h0 hB1 ?_)
        intro z5 lz5 uz5 qz5
        refine Exists.intro xm_314 (And.intro mi_314 (And.intro ⟨rfl, rfl, rfl, rfl⟩ (And.intro rfl ?_)))
        refine fcall _ h0 (fzs_sub (by decide +kernel) hW) hB1 (ct_M_next_c8003 (fBz h0 hB1) (by omega)) ?_
        rintro IhB7 _ hB7 fhB7 ⟨rfl, hz6⟩
        have t8 := fhB7 740 14 (by decide +kernel)
        have t9 := fhB7 740 15 (by decide +kernel)
        have t10 := fhB7 740 16 (by decide +kernel)
        have k11 := fBz_eq hB7 (a := 740) (j := 8) (by decide +kernel)
        have k12 := fBz_eq hB7 (a := 740) (j := 17) (by decide +kernel)
        refine Exists.intro xm_387 (And.intro mi_387 (And.intro ⟨rfl, rfl, rfl, rfl⟩ (And.intro rfl ?_)))
        refine fcall _ h0 (fzs_sub (by decide +kernel) hW) hB7 (ct_M_term_10b42 (fBz h0 hB7) (by omega) (by omega) (by omega) (by omega) (by omega)) ?_
        rintro IhB14 _ hB14 fhB14 ⟨z13, rfl, hz13, g0z13, g1z13⟩
        have k15 := fBz_eq hB14 (a := 740) (j := 8) (by decide +kernel)
        have k16 := fBz_eq hB14 (a := 740) (j := 17) (by decide +kernel)
        refine And.intro (by omega) (And.intro ?_ ?_)
        · intro c17
          refine Exists.intro xm_421 (And.intro mi_421 (And.intro ⟨rfl, rfl, rfl, rfl⟩ (And.intro rfl ?_)))
          refine fcall _ h0 (fzs_sub (by decide +kernel) hW) hB14 (ct_M_step_2c704 (fBz h0 hB14) (by omega) (by omega) (by omega) (by omega)) ?_
          rintro IhB19 _ hB19 fhB19 ⟨rfl, hz18, g0z18⟩
          have t20 := fhB19 740 9 (by decide +kernel)
          have t21 := fhB19 740 10 (by decide +kernel)
          have t22 := fhB19 740 11 (by decide +kernel)
          have t23 := fhB19 740 13 (by decide +kernel)
          have t24 := fhB19 740 14 (by decide +kernel)
          have t25 := fhB19 740 15 (by decide +kernel)
          have k26 := fBz_eq hB19 (a := 740) (j := 8) (by decide +kernel)
          have k27 := fBz_eq hB19 (a := 740) (j := 17) (by decide +kernel)
          exact fcutJ (I := IhB19) (j := (jc_M_sum_87c34_10 I)) (lv' := [(0, .inr (.inr (some 740))), (1, .inl _)]) (And.intro rfl (And.intro rfl True.intro)) ⟨_, rfl, rfl, ⟨by omega, (par_be hx0 (fFr_S fhB7 (by decide +kernel)) g0z13 g0z18 (by omega) (by omega) (by omega) (by omega)), (par_one (by omega) hx1 (fFr_S fhB7 (by decide +kernel)) g0z13 (g1z13 (by omega)) g0z18 (by omega) (by omega) (by omega) (by omega) (by omega) (by omega))⟩, rfl⟩ (by omega)
        · intro c28
          refine And.intro (⟨by omega, by omega⟩) ?_
          exact ⟨_, rfl, by omega, (par_bel hx0 (fFr_S fhB7 (by decide +kernel)) g0z13 (by omega) (by omega)), (fun q => absurd q (by omega))⟩
      · intro c29
        refine Exists.intro xm_423 (And.intro mi_423 (And.intro ⟨rfl, rfl, rfl, rfl⟩ (And.intro rfl ?_)))
        refine fcallp hB1 (ct_M_isSign_90da9 (fBz h0 hB1) (by omega)) ?_
        rintro _ ⟨z30, rfl, hz30⟩
        refine And.intro (by omega) (And.intro ?_ ?_)
        · intro c31
          refine And.intro (⟨by omega, by omega⟩) ?_
          exact ⟨_, rfl, by omega, hx0, (fun _ => hx1)⟩
        · intro c32
          refine And.intro ⟨rfl, by decide, by decide⟩ (fgetf fb_740_13 h0 hB1 ?_)
          intro z33 lz33 uz33 qz33
          refine Exists.intro xm_314 (And.intro mi_314 (And.intro ⟨rfl, rfl, rfl, rfl⟩ (And.intro rfl ?_)))
          refine fcall _ h0 (fzs_sub (by decide +kernel) hW) hB1 (ct_M_next_c8003 (fBz h0 hB1) (by omega)) ?_
          rintro IhB35 _ hB35 fhB35 ⟨rfl, hz34⟩
          have t36 := fhB35 740 14 (by decide +kernel)
          have t37 := fhB35 740 15 (by decide +kernel)
          have t38 := fhB35 740 16 (by decide +kernel)
          have k39 := fBz_eq hB35 (a := 740) (j := 8) (by decide +kernel)
          have k40 := fBz_eq hB35 (a := 740) (j := 17) (by decide +kernel)
          refine Exists.intro xm_387 (And.intro mi_387 (And.intro ⟨rfl, rfl, rfl, rfl⟩ (And.intro rfl ?_)))
          refine fcall _ h0 (fzs_sub (by decide +kernel) hW) hB35 (ct_M_term_10b42 (fBz h0 hB35) (by omega) (by omega) (by omega) (by omega) (by omega)) ?_
          rintro IhB42 _ hB42 fhB42 ⟨z41, rfl, hz41, g0z41, g1z41⟩
          have k43 := fBz_eq hB42 (a := 740) (j := 8) (by decide +kernel)
          have k44 := fBz_eq hB42 (a := 740) (j := 17) (by decide +kernel)
          refine And.intro (by omega) (And.intro ?_ ?_)
          · intro c45
            refine Exists.intro xm_421 (And.intro mi_421 (And.intro ⟨rfl, rfl, rfl, rfl⟩ (And.intro rfl ?_)))
            refine fcall _ h0 (fzs_sub (by decide +kernel) hW) hB42 (ct_M_step_2c704 (fBz h0 hB42) (by omega) (by omega) (by omega) (by omega)) ?_
            rintro IhB47 _ hB47 fhB47 ⟨rfl, hz46, g0z46⟩
            have t48 := fhB47 740 9 (by decide +kernel)
            have t49 := fhB47 740 10 (by decide +kernel)
            have t50 := fhB47 740 11 (by decide +kernel)
            have t51 := fhB47 740 13 (by decide +kernel)
            have t52 := fhB47 740 14 (by decide +kernel)
            have t53 := fhB47 740 15 (by decide +kernel)
            have k54 := fBz_eq hB47 (a := 740) (j := 8) (by decide +kernel)
            have k55 := fBz_eq hB47 (a := 740) (j := 17) (by decide +kernel)
            exact fcutJ (I := IhB47) (j := (jc_M_sum_87c34_10 I)) (lv' := [(0, .inr (.inr (some 740))), (1, .inl _)]) (And.intro rfl (And.intro rfl True.intro)) ⟨_, rfl, rfl, ⟨by omega, (par_be hx0 (fFr_S fhB35 (by decide +kernel)) g0z41 g0z46 (by omega) (by omega) (by omega) (by omega)), (par_one (by omega) hx1 (fFr_S fhB35 (by decide +kernel)) g0z41 (g1z41 (by omega)) g0z46 (by omega) (by omega) (by omega) (by omega) (by omega) (by omega))⟩, rfl⟩ (by omega)
          · intro c56
            refine And.intro (⟨by omega, by omega⟩) ?_
            exact ⟨_, rfl, by omega, (par_bel hx0 (fFr_S fhB35 (by decide +kernel)) g0z41 (by omega) (by omega)), (fun q => absurd q (by omega))⟩
  · have hB0 := fB_self (zn := znJ) (K := fKc wz_2212a) h0
    refine Exists.intro xm_387 (And.intro mi_387 (And.intro ⟨rfl, rfl, rfl, rfl⟩ (And.intro rfl ?_)))
    refine fcall _ h0 (fzs_sub (by decide +kernel) hW) hB0 (ct_M_term_10b42 (fBz h0 hB0) (by omega) (by omega) (by omega) (by omega) (by omega)) ?_
    rintro IhB58 _ hB58 fhB58 ⟨z57, rfl, hz57, g0z57, g1z57⟩
    have k59 := fBz_eq hB58 (a := 740) (j := 8) (by decide +kernel)
    have k60 := fBz_eq hB58 (a := 740) (j := 17) (by decide +kernel)
    refine And.intro (by omega) (And.intro ?_ ?_)
    · intro c61
      exact fcutJ (I := IhB58) (j := (jc_M_sum_87c34_10 I)) (lv' := [(0, .inr (.inr (some 740))), (1, .inl _)]) (And.intro rfl (And.intro rfl True.intro)) ⟨_, rfl, rfl, ⟨by omega, g0z57, (g1z57 (by omega))⟩, rfl⟩ (by omega)
    · intro c62
      refine And.intro (⟨by omega, by omega⟩) ?_
      exact ⟨_, rfl, by omega, g0z57, (fun q => absurd q (by omega))⟩
set_option maxRecDepth 8000 in
theorem ct_M_test_011bc {I : fH} {x1 : Int} (h0 : fB bsJ I) (ha1 : ((-1) ≤ x1 ∧ x1 ≤ 5)) (hp0 : I 740 9 ≤ I 740 10 ∧ I 740 10 ≤ I 740 8 ∧ (I 740 11 = 0 ∨ I 740 9 < I 740 10)) (hp1 : 0 ≤ I 740 16 ∧ I 740 16 ≤ I 740 9) (hp2 : 16 ≤ I 740 14 + I 740 15) (hp3 : (1215 ≤ I 740 17 ∧ I 740 17 ≤ 3415 ∧ (I 740 17 - 1215) % 200 = 0) ∨ I 740 17 = 4700) : fC ρ base n F xTc vwCl xTys D dA la gJ (fbz bsJ znJ (fKc wz_2212a) I) xm_353 [.inr (.inr (some 740)), .inl x1] I (fun I' r => ∃ z, r = some (.inl z) ∧ ((0 ≤ z ∧ z ≤ 1) ∧ (I 740 9 ≤ I' 740 9 ∧ I' 740 9 ≤ I' 740 10 ∧ I' 740 10 ≤ I' 740 8 ∧ (I' 740 11 = 0 ∨ I' 740 9 < I' 740 10) ∧ (z = 1 → I 740 16 ≤ I' 740 16 ∧ I' 740 16 - I 740 16 ≤ I' 740 9 - I 740 9 ∧ I' 740 14 = I 740 14 ∧ I' 740 15 = I 740 15))) ∧ (sBe I I' (I 740 17) (I 740 16)) ∧ (z = 1 → sOne I' (I 740 17) (I 740 16) (I' 740 16))) := by
  have hW : fzs wz_2212a (fKc wz_2212a) := fKc_ok _
  refine f_meth (rb := rbJ) (J := []) 1 400 xG xin_353 x6_353 okJ (fB_self h0) ?_ ?_
  · exact fun q h => absurd h List.not_mem_nil
  · have hB0 := fB_self (zn := znJ) (K := fKc wz_2212a) h0
    refine Exists.intro xm_370 (And.intro mi_370 (And.intro ⟨rfl, rfl, rfl, rfl⟩ (And.intro rfl ?_)))
    refine fcall _ h0 (fzs_sub (by decide +kernel) hW) hB0 (ct_M_sum_87c34 (fBz h0 hB0) (by omega) (by omega) (by omega) (by omega) (by omega)) ?_
    rintro IhB2 _ hB2 fhB2 ⟨z1, rfl, hz1, g0z1, g1z1⟩
    have k3 := fBz_eq hB2 (a := 740) (j := 8) (by decide +kernel)
    have k4 := fBz_eq hB2 (a := 740) (j := 17) (by decide +kernel)
    refine And.intro (by omega) (And.intro ?_ ?_)
    · intro c5
      refine Exists.intro xm_423 (And.intro mi_423 (And.intro ⟨rfl, rfl, rfl, rfl⟩ (And.intro rfl ?_)))
      refine fcallp hB2 (ct_M_isSign_90da9 (fBz h0 hB2) (by omega)) ?_
      rintro _ ⟨z6, rfl, hz6⟩
      refine And.intro (by omega) (And.intro ?_ ?_)
      · intro c7
        refine And.intro ⟨rfl, by decide, by decide⟩ (fgetf fb_740_13 h0 hB2 ?_)
        intro z8 lz8 uz8 qz8
        refine Exists.intro xm_314 (And.intro mi_314 (And.intro ⟨rfl, rfl, rfl, rfl⟩ (And.intro rfl ?_)))
        refine fcall _ h0 (fzs_sub (by decide +kernel) hW) hB2 (ct_M_next_c8003 (fBz h0 hB2) (by omega)) ?_
        rintro IhB10 _ hB10 fhB10 ⟨rfl, hz9⟩
        have t11 := fhB10 740 14 (by decide +kernel)
        have t12 := fhB10 740 15 (by decide +kernel)
        have t13 := fhB10 740 16 (by decide +kernel)
        have k14 := fBz_eq hB10 (a := 740) (j := 8) (by decide +kernel)
        have k15 := fBz_eq hB10 (a := 740) (j := 17) (by decide +kernel)
        refine Exists.intro xm_370 (And.intro mi_370 (And.intro ⟨rfl, rfl, rfl, rfl⟩ (And.intro rfl ?_)))
        refine fcall _ h0 (fzs_sub (by decide +kernel) hW) hB10 (ct_M_sum_87c34 (fBz h0 hB10) (by omega) (by omega) (by omega) (by omega) (by omega)) ?_
        rintro IhB17 _ hB17 fhB17 ⟨z16, rfl, hz16, g0z16, g1z16⟩
        have k18 := fBz_eq hB17 (a := 740) (j := 8) (by decide +kernel)
        have k19 := fBz_eq hB17 (a := 740) (j := 17) (by decide +kernel)
        refine And.intro (by omega) (And.intro ?_ ?_)
        · intro c20
          refine Exists.intro xm_421 (And.intro mi_421 (And.intro ⟨rfl, rfl, rfl, rfl⟩ (And.intro rfl ?_)))
          refine fcall _ h0 (fzs_sub (by decide +kernel) hW) hB17 (ct_M_step_2c704 (fBz h0 hB17) (by omega) (by omega) (by omega) (by omega)) ?_
          rintro IhB22 _ hB22 fhB22 ⟨rfl, hz21, g0z21⟩
          have t23 := fhB22 740 9 (by decide +kernel)
          have t24 := fhB22 740 10 (by decide +kernel)
          have t25 := fhB22 740 11 (by decide +kernel)
          have t26 := fhB22 740 13 (by decide +kernel)
          have t27 := fhB22 740 14 (by decide +kernel)
          have t28 := fhB22 740 15 (by decide +kernel)
          have k29 := fBz_eq hB22 (a := 740) (j := 8) (by decide +kernel)
          have k30 := fBz_eq hB22 (a := 740) (j := 17) (by decide +kernel)
          refine And.intro (⟨by omega, by omega⟩) ?_
          exact ⟨_, rfl, by omega, (by first | exact par_be g0z1 (fFr_S fhB10 (by decide +kernel)) g0z16 g0z21 (by omega) (by omega) (by omega) (by omega) | exact g0z1), (fun _ => by first | exact par_one (by omega) (g1z1 (by omega)) (fFr_S fhB10 (by decide +kernel)) g0z16 (g1z16 (by omega)) g0z21 (by omega) (by omega) (by omega) (by omega) (by omega) (by omega) | exact g1z1 (by omega))⟩
        · intro c31
          refine And.intro (⟨by omega, by omega⟩) ?_
          exact ⟨_, rfl, by omega, (par_bel g0z1 (fFr_S fhB10 (by decide +kernel)) g0z16 (by omega) (by omega)), (fun q => absurd q (by omega))⟩
      · intro c32
        refine Exists.intro xm_423 (And.intro mi_423 (And.intro ⟨rfl, rfl, rfl, rfl⟩ (And.intro rfl ?_)))
        refine fcallp hB2 (ct_M_isSign_90da9 (fBz h0 hB2) (by omega)) ?_
        rintro _ ⟨z33, rfl, hz33⟩
        refine And.intro (by omega) (And.intro ?_ ?_)
        · intro c34
          refine And.intro ⟨rfl, by decide, by decide⟩ (fgetf fb_740_13 h0 hB2 ?_)
          intro z35 lz35 uz35 qz35
          refine Exists.intro xm_314 (And.intro mi_314 (And.intro ⟨rfl, rfl, rfl, rfl⟩ (And.intro rfl ?_)))
          refine fcall _ h0 (fzs_sub (by decide +kernel) hW) hB2 (ct_M_next_c8003 (fBz h0 hB2) (by omega)) ?_
          rintro IhB37 _ hB37 fhB37 ⟨rfl, hz36⟩
          have t38 := fhB37 740 14 (by decide +kernel)
          have t39 := fhB37 740 15 (by decide +kernel)
          have t40 := fhB37 740 16 (by decide +kernel)
          have k41 := fBz_eq hB37 (a := 740) (j := 8) (by decide +kernel)
          have k42 := fBz_eq hB37 (a := 740) (j := 17) (by decide +kernel)
          refine Exists.intro xm_370 (And.intro mi_370 (And.intro ⟨rfl, rfl, rfl, rfl⟩ (And.intro rfl ?_)))
          refine fcall _ h0 (fzs_sub (by decide +kernel) hW) hB37 (ct_M_sum_87c34 (fBz h0 hB37) (by omega) (by omega) (by omega) (by omega) (by omega)) ?_
          rintro IhB44 _ hB44 fhB44 ⟨z43, rfl, hz43, g0z43, g1z43⟩
          have k45 := fBz_eq hB44 (a := 740) (j := 8) (by decide +kernel)
          have k46 := fBz_eq hB44 (a := 740) (j := 17) (by decide +kernel)
          refine And.intro (by omega) (And.intro ?_ ?_)
          · intro c47
            refine Exists.intro xm_421 (And.intro mi_421 (And.intro ⟨rfl, rfl, rfl, rfl⟩ (And.intro rfl ?_)))
            refine fcall _ h0 (fzs_sub (by decide +kernel) hW) hB44 (ct_M_step_2c704 (fBz h0 hB44) (by omega) (by omega) (by omega) (by omega)) ?_
            rintro IhB49 _ hB49 fhB49 ⟨rfl, hz48, g0z48⟩
            have t50 := fhB49 740 9 (by decide +kernel)
            have t51 := fhB49 740 10 (by decide +kernel)
            have t52 := fhB49 740 11 (by decide +kernel)
            have t53 := fhB49 740 13 (by decide +kernel)
            have t54 := fhB49 740 14 (by decide +kernel)
            have t55 := fhB49 740 15 (by decide +kernel)
            have k56 := fBz_eq hB49 (a := 740) (j := 8) (by decide +kernel)
            have k57 := fBz_eq hB49 (a := 740) (j := 17) (by decide +kernel)
            refine And.intro (⟨by omega, by omega⟩) ?_
            exact ⟨_, rfl, by omega, (by first | exact par_be g0z1 (fFr_S fhB37 (by decide +kernel)) g0z43 g0z48 (by omega) (by omega) (by omega) (by omega) | exact g0z1), (fun _ => by first | exact par_one (by omega) (g1z1 (by omega)) (fFr_S fhB37 (by decide +kernel)) g0z43 (g1z43 (by omega)) g0z48 (by omega) (by omega) (by omega) (by omega) (by omega) (by omega) | exact g1z1 (by omega))⟩
          · intro c58
            refine And.intro (⟨by omega, by omega⟩) ?_
            exact ⟨_, rfl, by omega, (par_bel g0z1 (fFr_S fhB37 (by decide +kernel)) g0z43 (by omega) (by omega)), (fun q => absurd q (by omega))⟩
        · intro c59
          refine Exists.intro xm_423 (And.intro mi_423 (And.intro ⟨rfl, rfl, rfl, rfl⟩ (And.intro rfl ?_)))
          refine fcallp hB2 (ct_M_isSign_90da9 (fBz h0 hB2) (by omega)) ?_
          rintro _ ⟨z60, rfl, hz60⟩
          refine And.intro (by omega) (And.intro ?_ ?_)
          · intro c61
            refine And.intro (⟨by omega, by omega⟩) ?_
            exact ⟨_, rfl, by omega, (by first | exact par_be g0z1 (fFr_S fhB37 (by decide +kernel)) g0z43 g0z48 (by omega) (by omega) (by omega) (by omega) | exact g0z1), (fun _ => by first | exact par_one (by omega) (g1z1 (by omega)) (fFr_S fhB37 (by decide +kernel)) g0z43 (g1z43 (by omega)) g0z48 (by omega) (by omega) (by omega) (by omega) (by omega) (by omega) | exact g1z1 (by omega))⟩
          · intro c62
            refine And.intro ⟨rfl, by decide, by decide⟩ (fgetf fb_740_13 h0 hB2 ?_)
            intro z63 lz63 uz63 qz63
            refine Exists.intro xm_314 (And.intro mi_314 (And.intro ⟨rfl, rfl, rfl, rfl⟩ (And.intro rfl ?_)))
            refine fcall _ h0 (fzs_sub (by decide +kernel) hW) hB2 (ct_M_next_c8003 (fBz h0 hB2) (by omega)) ?_
            rintro IhB65 _ hB65 fhB65 ⟨rfl, hz64⟩
            have t66 := fhB65 740 14 (by decide +kernel)
            have t67 := fhB65 740 15 (by decide +kernel)
            have t68 := fhB65 740 16 (by decide +kernel)
            have k69 := fBz_eq hB65 (a := 740) (j := 8) (by decide +kernel)
            have k70 := fBz_eq hB65 (a := 740) (j := 17) (by decide +kernel)
            refine Exists.intro xm_370 (And.intro mi_370 (And.intro ⟨rfl, rfl, rfl, rfl⟩ (And.intro rfl ?_)))
            refine fcall _ h0 (fzs_sub (by decide +kernel) hW) hB65 (ct_M_sum_87c34 (fBz h0 hB65) (by omega) (by omega) (by omega) (by omega) (by omega)) ?_
            rintro IhB72 _ hB72 fhB72 ⟨z71, rfl, hz71, g0z71, g1z71⟩
            have k73 := fBz_eq hB72 (a := 740) (j := 8) (by decide +kernel)
            have k74 := fBz_eq hB72 (a := 740) (j := 17) (by decide +kernel)
            refine And.intro (by omega) (And.intro ?_ ?_)
            · intro c75
              refine Exists.intro xm_421 (And.intro mi_421 (And.intro ⟨rfl, rfl, rfl, rfl⟩ (And.intro rfl ?_)))
              refine fcall _ h0 (fzs_sub (by decide +kernel) hW) hB72 (ct_M_step_2c704 (fBz h0 hB72) (by omega) (by omega) (by omega) (by omega)) ?_
              rintro IhB77 _ hB77 fhB77 ⟨rfl, hz76, g0z76⟩
              have t78 := fhB77 740 9 (by decide +kernel)
              have t79 := fhB77 740 10 (by decide +kernel)
              have t80 := fhB77 740 11 (by decide +kernel)
              have t81 := fhB77 740 13 (by decide +kernel)
              have t82 := fhB77 740 14 (by decide +kernel)
              have t83 := fhB77 740 15 (by decide +kernel)
              have k84 := fBz_eq hB77 (a := 740) (j := 8) (by decide +kernel)
              have k85 := fBz_eq hB77 (a := 740) (j := 17) (by decide +kernel)
              refine And.intro (⟨by omega, by omega⟩) ?_
              exact ⟨_, rfl, by omega, (by first | exact par_be g0z1 (fFr_S fhB65 (by decide +kernel)) g0z71 g0z76 (by omega) (by omega) (by omega) (by omega) | exact g0z1), (fun _ => by first | exact par_one (by omega) (g1z1 (by omega)) (fFr_S fhB65 (by decide +kernel)) g0z71 (g1z71 (by omega)) g0z76 (by omega) (by omega) (by omega) (by omega) (by omega) (by omega) | exact g1z1 (by omega))⟩
            · intro c86
              refine And.intro (⟨by omega, by omega⟩) ?_
              exact ⟨_, rfl, by omega, (par_bel g0z1 (fFr_S fhB65 (by decide +kernel)) g0z71 (by omega) (by omega)), (fun q => absurd q (by omega))⟩
    · intro c87
      refine And.intro (⟨by omega, by omega⟩) ?_
      exact ⟨_, rfl, by omega, g0z1, (fun q => absurd q (by omega))⟩
abbrev jc_M_both_747b2_10 (I0 : fH) : Nat → fL → List fV → fH → Prop := fun m lv st I => ∃ (y1 : Int), lv = [(0, .inr (.inr (some 740))), (1, .inl y1)] ∧ st = [] ∧ ((((-1) ≤ y1 ∧ y1 ≤ 5) ∧ (I0 740 9 ≤ I 740 9) ∧ (I 740 9 ≤ I 740 10) ∧ (I 740 10 ≤ I 740 8) ∧ (I 740 11 = 0 ∨ I 740 9 < I 740 10) ∧ (I0 740 16 ≤ I 740 16) ∧ (I 740 16 - I0 740 16 ≤ I 740 9 - I0 740 9) ∧ (I 740 14 = I0 740 14) ∧ (I 740 15 = I0 740 15)) ∧ (sBe I0 I (I0 740 17) (I0 740 16)) ∧ (sOne I (I0 740 17) (I0 740 16) (I 740 16))) ∧ m = (1 + 1 * (96 - I 740 9) : Int).toNat
set_option maxRecDepth 8000 in
theorem ct_M_both_747b2 {I : fH} {x1 : Int} (h0 : fB bsJ I) (ha1 : ((-1) ≤ x1 ∧ x1 ≤ 5)) (hp0 : I 740 9 ≤ I 740 10 ∧ I 740 10 ≤ I 740 8 ∧ (I 740 11 = 0 ∨ I 740 9 < I 740 10)) (hp1 : 0 ≤ I 740 16 ∧ I 740 16 ≤ I 740 9) (hp2 : 16 ≤ I 740 14 + I 740 15) (hp3 : (1215 ≤ I 740 17 ∧ I 740 17 ≤ 3415 ∧ (I 740 17 - 1215) % 200 = 0) ∨ I 740 17 = 4700) : fC ρ base n F xTc vwCl xTys D dA la gJ (fbz bsJ znJ (fKc wz_2212a) I) xm_336 [.inr (.inr (some 740)), .inl x1] I (fun I' r => ∃ z, r = some (.inl z) ∧ ((0 ≤ z ∧ z ≤ 1) ∧ (I 740 9 ≤ I' 740 9 ∧ I' 740 9 ≤ I' 740 10 ∧ I' 740 10 ≤ I' 740 8 ∧ (I' 740 11 = 0 ∨ I' 740 9 < I' 740 10) ∧ (z = 1 → I 740 16 ≤ I' 740 16 ∧ I' 740 16 - I 740 16 ≤ I' 740 9 - I 740 9 ∧ I' 740 14 = I 740 14 ∧ I' 740 15 = I 740 15))) ∧ (sBe I I' (I 740 17) (I 740 16)) ∧ (z = 1 → sOne I' (I 740 17) (I 740 16) (I' 740 16))) := by
  have hW : fzs wz_2212a (fKc wz_2212a) := fKc_ok _
  refine f_meth (rb := rbJ) (J := [(10, (jc_M_both_747b2_10 I))]) 98 400 xG xin_336 x6_336 okJ (fB_self h0) ?_ ?_
  · refine List.forall_mem_cons.mpr ⟨?_, fun q h => absurd h List.not_mem_nil⟩
    · rintro m _ _ I1 hB1 ⟨y1, rfl, rfl, ⟨hb, hx0, hx1⟩, hm⟩
      have k1 := fBz_eq hB1 (a := 740) (j := 8) (by decide +kernel)
      have k2 := fBz_eq hB1 (a := 740) (j := 17) (by decide +kernel)
      refine Exists.intro xm_423 (And.intro mi_423 (And.intro ⟨rfl, rfl, rfl, rfl⟩ (And.intro rfl ?_)))
      refine fcallp hB1 (ct_M_isSign_90da9 (fBz h0 hB1) (by omega)) ?_
      rintro _ ⟨z3, rfl, hz3⟩
      refine And.intro (by omega) (And.intro ?_ ?_)
      · intro c4
        refine And.intro (⟨by omega, by omega⟩) ?_
        exact ⟨_, rfl, by omega, hx0, (fun _ => hx1)⟩
      · intro c5
        refine Exists.intro xm_314 (And.intro mi_314 (And.intro ⟨rfl, rfl, rfl, rfl⟩ (And.intro rfl ?_)))
        refine fcall _ h0 (fzs_sub (by decide +kernel) hW) hB1 (ct_M_next_c8003 (fBz h0 hB1) (by omega)) ?_
        rintro IhB7 _ hB7 fhB7 ⟨rfl, hz6⟩
        have t8 := fhB7 740 14 (by decide +kernel)
        have t9 := fhB7 740 15 (by decide +kernel)
        have t10 := fhB7 740 16 (by decide +kernel)
        have k11 := fBz_eq hB7 (a := 740) (j := 8) (by decide +kernel)
        have k12 := fBz_eq hB7 (a := 740) (j := 17) (by decide +kernel)
        refine Exists.intro xm_353 (And.intro mi_353 (And.intro ⟨rfl, rfl, rfl, rfl⟩ (And.intro rfl ?_)))
        refine fcall _ h0 (fzs_sub (by decide +kernel) hW) hB7 (ct_M_test_011bc (fBz h0 hB7) (by omega) (by omega) (by omega) (by omega) (by omega)) ?_
        rintro IhB14 _ hB14 fhB14 ⟨z13, rfl, hz13, g0z13, g1z13⟩
        have k15 := fBz_eq hB14 (a := 740) (j := 8) (by decide +kernel)
        have k16 := fBz_eq hB14 (a := 740) (j := 17) (by decide +kernel)
        refine And.intro (by omega) (And.intro ?_ ?_)
        · intro c17
          refine Exists.intro xm_421 (And.intro mi_421 (And.intro ⟨rfl, rfl, rfl, rfl⟩ (And.intro rfl ?_)))
          refine fcall _ h0 (fzs_sub (by decide +kernel) hW) hB14 (ct_M_step_2c704 (fBz h0 hB14) (by omega) (by omega) (by omega) (by omega)) ?_
          rintro IhB19 _ hB19 fhB19 ⟨rfl, hz18, g0z18⟩
          have t20 := fhB19 740 9 (by decide +kernel)
          have t21 := fhB19 740 10 (by decide +kernel)
          have t22 := fhB19 740 11 (by decide +kernel)
          have t23 := fhB19 740 13 (by decide +kernel)
          have t24 := fhB19 740 14 (by decide +kernel)
          have t25 := fhB19 740 15 (by decide +kernel)
          have k26 := fBz_eq hB19 (a := 740) (j := 8) (by decide +kernel)
          have k27 := fBz_eq hB19 (a := 740) (j := 17) (by decide +kernel)
          exact fcutJ (I := IhB19) (j := (jc_M_both_747b2_10 I)) (lv' := [(0, .inr (.inr (some 740))), (1, .inl _)]) (And.intro rfl (And.intro rfl True.intro)) ⟨_, rfl, rfl, ⟨by omega, (par_be hx0 (fFr_S fhB7 (by decide +kernel)) g0z13 g0z18 (by omega) (by omega) (by omega) (by omega)), (par_one (by omega) hx1 (fFr_S fhB7 (by decide +kernel)) g0z13 (g1z13 (by omega)) g0z18 (by omega) (by omega) (by omega) (by omega) (by omega) (by omega))⟩, rfl⟩ (by omega)
        · intro c28
          refine And.intro (⟨by omega, by omega⟩) ?_
          exact ⟨_, rfl, by omega, (par_bel hx0 (fFr_S fhB7 (by decide +kernel)) g0z13 (by omega) (by omega)), (fun q => absurd q (by omega))⟩
  · have hB0 := fB_self (zn := znJ) (K := fKc wz_2212a) h0
    refine Exists.intro xm_353 (And.intro mi_353 (And.intro ⟨rfl, rfl, rfl, rfl⟩ (And.intro rfl ?_)))
    refine fcall _ h0 (fzs_sub (by decide +kernel) hW) hB0 (ct_M_test_011bc (fBz h0 hB0) (by omega) (by omega) (by omega) (by omega) (by omega)) ?_
    rintro IhB30 _ hB30 fhB30 ⟨z29, rfl, hz29, g0z29, g1z29⟩
    have k31 := fBz_eq hB30 (a := 740) (j := 8) (by decide +kernel)
    have k32 := fBz_eq hB30 (a := 740) (j := 17) (by decide +kernel)
    refine And.intro (by omega) (And.intro ?_ ?_)
    · intro c33
      exact fcutJ (I := IhB30) (j := (jc_M_both_747b2_10 I)) (lv' := [(0, .inr (.inr (some 740))), (1, .inl _)]) (And.intro rfl (And.intro rfl True.intro)) ⟨_, rfl, rfl, ⟨by omega, g0z29, (g1z29 (by omega))⟩, rfl⟩ (by omega)
    · intro c34
      refine And.intro (⟨by omega, by omega⟩) ?_
      exact ⟨_, rfl, by omega, g0z29, (fun q => absurd q (by omega))⟩
abbrev jc_M_either_f12bf_10 (I0 : fH) : Nat → fL → List fV → fH → Prop := fun m lv st I => ∃ (y1 : Int), lv = [(0, .inr (.inr (some 740))), (1, .inl y1)] ∧ st = [] ∧ ((((-1) ≤ y1 ∧ y1 ≤ 5) ∧ (I0 740 9 ≤ I 740 9) ∧ (I 740 9 ≤ I 740 10) ∧ (I 740 10 ≤ I 740 8) ∧ (I 740 11 = 0 ∨ I 740 9 < I 740 10) ∧ (I0 740 16 ≤ I 740 16) ∧ (I 740 16 - I0 740 16 ≤ I 740 9 - I0 740 9) ∧ (I 740 14 = I0 740 14) ∧ (I 740 15 = I0 740 15)) ∧ (sBe I0 I (I0 740 17) (I0 740 16)) ∧ (sOne I (I0 740 17) (I0 740 16) (I 740 16))) ∧ m = (1 + 1 * (96 - I 740 9) : Int).toNat
set_option maxRecDepth 8000 in
theorem ct_M_either_f12bf {I : fH} {x1 : Int} (h0 : fB bsJ I) (ha1 : ((-1) ≤ x1 ∧ x1 ≤ 5)) (hp0 : I 740 9 ≤ I 740 10 ∧ I 740 10 ≤ I 740 8 ∧ (I 740 11 = 0 ∨ I 740 9 < I 740 10)) (hp1 : 0 ≤ I 740 16 ∧ I 740 16 ≤ I 740 9) (hp2 : 16 ≤ I 740 14 + I 740 15) (hp3 : (1215 ≤ I 740 17 ∧ I 740 17 ≤ 3415 ∧ (I 740 17 - 1215) % 200 = 0) ∨ I 740 17 = 4700) : fC ρ base n F xTc vwCl xTys D dA la gJ (fbz bsJ znJ (fKc wz_2212a) I) xm_319 [.inr (.inr (some 740)), .inl x1] I (fun I' r => ∃ z, r = some (.inl z) ∧ ((0 ≤ z ∧ z ≤ 1) ∧ (I 740 9 ≤ I' 740 9 ∧ I' 740 9 ≤ I' 740 10 ∧ I' 740 10 ≤ I' 740 8 ∧ (I' 740 11 = 0 ∨ I' 740 9 < I' 740 10) ∧ (z = 1 → I 740 16 ≤ I' 740 16 ∧ I' 740 16 - I 740 16 ≤ I' 740 9 - I 740 9 ∧ I' 740 14 = I 740 14 ∧ I' 740 15 = I 740 15))) ∧ (sBe I I' (I 740 17) (I 740 16)) ∧ (z = 1 → sOne I' (I 740 17) (I 740 16) (I' 740 16))) := by
  have hW : fzs wz_2212a (fKc wz_2212a) := fKc_ok _
  refine f_meth (rb := rbJ) (J := [(10, (jc_M_either_f12bf_10 I))]) 98 400 xG xin_319 x6_319 okJ (fB_self h0) ?_ ?_
  · refine List.forall_mem_cons.mpr ⟨?_, fun q h => absurd h List.not_mem_nil⟩
    · rintro m _ _ I1 hB1 ⟨y1, rfl, rfl, ⟨hb, hx0, hx1⟩, hm⟩
      have k1 := fBz_eq hB1 (a := 740) (j := 8) (by decide +kernel)
      have k2 := fBz_eq hB1 (a := 740) (j := 17) (by decide +kernel)
      refine Exists.intro xm_423 (And.intro mi_423 (And.intro ⟨rfl, rfl, rfl, rfl⟩ (And.intro rfl ?_)))
      refine fcallp hB1 (ct_M_isSign_90da9 (fBz h0 hB1) (by omega)) ?_
      rintro _ ⟨z3, rfl, hz3⟩
      refine And.intro (by omega) (And.intro ?_ ?_)
      · intro c4
        refine And.intro (⟨by omega, by omega⟩) ?_
        exact ⟨_, rfl, by omega, hx0, (fun _ => hx1)⟩
      · intro c5
        refine Exists.intro xm_314 (And.intro mi_314 (And.intro ⟨rfl, rfl, rfl, rfl⟩ (And.intro rfl ?_)))
        refine fcall _ h0 (fzs_sub (by decide +kernel) hW) hB1 (ct_M_next_c8003 (fBz h0 hB1) (by omega)) ?_
        rintro IhB7 _ hB7 fhB7 ⟨rfl, hz6⟩
        have t8 := fhB7 740 14 (by decide +kernel)
        have t9 := fhB7 740 15 (by decide +kernel)
        have t10 := fhB7 740 16 (by decide +kernel)
        have k11 := fBz_eq hB7 (a := 740) (j := 8) (by decide +kernel)
        have k12 := fBz_eq hB7 (a := 740) (j := 17) (by decide +kernel)
        refine Exists.intro xm_336 (And.intro mi_336 (And.intro ⟨rfl, rfl, rfl, rfl⟩ (And.intro rfl ?_)))
        refine fcall _ h0 (fzs_sub (by decide +kernel) hW) hB7 (ct_M_both_747b2 (fBz h0 hB7) (by omega) (by omega) (by omega) (by omega) (by omega)) ?_
        rintro IhB14 _ hB14 fhB14 ⟨z13, rfl, hz13, g0z13, g1z13⟩
        have k15 := fBz_eq hB14 (a := 740) (j := 8) (by decide +kernel)
        have k16 := fBz_eq hB14 (a := 740) (j := 17) (by decide +kernel)
        refine And.intro (by omega) (And.intro ?_ ?_)
        · intro c17
          refine Exists.intro xm_421 (And.intro mi_421 (And.intro ⟨rfl, rfl, rfl, rfl⟩ (And.intro rfl ?_)))
          refine fcall _ h0 (fzs_sub (by decide +kernel) hW) hB14 (ct_M_step_2c704 (fBz h0 hB14) (by omega) (by omega) (by omega) (by omega)) ?_
          rintro IhB19 _ hB19 fhB19 ⟨rfl, hz18, g0z18⟩
          have t20 := fhB19 740 9 (by decide +kernel)
          have t21 := fhB19 740 10 (by decide +kernel)
          have t22 := fhB19 740 11 (by decide +kernel)
          have t23 := fhB19 740 13 (by decide +kernel)
          have t24 := fhB19 740 14 (by decide +kernel)
          have t25 := fhB19 740 15 (by decide +kernel)
          have k26 := fBz_eq hB19 (a := 740) (j := 8) (by decide +kernel)
          have k27 := fBz_eq hB19 (a := 740) (j := 17) (by decide +kernel)
          exact fcutJ (I := IhB19) (j := (jc_M_either_f12bf_10 I)) (lv' := [(0, .inr (.inr (some 740))), (1, .inl _)]) (And.intro rfl (And.intro rfl True.intro)) ⟨_, rfl, rfl, ⟨by omega, (par_be hx0 (fFr_S fhB7 (by decide +kernel)) g0z13 g0z18 (by omega) (by omega) (by omega) (by omega)), (par_one (by omega) hx1 (fFr_S fhB7 (by decide +kernel)) g0z13 (g1z13 (by omega)) g0z18 (by omega) (by omega) (by omega) (by omega) (by omega) (by omega))⟩, rfl⟩ (by omega)
        · intro c28
          refine And.intro (⟨by omega, by omega⟩) ?_
          exact ⟨_, rfl, by omega, (par_bel hx0 (fFr_S fhB7 (by decide +kernel)) g0z13 (by omega) (by omega)), (fun q => absurd q (by omega))⟩
  · have hB0 := fB_self (zn := znJ) (K := fKc wz_2212a) h0
    refine Exists.intro xm_336 (And.intro mi_336 (And.intro ⟨rfl, rfl, rfl, rfl⟩ (And.intro rfl ?_)))
    refine fcall _ h0 (fzs_sub (by decide +kernel) hW) hB0 (ct_M_both_747b2 (fBz h0 hB0) (by omega) (by omega) (by omega) (by omega) (by omega)) ?_
    rintro IhB30 _ hB30 fhB30 ⟨z29, rfl, hz29, g0z29, g1z29⟩
    have k31 := fBz_eq hB30 (a := 740) (j := 8) (by decide +kernel)
    have k32 := fBz_eq hB30 (a := 740) (j := 17) (by decide +kernel)
    refine And.intro (by omega) (And.intro ?_ ?_)
    · intro c33
      exact fcutJ (I := IhB30) (j := (jc_M_either_f12bf_10 I)) (lv' := [(0, .inr (.inr (some 740))), (1, .inl _)]) (And.intro rfl (And.intro rfl True.intro)) ⟨_, rfl, rfl, ⟨by omega, g0z29, (g1z29 (by omega))⟩, rfl⟩ (by omega)
    · intro c34
      refine And.intro (⟨by omega, by omega⟩) ?_
      exact ⟨_, rfl, by omega, g0z29, (fun q => absurd q (by omega))⟩
set_option maxRecDepth 8000 in
theorem ct_M_part0_18b69 {I : fH} {x1 : Int} (h0 : fB bsJ I) (ha1 : ((-1) ≤ x1 ∧ x1 ≤ 5)) (hp0 : I 740 9 ≤ I 740 10 ∧ I 740 10 ≤ I 740 8 ∧ (I 740 11 = 0 ∨ I 740 9 < I 740 10)) (hp1 : 0 ≤ I 740 16 ∧ I 740 16 ≤ I 740 9) (hp2 : 15 ≤ I 740 14 + I 740 15) (hp3 : (1215 ≤ I 740 17 ∧ I 740 17 ≤ 3415 ∧ (I 740 17 - 1215) % 200 = 0) ∨ I 740 17 = 4700) : fC ρ base n F xTc vwCl xTys D dA la gJ (fbz bsJ znJ (fKc wz_2212a) I) xm_405 [.inr (.inr (some 740)), .inl x1] I (fun I' r => ∃ z, r = some (.inl z) ∧ ((0 ≤ z ∧ z ≤ 1) ∧ (I 740 9 ≤ I' 740 9 ∧ I' 740 9 ≤ I' 740 10 ∧ I' 740 10 ≤ I' 740 8 ∧ (I' 740 11 = 0 ∨ I' 740 9 < I' 740 10) ∧ (z = 1 → I 740 16 ≤ I' 740 16 ∧ I' 740 16 - I 740 16 ≤ I' 740 9 - I 740 9 ∧ I' 740 14 = I 740 14 ∧ I' 740 15 = I 740 15))) ∧ (sBe I I' (I 740 17) (I 740 16)) ∧ (z = 1 → sOne I' (I 740 17) (I 740 16) (I' 740 16))) := by
  have hW : fzs wz_2212a (fKc wz_2212a) := fKc_ok _
  refine f_meth (rb := rbJ) (J := []) 1 400 xG xin_405 x6_405 okJ (fB_self h0) ?_ ?_
  · exact fun q h => absurd h List.not_mem_nil
  · have hB0 := fB_self (zn := znJ) (K := fKc wz_2212a) h0
    refine And.intro ⟨rfl, by decide, by decide⟩ (fgetf fb_740_11 h0 hB0 ?_)
    intro z1 lz1 uz1 qz1
    refine And.intro (by omega) (And.intro ?_ ?_)
    · intro c2
      refine And.intro ⟨rfl, by decide, by decide⟩ (fgetf fb_740_11 h0 hB0 ?_)
      intro z3 lz3 uz3 qz3
      refine And.intro (by omega) (And.intro ?_ ?_)
      · intro c4
        refine Exists.intro xm_423 (And.intro mi_423 (And.intro ⟨rfl, rfl, rfl, rfl⟩ (And.intro rfl ?_)))
        refine fcallp hB0 (ct_M_isSign_90da9 (fBz h0 hB0) (by omega)) ?_
        rintro _ ⟨z5, rfl, hz5⟩
        refine And.intro (by omega) (And.intro ?_ ?_)
        · intro c6
          refine Exists.intro xm_423 (And.intro mi_423 (And.intro ⟨rfl, rfl, rfl, rfl⟩ (And.intro rfl ?_)))
          refine fcallp hB0 (ct_M_isSign_90da9 (fBz h0 hB0) (by omega)) ?_
          rintro _ ⟨z7, rfl, hz7⟩
          refine And.intro (by omega) (And.intro ?_ ?_)
          · intro c8
            refine And.intro (⟨by omega, by omega⟩) ?_
            exact ⟨_, rfl, by omega, sBe_refl, (fun q => absurd q (by omega))⟩
          · intro c9
            refine And.intro ⟨rfl, by decide, by decide⟩ (fgetf fb_740_14 h0 hB0 ?_)
            intro z10 lz10 uz10 qz10
            refine And.intro (by omega) (And.intro ?_ ?_)
            · intro c11
              refine And.intro ⟨rfl, by decide, by decide⟩ (fgetf fb_740_14 h0 hB0 ?_)
              intro z12 lz12 uz12 qz12
              refine And.intro ⟨rfl, by decide, by decide⟩ (And.intro rfl (And.intro (Or.inl rfl) (fputf fb_740_14 (by decide +kernel) hW (by omega) ?_)))
              intro IhB13 ehB13 hB13
              have t14 : IhB13 740 9 = I 740 9 := (congrFun (congrFun ehB13 740) 9).trans (fup_ne (by omega))
              have t15 : IhB13 740 10 = I 740 10 := (congrFun (congrFun ehB13 740) 10).trans (fup_ne (by omega))
              have t16 : IhB13 740 11 = I 740 11 := (congrFun (congrFun ehB13 740) 11).trans (fup_ne (by omega))
              have t17 : IhB13 740 13 = I 740 13 := (congrFun (congrFun ehB13 740) 13).trans (fup_ne (by omega))
              have t18 := fup_at ehB13 14 (by omega)
              have t19 : IhB13 740 15 = I 740 15 := (congrFun (congrFun ehB13 740) 15).trans (fup_ne (by omega))
              have t20 : IhB13 740 16 = I 740 16 := (congrFun (congrFun ehB13 740) 16).trans (fup_ne (by omega))
              have k21 := fBz_eq hB13 (a := 740) (j := 8) (by decide +kernel)
              have k22 := fBz_eq hB13 (a := 740) (j := 17) (by decide +kernel)
              refine Exists.intro xm_314 (And.intro mi_314 (And.intro ⟨rfl, rfl, rfl, rfl⟩ (And.intro rfl ?_)))
              refine fcall _ h0 (fzs_sub (by decide +kernel) hW) hB13 (ct_M_next_c8003 (fBz h0 hB13) (by omega)) ?_
              rintro IhB24 _ hB24 fhB24 ⟨rfl, hz23⟩
              have t25 := fhB24 740 14 (by decide +kernel)
              have t26 := fhB24 740 15 (by decide +kernel)
              have t27 := fhB24 740 16 (by decide +kernel)
              have k28 := fBz_eq hB24 (a := 740) (j := 8) (by decide +kernel)
              have k29 := fBz_eq hB24 (a := 740) (j := 17) (by decide +kernel)
              refine Exists.intro xm_319 (And.intro mi_319 (And.intro ⟨rfl, rfl, rfl, rfl⟩ (And.intro rfl ?_)))
              refine fcall _ h0 (fzs_sub (by decide +kernel) hW) hB24 (ct_M_either_f12bf (fBz h0 hB24) (by omega) (by omega) (by omega) (by omega) (by omega)) ?_
              rintro IhB31 _ hB31 fhB31 ⟨z30, rfl, hz30, g0z30, g1z30⟩
              have k32 := fBz_eq hB31 (a := 740) (j := 8) (by decide +kernel)
              have k33 := fBz_eq hB31 (a := 740) (j := 17) (by decide +kernel)
              refine And.intro (by omega) (And.intro ?_ ?_)
              · intro c34
                refine And.intro (⟨by omega, by omega⟩) ?_
                exact ⟨_, rfl, by omega, (par_be0 (fun j => (fFr_S fhB24 (by decide +kernel) j).trans (fup_other ehB13 741 j (Or.inl (by decide)))) g0z30 (by omega) (by omega)), (fun q => absurd q (by omega))⟩
              · intro c35
                refine Exists.intro xm_423 (And.intro mi_423 (And.intro ⟨rfl, rfl, rfl, rfl⟩ (And.intro rfl ?_)))
                refine fcallp hB31 (ct_M_isSign_90da9 (fBz h0 hB31) (by omega)) ?_
                rintro _ ⟨z36, rfl, hz36⟩
                refine And.intro (by omega) (And.intro ?_ ?_)
                · intro c37
                  refine And.intro ⟨rfl, by decide, by decide⟩ (fgetf fb_740_14 h0 hB31 ?_)
                  intro z38 lz38 uz38 qz38
                  refine And.intro ⟨rfl, by decide, by decide⟩ (And.intro rfl (And.intro (Or.inl rfl) (fputf fb_740_14 (by decide +kernel) hW (by omega) ?_)))
                  intro IhB39 ehB39 hB39
                  have t40 : IhB39 740 9 = IhB31 740 9 := (congrFun (congrFun ehB39 740) 9).trans (fup_ne (by omega))
                  have t41 : IhB39 740 10 = IhB31 740 10 := (congrFun (congrFun ehB39 740) 10).trans (fup_ne (by omega))
                  have t42 : IhB39 740 11 = IhB31 740 11 := (congrFun (congrFun ehB39 740) 11).trans (fup_ne (by omega))
                  have t43 : IhB39 740 13 = IhB31 740 13 := (congrFun (congrFun ehB39 740) 13).trans (fup_ne (by omega))
                  have t44 := fup_at ehB39 14 (by omega)
                  have t45 : IhB39 740 15 = IhB31 740 15 := (congrFun (congrFun ehB39 740) 15).trans (fup_ne (by omega))
                  have t46 : IhB39 740 16 = IhB31 740 16 := (congrFun (congrFun ehB39 740) 16).trans (fup_ne (by omega))
                  have k47 := fBz_eq hB39 (a := 740) (j := 8) (by decide +kernel)
                  have k48 := fBz_eq hB39 (a := 740) (j := 17) (by decide +kernel)
                  refine Exists.intro xm_314 (And.intro mi_314 (And.intro ⟨rfl, rfl, rfl, rfl⟩ (And.intro rfl ?_)))
                  refine fcall _ h0 (fzs_sub (by decide +kernel) hW) hB39 (ct_M_next_c8003 (fBz h0 hB39) (by omega)) ?_
                  rintro IhB50 _ hB50 fhB50 ⟨rfl, hz49⟩
                  have t51 := fhB50 740 14 (by decide +kernel)
                  have t52 := fhB50 740 15 (by decide +kernel)
                  have t53 := fhB50 740 16 (by decide +kernel)
                  have k54 := fBz_eq hB50 (a := 740) (j := 8) (by decide +kernel)
                  have k55 := fBz_eq hB50 (a := 740) (j := 17) (by decide +kernel)
                  refine And.intro (⟨by omega, by omega⟩) ?_
                  exact ⟨_, rfl, by omega, (par_par (by omega) (fun j => (fFr_S fhB24 (by decide +kernel) j).trans (fup_other ehB13 741 j (Or.inl (by decide)))) g0z30 (g1z30 (by omega)) (fun j => (fFr_S fhB50 (by decide +kernel) j).trans (fup_other ehB39 741 j (Or.inl (by decide)))) (by omega) (by omega) (by omega)).1, (fun _ => (par_par (by omega) (fun j => (fFr_S fhB24 (by decide +kernel) j).trans (fup_other ehB13 741 j (Or.inl (by decide)))) g0z30 (g1z30 (by omega)) (fun j => (fFr_S fhB50 (by decide +kernel) j).trans (fup_other ehB39 741 j (Or.inl (by decide)))) (by omega) (by omega) (by omega)).2)⟩
                · intro c56
                  refine And.intro (⟨by omega, by omega⟩) ?_
                  exact ⟨_, rfl, by omega, (par_be0 (fun j => (fFr_S fhB24 (by decide +kernel) j).trans (fup_other ehB13 741 j (Or.inl (by decide)))) g0z30 (by omega) (by omega)), (fun q => absurd q (by omega))⟩
            · intro c57
              refine And.intro (⟨by omega, by omega⟩) ?_
              exact ⟨_, rfl, by omega, sBe_refl, (fun q => absurd q (by omega))⟩
        · intro c58
          refine And.intro ⟨rfl, by decide, by decide⟩ (fgetf fb_740_15 h0 hB0 ?_)
          intro z59 lz59 uz59 qz59
          refine And.intro (by omega) (And.intro ?_ ?_)
          · intro c60
            refine Exists.intro xm_423 (And.intro mi_423 (And.intro ⟨rfl, rfl, rfl, rfl⟩ (And.intro rfl ?_)))
            refine fcallp hB0 (ct_M_isSign_90da9 (fBz h0 hB0) (by omega)) ?_
            rintro _ ⟨z61, rfl, hz61⟩
            refine And.intro (by omega) (And.intro ?_ ?_)
            · intro c62
              refine And.intro (⟨by omega, by omega⟩) ?_
              exact ⟨_, rfl, by omega, sBe_refl, (fun q => absurd q (by omega))⟩
            · intro c63
              refine And.intro ⟨rfl, by decide, by decide⟩ (fgetf fb_740_14 h0 hB0 ?_)
              intro z64 lz64 uz64 qz64
              refine And.intro (by omega) (And.intro ?_ ?_)
              · intro c65
                refine And.intro ⟨rfl, by decide, by decide⟩ (fgetf fb_740_14 h0 hB0 ?_)
                intro z66 lz66 uz66 qz66
                refine And.intro ⟨rfl, by decide, by decide⟩ (And.intro rfl (And.intro (Or.inl rfl) (fputf fb_740_14 (by decide +kernel) hW (by omega) ?_)))
                intro IhB67 ehB67 hB67
                have t68 : IhB67 740 9 = I 740 9 := (congrFun (congrFun ehB67 740) 9).trans (fup_ne (by omega))
                have t69 : IhB67 740 10 = I 740 10 := (congrFun (congrFun ehB67 740) 10).trans (fup_ne (by omega))
                have t70 : IhB67 740 11 = I 740 11 := (congrFun (congrFun ehB67 740) 11).trans (fup_ne (by omega))
                have t71 : IhB67 740 13 = I 740 13 := (congrFun (congrFun ehB67 740) 13).trans (fup_ne (by omega))
                have t72 := fup_at ehB67 14 (by omega)
                have t73 : IhB67 740 15 = I 740 15 := (congrFun (congrFun ehB67 740) 15).trans (fup_ne (by omega))
                have t74 : IhB67 740 16 = I 740 16 := (congrFun (congrFun ehB67 740) 16).trans (fup_ne (by omega))
                have k75 := fBz_eq hB67 (a := 740) (j := 8) (by decide +kernel)
                have k76 := fBz_eq hB67 (a := 740) (j := 17) (by decide +kernel)
                refine Exists.intro xm_314 (And.intro mi_314 (And.intro ⟨rfl, rfl, rfl, rfl⟩ (And.intro rfl ?_)))
                refine fcall _ h0 (fzs_sub (by decide +kernel) hW) hB67 (ct_M_next_c8003 (fBz h0 hB67) (by omega)) ?_
                rintro IhB78 _ hB78 fhB78 ⟨rfl, hz77⟩
                have t79 := fhB78 740 14 (by decide +kernel)
                have t80 := fhB78 740 15 (by decide +kernel)
                have t81 := fhB78 740 16 (by decide +kernel)
                have k82 := fBz_eq hB78 (a := 740) (j := 8) (by decide +kernel)
                have k83 := fBz_eq hB78 (a := 740) (j := 17) (by decide +kernel)
                refine Exists.intro xm_319 (And.intro mi_319 (And.intro ⟨rfl, rfl, rfl, rfl⟩ (And.intro rfl ?_)))
                refine fcall _ h0 (fzs_sub (by decide +kernel) hW) hB78 (ct_M_either_f12bf (fBz h0 hB78) (by omega) (by omega) (by omega) (by omega) (by omega)) ?_
                rintro IhB85 _ hB85 fhB85 ⟨z84, rfl, hz84, g0z84, g1z84⟩
                have k86 := fBz_eq hB85 (a := 740) (j := 8) (by decide +kernel)
                have k87 := fBz_eq hB85 (a := 740) (j := 17) (by decide +kernel)
                refine And.intro (by omega) (And.intro ?_ ?_)
                · intro c88
                  refine And.intro (⟨by omega, by omega⟩) ?_
                  exact ⟨_, rfl, by omega, (par_be0 (fun j => (fFr_S fhB78 (by decide +kernel) j).trans (fup_other ehB67 741 j (Or.inl (by decide)))) g0z84 (by omega) (by omega)), (fun q => absurd q (by omega))⟩
                · intro c89
                  refine Exists.intro xm_423 (And.intro mi_423 (And.intro ⟨rfl, rfl, rfl, rfl⟩ (And.intro rfl ?_)))
                  refine fcallp hB85 (ct_M_isSign_90da9 (fBz h0 hB85) (by omega)) ?_
                  rintro _ ⟨z90, rfl, hz90⟩
                  refine And.intro (by omega) (And.intro ?_ ?_)
                  · intro c91
                    refine And.intro ⟨rfl, by decide, by decide⟩ (fgetf fb_740_14 h0 hB85 ?_)
                    intro z92 lz92 uz92 qz92
                    refine And.intro ⟨rfl, by decide, by decide⟩ (And.intro rfl (And.intro (Or.inl rfl) (fputf fb_740_14 (by decide +kernel) hW (by omega) ?_)))
                    intro IhB93 ehB93 hB93
                    have t94 : IhB93 740 9 = IhB85 740 9 := (congrFun (congrFun ehB93 740) 9).trans (fup_ne (by omega))
                    have t95 : IhB93 740 10 = IhB85 740 10 := (congrFun (congrFun ehB93 740) 10).trans (fup_ne (by omega))
                    have t96 : IhB93 740 11 = IhB85 740 11 := (congrFun (congrFun ehB93 740) 11).trans (fup_ne (by omega))
                    have t97 : IhB93 740 13 = IhB85 740 13 := (congrFun (congrFun ehB93 740) 13).trans (fup_ne (by omega))
                    have t98 := fup_at ehB93 14 (by omega)
                    have t99 : IhB93 740 15 = IhB85 740 15 := (congrFun (congrFun ehB93 740) 15).trans (fup_ne (by omega))
                    have t100 : IhB93 740 16 = IhB85 740 16 := (congrFun (congrFun ehB93 740) 16).trans (fup_ne (by omega))
                    have k101 := fBz_eq hB93 (a := 740) (j := 8) (by decide +kernel)
                    have k102 := fBz_eq hB93 (a := 740) (j := 17) (by decide +kernel)
                    refine Exists.intro xm_314 (And.intro mi_314 (And.intro ⟨rfl, rfl, rfl, rfl⟩ (And.intro rfl ?_)))
                    refine fcall _ h0 (fzs_sub (by decide +kernel) hW) hB93 (ct_M_next_c8003 (fBz h0 hB93) (by omega)) ?_
                    rintro IhB104 _ hB104 fhB104 ⟨rfl, hz103⟩
                    have t105 := fhB104 740 14 (by decide +kernel)
                    have t106 := fhB104 740 15 (by decide +kernel)
                    have t107 := fhB104 740 16 (by decide +kernel)
                    have k108 := fBz_eq hB104 (a := 740) (j := 8) (by decide +kernel)
                    have k109 := fBz_eq hB104 (a := 740) (j := 17) (by decide +kernel)
                    refine And.intro (⟨by omega, by omega⟩) ?_
                    exact ⟨_, rfl, by omega, (par_par (by omega) (fun j => (fFr_S fhB78 (by decide +kernel) j).trans (fup_other ehB67 741 j (Or.inl (by decide)))) g0z84 (g1z84 (by omega)) (fun j => (fFr_S fhB104 (by decide +kernel) j).trans (fup_other ehB93 741 j (Or.inl (by decide)))) (by omega) (by omega) (by omega)).1, (fun _ => (par_par (by omega) (fun j => (fFr_S fhB78 (by decide +kernel) j).trans (fup_other ehB67 741 j (Or.inl (by decide)))) g0z84 (g1z84 (by omega)) (fun j => (fFr_S fhB104 (by decide +kernel) j).trans (fup_other ehB93 741 j (Or.inl (by decide)))) (by omega) (by omega) (by omega)).2)⟩
                  · intro c110
                    refine And.intro (⟨by omega, by omega⟩) ?_
                    exact ⟨_, rfl, by omega, (par_be0 (fun j => (fFr_S fhB78 (by decide +kernel) j).trans (fup_other ehB67 741 j (Or.inl (by decide)))) g0z84 (by omega) (by omega)), (fun q => absurd q (by omega))⟩
              · intro c111
                refine And.intro (⟨by omega, by omega⟩) ?_
                exact ⟨_, rfl, by omega, sBe_refl, (fun q => absurd q (by omega))⟩
          · intro c112
            refine And.intro ⟨rfl, by decide, by decide⟩ (fgetf fb_740_15 h0 hB0 ?_)
            intro z113 lz113 uz113 qz113
            refine And.intro ⟨rfl, by decide, by decide⟩ (And.intro rfl (And.intro (Or.inl rfl) (fputf fb_740_15 (by decide +kernel) hW (by omega) ?_)))
            intro IhB114 ehB114 hB114
            have t115 : IhB114 740 9 = I 740 9 := (congrFun (congrFun ehB114 740) 9).trans (fup_ne (by omega))
            have t116 : IhB114 740 10 = I 740 10 := (congrFun (congrFun ehB114 740) 10).trans (fup_ne (by omega))
            have t117 : IhB114 740 11 = I 740 11 := (congrFun (congrFun ehB114 740) 11).trans (fup_ne (by omega))
            have t118 : IhB114 740 13 = I 740 13 := (congrFun (congrFun ehB114 740) 13).trans (fup_ne (by omega))
            have t119 : IhB114 740 14 = I 740 14 := (congrFun (congrFun ehB114 740) 14).trans (fup_ne (by omega))
            have t120 := fup_at ehB114 15 (by omega)
            have t121 : IhB114 740 16 = I 740 16 := (congrFun (congrFun ehB114 740) 16).trans (fup_ne (by omega))
            have k122 := fBz_eq hB114 (a := 740) (j := 8) (by decide +kernel)
            have k123 := fBz_eq hB114 (a := 740) (j := 17) (by decide +kernel)
            refine Exists.intro xm_314 (And.intro mi_314 (And.intro ⟨rfl, rfl, rfl, rfl⟩ (And.intro rfl ?_)))
            refine fcall _ h0 (fzs_sub (by decide +kernel) hW) hB114 (ct_M_next_c8003 (fBz h0 hB114) (by omega)) ?_
            rintro IhB125 _ hB125 fhB125 ⟨rfl, hz124⟩
            have t126 := fhB125 740 14 (by decide +kernel)
            have t127 := fhB125 740 15 (by decide +kernel)
            have t128 := fhB125 740 16 (by decide +kernel)
            have k129 := fBz_eq hB125 (a := 740) (j := 8) (by decide +kernel)
            have k130 := fBz_eq hB125 (a := 740) (j := 17) (by decide +kernel)
            refine Exists.intro xm_404 (And.intro mi_404 (And.intro ⟨rfl, rfl, rfl, rfl⟩ (And.intro rfl ?_)))
            refine fcall _ h0 (fzs_sub (by decide +kernel) hW) hB125 (ct_M_part0_cc4b8 (fBz h0 hB125) (by omega) (by omega) (by omega) (by omega) (by omega)) ?_
            rintro IhB132 _ hB132 fhB132 ⟨z131, rfl, hz131, g0z131, g1z131⟩
            have k133 := fBz_eq hB132 (a := 740) (j := 8) (by decide +kernel)
            have k134 := fBz_eq hB132 (a := 740) (j := 17) (by decide +kernel)
            refine And.intro (by omega) (And.intro ?_ ?_)
            · intro c135
              refine And.intro ⟨rfl, by decide, by decide⟩ (fgetf fb_740_15 h0 hB132 ?_)
              intro z136 lz136 uz136 qz136
              refine And.intro ⟨rfl, by decide, by decide⟩ (And.intro rfl (And.intro (Or.inl rfl) (fputf fb_740_15 (by decide +kernel) hW (by omega) ?_)))
              intro IhB137 ehB137 hB137
              have t138 : IhB137 740 9 = IhB132 740 9 := (congrFun (congrFun ehB137 740) 9).trans (fup_ne (by omega))
              have t139 : IhB137 740 10 = IhB132 740 10 := (congrFun (congrFun ehB137 740) 10).trans (fup_ne (by omega))
              have t140 : IhB137 740 11 = IhB132 740 11 := (congrFun (congrFun ehB137 740) 11).trans (fup_ne (by omega))
              have t141 : IhB137 740 13 = IhB132 740 13 := (congrFun (congrFun ehB137 740) 13).trans (fup_ne (by omega))
              have t142 : IhB137 740 14 = IhB132 740 14 := (congrFun (congrFun ehB137 740) 14).trans (fup_ne (by omega))
              have t143 := fup_at ehB137 15 (by omega)
              have t144 : IhB137 740 16 = IhB132 740 16 := (congrFun (congrFun ehB137 740) 16).trans (fup_ne (by omega))
              have k145 := fBz_eq hB137 (a := 740) (j := 8) (by decide +kernel)
              have k146 := fBz_eq hB137 (a := 740) (j := 17) (by decide +kernel)
              refine Exists.intro xm_421 (And.intro mi_421 (And.intro ⟨rfl, rfl, rfl, rfl⟩ (And.intro rfl ?_)))
              refine fcall _ h0 (fzs_sub (by decide +kernel) hW) hB137 (ct_M_step_2c704 (fBz h0 hB137) (by omega) (by omega) (by omega) (by omega)) ?_
              rintro IhB148 _ hB148 fhB148 ⟨rfl, hz147, g0z147⟩
              have t149 := fhB148 740 9 (by decide +kernel)
              have t150 := fhB148 740 10 (by decide +kernel)
              have t151 := fhB148 740 11 (by decide +kernel)
              have t152 := fhB148 740 13 (by decide +kernel)
              have t153 := fhB148 740 14 (by decide +kernel)
              have t154 := fhB148 740 15 (by decide +kernel)
              have k155 := fBz_eq hB148 (a := 740) (j := 8) (by decide +kernel)
              have k156 := fBz_eq hB148 (a := 740) (j := 17) (by decide +kernel)
              refine And.intro (⟨by omega, by omega⟩) ?_
              exact ⟨_, rfl, by omega, (par_not (by omega) (fun j => (fFr_S fhB125 (by decide +kernel) j).trans (fup_other ehB114 741 j (Or.inl (by decide)))) g0z131 (g1z131 (by omega)) (fun j => fup_other ehB137 741 j (Or.inl (by decide))) g0z147 (by omega) (by omega) (by omega) (by omega) (by omega) (by omega)).1, (fun _ => (par_not (by omega) (fun j => (fFr_S fhB125 (by decide +kernel) j).trans (fup_other ehB114 741 j (Or.inl (by decide)))) g0z131 (g1z131 (by omega)) (fun j => fup_other ehB137 741 j (Or.inl (by decide))) g0z147 (by omega) (by omega) (by omega) (by omega) (by omega) (by omega)).2)⟩
            · intro c157
              refine And.intro (⟨by omega, by omega⟩) ?_
              exact ⟨_, rfl, by omega, (par_be0 (fun j => (fFr_S fhB125 (by decide +kernel) j).trans (fup_other ehB114 741 j (Or.inl (by decide)))) g0z131 (by omega) (by omega)), (fun q => absurd q (by omega))⟩
      · intro c158
        refine And.intro ⟨rfl, by decide, by decide⟩ (fgetf fb_740_13 h0 hB0 ?_)
        intro z159 lz159 uz159 qz159
        refine And.intro (by omega) (And.intro ?_ ?_)
        · intro c160
          refine Exists.intro xm_423 (And.intro mi_423 (And.intro ⟨rfl, rfl, rfl, rfl⟩ (And.intro rfl ?_)))
          refine fcallp hB0 (ct_M_isSign_90da9 (fBz h0 hB0) (by omega)) ?_
          rintro _ ⟨z161, rfl, hz161⟩
          refine And.intro (by omega) (And.intro ?_ ?_)
          · intro c162
            refine Exists.intro xm_423 (And.intro mi_423 (And.intro ⟨rfl, rfl, rfl, rfl⟩ (And.intro rfl ?_)))
            refine fcallp hB0 (ct_M_isSign_90da9 (fBz h0 hB0) (by omega)) ?_
            rintro _ ⟨z163, rfl, hz163⟩
            refine And.intro (by omega) (And.intro ?_ ?_)
            · intro c164
              refine And.intro (⟨by omega, by omega⟩) ?_
              exact ⟨_, rfl, by omega, sBe_refl, (fun q => absurd q (by omega))⟩
            · intro c165
              refine And.intro ⟨rfl, by decide, by decide⟩ (fgetf fb_740_14 h0 hB0 ?_)
              intro z166 lz166 uz166 qz166
              refine And.intro (by omega) (And.intro ?_ ?_)
              · intro c167
                refine And.intro ⟨rfl, by decide, by decide⟩ (fgetf fb_740_14 h0 hB0 ?_)
                intro z168 lz168 uz168 qz168
                refine And.intro ⟨rfl, by decide, by decide⟩ (And.intro rfl (And.intro (Or.inl rfl) (fputf fb_740_14 (by decide +kernel) hW (by omega) ?_)))
                intro IhB169 ehB169 hB169
                have t170 : IhB169 740 9 = I 740 9 := (congrFun (congrFun ehB169 740) 9).trans (fup_ne (by omega))
                have t171 : IhB169 740 10 = I 740 10 := (congrFun (congrFun ehB169 740) 10).trans (fup_ne (by omega))
                have t172 : IhB169 740 11 = I 740 11 := (congrFun (congrFun ehB169 740) 11).trans (fup_ne (by omega))
                have t173 : IhB169 740 13 = I 740 13 := (congrFun (congrFun ehB169 740) 13).trans (fup_ne (by omega))
                have t174 := fup_at ehB169 14 (by omega)
                have t175 : IhB169 740 15 = I 740 15 := (congrFun (congrFun ehB169 740) 15).trans (fup_ne (by omega))
                have t176 : IhB169 740 16 = I 740 16 := (congrFun (congrFun ehB169 740) 16).trans (fup_ne (by omega))
                have k177 := fBz_eq hB169 (a := 740) (j := 8) (by decide +kernel)
                have k178 := fBz_eq hB169 (a := 740) (j := 17) (by decide +kernel)
                refine Exists.intro xm_314 (And.intro mi_314 (And.intro ⟨rfl, rfl, rfl, rfl⟩ (And.intro rfl ?_)))
                refine fcall _ h0 (fzs_sub (by decide +kernel) hW) hB169 (ct_M_next_c8003 (fBz h0 hB169) (by omega)) ?_
                rintro IhB180 _ hB180 fhB180 ⟨rfl, hz179⟩
                have t181 := fhB180 740 14 (by decide +kernel)
                have t182 := fhB180 740 15 (by decide +kernel)
                have t183 := fhB180 740 16 (by decide +kernel)
                have k184 := fBz_eq hB180 (a := 740) (j := 8) (by decide +kernel)
                have k185 := fBz_eq hB180 (a := 740) (j := 17) (by decide +kernel)
                refine Exists.intro xm_319 (And.intro mi_319 (And.intro ⟨rfl, rfl, rfl, rfl⟩ (And.intro rfl ?_)))
                refine fcall _ h0 (fzs_sub (by decide +kernel) hW) hB180 (ct_M_either_f12bf (fBz h0 hB180) (by omega) (by omega) (by omega) (by omega) (by omega)) ?_
                rintro IhB187 _ hB187 fhB187 ⟨z186, rfl, hz186, g0z186, g1z186⟩
                have k188 := fBz_eq hB187 (a := 740) (j := 8) (by decide +kernel)
                have k189 := fBz_eq hB187 (a := 740) (j := 17) (by decide +kernel)
                refine And.intro (by omega) (And.intro ?_ ?_)
                · intro c190
                  refine And.intro (⟨by omega, by omega⟩) ?_
                  exact ⟨_, rfl, by omega, (par_be0 (fun j => (fFr_S fhB180 (by decide +kernel) j).trans (fup_other ehB169 741 j (Or.inl (by decide)))) g0z186 (by omega) (by omega)), (fun q => absurd q (by omega))⟩
                · intro c191
                  refine Exists.intro xm_423 (And.intro mi_423 (And.intro ⟨rfl, rfl, rfl, rfl⟩ (And.intro rfl ?_)))
                  refine fcallp hB187 (ct_M_isSign_90da9 (fBz h0 hB187) (by omega)) ?_
                  rintro _ ⟨z192, rfl, hz192⟩
                  refine And.intro (by omega) (And.intro ?_ ?_)
                  · intro c193
                    refine And.intro ⟨rfl, by decide, by decide⟩ (fgetf fb_740_14 h0 hB187 ?_)
                    intro z194 lz194 uz194 qz194
                    refine And.intro ⟨rfl, by decide, by decide⟩ (And.intro rfl (And.intro (Or.inl rfl) (fputf fb_740_14 (by decide +kernel) hW (by omega) ?_)))
                    intro IhB195 ehB195 hB195
                    have t196 : IhB195 740 9 = IhB187 740 9 := (congrFun (congrFun ehB195 740) 9).trans (fup_ne (by omega))
                    have t197 : IhB195 740 10 = IhB187 740 10 := (congrFun (congrFun ehB195 740) 10).trans (fup_ne (by omega))
                    have t198 : IhB195 740 11 = IhB187 740 11 := (congrFun (congrFun ehB195 740) 11).trans (fup_ne (by omega))
                    have t199 : IhB195 740 13 = IhB187 740 13 := (congrFun (congrFun ehB195 740) 13).trans (fup_ne (by omega))
                    have t200 := fup_at ehB195 14 (by omega)
                    have t201 : IhB195 740 15 = IhB187 740 15 := (congrFun (congrFun ehB195 740) 15).trans (fup_ne (by omega))
                    have t202 : IhB195 740 16 = IhB187 740 16 := (congrFun (congrFun ehB195 740) 16).trans (fup_ne (by omega))
                    have k203 := fBz_eq hB195 (a := 740) (j := 8) (by decide +kernel)
                    have k204 := fBz_eq hB195 (a := 740) (j := 17) (by decide +kernel)
                    refine Exists.intro xm_314 (And.intro mi_314 (And.intro ⟨rfl, rfl, rfl, rfl⟩ (And.intro rfl ?_)))
                    refine fcall _ h0 (fzs_sub (by decide +kernel) hW) hB195 (ct_M_next_c8003 (fBz h0 hB195) (by omega)) ?_
                    rintro IhB206 _ hB206 fhB206 ⟨rfl, hz205⟩
                    have t207 := fhB206 740 14 (by decide +kernel)
                    have t208 := fhB206 740 15 (by decide +kernel)
                    have t209 := fhB206 740 16 (by decide +kernel)
                    have k210 := fBz_eq hB206 (a := 740) (j := 8) (by decide +kernel)
                    have k211 := fBz_eq hB206 (a := 740) (j := 17) (by decide +kernel)
                    refine And.intro (⟨by omega, by omega⟩) ?_
                    exact ⟨_, rfl, by omega, (par_par (by omega) (fun j => (fFr_S fhB180 (by decide +kernel) j).trans (fup_other ehB169 741 j (Or.inl (by decide)))) g0z186 (g1z186 (by omega)) (fun j => (fFr_S fhB206 (by decide +kernel) j).trans (fup_other ehB195 741 j (Or.inl (by decide)))) (by omega) (by omega) (by omega)).1, (fun _ => (par_par (by omega) (fun j => (fFr_S fhB180 (by decide +kernel) j).trans (fup_other ehB169 741 j (Or.inl (by decide)))) g0z186 (g1z186 (by omega)) (fun j => (fFr_S fhB206 (by decide +kernel) j).trans (fup_other ehB195 741 j (Or.inl (by decide)))) (by omega) (by omega) (by omega)).2)⟩
                  · intro c212
                    refine And.intro (⟨by omega, by omega⟩) ?_
                    exact ⟨_, rfl, by omega, (par_be0 (fun j => (fFr_S fhB180 (by decide +kernel) j).trans (fup_other ehB169 741 j (Or.inl (by decide)))) g0z186 (by omega) (by omega)), (fun q => absurd q (by omega))⟩
              · intro c213
                refine And.intro (⟨by omega, by omega⟩) ?_
                exact ⟨_, rfl, by omega, sBe_refl, (fun q => absurd q (by omega))⟩
          · intro c214
            refine And.intro ⟨rfl, by decide, by decide⟩ (fgetf fb_740_15 h0 hB0 ?_)
            intro z215 lz215 uz215 qz215
            refine And.intro (by omega) (And.intro ?_ ?_)
            · intro c216
              refine Exists.intro xm_423 (And.intro mi_423 (And.intro ⟨rfl, rfl, rfl, rfl⟩ (And.intro rfl ?_)))
              refine fcallp hB0 (ct_M_isSign_90da9 (fBz h0 hB0) (by omega)) ?_
              rintro _ ⟨z217, rfl, hz217⟩
              refine And.intro (by omega) (And.intro ?_ ?_)
              · intro c218
                refine And.intro (⟨by omega, by omega⟩) ?_
                exact ⟨_, rfl, by omega, sBe_refl, (fun q => absurd q (by omega))⟩
              · intro c219
                refine And.intro ⟨rfl, by decide, by decide⟩ (fgetf fb_740_14 h0 hB0 ?_)
                intro z220 lz220 uz220 qz220
                refine And.intro (by omega) (And.intro ?_ ?_)
                · intro c221
                  refine And.intro ⟨rfl, by decide, by decide⟩ (fgetf fb_740_14 h0 hB0 ?_)
                  intro z222 lz222 uz222 qz222
                  refine And.intro ⟨rfl, by decide, by decide⟩ (And.intro rfl (And.intro (Or.inl rfl) (fputf fb_740_14 (by decide +kernel) hW (by omega) ?_)))
                  intro IhB223 ehB223 hB223
                  have t224 : IhB223 740 9 = I 740 9 := (congrFun (congrFun ehB223 740) 9).trans (fup_ne (by omega))
                  have t225 : IhB223 740 10 = I 740 10 := (congrFun (congrFun ehB223 740) 10).trans (fup_ne (by omega))
                  have t226 : IhB223 740 11 = I 740 11 := (congrFun (congrFun ehB223 740) 11).trans (fup_ne (by omega))
                  have t227 : IhB223 740 13 = I 740 13 := (congrFun (congrFun ehB223 740) 13).trans (fup_ne (by omega))
                  have t228 := fup_at ehB223 14 (by omega)
                  have t229 : IhB223 740 15 = I 740 15 := (congrFun (congrFun ehB223 740) 15).trans (fup_ne (by omega))
                  have t230 : IhB223 740 16 = I 740 16 := (congrFun (congrFun ehB223 740) 16).trans (fup_ne (by omega))
                  have k231 := fBz_eq hB223 (a := 740) (j := 8) (by decide +kernel)
                  have k232 := fBz_eq hB223 (a := 740) (j := 17) (by decide +kernel)
                  refine Exists.intro xm_314 (And.intro mi_314 (And.intro ⟨rfl, rfl, rfl, rfl⟩ (And.intro rfl ?_)))
                  refine fcall _ h0 (fzs_sub (by decide +kernel) hW) hB223 (ct_M_next_c8003 (fBz h0 hB223) (by omega)) ?_
                  rintro IhB234 _ hB234 fhB234 ⟨rfl, hz233⟩
                  have t235 := fhB234 740 14 (by decide +kernel)
                  have t236 := fhB234 740 15 (by decide +kernel)
                  have t237 := fhB234 740 16 (by decide +kernel)
                  have k238 := fBz_eq hB234 (a := 740) (j := 8) (by decide +kernel)
                  have k239 := fBz_eq hB234 (a := 740) (j := 17) (by decide +kernel)
                  refine Exists.intro xm_319 (And.intro mi_319 (And.intro ⟨rfl, rfl, rfl, rfl⟩ (And.intro rfl ?_)))
                  refine fcall _ h0 (fzs_sub (by decide +kernel) hW) hB234 (ct_M_either_f12bf (fBz h0 hB234) (by omega) (by omega) (by omega) (by omega) (by omega)) ?_
                  rintro IhB241 _ hB241 fhB241 ⟨z240, rfl, hz240, g0z240, g1z240⟩
                  have k242 := fBz_eq hB241 (a := 740) (j := 8) (by decide +kernel)
                  have k243 := fBz_eq hB241 (a := 740) (j := 17) (by decide +kernel)
                  refine And.intro (by omega) (And.intro ?_ ?_)
                  · intro c244
                    refine And.intro (⟨by omega, by omega⟩) ?_
                    exact ⟨_, rfl, by omega, (par_be0 (fun j => (fFr_S fhB234 (by decide +kernel) j).trans (fup_other ehB223 741 j (Or.inl (by decide)))) g0z240 (by omega) (by omega)), (fun q => absurd q (by omega))⟩
                  · intro c245
                    refine Exists.intro xm_423 (And.intro mi_423 (And.intro ⟨rfl, rfl, rfl, rfl⟩ (And.intro rfl ?_)))
                    refine fcallp hB241 (ct_M_isSign_90da9 (fBz h0 hB241) (by omega)) ?_
                    rintro _ ⟨z246, rfl, hz246⟩
                    refine And.intro (by omega) (And.intro ?_ ?_)
                    · intro c247
                      refine And.intro ⟨rfl, by decide, by decide⟩ (fgetf fb_740_14 h0 hB241 ?_)
                      intro z248 lz248 uz248 qz248
                      refine And.intro ⟨rfl, by decide, by decide⟩ (And.intro rfl (And.intro (Or.inl rfl) (fputf fb_740_14 (by decide +kernel) hW (by omega) ?_)))
                      intro IhB249 ehB249 hB249
                      have t250 : IhB249 740 9 = IhB241 740 9 := (congrFun (congrFun ehB249 740) 9).trans (fup_ne (by omega))
                      have t251 : IhB249 740 10 = IhB241 740 10 := (congrFun (congrFun ehB249 740) 10).trans (fup_ne (by omega))
                      have t252 : IhB249 740 11 = IhB241 740 11 := (congrFun (congrFun ehB249 740) 11).trans (fup_ne (by omega))
                      have t253 : IhB249 740 13 = IhB241 740 13 := (congrFun (congrFun ehB249 740) 13).trans (fup_ne (by omega))
                      have t254 := fup_at ehB249 14 (by omega)
                      have t255 : IhB249 740 15 = IhB241 740 15 := (congrFun (congrFun ehB249 740) 15).trans (fup_ne (by omega))
                      have t256 : IhB249 740 16 = IhB241 740 16 := (congrFun (congrFun ehB249 740) 16).trans (fup_ne (by omega))
                      have k257 := fBz_eq hB249 (a := 740) (j := 8) (by decide +kernel)
                      have k258 := fBz_eq hB249 (a := 740) (j := 17) (by decide +kernel)
                      refine Exists.intro xm_314 (And.intro mi_314 (And.intro ⟨rfl, rfl, rfl, rfl⟩ (And.intro rfl ?_)))
                      refine fcall _ h0 (fzs_sub (by decide +kernel) hW) hB249 (ct_M_next_c8003 (fBz h0 hB249) (by omega)) ?_
                      rintro IhB260 _ hB260 fhB260 ⟨rfl, hz259⟩
                      have t261 := fhB260 740 14 (by decide +kernel)
                      have t262 := fhB260 740 15 (by decide +kernel)
                      have t263 := fhB260 740 16 (by decide +kernel)
                      have k264 := fBz_eq hB260 (a := 740) (j := 8) (by decide +kernel)
                      have k265 := fBz_eq hB260 (a := 740) (j := 17) (by decide +kernel)
                      refine And.intro (⟨by omega, by omega⟩) ?_
                      exact ⟨_, rfl, by omega, (par_par (by omega) (fun j => (fFr_S fhB234 (by decide +kernel) j).trans (fup_other ehB223 741 j (Or.inl (by decide)))) g0z240 (g1z240 (by omega)) (fun j => (fFr_S fhB260 (by decide +kernel) j).trans (fup_other ehB249 741 j (Or.inl (by decide)))) (by omega) (by omega) (by omega)).1, (fun _ => (par_par (by omega) (fun j => (fFr_S fhB234 (by decide +kernel) j).trans (fup_other ehB223 741 j (Or.inl (by decide)))) g0z240 (g1z240 (by omega)) (fun j => (fFr_S fhB260 (by decide +kernel) j).trans (fup_other ehB249 741 j (Or.inl (by decide)))) (by omega) (by omega) (by omega)).2)⟩
                    · intro c266
                      refine And.intro (⟨by omega, by omega⟩) ?_
                      exact ⟨_, rfl, by omega, (par_be0 (fun j => (fFr_S fhB234 (by decide +kernel) j).trans (fup_other ehB223 741 j (Or.inl (by decide)))) g0z240 (by omega) (by omega)), (fun q => absurd q (by omega))⟩
                · intro c267
                  refine And.intro (⟨by omega, by omega⟩) ?_
                  exact ⟨_, rfl, by omega, sBe_refl, (fun q => absurd q (by omega))⟩
            · intro c268
              refine And.intro ⟨rfl, by decide, by decide⟩ (fgetf fb_740_15 h0 hB0 ?_)
              intro z269 lz269 uz269 qz269
              refine And.intro ⟨rfl, by decide, by decide⟩ (And.intro rfl (And.intro (Or.inl rfl) (fputf fb_740_15 (by decide +kernel) hW (by omega) ?_)))
              intro IhB270 ehB270 hB270
              have t271 : IhB270 740 9 = I 740 9 := (congrFun (congrFun ehB270 740) 9).trans (fup_ne (by omega))
              have t272 : IhB270 740 10 = I 740 10 := (congrFun (congrFun ehB270 740) 10).trans (fup_ne (by omega))
              have t273 : IhB270 740 11 = I 740 11 := (congrFun (congrFun ehB270 740) 11).trans (fup_ne (by omega))
              have t274 : IhB270 740 13 = I 740 13 := (congrFun (congrFun ehB270 740) 13).trans (fup_ne (by omega))
              have t275 : IhB270 740 14 = I 740 14 := (congrFun (congrFun ehB270 740) 14).trans (fup_ne (by omega))
              have t276 := fup_at ehB270 15 (by omega)
              have t277 : IhB270 740 16 = I 740 16 := (congrFun (congrFun ehB270 740) 16).trans (fup_ne (by omega))
              have k278 := fBz_eq hB270 (a := 740) (j := 8) (by decide +kernel)
              have k279 := fBz_eq hB270 (a := 740) (j := 17) (by decide +kernel)
              refine Exists.intro xm_314 (And.intro mi_314 (And.intro ⟨rfl, rfl, rfl, rfl⟩ (And.intro rfl ?_)))
              refine fcall _ h0 (fzs_sub (by decide +kernel) hW) hB270 (ct_M_next_c8003 (fBz h0 hB270) (by omega)) ?_
              rintro IhB281 _ hB281 fhB281 ⟨rfl, hz280⟩
              have t282 := fhB281 740 14 (by decide +kernel)
              have t283 := fhB281 740 15 (by decide +kernel)
              have t284 := fhB281 740 16 (by decide +kernel)
              have k285 := fBz_eq hB281 (a := 740) (j := 8) (by decide +kernel)
              have k286 := fBz_eq hB281 (a := 740) (j := 17) (by decide +kernel)
              refine Exists.intro xm_404 (And.intro mi_404 (And.intro ⟨rfl, rfl, rfl, rfl⟩ (And.intro rfl ?_)))
              refine fcall _ h0 (fzs_sub (by decide +kernel) hW) hB281 (ct_M_part0_cc4b8 (fBz h0 hB281) (by omega) (by omega) (by omega) (by omega) (by omega)) ?_
              rintro IhB288 _ hB288 fhB288 ⟨z287, rfl, hz287, g0z287, g1z287⟩
              have k289 := fBz_eq hB288 (a := 740) (j := 8) (by decide +kernel)
              have k290 := fBz_eq hB288 (a := 740) (j := 17) (by decide +kernel)
              refine And.intro (by omega) (And.intro ?_ ?_)
              · intro c291
                refine And.intro ⟨rfl, by decide, by decide⟩ (fgetf fb_740_15 h0 hB288 ?_)
                intro z292 lz292 uz292 qz292
                refine And.intro ⟨rfl, by decide, by decide⟩ (And.intro rfl (And.intro (Or.inl rfl) (fputf fb_740_15 (by decide +kernel) hW (by omega) ?_)))
                intro IhB293 ehB293 hB293
                have t294 : IhB293 740 9 = IhB288 740 9 := (congrFun (congrFun ehB293 740) 9).trans (fup_ne (by omega))
                have t295 : IhB293 740 10 = IhB288 740 10 := (congrFun (congrFun ehB293 740) 10).trans (fup_ne (by omega))
                have t296 : IhB293 740 11 = IhB288 740 11 := (congrFun (congrFun ehB293 740) 11).trans (fup_ne (by omega))
                have t297 : IhB293 740 13 = IhB288 740 13 := (congrFun (congrFun ehB293 740) 13).trans (fup_ne (by omega))
                have t298 : IhB293 740 14 = IhB288 740 14 := (congrFun (congrFun ehB293 740) 14).trans (fup_ne (by omega))
                have t299 := fup_at ehB293 15 (by omega)
                have t300 : IhB293 740 16 = IhB288 740 16 := (congrFun (congrFun ehB293 740) 16).trans (fup_ne (by omega))
                have k301 := fBz_eq hB293 (a := 740) (j := 8) (by decide +kernel)
                have k302 := fBz_eq hB293 (a := 740) (j := 17) (by decide +kernel)
                refine Exists.intro xm_421 (And.intro mi_421 (And.intro ⟨rfl, rfl, rfl, rfl⟩ (And.intro rfl ?_)))
                refine fcall _ h0 (fzs_sub (by decide +kernel) hW) hB293 (ct_M_step_2c704 (fBz h0 hB293) (by omega) (by omega) (by omega) (by omega)) ?_
                rintro IhB304 _ hB304 fhB304 ⟨rfl, hz303, g0z303⟩
                have t305 := fhB304 740 9 (by decide +kernel)
                have t306 := fhB304 740 10 (by decide +kernel)
                have t307 := fhB304 740 11 (by decide +kernel)
                have t308 := fhB304 740 13 (by decide +kernel)
                have t309 := fhB304 740 14 (by decide +kernel)
                have t310 := fhB304 740 15 (by decide +kernel)
                have k311 := fBz_eq hB304 (a := 740) (j := 8) (by decide +kernel)
                have k312 := fBz_eq hB304 (a := 740) (j := 17) (by decide +kernel)
                refine And.intro (⟨by omega, by omega⟩) ?_
                exact ⟨_, rfl, by omega, (par_not (by omega) (fun j => (fFr_S fhB281 (by decide +kernel) j).trans (fup_other ehB270 741 j (Or.inl (by decide)))) g0z287 (g1z287 (by omega)) (fun j => fup_other ehB293 741 j (Or.inl (by decide))) g0z303 (by omega) (by omega) (by omega) (by omega) (by omega) (by omega)).1, (fun _ => (par_not (by omega) (fun j => (fFr_S fhB281 (by decide +kernel) j).trans (fup_other ehB270 741 j (Or.inl (by decide)))) g0z287 (g1z287 (by omega)) (fun j => fup_other ehB293 741 j (Or.inl (by decide))) g0z303 (by omega) (by omega) (by omega) (by omega) (by omega) (by omega)).2)⟩
              · intro c313
                refine And.intro (⟨by omega, by omega⟩) ?_
                exact ⟨_, rfl, by omega, (par_be0 (fun j => (fFr_S fhB281 (by decide +kernel) j).trans (fup_other ehB270 741 j (Or.inl (by decide)))) g0z287 (by omega) (by omega)), (fun q => absurd q (by omega))⟩
        · intro c314
          refine And.intro ⟨rfl, by decide, by decide⟩ (fgetf fb_740_13 h0 hB0 ?_)
          intro z315 lz315 uz315 qz315
          refine Exists.intro xm_422 (And.intro mi_422 (And.intro ⟨rfl, rfl, rfl, rfl⟩ (And.intro True.intro ?_)))
          refine fcallp hB0 (ct_M_isName_49450 (fBz h0 hB0) (by omega) (by omega)) ?_
          rintro _ ⟨z316, rfl, hz316⟩
          refine And.intro (by omega) (And.intro ?_ ?_)
          · intro c317
            refine Exists.intro xm_423 (And.intro mi_423 (And.intro ⟨rfl, rfl, rfl, rfl⟩ (And.intro rfl ?_)))
            refine fcallp hB0 (ct_M_isSign_90da9 (fBz h0 hB0) (by omega)) ?_
            rintro _ ⟨z318, rfl, hz318⟩
            refine And.intro (by omega) (And.intro ?_ ?_)
            · intro c319
              refine Exists.intro xm_423 (And.intro mi_423 (And.intro ⟨rfl, rfl, rfl, rfl⟩ (And.intro rfl ?_)))
              refine fcallp hB0 (ct_M_isSign_90da9 (fBz h0 hB0) (by omega)) ?_
              rintro _ ⟨z320, rfl, hz320⟩
              refine And.intro (by omega) (And.intro ?_ ?_)
              · intro c321
                refine And.intro (⟨by omega, by omega⟩) ?_
                exact ⟨_, rfl, by omega, sBe_refl, (fun q => absurd q (by omega))⟩
              · intro c322
                refine And.intro ⟨rfl, by decide, by decide⟩ (fgetf fb_740_14 h0 hB0 ?_)
                intro z323 lz323 uz323 qz323
                refine And.intro (by omega) (And.intro ?_ ?_)
                · intro c324
                  refine And.intro ⟨rfl, by decide, by decide⟩ (fgetf fb_740_14 h0 hB0 ?_)
                  intro z325 lz325 uz325 qz325
                  refine And.intro ⟨rfl, by decide, by decide⟩ (And.intro rfl (And.intro (Or.inl rfl) (fputf fb_740_14 (by decide +kernel) hW (by omega) ?_)))
                  intro IhB326 ehB326 hB326
                  have t327 : IhB326 740 9 = I 740 9 := (congrFun (congrFun ehB326 740) 9).trans (fup_ne (by omega))
                  have t328 : IhB326 740 10 = I 740 10 := (congrFun (congrFun ehB326 740) 10).trans (fup_ne (by omega))
                  have t329 : IhB326 740 11 = I 740 11 := (congrFun (congrFun ehB326 740) 11).trans (fup_ne (by omega))
                  have t330 : IhB326 740 13 = I 740 13 := (congrFun (congrFun ehB326 740) 13).trans (fup_ne (by omega))
                  have t331 := fup_at ehB326 14 (by omega)
                  have t332 : IhB326 740 15 = I 740 15 := (congrFun (congrFun ehB326 740) 15).trans (fup_ne (by omega))
                  have t333 : IhB326 740 16 = I 740 16 := (congrFun (congrFun ehB326 740) 16).trans (fup_ne (by omega))
                  have k334 := fBz_eq hB326 (a := 740) (j := 8) (by decide +kernel)
                  have k335 := fBz_eq hB326 (a := 740) (j := 17) (by decide +kernel)
                  refine Exists.intro xm_314 (And.intro mi_314 (And.intro ⟨rfl, rfl, rfl, rfl⟩ (And.intro rfl ?_)))
                  refine fcall _ h0 (fzs_sub (by decide +kernel) hW) hB326 (ct_M_next_c8003 (fBz h0 hB326) (by omega)) ?_
                  rintro IhB337 _ hB337 fhB337 ⟨rfl, hz336⟩
                  have t338 := fhB337 740 14 (by decide +kernel)
                  have t339 := fhB337 740 15 (by decide +kernel)
                  have t340 := fhB337 740 16 (by decide +kernel)
                  have k341 := fBz_eq hB337 (a := 740) (j := 8) (by decide +kernel)
                  have k342 := fBz_eq hB337 (a := 740) (j := 17) (by decide +kernel)
                  refine Exists.intro xm_319 (And.intro mi_319 (And.intro ⟨rfl, rfl, rfl, rfl⟩ (And.intro rfl ?_)))
                  refine fcall _ h0 (fzs_sub (by decide +kernel) hW) hB337 (ct_M_either_f12bf (fBz h0 hB337) (by omega) (by omega) (by omega) (by omega) (by omega)) ?_
                  rintro IhB344 _ hB344 fhB344 ⟨z343, rfl, hz343, g0z343, g1z343⟩
                  have k345 := fBz_eq hB344 (a := 740) (j := 8) (by decide +kernel)
                  have k346 := fBz_eq hB344 (a := 740) (j := 17) (by decide +kernel)
                  refine And.intro (by omega) (And.intro ?_ ?_)
                  · intro c347
                    refine And.intro (⟨by omega, by omega⟩) ?_
                    exact ⟨_, rfl, by omega, (par_be0 (fun j => (fFr_S fhB337 (by decide +kernel) j).trans (fup_other ehB326 741 j (Or.inl (by decide)))) g0z343 (by omega) (by omega)), (fun q => absurd q (by omega))⟩
                  · intro c348
                    refine Exists.intro xm_423 (And.intro mi_423 (And.intro ⟨rfl, rfl, rfl, rfl⟩ (And.intro rfl ?_)))
                    refine fcallp hB344 (ct_M_isSign_90da9 (fBz h0 hB344) (by omega)) ?_
                    rintro _ ⟨z349, rfl, hz349⟩
                    refine And.intro (by omega) (And.intro ?_ ?_)
                    · intro c350
                      refine And.intro ⟨rfl, by decide, by decide⟩ (fgetf fb_740_14 h0 hB344 ?_)
                      intro z351 lz351 uz351 qz351
                      refine And.intro ⟨rfl, by decide, by decide⟩ (And.intro rfl (And.intro (Or.inl rfl) (fputf fb_740_14 (by decide +kernel) hW (by omega) ?_)))
                      intro IhB352 ehB352 hB352
                      have t353 : IhB352 740 9 = IhB344 740 9 := (congrFun (congrFun ehB352 740) 9).trans (fup_ne (by omega))
                      have t354 : IhB352 740 10 = IhB344 740 10 := (congrFun (congrFun ehB352 740) 10).trans (fup_ne (by omega))
                      have t355 : IhB352 740 11 = IhB344 740 11 := (congrFun (congrFun ehB352 740) 11).trans (fup_ne (by omega))
                      have t356 : IhB352 740 13 = IhB344 740 13 := (congrFun (congrFun ehB352 740) 13).trans (fup_ne (by omega))
                      have t357 := fup_at ehB352 14 (by omega)
                      have t358 : IhB352 740 15 = IhB344 740 15 := (congrFun (congrFun ehB352 740) 15).trans (fup_ne (by omega))
                      have t359 : IhB352 740 16 = IhB344 740 16 := (congrFun (congrFun ehB352 740) 16).trans (fup_ne (by omega))
                      have k360 := fBz_eq hB352 (a := 740) (j := 8) (by decide +kernel)
                      have k361 := fBz_eq hB352 (a := 740) (j := 17) (by decide +kernel)
                      refine Exists.intro xm_314 (And.intro mi_314 (And.intro ⟨rfl, rfl, rfl, rfl⟩ (And.intro rfl ?_)))
                      refine fcall _ h0 (fzs_sub (by decide +kernel) hW) hB352 (ct_M_next_c8003 (fBz h0 hB352) (by omega)) ?_
                      rintro IhB363 _ hB363 fhB363 ⟨rfl, hz362⟩
                      have t364 := fhB363 740 14 (by decide +kernel)
                      have t365 := fhB363 740 15 (by decide +kernel)
                      have t366 := fhB363 740 16 (by decide +kernel)
                      have k367 := fBz_eq hB363 (a := 740) (j := 8) (by decide +kernel)
                      have k368 := fBz_eq hB363 (a := 740) (j := 17) (by decide +kernel)
                      refine And.intro (⟨by omega, by omega⟩) ?_
                      exact ⟨_, rfl, by omega, (par_par (by omega) (fun j => (fFr_S fhB337 (by decide +kernel) j).trans (fup_other ehB326 741 j (Or.inl (by decide)))) g0z343 (g1z343 (by omega)) (fun j => (fFr_S fhB363 (by decide +kernel) j).trans (fup_other ehB352 741 j (Or.inl (by decide)))) (by omega) (by omega) (by omega)).1, (fun _ => (par_par (by omega) (fun j => (fFr_S fhB337 (by decide +kernel) j).trans (fup_other ehB326 741 j (Or.inl (by decide)))) g0z343 (g1z343 (by omega)) (fun j => (fFr_S fhB363 (by decide +kernel) j).trans (fup_other ehB352 741 j (Or.inl (by decide)))) (by omega) (by omega) (by omega)).2)⟩
                    · intro c369
                      refine And.intro (⟨by omega, by omega⟩) ?_
                      exact ⟨_, rfl, by omega, (par_be0 (fun j => (fFr_S fhB337 (by decide +kernel) j).trans (fup_other ehB326 741 j (Or.inl (by decide)))) g0z343 (by omega) (by omega)), (fun q => absurd q (by omega))⟩
                · intro c370
                  refine And.intro (⟨by omega, by omega⟩) ?_
                  exact ⟨_, rfl, by omega, sBe_refl, (fun q => absurd q (by omega))⟩
            · intro c371
              refine And.intro ⟨rfl, by decide, by decide⟩ (fgetf fb_740_15 h0 hB0 ?_)
              intro z372 lz372 uz372 qz372
              refine And.intro (by omega) (And.intro ?_ ?_)
              · intro c373
                refine Exists.intro xm_423 (And.intro mi_423 (And.intro ⟨rfl, rfl, rfl, rfl⟩ (And.intro rfl ?_)))
                refine fcallp hB0 (ct_M_isSign_90da9 (fBz h0 hB0) (by omega)) ?_
                rintro _ ⟨z374, rfl, hz374⟩
                refine And.intro (by omega) (And.intro ?_ ?_)
                · intro c375
                  refine And.intro (⟨by omega, by omega⟩) ?_
                  exact ⟨_, rfl, by omega, sBe_refl, (fun q => absurd q (by omega))⟩
                · intro c376
                  refine And.intro ⟨rfl, by decide, by decide⟩ (fgetf fb_740_14 h0 hB0 ?_)
                  intro z377 lz377 uz377 qz377
                  refine And.intro (by omega) (And.intro ?_ ?_)
                  · intro c378
                    refine And.intro ⟨rfl, by decide, by decide⟩ (fgetf fb_740_14 h0 hB0 ?_)
                    intro z379 lz379 uz379 qz379
                    refine And.intro ⟨rfl, by decide, by decide⟩ (And.intro rfl (And.intro (Or.inl rfl) (fputf fb_740_14 (by decide +kernel) hW (by omega) ?_)))
                    intro IhB380 ehB380 hB380
                    have t381 : IhB380 740 9 = I 740 9 := (congrFun (congrFun ehB380 740) 9).trans (fup_ne (by omega))
                    have t382 : IhB380 740 10 = I 740 10 := (congrFun (congrFun ehB380 740) 10).trans (fup_ne (by omega))
                    have t383 : IhB380 740 11 = I 740 11 := (congrFun (congrFun ehB380 740) 11).trans (fup_ne (by omega))
                    have t384 : IhB380 740 13 = I 740 13 := (congrFun (congrFun ehB380 740) 13).trans (fup_ne (by omega))
                    have t385 := fup_at ehB380 14 (by omega)
                    have t386 : IhB380 740 15 = I 740 15 := (congrFun (congrFun ehB380 740) 15).trans (fup_ne (by omega))
                    have t387 : IhB380 740 16 = I 740 16 := (congrFun (congrFun ehB380 740) 16).trans (fup_ne (by omega))
                    have k388 := fBz_eq hB380 (a := 740) (j := 8) (by decide +kernel)
                    have k389 := fBz_eq hB380 (a := 740) (j := 17) (by decide +kernel)
                    refine Exists.intro xm_314 (And.intro mi_314 (And.intro ⟨rfl, rfl, rfl, rfl⟩ (And.intro rfl ?_)))
                    refine fcall _ h0 (fzs_sub (by decide +kernel) hW) hB380 (ct_M_next_c8003 (fBz h0 hB380) (by omega)) ?_
                    rintro IhB391 _ hB391 fhB391 ⟨rfl, hz390⟩
                    have t392 := fhB391 740 14 (by decide +kernel)
                    have t393 := fhB391 740 15 (by decide +kernel)
                    have t394 := fhB391 740 16 (by decide +kernel)
                    have k395 := fBz_eq hB391 (a := 740) (j := 8) (by decide +kernel)
                    have k396 := fBz_eq hB391 (a := 740) (j := 17) (by decide +kernel)
                    refine Exists.intro xm_319 (And.intro mi_319 (And.intro ⟨rfl, rfl, rfl, rfl⟩ (And.intro rfl ?_)))
                    refine fcall _ h0 (fzs_sub (by decide +kernel) hW) hB391 (ct_M_either_f12bf (fBz h0 hB391) (by omega) (by omega) (by omega) (by omega) (by omega)) ?_
                    rintro IhB398 _ hB398 fhB398 ⟨z397, rfl, hz397, g0z397, g1z397⟩
                    have k399 := fBz_eq hB398 (a := 740) (j := 8) (by decide +kernel)
                    have k400 := fBz_eq hB398 (a := 740) (j := 17) (by decide +kernel)
                    refine And.intro (by omega) (And.intro ?_ ?_)
                    · intro c401
                      refine And.intro (⟨by omega, by omega⟩) ?_
                      exact ⟨_, rfl, by omega, (par_be0 (fun j => (fFr_S fhB391 (by decide +kernel) j).trans (fup_other ehB380 741 j (Or.inl (by decide)))) g0z397 (by omega) (by omega)), (fun q => absurd q (by omega))⟩
                    · intro c402
                      refine Exists.intro xm_423 (And.intro mi_423 (And.intro ⟨rfl, rfl, rfl, rfl⟩ (And.intro rfl ?_)))
                      refine fcallp hB398 (ct_M_isSign_90da9 (fBz h0 hB398) (by omega)) ?_
                      rintro _ ⟨z403, rfl, hz403⟩
                      refine And.intro (by omega) (And.intro ?_ ?_)
                      · intro c404
                        refine And.intro ⟨rfl, by decide, by decide⟩ (fgetf fb_740_14 h0 hB398 ?_)
                        intro z405 lz405 uz405 qz405
                        refine And.intro ⟨rfl, by decide, by decide⟩ (And.intro rfl (And.intro (Or.inl rfl) (fputf fb_740_14 (by decide +kernel) hW (by omega) ?_)))
                        intro IhB406 ehB406 hB406
                        have t407 : IhB406 740 9 = IhB398 740 9 := (congrFun (congrFun ehB406 740) 9).trans (fup_ne (by omega))
                        have t408 : IhB406 740 10 = IhB398 740 10 := (congrFun (congrFun ehB406 740) 10).trans (fup_ne (by omega))
                        have t409 : IhB406 740 11 = IhB398 740 11 := (congrFun (congrFun ehB406 740) 11).trans (fup_ne (by omega))
                        have t410 : IhB406 740 13 = IhB398 740 13 := (congrFun (congrFun ehB406 740) 13).trans (fup_ne (by omega))
                        have t411 := fup_at ehB406 14 (by omega)
                        have t412 : IhB406 740 15 = IhB398 740 15 := (congrFun (congrFun ehB406 740) 15).trans (fup_ne (by omega))
                        have t413 : IhB406 740 16 = IhB398 740 16 := (congrFun (congrFun ehB406 740) 16).trans (fup_ne (by omega))
                        have k414 := fBz_eq hB406 (a := 740) (j := 8) (by decide +kernel)
                        have k415 := fBz_eq hB406 (a := 740) (j := 17) (by decide +kernel)
                        refine Exists.intro xm_314 (And.intro mi_314 (And.intro ⟨rfl, rfl, rfl, rfl⟩ (And.intro rfl ?_)))
                        refine fcall _ h0 (fzs_sub (by decide +kernel) hW) hB406 (ct_M_next_c8003 (fBz h0 hB406) (by omega)) ?_
                        rintro IhB417 _ hB417 fhB417 ⟨rfl, hz416⟩
                        have t418 := fhB417 740 14 (by decide +kernel)
                        have t419 := fhB417 740 15 (by decide +kernel)
                        have t420 := fhB417 740 16 (by decide +kernel)
                        have k421 := fBz_eq hB417 (a := 740) (j := 8) (by decide +kernel)
                        have k422 := fBz_eq hB417 (a := 740) (j := 17) (by decide +kernel)
                        refine And.intro (⟨by omega, by omega⟩) ?_
                        exact ⟨_, rfl, by omega, (par_par (by omega) (fun j => (fFr_S fhB391 (by decide +kernel) j).trans (fup_other ehB380 741 j (Or.inl (by decide)))) g0z397 (g1z397 (by omega)) (fun j => (fFr_S fhB417 (by decide +kernel) j).trans (fup_other ehB406 741 j (Or.inl (by decide)))) (by omega) (by omega) (by omega)).1, (fun _ => (par_par (by omega) (fun j => (fFr_S fhB391 (by decide +kernel) j).trans (fup_other ehB380 741 j (Or.inl (by decide)))) g0z397 (g1z397 (by omega)) (fun j => (fFr_S fhB417 (by decide +kernel) j).trans (fup_other ehB406 741 j (Or.inl (by decide)))) (by omega) (by omega) (by omega)).2)⟩
                      · intro c423
                        refine And.intro (⟨by omega, by omega⟩) ?_
                        exact ⟨_, rfl, by omega, (par_be0 (fun j => (fFr_S fhB391 (by decide +kernel) j).trans (fup_other ehB380 741 j (Or.inl (by decide)))) g0z397 (by omega) (by omega)), (fun q => absurd q (by omega))⟩
                  · intro c424
                    refine And.intro (⟨by omega, by omega⟩) ?_
                    exact ⟨_, rfl, by omega, sBe_refl, (fun q => absurd q (by omega))⟩
              · intro c425
                refine And.intro ⟨rfl, by decide, by decide⟩ (fgetf fb_740_15 h0 hB0 ?_)
                intro z426 lz426 uz426 qz426
                refine And.intro ⟨rfl, by decide, by decide⟩ (And.intro rfl (And.intro (Or.inl rfl) (fputf fb_740_15 (by decide +kernel) hW (by omega) ?_)))
                intro IhB427 ehB427 hB427
                have t428 : IhB427 740 9 = I 740 9 := (congrFun (congrFun ehB427 740) 9).trans (fup_ne (by omega))
                have t429 : IhB427 740 10 = I 740 10 := (congrFun (congrFun ehB427 740) 10).trans (fup_ne (by omega))
                have t430 : IhB427 740 11 = I 740 11 := (congrFun (congrFun ehB427 740) 11).trans (fup_ne (by omega))
                have t431 : IhB427 740 13 = I 740 13 := (congrFun (congrFun ehB427 740) 13).trans (fup_ne (by omega))
                have t432 : IhB427 740 14 = I 740 14 := (congrFun (congrFun ehB427 740) 14).trans (fup_ne (by omega))
                have t433 := fup_at ehB427 15 (by omega)
                have t434 : IhB427 740 16 = I 740 16 := (congrFun (congrFun ehB427 740) 16).trans (fup_ne (by omega))
                have k435 := fBz_eq hB427 (a := 740) (j := 8) (by decide +kernel)
                have k436 := fBz_eq hB427 (a := 740) (j := 17) (by decide +kernel)
                refine Exists.intro xm_314 (And.intro mi_314 (And.intro ⟨rfl, rfl, rfl, rfl⟩ (And.intro rfl ?_)))
                refine fcall _ h0 (fzs_sub (by decide +kernel) hW) hB427 (ct_M_next_c8003 (fBz h0 hB427) (by omega)) ?_
                rintro IhB438 _ hB438 fhB438 ⟨rfl, hz437⟩
                have t439 := fhB438 740 14 (by decide +kernel)
                have t440 := fhB438 740 15 (by decide +kernel)
                have t441 := fhB438 740 16 (by decide +kernel)
                have k442 := fBz_eq hB438 (a := 740) (j := 8) (by decide +kernel)
                have k443 := fBz_eq hB438 (a := 740) (j := 17) (by decide +kernel)
                refine Exists.intro xm_404 (And.intro mi_404 (And.intro ⟨rfl, rfl, rfl, rfl⟩ (And.intro rfl ?_)))
                refine fcall _ h0 (fzs_sub (by decide +kernel) hW) hB438 (ct_M_part0_cc4b8 (fBz h0 hB438) (by omega) (by omega) (by omega) (by omega) (by omega)) ?_
                rintro IhB445 _ hB445 fhB445 ⟨z444, rfl, hz444, g0z444, g1z444⟩
                have k446 := fBz_eq hB445 (a := 740) (j := 8) (by decide +kernel)
                have k447 := fBz_eq hB445 (a := 740) (j := 17) (by decide +kernel)
                refine And.intro (by omega) (And.intro ?_ ?_)
                · intro c448
                  refine And.intro ⟨rfl, by decide, by decide⟩ (fgetf fb_740_15 h0 hB445 ?_)
                  intro z449 lz449 uz449 qz449
                  refine And.intro ⟨rfl, by decide, by decide⟩ (And.intro rfl (And.intro (Or.inl rfl) (fputf fb_740_15 (by decide +kernel) hW (by omega) ?_)))
                  intro IhB450 ehB450 hB450
                  have t451 : IhB450 740 9 = IhB445 740 9 := (congrFun (congrFun ehB450 740) 9).trans (fup_ne (by omega))
                  have t452 : IhB450 740 10 = IhB445 740 10 := (congrFun (congrFun ehB450 740) 10).trans (fup_ne (by omega))
                  have t453 : IhB450 740 11 = IhB445 740 11 := (congrFun (congrFun ehB450 740) 11).trans (fup_ne (by omega))
                  have t454 : IhB450 740 13 = IhB445 740 13 := (congrFun (congrFun ehB450 740) 13).trans (fup_ne (by omega))
                  have t455 : IhB450 740 14 = IhB445 740 14 := (congrFun (congrFun ehB450 740) 14).trans (fup_ne (by omega))
                  have t456 := fup_at ehB450 15 (by omega)
                  have t457 : IhB450 740 16 = IhB445 740 16 := (congrFun (congrFun ehB450 740) 16).trans (fup_ne (by omega))
                  have k458 := fBz_eq hB450 (a := 740) (j := 8) (by decide +kernel)
                  have k459 := fBz_eq hB450 (a := 740) (j := 17) (by decide +kernel)
                  refine Exists.intro xm_421 (And.intro mi_421 (And.intro ⟨rfl, rfl, rfl, rfl⟩ (And.intro rfl ?_)))
                  refine fcall _ h0 (fzs_sub (by decide +kernel) hW) hB450 (ct_M_step_2c704 (fBz h0 hB450) (by omega) (by omega) (by omega) (by omega)) ?_
                  rintro IhB461 _ hB461 fhB461 ⟨rfl, hz460, g0z460⟩
                  have t462 := fhB461 740 9 (by decide +kernel)
                  have t463 := fhB461 740 10 (by decide +kernel)
                  have t464 := fhB461 740 11 (by decide +kernel)
                  have t465 := fhB461 740 13 (by decide +kernel)
                  have t466 := fhB461 740 14 (by decide +kernel)
                  have t467 := fhB461 740 15 (by decide +kernel)
                  have k468 := fBz_eq hB461 (a := 740) (j := 8) (by decide +kernel)
                  have k469 := fBz_eq hB461 (a := 740) (j := 17) (by decide +kernel)
                  refine And.intro (⟨by omega, by omega⟩) ?_
                  exact ⟨_, rfl, by omega, (par_not (by omega) (fun j => (fFr_S fhB438 (by decide +kernel) j).trans (fup_other ehB427 741 j (Or.inl (by decide)))) g0z444 (g1z444 (by omega)) (fun j => fup_other ehB450 741 j (Or.inl (by decide))) g0z460 (by omega) (by omega) (by omega) (by omega) (by omega) (by omega)).1, (fun _ => (par_not (by omega) (fun j => (fFr_S fhB438 (by decide +kernel) j).trans (fup_other ehB427 741 j (Or.inl (by decide)))) g0z444 (g1z444 (by omega)) (fun j => fup_other ehB450 741 j (Or.inl (by decide))) g0z460 (by omega) (by omega) (by omega) (by omega) (by omega) (by omega)).2)⟩
                · intro c470
                  refine And.intro (⟨by omega, by omega⟩) ?_
                  exact ⟨_, rfl, by omega, (par_be0 (fun j => (fFr_S fhB438 (by decide +kernel) j).trans (fup_other ehB427 741 j (Or.inl (by decide)))) g0z444 (by omega) (by omega)), (fun q => absurd q (by omega))⟩
          · intro c471
            refine And.intro ⟨rfl, by decide, by decide⟩ (fgetf fb_740_13 h0 hB0 ?_)
            intro z472 lz472 uz472 qz472
            refine Exists.intro xm_421 (And.intro mi_421 (And.intro ⟨rfl, rfl, rfl, rfl⟩ (And.intro rfl ?_)))
            refine fcall _ h0 (fzs_sub (by decide +kernel) hW) hB0 (ct_M_step_2c704 (fBz h0 hB0) (by omega) (by omega) (by omega) (by omega)) ?_
            rintro IhB474 _ hB474 fhB474 ⟨rfl, hz473, g0z473⟩
            have t475 := fhB474 740 9 (by decide +kernel)
            have t476 := fhB474 740 10 (by decide +kernel)
            have t477 := fhB474 740 11 (by decide +kernel)
            have t478 := fhB474 740 13 (by decide +kernel)
            have t479 := fhB474 740 14 (by decide +kernel)
            have t480 := fhB474 740 15 (by decide +kernel)
            have k481 := fBz_eq hB474 (a := 740) (j := 8) (by decide +kernel)
            have k482 := fBz_eq hB474 (a := 740) (j := 17) (by decide +kernel)
            refine And.intro ⟨rfl, by decide, by decide⟩ (fgetf fb_740_18 h0 hB474 ?_)
            intro z483 lz483 uz483 qz483
            intro z484 hz484 ez484 bz484
            refine And.intro ⟨rfl, by decide, by decide⟩ (And.intro rfl (And.intro (Or.inl rfl) (fputf fb_740_18 (by decide +kernel) hW (by omega) ?_)))
            intro IhB485 ehB485 hB485
            have t486 : IhB485 740 9 = IhB474 740 9 := (congrFun (congrFun ehB485 740) 9).trans (fup_ne (by omega))
            have t487 : IhB485 740 10 = IhB474 740 10 := (congrFun (congrFun ehB485 740) 10).trans (fup_ne (by omega))
            have t488 : IhB485 740 11 = IhB474 740 11 := (congrFun (congrFun ehB485 740) 11).trans (fup_ne (by omega))
            have t489 : IhB485 740 13 = IhB474 740 13 := (congrFun (congrFun ehB485 740) 13).trans (fup_ne (by omega))
            have t490 : IhB485 740 14 = IhB474 740 14 := (congrFun (congrFun ehB485 740) 14).trans (fup_ne (by omega))
            have t491 : IhB485 740 15 = IhB474 740 15 := (congrFun (congrFun ehB485 740) 15).trans (fup_ne (by omega))
            have t492 : IhB485 740 16 = IhB474 740 16 := (congrFun (congrFun ehB485 740) 16).trans (fup_ne (by omega))
            have t493 := fup_at ehB485 18 (by omega)
            have k494 := fBz_eq hB485 (a := 740) (j := 8) (by decide +kernel)
            have k495 := fBz_eq hB485 (a := 740) (j := 17) (by decide +kernel)
            refine Exists.intro xm_314 (And.intro mi_314 (And.intro ⟨rfl, rfl, rfl, rfl⟩ (And.intro rfl ?_)))
            refine fcall _ h0 (fzs_sub (by decide +kernel) hW) hB485 (ct_M_next_c8003 (fBz h0 hB485) (by omega)) ?_
            rintro IhB497 _ hB497 fhB497 ⟨rfl, hz496⟩
            have t498 := fhB497 740 14 (by decide +kernel)
            have t499 := fhB497 740 15 (by decide +kernel)
            have t500 := fhB497 740 16 (by decide +kernel)
            have t501 := fhB497 740 18 (by decide +kernel)
            have k502 := fBz_eq hB497 (a := 740) (j := 8) (by decide +kernel)
            have k503 := fBz_eq hB497 (a := 740) (j := 17) (by decide +kernel)
            refine And.intro (⟨by omega, by omega⟩) ?_
            exact ⟨_, rfl, by omega, (par_leaf (by omega) (by omega) g0z473 (fun j => (fFr_S fhB497 (by decide +kernel) j).trans (fup_other ehB485 741 j (Or.inl (by decide)))) (by omega) (by omega)).1, (fun _ => (par_leaf (by omega) (by omega) g0z473 (fun j => (fFr_S fhB497 (by decide +kernel) j).trans (fup_other ehB485 741 j (Or.inl (by decide)))) (by omega) (by omega)).2)⟩
    · intro c504
      refine And.intro ⟨rfl, by decide, by decide⟩ (fgetf fb_740_12 h0 hB0 ?_)
      intro z505 lz505 uz505 qz505
      refine Exists.intro xm_421 (And.intro mi_421 (And.intro ⟨rfl, rfl, rfl, rfl⟩ (And.intro rfl ?_)))
      refine fcall _ h0 (fzs_sub (by decide +kernel) hW) hB0 (ct_M_step_2c704 (fBz h0 hB0) (by omega) (by omega) (by omega) (by omega)) ?_
      rintro IhB507 _ hB507 fhB507 ⟨rfl, hz506, g0z506⟩
      have t508 := fhB507 740 9 (by decide +kernel)
      have t509 := fhB507 740 10 (by decide +kernel)
      have t510 := fhB507 740 11 (by decide +kernel)
      have t511 := fhB507 740 12 (by decide +kernel)
      have t512 := fhB507 740 13 (by decide +kernel)
      have t513 := fhB507 740 14 (by decide +kernel)
      have t514 := fhB507 740 15 (by decide +kernel)
      have k515 := fBz_eq hB507 (a := 740) (j := 8) (by decide +kernel)
      have k516 := fBz_eq hB507 (a := 740) (j := 17) (by decide +kernel)
      refine And.intro ⟨rfl, by decide, by decide⟩ (fgetf fb_740_18 h0 hB507 ?_)
      intro z517 lz517 uz517 qz517
      intro z518 hz518 ez518 bz518
      refine And.intro ⟨rfl, by decide, by decide⟩ (And.intro rfl (And.intro (Or.inl rfl) (fputf fb_740_18 (by decide +kernel) hW (by omega) ?_)))
      intro IhB519 ehB519 hB519
      have t520 : IhB519 740 9 = IhB507 740 9 := (congrFun (congrFun ehB519 740) 9).trans (fup_ne (by omega))
      have t521 : IhB519 740 10 = IhB507 740 10 := (congrFun (congrFun ehB519 740) 10).trans (fup_ne (by omega))
      have t522 : IhB519 740 11 = IhB507 740 11 := (congrFun (congrFun ehB519 740) 11).trans (fup_ne (by omega))
      have t523 : IhB519 740 12 = IhB507 740 12 := (congrFun (congrFun ehB519 740) 12).trans (fup_ne (by omega))
      have t524 : IhB519 740 13 = IhB507 740 13 := (congrFun (congrFun ehB519 740) 13).trans (fup_ne (by omega))
      have t525 : IhB519 740 14 = IhB507 740 14 := (congrFun (congrFun ehB519 740) 14).trans (fup_ne (by omega))
      have t526 : IhB519 740 15 = IhB507 740 15 := (congrFun (congrFun ehB519 740) 15).trans (fup_ne (by omega))
      have t527 : IhB519 740 16 = IhB507 740 16 := (congrFun (congrFun ehB519 740) 16).trans (fup_ne (by omega))
      have t528 := fup_at ehB519 18 (by omega)
      have k529 := fBz_eq hB519 (a := 740) (j := 8) (by decide +kernel)
      have k530 := fBz_eq hB519 (a := 740) (j := 17) (by decide +kernel)
      refine Exists.intro xm_314 (And.intro mi_314 (And.intro ⟨rfl, rfl, rfl, rfl⟩ (And.intro rfl ?_)))
      refine fcall _ h0 (fzs_sub (by decide +kernel) hW) hB519 (ct_M_next_c8003 (fBz h0 hB519) (by omega)) ?_
      rintro IhB532 _ hB532 fhB532 ⟨rfl, hz531⟩
      have t533 := fhB532 740 14 (by decide +kernel)
      have t534 := fhB532 740 15 (by decide +kernel)
      have t535 := fhB532 740 16 (by decide +kernel)
      have t536 := fhB532 740 18 (by decide +kernel)
      have k537 := fBz_eq hB532 (a := 740) (j := 8) (by decide +kernel)
      have k538 := fBz_eq hB532 (a := 740) (j := 17) (by decide +kernel)
      refine And.intro (⟨by omega, by omega⟩) ?_
      exact ⟨_, rfl, by omega, (par_leaf (by omega) (by omega) g0z506 (fun j => (fFr_S fhB532 (by decide +kernel) j).trans (fup_other ehB519 741 j (Or.inl (by decide)))) (by omega) (by omega)).1, (fun _ => (par_leaf (by omega) (by omega) g0z506 (fun j => (fFr_S fhB532 (by decide +kernel) j).trans (fup_other ehB519 741 j (Or.inl (by decide)))) (by omega) (by omega)).2)⟩
abbrev jc_M_term_50689_10 (I0 : fH) : Nat → fL → List fV → fH → Prop := fun m lv st I => ∃ (y1 : Int), lv = [(0, .inr (.inr (some 740))), (1, .inl y1)] ∧ st = [] ∧ ((((-1) ≤ y1 ∧ y1 ≤ 5) ∧ (I0 740 9 ≤ I 740 9) ∧ (I 740 9 ≤ I 740 10) ∧ (I 740 10 ≤ I 740 8) ∧ (I 740 11 = 0 ∨ I 740 9 < I 740 10) ∧ (I0 740 16 ≤ I 740 16) ∧ (I 740 16 - I0 740 16 ≤ I 740 9 - I0 740 9) ∧ (I 740 14 = I0 740 14) ∧ (I 740 15 = I0 740 15)) ∧ (sBe I0 I (I0 740 17) (I0 740 16)) ∧ (sOne I (I0 740 17) (I0 740 16) (I 740 16))) ∧ m = (1 + 1 * (96 - I 740 9) : Int).toNat
set_option maxRecDepth 8000 in
theorem ct_M_term_50689 {I : fH} {x1 : Int} (h0 : fB bsJ I) (ha1 : ((-1) ≤ x1 ∧ x1 ≤ 5)) (hp0 : I 740 9 ≤ I 740 10 ∧ I 740 10 ≤ I 740 8 ∧ (I 740 11 = 0 ∨ I 740 9 < I 740 10)) (hp1 : 0 ≤ I 740 16 ∧ I 740 16 ≤ I 740 9) (hp2 : 15 ≤ I 740 14 + I 740 15) (hp3 : (1215 ≤ I 740 17 ∧ I 740 17 ≤ 3415 ∧ (I 740 17 - 1215) % 200 = 0) ∨ I 740 17 = 4700) : fC ρ base n F xTc vwCl xTys D dA la gJ (fbz bsJ znJ (fKc wz_2212a) I) xm_388 [.inr (.inr (some 740)), .inl x1] I (fun I' r => ∃ z, r = some (.inl z) ∧ ((0 ≤ z ∧ z ≤ 1) ∧ (I 740 9 ≤ I' 740 9 ∧ I' 740 9 ≤ I' 740 10 ∧ I' 740 10 ≤ I' 740 8 ∧ (I' 740 11 = 0 ∨ I' 740 9 < I' 740 10) ∧ (z = 1 → I 740 16 ≤ I' 740 16 ∧ I' 740 16 - I 740 16 ≤ I' 740 9 - I 740 9 ∧ I' 740 14 = I 740 14 ∧ I' 740 15 = I 740 15))) ∧ (sBe I I' (I 740 17) (I 740 16)) ∧ (z = 1 → sOne I' (I 740 17) (I 740 16) (I' 740 16))) := by
  have hW : fzs wz_2212a (fKc wz_2212a) := fKc_ok _
  refine f_meth (rb := rbJ) (J := [(10, (jc_M_term_50689_10 I))]) 98 400 xG xin_388 x6_388 okJ (fB_self h0) ?_ ?_
  · refine List.forall_mem_cons.mpr ⟨?_, fun q h => absurd h List.not_mem_nil⟩
    · rintro m _ _ I1 hB1 ⟨y1, rfl, rfl, ⟨hb, hx0, hx1⟩, hm⟩
      have k1 := fBz_eq hB1 (a := 740) (j := 8) (by decide +kernel)
      have k2 := fBz_eq hB1 (a := 740) (j := 17) (by decide +kernel)
      refine Exists.intro xm_423 (And.intro mi_423 (And.intro ⟨rfl, rfl, rfl, rfl⟩ (And.intro rfl ?_)))
      refine fcallp hB1 (ct_M_isSign_90da9 (fBz h0 hB1) (by omega)) ?_
      rintro _ ⟨z3, rfl, hz3⟩
      refine And.intro (by omega) (And.intro ?_ ?_)
      · intro c4
        refine And.intro ⟨rfl, by decide, by decide⟩ (fgetf fb_740_13 h0 hB1 ?_)
        intro z5 lz5 uz5 qz5
        refine Exists.intro xm_314 (And.intro mi_314 (And.intro ⟨rfl, rfl, rfl, rfl⟩ (And.intro rfl ?_)))
        refine fcall _ h0 (fzs_sub (by decide +kernel) hW) hB1 (ct_M_next_c8003 (fBz h0 hB1) (by omega)) ?_
        rintro IhB7 _ hB7 fhB7 ⟨rfl, hz6⟩
        have t8 := fhB7 740 14 (by decide +kernel)
        have t9 := fhB7 740 15 (by decide +kernel)
        have t10 := fhB7 740 16 (by decide +kernel)
        have k11 := fBz_eq hB7 (a := 740) (j := 8) (by decide +kernel)
        have k12 := fBz_eq hB7 (a := 740) (j := 17) (by decide +kernel)
        refine Exists.intro xm_405 (And.intro mi_405 (And.intro ⟨rfl, rfl, rfl, rfl⟩ (And.intro rfl ?_)))
        refine fcall _ h0 (fzs_sub (by decide +kernel) hW) hB7 (ct_M_part0_18b69 (fBz h0 hB7) (by omega) (by omega) (by omega) (by omega) (by omega)) ?_
        rintro IhB14 _ hB14 fhB14 ⟨z13, rfl, hz13, g0z13, g1z13⟩
        have k15 := fBz_eq hB14 (a := 740) (j := 8) (by decide +kernel)
        have k16 := fBz_eq hB14 (a := 740) (j := 17) (by decide +kernel)
        refine And.intro (by omega) (And.intro ?_ ?_)
        · intro c17
          refine Exists.intro xm_421 (And.intro mi_421 (And.intro ⟨rfl, rfl, rfl, rfl⟩ (And.intro rfl ?_)))
          refine fcall _ h0 (fzs_sub (by decide +kernel) hW) hB14 (ct_M_step_2c704 (fBz h0 hB14) (by omega) (by omega) (by omega) (by omega)) ?_
          rintro IhB19 _ hB19 fhB19 ⟨rfl, hz18, g0z18⟩
          have t20 := fhB19 740 9 (by decide +kernel)
          have t21 := fhB19 740 10 (by decide +kernel)
          have t22 := fhB19 740 11 (by decide +kernel)
          have t23 := fhB19 740 13 (by decide +kernel)
          have t24 := fhB19 740 14 (by decide +kernel)
          have t25 := fhB19 740 15 (by decide +kernel)
          have k26 := fBz_eq hB19 (a := 740) (j := 8) (by decide +kernel)
          have k27 := fBz_eq hB19 (a := 740) (j := 17) (by decide +kernel)
          exact fcutJ (I := IhB19) (j := (jc_M_term_50689_10 I)) (lv' := [(0, .inr (.inr (some 740))), (1, .inl _)]) (And.intro rfl (And.intro rfl True.intro)) ⟨_, rfl, rfl, ⟨by omega, (par_be hx0 (fFr_S fhB7 (by decide +kernel)) g0z13 g0z18 (by omega) (by omega) (by omega) (by omega)), (par_one (by omega) hx1 (fFr_S fhB7 (by decide +kernel)) g0z13 (g1z13 (by omega)) g0z18 (by omega) (by omega) (by omega) (by omega) (by omega) (by omega))⟩, rfl⟩ (by omega)
        · intro c28
          refine And.intro (⟨by omega, by omega⟩) ?_
          exact ⟨_, rfl, by omega, (par_bel hx0 (fFr_S fhB7 (by decide +kernel)) g0z13 (by omega) (by omega)), (fun q => absurd q (by omega))⟩
      · intro c29
        refine Exists.intro xm_423 (And.intro mi_423 (And.intro ⟨rfl, rfl, rfl, rfl⟩ (And.intro rfl ?_)))
        refine fcallp hB1 (ct_M_isSign_90da9 (fBz h0 hB1) (by omega)) ?_
        rintro _ ⟨z30, rfl, hz30⟩
        refine And.intro (by omega) (And.intro ?_ ?_)
        · intro c31
          refine And.intro (⟨by omega, by omega⟩) ?_
          exact ⟨_, rfl, by omega, hx0, (fun _ => hx1)⟩
        · intro c32
          refine And.intro ⟨rfl, by decide, by decide⟩ (fgetf fb_740_13 h0 hB1 ?_)
          intro z33 lz33 uz33 qz33
          refine Exists.intro xm_314 (And.intro mi_314 (And.intro ⟨rfl, rfl, rfl, rfl⟩ (And.intro rfl ?_)))
          refine fcall _ h0 (fzs_sub (by decide +kernel) hW) hB1 (ct_M_next_c8003 (fBz h0 hB1) (by omega)) ?_
          rintro IhB35 _ hB35 fhB35 ⟨rfl, hz34⟩
          have t36 := fhB35 740 14 (by decide +kernel)
          have t37 := fhB35 740 15 (by decide +kernel)
          have t38 := fhB35 740 16 (by decide +kernel)
          have k39 := fBz_eq hB35 (a := 740) (j := 8) (by decide +kernel)
          have k40 := fBz_eq hB35 (a := 740) (j := 17) (by decide +kernel)
          refine Exists.intro xm_405 (And.intro mi_405 (And.intro ⟨rfl, rfl, rfl, rfl⟩ (And.intro rfl ?_)))
          refine fcall _ h0 (fzs_sub (by decide +kernel) hW) hB35 (ct_M_part0_18b69 (fBz h0 hB35) (by omega) (by omega) (by omega) (by omega) (by omega)) ?_
          rintro IhB42 _ hB42 fhB42 ⟨z41, rfl, hz41, g0z41, g1z41⟩
          have k43 := fBz_eq hB42 (a := 740) (j := 8) (by decide +kernel)
          have k44 := fBz_eq hB42 (a := 740) (j := 17) (by decide +kernel)
          refine And.intro (by omega) (And.intro ?_ ?_)
          · intro c45
            refine Exists.intro xm_421 (And.intro mi_421 (And.intro ⟨rfl, rfl, rfl, rfl⟩ (And.intro rfl ?_)))
            refine fcall _ h0 (fzs_sub (by decide +kernel) hW) hB42 (ct_M_step_2c704 (fBz h0 hB42) (by omega) (by omega) (by omega) (by omega)) ?_
            rintro IhB47 _ hB47 fhB47 ⟨rfl, hz46, g0z46⟩
            have t48 := fhB47 740 9 (by decide +kernel)
            have t49 := fhB47 740 10 (by decide +kernel)
            have t50 := fhB47 740 11 (by decide +kernel)
            have t51 := fhB47 740 13 (by decide +kernel)
            have t52 := fhB47 740 14 (by decide +kernel)
            have t53 := fhB47 740 15 (by decide +kernel)
            have k54 := fBz_eq hB47 (a := 740) (j := 8) (by decide +kernel)
            have k55 := fBz_eq hB47 (a := 740) (j := 17) (by decide +kernel)
            exact fcutJ (I := IhB47) (j := (jc_M_term_50689_10 I)) (lv' := [(0, .inr (.inr (some 740))), (1, .inl _)]) (And.intro rfl (And.intro rfl True.intro)) ⟨_, rfl, rfl, ⟨by omega, (par_be hx0 (fFr_S fhB35 (by decide +kernel)) g0z41 g0z46 (by omega) (by omega) (by omega) (by omega)), (par_one (by omega) hx1 (fFr_S fhB35 (by decide +kernel)) g0z41 (g1z41 (by omega)) g0z46 (by omega) (by omega) (by omega) (by omega) (by omega) (by omega))⟩, rfl⟩ (by omega)
          · intro c56
            refine And.intro (⟨by omega, by omega⟩) ?_
            exact ⟨_, rfl, by omega, (par_bel hx0 (fFr_S fhB35 (by decide +kernel)) g0z41 (by omega) (by omega)), (fun q => absurd q (by omega))⟩
  · have hB0 := fB_self (zn := znJ) (K := fKc wz_2212a) h0
    refine Exists.intro xm_405 (And.intro mi_405 (And.intro ⟨rfl, rfl, rfl, rfl⟩ (And.intro rfl ?_)))
    refine fcall _ h0 (fzs_sub (by decide +kernel) hW) hB0 (ct_M_part0_18b69 (fBz h0 hB0) (by omega) (by omega) (by omega) (by omega) (by omega)) ?_
    rintro IhB58 _ hB58 fhB58 ⟨z57, rfl, hz57, g0z57, g1z57⟩
    have k59 := fBz_eq hB58 (a := 740) (j := 8) (by decide +kernel)
    have k60 := fBz_eq hB58 (a := 740) (j := 17) (by decide +kernel)
    refine And.intro (by omega) (And.intro ?_ ?_)
    · intro c61
      exact fcutJ (I := IhB58) (j := (jc_M_term_50689_10 I)) (lv' := [(0, .inr (.inr (some 740))), (1, .inl _)]) (And.intro rfl (And.intro rfl True.intro)) ⟨_, rfl, rfl, ⟨by omega, g0z57, (g1z57 (by omega))⟩, rfl⟩ (by omega)
    · intro c62
      refine And.intro (⟨by omega, by omega⟩) ?_
      exact ⟨_, rfl, by omega, g0z57, (fun q => absurd q (by omega))⟩
abbrev jc_M_sum_b35c2_10 (I0 : fH) : Nat → fL → List fV → fH → Prop := fun m lv st I => ∃ (y1 : Int), lv = [(0, .inr (.inr (some 740))), (1, .inl y1)] ∧ st = [] ∧ ((((-1) ≤ y1 ∧ y1 ≤ 5) ∧ (I0 740 9 ≤ I 740 9) ∧ (I 740 9 ≤ I 740 10) ∧ (I 740 10 ≤ I 740 8) ∧ (I 740 11 = 0 ∨ I 740 9 < I 740 10) ∧ (I0 740 16 ≤ I 740 16) ∧ (I 740 16 - I0 740 16 ≤ I 740 9 - I0 740 9) ∧ (I 740 14 = I0 740 14) ∧ (I 740 15 = I0 740 15)) ∧ (sBe I0 I (I0 740 17) (I0 740 16)) ∧ (sOne I (I0 740 17) (I0 740 16) (I 740 16))) ∧ m = (1 + 1 * (96 - I 740 9) : Int).toNat
set_option maxRecDepth 8000 in
theorem ct_M_sum_b35c2 {I : fH} {x1 : Int} (h0 : fB bsJ I) (ha1 : ((-1) ≤ x1 ∧ x1 ≤ 5)) (hp0 : I 740 9 ≤ I 740 10 ∧ I 740 10 ≤ I 740 8 ∧ (I 740 11 = 0 ∨ I 740 9 < I 740 10)) (hp1 : 0 ≤ I 740 16 ∧ I 740 16 ≤ I 740 9) (hp2 : 15 ≤ I 740 14 + I 740 15) (hp3 : (1215 ≤ I 740 17 ∧ I 740 17 ≤ 3415 ∧ (I 740 17 - 1215) % 200 = 0) ∨ I 740 17 = 4700) : fC ρ base n F xTc vwCl xTys D dA la gJ (fbz bsJ znJ (fKc wz_2212a) I) xm_371 [.inr (.inr (some 740)), .inl x1] I (fun I' r => ∃ z, r = some (.inl z) ∧ ((0 ≤ z ∧ z ≤ 1) ∧ (I 740 9 ≤ I' 740 9 ∧ I' 740 9 ≤ I' 740 10 ∧ I' 740 10 ≤ I' 740 8 ∧ (I' 740 11 = 0 ∨ I' 740 9 < I' 740 10) ∧ (z = 1 → I 740 16 ≤ I' 740 16 ∧ I' 740 16 - I 740 16 ≤ I' 740 9 - I 740 9 ∧ I' 740 14 = I 740 14 ∧ I' 740 15 = I 740 15))) ∧ (sBe I I' (I 740 17) (I 740 16)) ∧ (z = 1 → sOne I' (I 740 17) (I 740 16) (I' 740 16))) := by
  have hW : fzs wz_2212a (fKc wz_2212a) := fKc_ok _
  refine f_meth (rb := rbJ) (J := [(10, (jc_M_sum_b35c2_10 I))]) 98 400 xG xin_371 x6_371 okJ (fB_self h0) ?_ ?_
  · refine List.forall_mem_cons.mpr ⟨?_, fun q h => absurd h List.not_mem_nil⟩
    · rintro m _ _ I1 hB1 ⟨y1, rfl, rfl, ⟨hb, hx0, hx1⟩, hm⟩
      have k1 := fBz_eq hB1 (a := 740) (j := 8) (by decide +kernel)
      have k2 := fBz_eq hB1 (a := 740) (j := 17) (by decide +kernel)
      refine Exists.intro xm_423 (And.intro mi_423 (And.intro ⟨rfl, rfl, rfl, rfl⟩ (And.intro rfl ?_)))
      refine fcallp hB1 (ct_M_isSign_90da9 (fBz h0 hB1) (by omega)) ?_
      rintro _ ⟨z3, rfl, hz3⟩
      refine And.intro (by omega) (And.intro ?_ ?_)
      · intro c4
        refine And.intro ⟨rfl, by decide, by decide⟩ (fgetf fb_740_13 h0 hB1 ?_)
        intro z5 lz5 uz5 qz5
        refine Exists.intro xm_314 (And.intro mi_314 (And.intro ⟨rfl, rfl, rfl, rfl⟩ (And.intro rfl ?_)))
        refine fcall _ h0 (fzs_sub (by decide +kernel) hW) hB1 (ct_M_next_c8003 (fBz h0 hB1) (by omega)) ?_
        rintro IhB7 _ hB7 fhB7 ⟨rfl, hz6⟩
        have t8 := fhB7 740 14 (by decide +kernel)
        have t9 := fhB7 740 15 (by decide +kernel)
        have t10 := fhB7 740 16 (by decide +kernel)
        have k11 := fBz_eq hB7 (a := 740) (j := 8) (by decide +kernel)
        have k12 := fBz_eq hB7 (a := 740) (j := 17) (by decide +kernel)
        refine Exists.intro xm_388 (And.intro mi_388 (And.intro ⟨rfl, rfl, rfl, rfl⟩ (And.intro rfl ?_)))
        refine fcall _ h0 (fzs_sub (by decide +kernel) hW) hB7 (ct_M_term_50689 (fBz h0 hB7) (by omega) (by omega) (by omega) (by omega) (by omega)) ?_
        rintro IhB14 _ hB14 fhB14 ⟨z13, rfl, hz13, g0z13, g1z13⟩
        have k15 := fBz_eq hB14 (a := 740) (j := 8) (by decide +kernel)
        have k16 := fBz_eq hB14 (a := 740) (j := 17) (by decide +kernel)
        refine And.intro (by omega) (And.intro ?_ ?_)
        · intro c17
          refine Exists.intro xm_421 (And.intro mi_421 (And.intro ⟨rfl, rfl, rfl, rfl⟩ (And.intro rfl ?_)))
          refine fcall _ h0 (fzs_sub (by decide +kernel) hW) hB14 (ct_M_step_2c704 (fBz h0 hB14) (by omega) (by omega) (by omega) (by omega)) ?_
          rintro IhB19 _ hB19 fhB19 ⟨rfl, hz18, g0z18⟩
          have t20 := fhB19 740 9 (by decide +kernel)
          have t21 := fhB19 740 10 (by decide +kernel)
          have t22 := fhB19 740 11 (by decide +kernel)
          have t23 := fhB19 740 13 (by decide +kernel)
          have t24 := fhB19 740 14 (by decide +kernel)
          have t25 := fhB19 740 15 (by decide +kernel)
          have k26 := fBz_eq hB19 (a := 740) (j := 8) (by decide +kernel)
          have k27 := fBz_eq hB19 (a := 740) (j := 17) (by decide +kernel)
          exact fcutJ (I := IhB19) (j := (jc_M_sum_b35c2_10 I)) (lv' := [(0, .inr (.inr (some 740))), (1, .inl _)]) (And.intro rfl (And.intro rfl True.intro)) ⟨_, rfl, rfl, ⟨by omega, (par_be hx0 (fFr_S fhB7 (by decide +kernel)) g0z13 g0z18 (by omega) (by omega) (by omega) (by omega)), (par_one (by omega) hx1 (fFr_S fhB7 (by decide +kernel)) g0z13 (g1z13 (by omega)) g0z18 (by omega) (by omega) (by omega) (by omega) (by omega) (by omega))⟩, rfl⟩ (by omega)
        · intro c28
          refine And.intro (⟨by omega, by omega⟩) ?_
          exact ⟨_, rfl, by omega, (par_bel hx0 (fFr_S fhB7 (by decide +kernel)) g0z13 (by omega) (by omega)), (fun q => absurd q (by omega))⟩
      · intro c29
        refine Exists.intro xm_423 (And.intro mi_423 (And.intro ⟨rfl, rfl, rfl, rfl⟩ (And.intro rfl ?_)))
        refine fcallp hB1 (ct_M_isSign_90da9 (fBz h0 hB1) (by omega)) ?_
        rintro _ ⟨z30, rfl, hz30⟩
        refine And.intro (by omega) (And.intro ?_ ?_)
        · intro c31
          refine And.intro (⟨by omega, by omega⟩) ?_
          exact ⟨_, rfl, by omega, hx0, (fun _ => hx1)⟩
        · intro c32
          refine And.intro ⟨rfl, by decide, by decide⟩ (fgetf fb_740_13 h0 hB1 ?_)
          intro z33 lz33 uz33 qz33
          refine Exists.intro xm_314 (And.intro mi_314 (And.intro ⟨rfl, rfl, rfl, rfl⟩ (And.intro rfl ?_)))
          refine fcall _ h0 (fzs_sub (by decide +kernel) hW) hB1 (ct_M_next_c8003 (fBz h0 hB1) (by omega)) ?_
          rintro IhB35 _ hB35 fhB35 ⟨rfl, hz34⟩
          have t36 := fhB35 740 14 (by decide +kernel)
          have t37 := fhB35 740 15 (by decide +kernel)
          have t38 := fhB35 740 16 (by decide +kernel)
          have k39 := fBz_eq hB35 (a := 740) (j := 8) (by decide +kernel)
          have k40 := fBz_eq hB35 (a := 740) (j := 17) (by decide +kernel)
          refine Exists.intro xm_388 (And.intro mi_388 (And.intro ⟨rfl, rfl, rfl, rfl⟩ (And.intro rfl ?_)))
          refine fcall _ h0 (fzs_sub (by decide +kernel) hW) hB35 (ct_M_term_50689 (fBz h0 hB35) (by omega) (by omega) (by omega) (by omega) (by omega)) ?_
          rintro IhB42 _ hB42 fhB42 ⟨z41, rfl, hz41, g0z41, g1z41⟩
          have k43 := fBz_eq hB42 (a := 740) (j := 8) (by decide +kernel)
          have k44 := fBz_eq hB42 (a := 740) (j := 17) (by decide +kernel)
          refine And.intro (by omega) (And.intro ?_ ?_)
          · intro c45
            refine Exists.intro xm_421 (And.intro mi_421 (And.intro ⟨rfl, rfl, rfl, rfl⟩ (And.intro rfl ?_)))
            refine fcall _ h0 (fzs_sub (by decide +kernel) hW) hB42 (ct_M_step_2c704 (fBz h0 hB42) (by omega) (by omega) (by omega) (by omega)) ?_
            rintro IhB47 _ hB47 fhB47 ⟨rfl, hz46, g0z46⟩
            have t48 := fhB47 740 9 (by decide +kernel)
            have t49 := fhB47 740 10 (by decide +kernel)
            have t50 := fhB47 740 11 (by decide +kernel)
            have t51 := fhB47 740 13 (by decide +kernel)
            have t52 := fhB47 740 14 (by decide +kernel)
            have t53 := fhB47 740 15 (by decide +kernel)
            have k54 := fBz_eq hB47 (a := 740) (j := 8) (by decide +kernel)
            have k55 := fBz_eq hB47 (a := 740) (j := 17) (by decide +kernel)
            exact fcutJ (I := IhB47) (j := (jc_M_sum_b35c2_10 I)) (lv' := [(0, .inr (.inr (some 740))), (1, .inl _)]) (And.intro rfl (And.intro rfl True.intro)) ⟨_, rfl, rfl, ⟨by omega, (par_be hx0 (fFr_S fhB35 (by decide +kernel)) g0z41 g0z46 (by omega) (by omega) (by omega) (by omega)), (par_one (by omega) hx1 (fFr_S fhB35 (by decide +kernel)) g0z41 (g1z41 (by omega)) g0z46 (by omega) (by omega) (by omega) (by omega) (by omega) (by omega))⟩, rfl⟩ (by omega)
          · intro c56
            refine And.intro (⟨by omega, by omega⟩) ?_
            exact ⟨_, rfl, by omega, (par_bel hx0 (fFr_S fhB35 (by decide +kernel)) g0z41 (by omega) (by omega)), (fun q => absurd q (by omega))⟩
  · have hB0 := fB_self (zn := znJ) (K := fKc wz_2212a) h0
    refine Exists.intro xm_388 (And.intro mi_388 (And.intro ⟨rfl, rfl, rfl, rfl⟩ (And.intro rfl ?_)))
    refine fcall _ h0 (fzs_sub (by decide +kernel) hW) hB0 (ct_M_term_50689 (fBz h0 hB0) (by omega) (by omega) (by omega) (by omega) (by omega)) ?_
    rintro IhB58 _ hB58 fhB58 ⟨z57, rfl, hz57, g0z57, g1z57⟩
    have k59 := fBz_eq hB58 (a := 740) (j := 8) (by decide +kernel)
    have k60 := fBz_eq hB58 (a := 740) (j := 17) (by decide +kernel)
    refine And.intro (by omega) (And.intro ?_ ?_)
    · intro c61
      exact fcutJ (I := IhB58) (j := (jc_M_sum_b35c2_10 I)) (lv' := [(0, .inr (.inr (some 740))), (1, .inl _)]) (And.intro rfl (And.intro rfl True.intro)) ⟨_, rfl, rfl, ⟨by omega, g0z57, (g1z57 (by omega))⟩, rfl⟩ (by omega)
    · intro c62
      refine And.intro (⟨by omega, by omega⟩) ?_
      exact ⟨_, rfl, by omega, g0z57, (fun q => absurd q (by omega))⟩
set_option maxRecDepth 8000 in
theorem ct_M_test_0612d {I : fH} {x1 : Int} (h0 : fB bsJ I) (ha1 : ((-1) ≤ x1 ∧ x1 ≤ 5)) (hp0 : I 740 9 ≤ I 740 10 ∧ I 740 10 ≤ I 740 8 ∧ (I 740 11 = 0 ∨ I 740 9 < I 740 10)) (hp1 : 0 ≤ I 740 16 ∧ I 740 16 ≤ I 740 9) (hp2 : 15 ≤ I 740 14 + I 740 15) (hp3 : (1215 ≤ I 740 17 ∧ I 740 17 ≤ 3415 ∧ (I 740 17 - 1215) % 200 = 0) ∨ I 740 17 = 4700) : fC ρ base n F xTc vwCl xTys D dA la gJ (fbz bsJ znJ (fKc wz_2212a) I) xm_354 [.inr (.inr (some 740)), .inl x1] I (fun I' r => ∃ z, r = some (.inl z) ∧ ((0 ≤ z ∧ z ≤ 1) ∧ (I 740 9 ≤ I' 740 9 ∧ I' 740 9 ≤ I' 740 10 ∧ I' 740 10 ≤ I' 740 8 ∧ (I' 740 11 = 0 ∨ I' 740 9 < I' 740 10) ∧ (z = 1 → I 740 16 ≤ I' 740 16 ∧ I' 740 16 - I 740 16 ≤ I' 740 9 - I 740 9 ∧ I' 740 14 = I 740 14 ∧ I' 740 15 = I 740 15))) ∧ (sBe I I' (I 740 17) (I 740 16)) ∧ (z = 1 → sOne I' (I 740 17) (I 740 16) (I' 740 16))) := by
  have hW : fzs wz_2212a (fKc wz_2212a) := fKc_ok _
  refine f_meth (rb := rbJ) (J := []) 1 400 xG xin_354 x6_354 okJ (fB_self h0) ?_ ?_
  · exact fun q h => absurd h List.not_mem_nil
  · have hB0 := fB_self (zn := znJ) (K := fKc wz_2212a) h0
    refine Exists.intro xm_371 (And.intro mi_371 (And.intro ⟨rfl, rfl, rfl, rfl⟩ (And.intro rfl ?_)))
    refine fcall _ h0 (fzs_sub (by decide +kernel) hW) hB0 (ct_M_sum_b35c2 (fBz h0 hB0) (by omega) (by omega) (by omega) (by omega) (by omega)) ?_
    rintro IhB2 _ hB2 fhB2 ⟨z1, rfl, hz1, g0z1, g1z1⟩
    have k3 := fBz_eq hB2 (a := 740) (j := 8) (by decide +kernel)
    have k4 := fBz_eq hB2 (a := 740) (j := 17) (by decide +kernel)
    refine And.intro (by omega) (And.intro ?_ ?_)
    · intro c5
      refine Exists.intro xm_423 (And.intro mi_423 (And.intro ⟨rfl, rfl, rfl, rfl⟩ (And.intro rfl ?_)))
      refine fcallp hB2 (ct_M_isSign_90da9 (fBz h0 hB2) (by omega)) ?_
      rintro _ ⟨z6, rfl, hz6⟩
      refine And.intro (by omega) (And.intro ?_ ?_)
      · intro c7
        refine And.intro ⟨rfl, by decide, by decide⟩ (fgetf fb_740_13 h0 hB2 ?_)
        intro z8 lz8 uz8 qz8
        refine Exists.intro xm_314 (And.intro mi_314 (And.intro ⟨rfl, rfl, rfl, rfl⟩ (And.intro rfl ?_)))
        refine fcall _ h0 (fzs_sub (by decide +kernel) hW) hB2 (ct_M_next_c8003 (fBz h0 hB2) (by omega)) ?_
        rintro IhB10 _ hB10 fhB10 ⟨rfl, hz9⟩
        have t11 := fhB10 740 14 (by decide +kernel)
        have t12 := fhB10 740 15 (by decide +kernel)
        have t13 := fhB10 740 16 (by decide +kernel)
        have k14 := fBz_eq hB10 (a := 740) (j := 8) (by decide +kernel)
        have k15 := fBz_eq hB10 (a := 740) (j := 17) (by decide +kernel)
        refine Exists.intro xm_371 (And.intro mi_371 (And.intro ⟨rfl, rfl, rfl, rfl⟩ (And.intro rfl ?_)))
        refine fcall _ h0 (fzs_sub (by decide +kernel) hW) hB10 (ct_M_sum_b35c2 (fBz h0 hB10) (by omega) (by omega) (by omega) (by omega) (by omega)) ?_
        rintro IhB17 _ hB17 fhB17 ⟨z16, rfl, hz16, g0z16, g1z16⟩
        have k18 := fBz_eq hB17 (a := 740) (j := 8) (by decide +kernel)
        have k19 := fBz_eq hB17 (a := 740) (j := 17) (by decide +kernel)
        refine And.intro (by omega) (And.intro ?_ ?_)
        · intro c20
          refine Exists.intro xm_421 (And.intro mi_421 (And.intro ⟨rfl, rfl, rfl, rfl⟩ (And.intro rfl ?_)))
          refine fcall _ h0 (fzs_sub (by decide +kernel) hW) hB17 (ct_M_step_2c704 (fBz h0 hB17) (by omega) (by omega) (by omega) (by omega)) ?_
          rintro IhB22 _ hB22 fhB22 ⟨rfl, hz21, g0z21⟩
          have t23 := fhB22 740 9 (by decide +kernel)
          have t24 := fhB22 740 10 (by decide +kernel)
          have t25 := fhB22 740 11 (by decide +kernel)
          have t26 := fhB22 740 13 (by decide +kernel)
          have t27 := fhB22 740 14 (by decide +kernel)
          have t28 := fhB22 740 15 (by decide +kernel)
          have k29 := fBz_eq hB22 (a := 740) (j := 8) (by decide +kernel)
          have k30 := fBz_eq hB22 (a := 740) (j := 17) (by decide +kernel)
          refine And.intro (⟨by omega, by omega⟩) ?_
          exact ⟨_, rfl, by omega, (by first | exact par_be g0z1 (fFr_S fhB10 (by decide +kernel)) g0z16 g0z21 (by omega) (by omega) (by omega) (by omega) | exact g0z1), (fun _ => by first | exact par_one (by omega) (g1z1 (by omega)) (fFr_S fhB10 (by decide +kernel)) g0z16 (g1z16 (by omega)) g0z21 (by omega) (by omega) (by omega) (by omega) (by omega) (by omega) | exact g1z1 (by omega))⟩
        · intro c31
          refine And.intro (⟨by omega, by omega⟩) ?_
          exact ⟨_, rfl, by omega, (par_bel g0z1 (fFr_S fhB10 (by decide +kernel)) g0z16 (by omega) (by omega)), (fun q => absurd q (by omega))⟩
      · intro c32
        refine Exists.intro xm_423 (And.intro mi_423 (And.intro ⟨rfl, rfl, rfl, rfl⟩ (And.intro rfl ?_)))
        refine fcallp hB2 (ct_M_isSign_90da9 (fBz h0 hB2) (by omega)) ?_
        rintro _ ⟨z33, rfl, hz33⟩
        refine And.intro (by omega) (And.intro ?_ ?_)
        · intro c34
          refine And.intro ⟨rfl, by decide, by decide⟩ (fgetf fb_740_13 h0 hB2 ?_)
          intro z35 lz35 uz35 qz35
          refine Exists.intro xm_314 (And.intro mi_314 (And.intro ⟨rfl, rfl, rfl, rfl⟩ (And.intro rfl ?_)))
          refine fcall _ h0 (fzs_sub (by decide +kernel) hW) hB2 (ct_M_next_c8003 (fBz h0 hB2) (by omega)) ?_
          rintro IhB37 _ hB37 fhB37 ⟨rfl, hz36⟩
          have t38 := fhB37 740 14 (by decide +kernel)
          have t39 := fhB37 740 15 (by decide +kernel)
          have t40 := fhB37 740 16 (by decide +kernel)
          have k41 := fBz_eq hB37 (a := 740) (j := 8) (by decide +kernel)
          have k42 := fBz_eq hB37 (a := 740) (j := 17) (by decide +kernel)
          refine Exists.intro xm_371 (And.intro mi_371 (And.intro ⟨rfl, rfl, rfl, rfl⟩ (And.intro rfl ?_)))
          refine fcall _ h0 (fzs_sub (by decide +kernel) hW) hB37 (ct_M_sum_b35c2 (fBz h0 hB37) (by omega) (by omega) (by omega) (by omega) (by omega)) ?_
          rintro IhB44 _ hB44 fhB44 ⟨z43, rfl, hz43, g0z43, g1z43⟩
          have k45 := fBz_eq hB44 (a := 740) (j := 8) (by decide +kernel)
          have k46 := fBz_eq hB44 (a := 740) (j := 17) (by decide +kernel)
          refine And.intro (by omega) (And.intro ?_ ?_)
          · intro c47
            refine Exists.intro xm_421 (And.intro mi_421 (And.intro ⟨rfl, rfl, rfl, rfl⟩ (And.intro rfl ?_)))
            refine fcall _ h0 (fzs_sub (by decide +kernel) hW) hB44 (ct_M_step_2c704 (fBz h0 hB44) (by omega) (by omega) (by omega) (by omega)) ?_
            rintro IhB49 _ hB49 fhB49 ⟨rfl, hz48, g0z48⟩
            have t50 := fhB49 740 9 (by decide +kernel)
            have t51 := fhB49 740 10 (by decide +kernel)
            have t52 := fhB49 740 11 (by decide +kernel)
            have t53 := fhB49 740 13 (by decide +kernel)
            have t54 := fhB49 740 14 (by decide +kernel)
            have t55 := fhB49 740 15 (by decide +kernel)
            have k56 := fBz_eq hB49 (a := 740) (j := 8) (by decide +kernel)
            have k57 := fBz_eq hB49 (a := 740) (j := 17) (by decide +kernel)
            refine And.intro (⟨by omega, by omega⟩) ?_
            exact ⟨_, rfl, by omega, (by first | exact par_be g0z1 (fFr_S fhB37 (by decide +kernel)) g0z43 g0z48 (by omega) (by omega) (by omega) (by omega) | exact g0z1), (fun _ => by first | exact par_one (by omega) (g1z1 (by omega)) (fFr_S fhB37 (by decide +kernel)) g0z43 (g1z43 (by omega)) g0z48 (by omega) (by omega) (by omega) (by omega) (by omega) (by omega) | exact g1z1 (by omega))⟩
          · intro c58
            refine And.intro (⟨by omega, by omega⟩) ?_
            exact ⟨_, rfl, by omega, (par_bel g0z1 (fFr_S fhB37 (by decide +kernel)) g0z43 (by omega) (by omega)), (fun q => absurd q (by omega))⟩
        · intro c59
          refine Exists.intro xm_423 (And.intro mi_423 (And.intro ⟨rfl, rfl, rfl, rfl⟩ (And.intro rfl ?_)))
          refine fcallp hB2 (ct_M_isSign_90da9 (fBz h0 hB2) (by omega)) ?_
          rintro _ ⟨z60, rfl, hz60⟩
          refine And.intro (by omega) (And.intro ?_ ?_)
          · intro c61
            refine And.intro (⟨by omega, by omega⟩) ?_
            exact ⟨_, rfl, by omega, (by first | exact par_be g0z1 (fFr_S fhB37 (by decide +kernel)) g0z43 g0z48 (by omega) (by omega) (by omega) (by omega) | exact g0z1), (fun _ => by first | exact par_one (by omega) (g1z1 (by omega)) (fFr_S fhB37 (by decide +kernel)) g0z43 (g1z43 (by omega)) g0z48 (by omega) (by omega) (by omega) (by omega) (by omega) (by omega) | exact g1z1 (by omega))⟩
          · intro c62
            refine And.intro ⟨rfl, by decide, by decide⟩ (fgetf fb_740_13 h0 hB2 ?_)
            intro z63 lz63 uz63 qz63
            refine Exists.intro xm_314 (And.intro mi_314 (And.intro ⟨rfl, rfl, rfl, rfl⟩ (And.intro rfl ?_)))
            refine fcall _ h0 (fzs_sub (by decide +kernel) hW) hB2 (ct_M_next_c8003 (fBz h0 hB2) (by omega)) ?_
            rintro IhB65 _ hB65 fhB65 ⟨rfl, hz64⟩
            have t66 := fhB65 740 14 (by decide +kernel)
            have t67 := fhB65 740 15 (by decide +kernel)
            have t68 := fhB65 740 16 (by decide +kernel)
            have k69 := fBz_eq hB65 (a := 740) (j := 8) (by decide +kernel)
            have k70 := fBz_eq hB65 (a := 740) (j := 17) (by decide +kernel)
            refine Exists.intro xm_371 (And.intro mi_371 (And.intro ⟨rfl, rfl, rfl, rfl⟩ (And.intro rfl ?_)))
            refine fcall _ h0 (fzs_sub (by decide +kernel) hW) hB65 (ct_M_sum_b35c2 (fBz h0 hB65) (by omega) (by omega) (by omega) (by omega) (by omega)) ?_
            rintro IhB72 _ hB72 fhB72 ⟨z71, rfl, hz71, g0z71, g1z71⟩
            have k73 := fBz_eq hB72 (a := 740) (j := 8) (by decide +kernel)
            have k74 := fBz_eq hB72 (a := 740) (j := 17) (by decide +kernel)
            refine And.intro (by omega) (And.intro ?_ ?_)
            · intro c75
              refine Exists.intro xm_421 (And.intro mi_421 (And.intro ⟨rfl, rfl, rfl, rfl⟩ (And.intro rfl ?_)))
              refine fcall _ h0 (fzs_sub (by decide +kernel) hW) hB72 (ct_M_step_2c704 (fBz h0 hB72) (by omega) (by omega) (by omega) (by omega)) ?_
              rintro IhB77 _ hB77 fhB77 ⟨rfl, hz76, g0z76⟩
              have t78 := fhB77 740 9 (by decide +kernel)
              have t79 := fhB77 740 10 (by decide +kernel)
              have t80 := fhB77 740 11 (by decide +kernel)
              have t81 := fhB77 740 13 (by decide +kernel)
              have t82 := fhB77 740 14 (by decide +kernel)
              have t83 := fhB77 740 15 (by decide +kernel)
              have k84 := fBz_eq hB77 (a := 740) (j := 8) (by decide +kernel)
              have k85 := fBz_eq hB77 (a := 740) (j := 17) (by decide +kernel)
              refine And.intro (⟨by omega, by omega⟩) ?_
              exact ⟨_, rfl, by omega, (by first | exact par_be g0z1 (fFr_S fhB65 (by decide +kernel)) g0z71 g0z76 (by omega) (by omega) (by omega) (by omega) | exact g0z1), (fun _ => by first | exact par_one (by omega) (g1z1 (by omega)) (fFr_S fhB65 (by decide +kernel)) g0z71 (g1z71 (by omega)) g0z76 (by omega) (by omega) (by omega) (by omega) (by omega) (by omega) | exact g1z1 (by omega))⟩
            · intro c86
              refine And.intro (⟨by omega, by omega⟩) ?_
              exact ⟨_, rfl, by omega, (par_bel g0z1 (fFr_S fhB65 (by decide +kernel)) g0z71 (by omega) (by omega)), (fun q => absurd q (by omega))⟩
    · intro c87
      refine And.intro (⟨by omega, by omega⟩) ?_
      exact ⟨_, rfl, by omega, g0z1, (fun q => absurd q (by omega))⟩
abbrev jc_M_both_f2598_10 (I0 : fH) : Nat → fL → List fV → fH → Prop := fun m lv st I => ∃ (y1 : Int), lv = [(0, .inr (.inr (some 740))), (1, .inl y1)] ∧ st = [] ∧ ((((-1) ≤ y1 ∧ y1 ≤ 5) ∧ (I0 740 9 ≤ I 740 9) ∧ (I 740 9 ≤ I 740 10) ∧ (I 740 10 ≤ I 740 8) ∧ (I 740 11 = 0 ∨ I 740 9 < I 740 10) ∧ (I0 740 16 ≤ I 740 16) ∧ (I 740 16 - I0 740 16 ≤ I 740 9 - I0 740 9) ∧ (I 740 14 = I0 740 14) ∧ (I 740 15 = I0 740 15)) ∧ (sBe I0 I (I0 740 17) (I0 740 16)) ∧ (sOne I (I0 740 17) (I0 740 16) (I 740 16))) ∧ m = (1 + 1 * (96 - I 740 9) : Int).toNat
set_option maxRecDepth 8000 in
theorem ct_M_both_f2598 {I : fH} {x1 : Int} (h0 : fB bsJ I) (ha1 : ((-1) ≤ x1 ∧ x1 ≤ 5)) (hp0 : I 740 9 ≤ I 740 10 ∧ I 740 10 ≤ I 740 8 ∧ (I 740 11 = 0 ∨ I 740 9 < I 740 10)) (hp1 : 0 ≤ I 740 16 ∧ I 740 16 ≤ I 740 9) (hp2 : 15 ≤ I 740 14 + I 740 15) (hp3 : (1215 ≤ I 740 17 ∧ I 740 17 ≤ 3415 ∧ (I 740 17 - 1215) % 200 = 0) ∨ I 740 17 = 4700) : fC ρ base n F xTc vwCl xTys D dA la gJ (fbz bsJ znJ (fKc wz_2212a) I) xm_337 [.inr (.inr (some 740)), .inl x1] I (fun I' r => ∃ z, r = some (.inl z) ∧ ((0 ≤ z ∧ z ≤ 1) ∧ (I 740 9 ≤ I' 740 9 ∧ I' 740 9 ≤ I' 740 10 ∧ I' 740 10 ≤ I' 740 8 ∧ (I' 740 11 = 0 ∨ I' 740 9 < I' 740 10) ∧ (z = 1 → I 740 16 ≤ I' 740 16 ∧ I' 740 16 - I 740 16 ≤ I' 740 9 - I 740 9 ∧ I' 740 14 = I 740 14 ∧ I' 740 15 = I 740 15))) ∧ (sBe I I' (I 740 17) (I 740 16)) ∧ (z = 1 → sOne I' (I 740 17) (I 740 16) (I' 740 16))) := by
  have hW : fzs wz_2212a (fKc wz_2212a) := fKc_ok _
  refine f_meth (rb := rbJ) (J := [(10, (jc_M_both_f2598_10 I))]) 98 400 xG xin_337 x6_337 okJ (fB_self h0) ?_ ?_
  · refine List.forall_mem_cons.mpr ⟨?_, fun q h => absurd h List.not_mem_nil⟩
    · rintro m _ _ I1 hB1 ⟨y1, rfl, rfl, ⟨hb, hx0, hx1⟩, hm⟩
      have k1 := fBz_eq hB1 (a := 740) (j := 8) (by decide +kernel)
      have k2 := fBz_eq hB1 (a := 740) (j := 17) (by decide +kernel)
      refine Exists.intro xm_423 (And.intro mi_423 (And.intro ⟨rfl, rfl, rfl, rfl⟩ (And.intro rfl ?_)))
      refine fcallp hB1 (ct_M_isSign_90da9 (fBz h0 hB1) (by omega)) ?_
      rintro _ ⟨z3, rfl, hz3⟩
      refine And.intro (by omega) (And.intro ?_ ?_)
      · intro c4
        refine And.intro (⟨by omega, by omega⟩) ?_
        exact ⟨_, rfl, by omega, hx0, (fun _ => hx1)⟩
      · intro c5
        refine Exists.intro xm_314 (And.intro mi_314 (And.intro ⟨rfl, rfl, rfl, rfl⟩ (And.intro rfl ?_)))
        refine fcall _ h0 (fzs_sub (by decide +kernel) hW) hB1 (ct_M_next_c8003 (fBz h0 hB1) (by omega)) ?_
        rintro IhB7 _ hB7 fhB7 ⟨rfl, hz6⟩
        have t8 := fhB7 740 14 (by decide +kernel)
        have t9 := fhB7 740 15 (by decide +kernel)
        have t10 := fhB7 740 16 (by decide +kernel)
        have k11 := fBz_eq hB7 (a := 740) (j := 8) (by decide +kernel)
        have k12 := fBz_eq hB7 (a := 740) (j := 17) (by decide +kernel)
        refine Exists.intro xm_354 (And.intro mi_354 (And.intro ⟨rfl, rfl, rfl, rfl⟩ (And.intro rfl ?_)))
        refine fcall _ h0 (fzs_sub (by decide +kernel) hW) hB7 (ct_M_test_0612d (fBz h0 hB7) (by omega) (by omega) (by omega) (by omega) (by omega)) ?_
        rintro IhB14 _ hB14 fhB14 ⟨z13, rfl, hz13, g0z13, g1z13⟩
        have k15 := fBz_eq hB14 (a := 740) (j := 8) (by decide +kernel)
        have k16 := fBz_eq hB14 (a := 740) (j := 17) (by decide +kernel)
        refine And.intro (by omega) (And.intro ?_ ?_)
        · intro c17
          refine Exists.intro xm_421 (And.intro mi_421 (And.intro ⟨rfl, rfl, rfl, rfl⟩ (And.intro rfl ?_)))
          refine fcall _ h0 (fzs_sub (by decide +kernel) hW) hB14 (ct_M_step_2c704 (fBz h0 hB14) (by omega) (by omega) (by omega) (by omega)) ?_
          rintro IhB19 _ hB19 fhB19 ⟨rfl, hz18, g0z18⟩
          have t20 := fhB19 740 9 (by decide +kernel)
          have t21 := fhB19 740 10 (by decide +kernel)
          have t22 := fhB19 740 11 (by decide +kernel)
          have t23 := fhB19 740 13 (by decide +kernel)
          have t24 := fhB19 740 14 (by decide +kernel)
          have t25 := fhB19 740 15 (by decide +kernel)
          have k26 := fBz_eq hB19 (a := 740) (j := 8) (by decide +kernel)
          have k27 := fBz_eq hB19 (a := 740) (j := 17) (by decide +kernel)
          exact fcutJ (I := IhB19) (j := (jc_M_both_f2598_10 I)) (lv' := [(0, .inr (.inr (some 740))), (1, .inl _)]) (And.intro rfl (And.intro rfl True.intro)) ⟨_, rfl, rfl, ⟨by omega, (par_be hx0 (fFr_S fhB7 (by decide +kernel)) g0z13 g0z18 (by omega) (by omega) (by omega) (by omega)), (par_one (by omega) hx1 (fFr_S fhB7 (by decide +kernel)) g0z13 (g1z13 (by omega)) g0z18 (by omega) (by omega) (by omega) (by omega) (by omega) (by omega))⟩, rfl⟩ (by omega)
        · intro c28
          refine And.intro (⟨by omega, by omega⟩) ?_
          exact ⟨_, rfl, by omega, (par_bel hx0 (fFr_S fhB7 (by decide +kernel)) g0z13 (by omega) (by omega)), (fun q => absurd q (by omega))⟩
  · have hB0 := fB_self (zn := znJ) (K := fKc wz_2212a) h0
    refine Exists.intro xm_354 (And.intro mi_354 (And.intro ⟨rfl, rfl, rfl, rfl⟩ (And.intro rfl ?_)))
    refine fcall _ h0 (fzs_sub (by decide +kernel) hW) hB0 (ct_M_test_0612d (fBz h0 hB0) (by omega) (by omega) (by omega) (by omega) (by omega)) ?_
    rintro IhB30 _ hB30 fhB30 ⟨z29, rfl, hz29, g0z29, g1z29⟩
    have k31 := fBz_eq hB30 (a := 740) (j := 8) (by decide +kernel)
    have k32 := fBz_eq hB30 (a := 740) (j := 17) (by decide +kernel)
    refine And.intro (by omega) (And.intro ?_ ?_)
    · intro c33
      exact fcutJ (I := IhB30) (j := (jc_M_both_f2598_10 I)) (lv' := [(0, .inr (.inr (some 740))), (1, .inl _)]) (And.intro rfl (And.intro rfl True.intro)) ⟨_, rfl, rfl, ⟨by omega, g0z29, (g1z29 (by omega))⟩, rfl⟩ (by omega)
    · intro c34
      refine And.intro (⟨by omega, by omega⟩) ?_
      exact ⟨_, rfl, by omega, g0z29, (fun q => absurd q (by omega))⟩
abbrev jc_M_either_94715_10 (I0 : fH) : Nat → fL → List fV → fH → Prop := fun m lv st I => ∃ (y1 : Int), lv = [(0, .inr (.inr (some 740))), (1, .inl y1)] ∧ st = [] ∧ ((((-1) ≤ y1 ∧ y1 ≤ 5) ∧ (I0 740 9 ≤ I 740 9) ∧ (I 740 9 ≤ I 740 10) ∧ (I 740 10 ≤ I 740 8) ∧ (I 740 11 = 0 ∨ I 740 9 < I 740 10) ∧ (I0 740 16 ≤ I 740 16) ∧ (I 740 16 - I0 740 16 ≤ I 740 9 - I0 740 9) ∧ (I 740 14 = I0 740 14) ∧ (I 740 15 = I0 740 15)) ∧ (sBe I0 I (I0 740 17) (I0 740 16)) ∧ (sOne I (I0 740 17) (I0 740 16) (I 740 16))) ∧ m = (1 + 1 * (96 - I 740 9) : Int).toNat
set_option maxRecDepth 8000 in
theorem ct_M_either_94715 {I : fH} {x1 : Int} (h0 : fB bsJ I) (ha1 : ((-1) ≤ x1 ∧ x1 ≤ 5)) (hp0 : I 740 9 ≤ I 740 10 ∧ I 740 10 ≤ I 740 8 ∧ (I 740 11 = 0 ∨ I 740 9 < I 740 10)) (hp1 : 0 ≤ I 740 16 ∧ I 740 16 ≤ I 740 9) (hp2 : 15 ≤ I 740 14 + I 740 15) (hp3 : (1215 ≤ I 740 17 ∧ I 740 17 ≤ 3415 ∧ (I 740 17 - 1215) % 200 = 0) ∨ I 740 17 = 4700) : fC ρ base n F xTc vwCl xTys D dA la gJ (fbz bsJ znJ (fKc wz_2212a) I) xm_320 [.inr (.inr (some 740)), .inl x1] I (fun I' r => ∃ z, r = some (.inl z) ∧ ((0 ≤ z ∧ z ≤ 1) ∧ (I 740 9 ≤ I' 740 9 ∧ I' 740 9 ≤ I' 740 10 ∧ I' 740 10 ≤ I' 740 8 ∧ (I' 740 11 = 0 ∨ I' 740 9 < I' 740 10) ∧ (z = 1 → I 740 16 ≤ I' 740 16 ∧ I' 740 16 - I 740 16 ≤ I' 740 9 - I 740 9 ∧ I' 740 14 = I 740 14 ∧ I' 740 15 = I 740 15))) ∧ (sBe I I' (I 740 17) (I 740 16)) ∧ (z = 1 → sOne I' (I 740 17) (I 740 16) (I' 740 16))) := by
  have hW : fzs wz_2212a (fKc wz_2212a) := fKc_ok _
  refine f_meth (rb := rbJ) (J := [(10, (jc_M_either_94715_10 I))]) 98 400 xG xin_320 x6_320 okJ (fB_self h0) ?_ ?_
  · refine List.forall_mem_cons.mpr ⟨?_, fun q h => absurd h List.not_mem_nil⟩
    · rintro m _ _ I1 hB1 ⟨y1, rfl, rfl, ⟨hb, hx0, hx1⟩, hm⟩
      have k1 := fBz_eq hB1 (a := 740) (j := 8) (by decide +kernel)
      have k2 := fBz_eq hB1 (a := 740) (j := 17) (by decide +kernel)
      refine Exists.intro xm_423 (And.intro mi_423 (And.intro ⟨rfl, rfl, rfl, rfl⟩ (And.intro rfl ?_)))
      refine fcallp hB1 (ct_M_isSign_90da9 (fBz h0 hB1) (by omega)) ?_
      rintro _ ⟨z3, rfl, hz3⟩
      refine And.intro (by omega) (And.intro ?_ ?_)
      · intro c4
        refine And.intro (⟨by omega, by omega⟩) ?_
        exact ⟨_, rfl, by omega, hx0, (fun _ => hx1)⟩
      · intro c5
        refine Exists.intro xm_314 (And.intro mi_314 (And.intro ⟨rfl, rfl, rfl, rfl⟩ (And.intro rfl ?_)))
        refine fcall _ h0 (fzs_sub (by decide +kernel) hW) hB1 (ct_M_next_c8003 (fBz h0 hB1) (by omega)) ?_
        rintro IhB7 _ hB7 fhB7 ⟨rfl, hz6⟩
        have t8 := fhB7 740 14 (by decide +kernel)
        have t9 := fhB7 740 15 (by decide +kernel)
        have t10 := fhB7 740 16 (by decide +kernel)
        have k11 := fBz_eq hB7 (a := 740) (j := 8) (by decide +kernel)
        have k12 := fBz_eq hB7 (a := 740) (j := 17) (by decide +kernel)
        refine Exists.intro xm_337 (And.intro mi_337 (And.intro ⟨rfl, rfl, rfl, rfl⟩ (And.intro rfl ?_)))
        refine fcall _ h0 (fzs_sub (by decide +kernel) hW) hB7 (ct_M_both_f2598 (fBz h0 hB7) (by omega) (by omega) (by omega) (by omega) (by omega)) ?_
        rintro IhB14 _ hB14 fhB14 ⟨z13, rfl, hz13, g0z13, g1z13⟩
        have k15 := fBz_eq hB14 (a := 740) (j := 8) (by decide +kernel)
        have k16 := fBz_eq hB14 (a := 740) (j := 17) (by decide +kernel)
        refine And.intro (by omega) (And.intro ?_ ?_)
        · intro c17
          refine Exists.intro xm_421 (And.intro mi_421 (And.intro ⟨rfl, rfl, rfl, rfl⟩ (And.intro rfl ?_)))
          refine fcall _ h0 (fzs_sub (by decide +kernel) hW) hB14 (ct_M_step_2c704 (fBz h0 hB14) (by omega) (by omega) (by omega) (by omega)) ?_
          rintro IhB19 _ hB19 fhB19 ⟨rfl, hz18, g0z18⟩
          have t20 := fhB19 740 9 (by decide +kernel)
          have t21 := fhB19 740 10 (by decide +kernel)
          have t22 := fhB19 740 11 (by decide +kernel)
          have t23 := fhB19 740 13 (by decide +kernel)
          have t24 := fhB19 740 14 (by decide +kernel)
          have t25 := fhB19 740 15 (by decide +kernel)
          have k26 := fBz_eq hB19 (a := 740) (j := 8) (by decide +kernel)
          have k27 := fBz_eq hB19 (a := 740) (j := 17) (by decide +kernel)
          exact fcutJ (I := IhB19) (j := (jc_M_either_94715_10 I)) (lv' := [(0, .inr (.inr (some 740))), (1, .inl _)]) (And.intro rfl (And.intro rfl True.intro)) ⟨_, rfl, rfl, ⟨by omega, (par_be hx0 (fFr_S fhB7 (by decide +kernel)) g0z13 g0z18 (by omega) (by omega) (by omega) (by omega)), (par_one (by omega) hx1 (fFr_S fhB7 (by decide +kernel)) g0z13 (g1z13 (by omega)) g0z18 (by omega) (by omega) (by omega) (by omega) (by omega) (by omega))⟩, rfl⟩ (by omega)
        · intro c28
          refine And.intro (⟨by omega, by omega⟩) ?_
          exact ⟨_, rfl, by omega, (par_bel hx0 (fFr_S fhB7 (by decide +kernel)) g0z13 (by omega) (by omega)), (fun q => absurd q (by omega))⟩
  · have hB0 := fB_self (zn := znJ) (K := fKc wz_2212a) h0
    refine Exists.intro xm_337 (And.intro mi_337 (And.intro ⟨rfl, rfl, rfl, rfl⟩ (And.intro rfl ?_)))
    refine fcall _ h0 (fzs_sub (by decide +kernel) hW) hB0 (ct_M_both_f2598 (fBz h0 hB0) (by omega) (by omega) (by omega) (by omega) (by omega)) ?_
    rintro IhB30 _ hB30 fhB30 ⟨z29, rfl, hz29, g0z29, g1z29⟩
    have k31 := fBz_eq hB30 (a := 740) (j := 8) (by decide +kernel)
    have k32 := fBz_eq hB30 (a := 740) (j := 17) (by decide +kernel)
    refine And.intro (by omega) (And.intro ?_ ?_)
    · intro c33
      exact fcutJ (I := IhB30) (j := (jc_M_either_94715_10 I)) (lv' := [(0, .inr (.inr (some 740))), (1, .inl _)]) (And.intro rfl (And.intro rfl True.intro)) ⟨_, rfl, rfl, ⟨by omega, g0z29, (g1z29 (by omega))⟩, rfl⟩ (by omega)
    · intro c34
      refine And.intro (⟨by omega, by omega⟩) ?_
      exact ⟨_, rfl, by omega, g0z29, (fun q => absurd q (by omega))⟩
set_option maxRecDepth 8000 in
theorem ct_M_part0_08c48 {I : fH} {x1 : Int} (h0 : fB bsJ I) (ha1 : ((-1) ≤ x1 ∧ x1 ≤ 5)) (hp0 : I 740 9 ≤ I 740 10 ∧ I 740 10 ≤ I 740 8 ∧ (I 740 11 = 0 ∨ I 740 9 < I 740 10)) (hp1 : 0 ≤ I 740 16 ∧ I 740 16 ≤ I 740 9) (hp2 : 14 ≤ I 740 14 + I 740 15) (hp3 : (1215 ≤ I 740 17 ∧ I 740 17 ≤ 3415 ∧ (I 740 17 - 1215) % 200 = 0) ∨ I 740 17 = 4700) : fC ρ base n F xTc vwCl xTys D dA la gJ (fbz bsJ znJ (fKc wz_2212a) I) xm_406 [.inr (.inr (some 740)), .inl x1] I (fun I' r => ∃ z, r = some (.inl z) ∧ ((0 ≤ z ∧ z ≤ 1) ∧ (I 740 9 ≤ I' 740 9 ∧ I' 740 9 ≤ I' 740 10 ∧ I' 740 10 ≤ I' 740 8 ∧ (I' 740 11 = 0 ∨ I' 740 9 < I' 740 10) ∧ (z = 1 → I 740 16 ≤ I' 740 16 ∧ I' 740 16 - I 740 16 ≤ I' 740 9 - I 740 9 ∧ I' 740 14 = I 740 14 ∧ I' 740 15 = I 740 15))) ∧ (sBe I I' (I 740 17) (I 740 16)) ∧ (z = 1 → sOne I' (I 740 17) (I 740 16) (I' 740 16))) := by
  have hW : fzs wz_2212a (fKc wz_2212a) := fKc_ok _
  refine f_meth (rb := rbJ) (J := []) 1 400 xG xin_406 x6_406 okJ (fB_self h0) ?_ ?_
  · exact fun q h => absurd h List.not_mem_nil
  · have hB0 := fB_self (zn := znJ) (K := fKc wz_2212a) h0
    refine And.intro ⟨rfl, by decide, by decide⟩ (fgetf fb_740_11 h0 hB0 ?_)
    intro z1 lz1 uz1 qz1
    refine And.intro (by omega) (And.intro ?_ ?_)
    · intro c2
      refine And.intro ⟨rfl, by decide, by decide⟩ (fgetf fb_740_11 h0 hB0 ?_)
      intro z3 lz3 uz3 qz3
      refine And.intro (by omega) (And.intro ?_ ?_)
      · intro c4
        refine Exists.intro xm_423 (And.intro mi_423 (And.intro ⟨rfl, rfl, rfl, rfl⟩ (And.intro rfl ?_)))
        refine fcallp hB0 (ct_M_isSign_90da9 (fBz h0 hB0) (by omega)) ?_
        rintro _ ⟨z5, rfl, hz5⟩
        refine And.intro (by omega) (And.intro ?_ ?_)
        · intro c6
          refine Exists.intro xm_423 (And.intro mi_423 (And.intro ⟨rfl, rfl, rfl, rfl⟩ (And.intro rfl ?_)))
          refine fcallp hB0 (ct_M_isSign_90da9 (fBz h0 hB0) (by omega)) ?_
          rintro _ ⟨z7, rfl, hz7⟩
          refine And.intro (by omega) (And.intro ?_ ?_)
          · intro c8
            refine And.intro (⟨by omega, by omega⟩) ?_
            exact ⟨_, rfl, by omega, sBe_refl, (fun q => absurd q (by omega))⟩
          · intro c9
            refine And.intro ⟨rfl, by decide, by decide⟩ (fgetf fb_740_14 h0 hB0 ?_)
            intro z10 lz10 uz10 qz10
            refine And.intro (by omega) (And.intro ?_ ?_)
            · intro c11
              refine And.intro ⟨rfl, by decide, by decide⟩ (fgetf fb_740_14 h0 hB0 ?_)
              intro z12 lz12 uz12 qz12
              refine And.intro ⟨rfl, by decide, by decide⟩ (And.intro rfl (And.intro (Or.inl rfl) (fputf fb_740_14 (by decide +kernel) hW (by omega) ?_)))
              intro IhB13 ehB13 hB13
              have t14 : IhB13 740 9 = I 740 9 := (congrFun (congrFun ehB13 740) 9).trans (fup_ne (by omega))
              have t15 : IhB13 740 10 = I 740 10 := (congrFun (congrFun ehB13 740) 10).trans (fup_ne (by omega))
              have t16 : IhB13 740 11 = I 740 11 := (congrFun (congrFun ehB13 740) 11).trans (fup_ne (by omega))
              have t17 : IhB13 740 13 = I 740 13 := (congrFun (congrFun ehB13 740) 13).trans (fup_ne (by omega))
              have t18 := fup_at ehB13 14 (by omega)
              have t19 : IhB13 740 15 = I 740 15 := (congrFun (congrFun ehB13 740) 15).trans (fup_ne (by omega))
              have t20 : IhB13 740 16 = I 740 16 := (congrFun (congrFun ehB13 740) 16).trans (fup_ne (by omega))
              have k21 := fBz_eq hB13 (a := 740) (j := 8) (by decide +kernel)
              have k22 := fBz_eq hB13 (a := 740) (j := 17) (by decide +kernel)
              refine Exists.intro xm_314 (And.intro mi_314 (And.intro ⟨rfl, rfl, rfl, rfl⟩ (And.intro rfl ?_)))
              refine fcall _ h0 (fzs_sub (by decide +kernel) hW) hB13 (ct_M_next_c8003 (fBz h0 hB13) (by omega)) ?_
              rintro IhB24 _ hB24 fhB24 ⟨rfl, hz23⟩
              have t25 := fhB24 740 14 (by decide +kernel)
              have t26 := fhB24 740 15 (by decide +kernel)
              have t27 := fhB24 740 16 (by decide +kernel)
              have k28 := fBz_eq hB24 (a := 740) (j := 8) (by decide +kernel)
              have k29 := fBz_eq hB24 (a := 740) (j := 17) (by decide +kernel)
              refine Exists.intro xm_320 (And.intro mi_320 (And.intro ⟨rfl, rfl, rfl, rfl⟩ (And.intro rfl ?_)))
              refine fcall _ h0 (fzs_sub (by decide +kernel) hW) hB24 (ct_M_either_94715 (fBz h0 hB24) (by omega) (by omega) (by omega) (by omega) (by omega)) ?_
              rintro IhB31 _ hB31 fhB31 ⟨z30, rfl, hz30, g0z30, g1z30⟩
              have k32 := fBz_eq hB31 (a := 740) (j := 8) (by decide +kernel)
              have k33 := fBz_eq hB31 (a := 740) (j := 17) (by decide +kernel)
              refine And.intro (by omega) (And.intro ?_ ?_)
              · intro c34
                refine And.intro (⟨by omega, by omega⟩) ?_
                exact ⟨_, rfl, by omega, (par_be0 (fun j => (fFr_S fhB24 (by decide +kernel) j).trans (fup_other ehB13 741 j (Or.inl (by decide)))) g0z30 (by omega) (by omega)), (fun q => absurd q (by omega))⟩
              · intro c35
                refine Exists.intro xm_423 (And.intro mi_423 (And.intro ⟨rfl, rfl, rfl, rfl⟩ (And.intro rfl ?_)))
                refine fcallp hB31 (ct_M_isSign_90da9 (fBz h0 hB31) (by omega)) ?_
                rintro _ ⟨z36, rfl, hz36⟩
                refine And.intro (by omega) (And.intro ?_ ?_)
                · intro c37
                  refine And.intro ⟨rfl, by decide, by decide⟩ (fgetf fb_740_14 h0 hB31 ?_)
                  intro z38 lz38 uz38 qz38
                  refine And.intro ⟨rfl, by decide, by decide⟩ (And.intro rfl (And.intro (Or.inl rfl) (fputf fb_740_14 (by decide +kernel) hW (by omega) ?_)))
                  intro IhB39 ehB39 hB39
                  have t40 : IhB39 740 9 = IhB31 740 9 := (congrFun (congrFun ehB39 740) 9).trans (fup_ne (by omega))
                  have t41 : IhB39 740 10 = IhB31 740 10 := (congrFun (congrFun ehB39 740) 10).trans (fup_ne (by omega))
                  have t42 : IhB39 740 11 = IhB31 740 11 := (congrFun (congrFun ehB39 740) 11).trans (fup_ne (by omega))
                  have t43 : IhB39 740 13 = IhB31 740 13 := (congrFun (congrFun ehB39 740) 13).trans (fup_ne (by omega))
                  have t44 := fup_at ehB39 14 (by omega)
                  have t45 : IhB39 740 15 = IhB31 740 15 := (congrFun (congrFun ehB39 740) 15).trans (fup_ne (by omega))
                  have t46 : IhB39 740 16 = IhB31 740 16 := (congrFun (congrFun ehB39 740) 16).trans (fup_ne (by omega))
                  have k47 := fBz_eq hB39 (a := 740) (j := 8) (by decide +kernel)
                  have k48 := fBz_eq hB39 (a := 740) (j := 17) (by decide +kernel)
                  refine Exists.intro xm_314 (And.intro mi_314 (And.intro ⟨rfl, rfl, rfl, rfl⟩ (And.intro rfl ?_)))
                  refine fcall _ h0 (fzs_sub (by decide +kernel) hW) hB39 (ct_M_next_c8003 (fBz h0 hB39) (by omega)) ?_
                  rintro IhB50 _ hB50 fhB50 ⟨rfl, hz49⟩
                  have t51 := fhB50 740 14 (by decide +kernel)
                  have t52 := fhB50 740 15 (by decide +kernel)
                  have t53 := fhB50 740 16 (by decide +kernel)
                  have k54 := fBz_eq hB50 (a := 740) (j := 8) (by decide +kernel)
                  have k55 := fBz_eq hB50 (a := 740) (j := 17) (by decide +kernel)
                  refine And.intro (⟨by omega, by omega⟩) ?_
                  exact ⟨_, rfl, by omega, (par_par (by omega) (fun j => (fFr_S fhB24 (by decide +kernel) j).trans (fup_other ehB13 741 j (Or.inl (by decide)))) g0z30 (g1z30 (by omega)) (fun j => (fFr_S fhB50 (by decide +kernel) j).trans (fup_other ehB39 741 j (Or.inl (by decide)))) (by omega) (by omega) (by omega)).1, (fun _ => (par_par (by omega) (fun j => (fFr_S fhB24 (by decide +kernel) j).trans (fup_other ehB13 741 j (Or.inl (by decide)))) g0z30 (g1z30 (by omega)) (fun j => (fFr_S fhB50 (by decide +kernel) j).trans (fup_other ehB39 741 j (Or.inl (by decide)))) (by omega) (by omega) (by omega)).2)⟩
                · intro c56
                  refine And.intro (⟨by omega, by omega⟩) ?_
                  exact ⟨_, rfl, by omega, (par_be0 (fun j => (fFr_S fhB24 (by decide +kernel) j).trans (fup_other ehB13 741 j (Or.inl (by decide)))) g0z30 (by omega) (by omega)), (fun q => absurd q (by omega))⟩
            · intro c57
              refine And.intro (⟨by omega, by omega⟩) ?_
              exact ⟨_, rfl, by omega, sBe_refl, (fun q => absurd q (by omega))⟩
        · intro c58
          refine And.intro ⟨rfl, by decide, by decide⟩ (fgetf fb_740_15 h0 hB0 ?_)
          intro z59 lz59 uz59 qz59
          refine And.intro (by omega) (And.intro ?_ ?_)
          · intro c60
            refine Exists.intro xm_423 (And.intro mi_423 (And.intro ⟨rfl, rfl, rfl, rfl⟩ (And.intro rfl ?_)))
            refine fcallp hB0 (ct_M_isSign_90da9 (fBz h0 hB0) (by omega)) ?_
            rintro _ ⟨z61, rfl, hz61⟩
            refine And.intro (by omega) (And.intro ?_ ?_)
            · intro c62
              refine And.intro (⟨by omega, by omega⟩) ?_
              exact ⟨_, rfl, by omega, sBe_refl, (fun q => absurd q (by omega))⟩
            · intro c63
              refine And.intro ⟨rfl, by decide, by decide⟩ (fgetf fb_740_14 h0 hB0 ?_)
              intro z64 lz64 uz64 qz64
              refine And.intro (by omega) (And.intro ?_ ?_)
              · intro c65
                refine And.intro ⟨rfl, by decide, by decide⟩ (fgetf fb_740_14 h0 hB0 ?_)
                intro z66 lz66 uz66 qz66
                refine And.intro ⟨rfl, by decide, by decide⟩ (And.intro rfl (And.intro (Or.inl rfl) (fputf fb_740_14 (by decide +kernel) hW (by omega) ?_)))
                intro IhB67 ehB67 hB67
                have t68 : IhB67 740 9 = I 740 9 := (congrFun (congrFun ehB67 740) 9).trans (fup_ne (by omega))
                have t69 : IhB67 740 10 = I 740 10 := (congrFun (congrFun ehB67 740) 10).trans (fup_ne (by omega))
                have t70 : IhB67 740 11 = I 740 11 := (congrFun (congrFun ehB67 740) 11).trans (fup_ne (by omega))
                have t71 : IhB67 740 13 = I 740 13 := (congrFun (congrFun ehB67 740) 13).trans (fup_ne (by omega))
                have t72 := fup_at ehB67 14 (by omega)
                have t73 : IhB67 740 15 = I 740 15 := (congrFun (congrFun ehB67 740) 15).trans (fup_ne (by omega))
                have t74 : IhB67 740 16 = I 740 16 := (congrFun (congrFun ehB67 740) 16).trans (fup_ne (by omega))
                have k75 := fBz_eq hB67 (a := 740) (j := 8) (by decide +kernel)
                have k76 := fBz_eq hB67 (a := 740) (j := 17) (by decide +kernel)
                refine Exists.intro xm_314 (And.intro mi_314 (And.intro ⟨rfl, rfl, rfl, rfl⟩ (And.intro rfl ?_)))
                refine fcall _ h0 (fzs_sub (by decide +kernel) hW) hB67 (ct_M_next_c8003 (fBz h0 hB67) (by omega)) ?_
                rintro IhB78 _ hB78 fhB78 ⟨rfl, hz77⟩
                have t79 := fhB78 740 14 (by decide +kernel)
                have t80 := fhB78 740 15 (by decide +kernel)
                have t81 := fhB78 740 16 (by decide +kernel)
                have k82 := fBz_eq hB78 (a := 740) (j := 8) (by decide +kernel)
                have k83 := fBz_eq hB78 (a := 740) (j := 17) (by decide +kernel)
                refine Exists.intro xm_320 (And.intro mi_320 (And.intro ⟨rfl, rfl, rfl, rfl⟩ (And.intro rfl ?_)))
                refine fcall _ h0 (fzs_sub (by decide +kernel) hW) hB78 (ct_M_either_94715 (fBz h0 hB78) (by omega) (by omega) (by omega) (by omega) (by omega)) ?_
                rintro IhB85 _ hB85 fhB85 ⟨z84, rfl, hz84, g0z84, g1z84⟩
                have k86 := fBz_eq hB85 (a := 740) (j := 8) (by decide +kernel)
                have k87 := fBz_eq hB85 (a := 740) (j := 17) (by decide +kernel)
                refine And.intro (by omega) (And.intro ?_ ?_)
                · intro c88
                  refine And.intro (⟨by omega, by omega⟩) ?_
                  exact ⟨_, rfl, by omega, (par_be0 (fun j => (fFr_S fhB78 (by decide +kernel) j).trans (fup_other ehB67 741 j (Or.inl (by decide)))) g0z84 (by omega) (by omega)), (fun q => absurd q (by omega))⟩
                · intro c89
                  refine Exists.intro xm_423 (And.intro mi_423 (And.intro ⟨rfl, rfl, rfl, rfl⟩ (And.intro rfl ?_)))
                  refine fcallp hB85 (ct_M_isSign_90da9 (fBz h0 hB85) (by omega)) ?_
                  rintro _ ⟨z90, rfl, hz90⟩
                  refine And.intro (by omega) (And.intro ?_ ?_)
                  · intro c91
                    refine And.intro ⟨rfl, by decide, by decide⟩ (fgetf fb_740_14 h0 hB85 ?_)
                    intro z92 lz92 uz92 qz92
                    refine And.intro ⟨rfl, by decide, by decide⟩ (And.intro rfl (And.intro (Or.inl rfl) (fputf fb_740_14 (by decide +kernel) hW (by omega) ?_)))
                    intro IhB93 ehB93 hB93
                    have t94 : IhB93 740 9 = IhB85 740 9 := (congrFun (congrFun ehB93 740) 9).trans (fup_ne (by omega))
                    have t95 : IhB93 740 10 = IhB85 740 10 := (congrFun (congrFun ehB93 740) 10).trans (fup_ne (by omega))
                    have t96 : IhB93 740 11 = IhB85 740 11 := (congrFun (congrFun ehB93 740) 11).trans (fup_ne (by omega))
                    have t97 : IhB93 740 13 = IhB85 740 13 := (congrFun (congrFun ehB93 740) 13).trans (fup_ne (by omega))
                    have t98 := fup_at ehB93 14 (by omega)
                    have t99 : IhB93 740 15 = IhB85 740 15 := (congrFun (congrFun ehB93 740) 15).trans (fup_ne (by omega))
                    have t100 : IhB93 740 16 = IhB85 740 16 := (congrFun (congrFun ehB93 740) 16).trans (fup_ne (by omega))
                    have k101 := fBz_eq hB93 (a := 740) (j := 8) (by decide +kernel)
                    have k102 := fBz_eq hB93 (a := 740) (j := 17) (by decide +kernel)
                    refine Exists.intro xm_314 (And.intro mi_314 (And.intro ⟨rfl, rfl, rfl, rfl⟩ (And.intro rfl ?_)))
                    refine fcall _ h0 (fzs_sub (by decide +kernel) hW) hB93 (ct_M_next_c8003 (fBz h0 hB93) (by omega)) ?_
                    rintro IhB104 _ hB104 fhB104 ⟨rfl, hz103⟩
                    have t105 := fhB104 740 14 (by decide +kernel)
                    have t106 := fhB104 740 15 (by decide +kernel)
                    have t107 := fhB104 740 16 (by decide +kernel)
                    have k108 := fBz_eq hB104 (a := 740) (j := 8) (by decide +kernel)
                    have k109 := fBz_eq hB104 (a := 740) (j := 17) (by decide +kernel)
                    refine And.intro (⟨by omega, by omega⟩) ?_
                    exact ⟨_, rfl, by omega, (par_par (by omega) (fun j => (fFr_S fhB78 (by decide +kernel) j).trans (fup_other ehB67 741 j (Or.inl (by decide)))) g0z84 (g1z84 (by omega)) (fun j => (fFr_S fhB104 (by decide +kernel) j).trans (fup_other ehB93 741 j (Or.inl (by decide)))) (by omega) (by omega) (by omega)).1, (fun _ => (par_par (by omega) (fun j => (fFr_S fhB78 (by decide +kernel) j).trans (fup_other ehB67 741 j (Or.inl (by decide)))) g0z84 (g1z84 (by omega)) (fun j => (fFr_S fhB104 (by decide +kernel) j).trans (fup_other ehB93 741 j (Or.inl (by decide)))) (by omega) (by omega) (by omega)).2)⟩
                  · intro c110
                    refine And.intro (⟨by omega, by omega⟩) ?_
                    exact ⟨_, rfl, by omega, (par_be0 (fun j => (fFr_S fhB78 (by decide +kernel) j).trans (fup_other ehB67 741 j (Or.inl (by decide)))) g0z84 (by omega) (by omega)), (fun q => absurd q (by omega))⟩
              · intro c111
                refine And.intro (⟨by omega, by omega⟩) ?_
                exact ⟨_, rfl, by omega, sBe_refl, (fun q => absurd q (by omega))⟩
          · intro c112
            refine And.intro ⟨rfl, by decide, by decide⟩ (fgetf fb_740_15 h0 hB0 ?_)
            intro z113 lz113 uz113 qz113
            refine And.intro ⟨rfl, by decide, by decide⟩ (And.intro rfl (And.intro (Or.inl rfl) (fputf fb_740_15 (by decide +kernel) hW (by omega) ?_)))
            intro IhB114 ehB114 hB114
            have t115 : IhB114 740 9 = I 740 9 := (congrFun (congrFun ehB114 740) 9).trans (fup_ne (by omega))
            have t116 : IhB114 740 10 = I 740 10 := (congrFun (congrFun ehB114 740) 10).trans (fup_ne (by omega))
            have t117 : IhB114 740 11 = I 740 11 := (congrFun (congrFun ehB114 740) 11).trans (fup_ne (by omega))
            have t118 : IhB114 740 13 = I 740 13 := (congrFun (congrFun ehB114 740) 13).trans (fup_ne (by omega))
            have t119 : IhB114 740 14 = I 740 14 := (congrFun (congrFun ehB114 740) 14).trans (fup_ne (by omega))
            have t120 := fup_at ehB114 15 (by omega)
            have t121 : IhB114 740 16 = I 740 16 := (congrFun (congrFun ehB114 740) 16).trans (fup_ne (by omega))
            have k122 := fBz_eq hB114 (a := 740) (j := 8) (by decide +kernel)
            have k123 := fBz_eq hB114 (a := 740) (j := 17) (by decide +kernel)
            refine Exists.intro xm_314 (And.intro mi_314 (And.intro ⟨rfl, rfl, rfl, rfl⟩ (And.intro rfl ?_)))
            refine fcall _ h0 (fzs_sub (by decide +kernel) hW) hB114 (ct_M_next_c8003 (fBz h0 hB114) (by omega)) ?_
            rintro IhB125 _ hB125 fhB125 ⟨rfl, hz124⟩
            have t126 := fhB125 740 14 (by decide +kernel)
            have t127 := fhB125 740 15 (by decide +kernel)
            have t128 := fhB125 740 16 (by decide +kernel)
            have k129 := fBz_eq hB125 (a := 740) (j := 8) (by decide +kernel)
            have k130 := fBz_eq hB125 (a := 740) (j := 17) (by decide +kernel)
            refine Exists.intro xm_405 (And.intro mi_405 (And.intro ⟨rfl, rfl, rfl, rfl⟩ (And.intro rfl ?_)))
            refine fcall _ h0 (fzs_sub (by decide +kernel) hW) hB125 (ct_M_part0_18b69 (fBz h0 hB125) (by omega) (by omega) (by omega) (by omega) (by omega)) ?_
            rintro IhB132 _ hB132 fhB132 ⟨z131, rfl, hz131, g0z131, g1z131⟩
            have k133 := fBz_eq hB132 (a := 740) (j := 8) (by decide +kernel)
            have k134 := fBz_eq hB132 (a := 740) (j := 17) (by decide +kernel)
            refine And.intro (by omega) (And.intro ?_ ?_)
            · intro c135
              refine And.intro ⟨rfl, by decide, by decide⟩ (fgetf fb_740_15 h0 hB132 ?_)
              intro z136 lz136 uz136 qz136
              refine And.intro ⟨rfl, by decide, by decide⟩ (And.intro rfl (And.intro (Or.inl rfl) (fputf fb_740_15 (by decide +kernel) hW (by omega) ?_)))
              intro IhB137 ehB137 hB137
              have t138 : IhB137 740 9 = IhB132 740 9 := (congrFun (congrFun ehB137 740) 9).trans (fup_ne (by omega))
              have t139 : IhB137 740 10 = IhB132 740 10 := (congrFun (congrFun ehB137 740) 10).trans (fup_ne (by omega))
              have t140 : IhB137 740 11 = IhB132 740 11 := (congrFun (congrFun ehB137 740) 11).trans (fup_ne (by omega))
              have t141 : IhB137 740 13 = IhB132 740 13 := (congrFun (congrFun ehB137 740) 13).trans (fup_ne (by omega))
              have t142 : IhB137 740 14 = IhB132 740 14 := (congrFun (congrFun ehB137 740) 14).trans (fup_ne (by omega))
              have t143 := fup_at ehB137 15 (by omega)
              have t144 : IhB137 740 16 = IhB132 740 16 := (congrFun (congrFun ehB137 740) 16).trans (fup_ne (by omega))
              have k145 := fBz_eq hB137 (a := 740) (j := 8) (by decide +kernel)
              have k146 := fBz_eq hB137 (a := 740) (j := 17) (by decide +kernel)
              refine Exists.intro xm_421 (And.intro mi_421 (And.intro ⟨rfl, rfl, rfl, rfl⟩ (And.intro rfl ?_)))
              refine fcall _ h0 (fzs_sub (by decide +kernel) hW) hB137 (ct_M_step_2c704 (fBz h0 hB137) (by omega) (by omega) (by omega) (by omega)) ?_
              rintro IhB148 _ hB148 fhB148 ⟨rfl, hz147, g0z147⟩
              have t149 := fhB148 740 9 (by decide +kernel)
              have t150 := fhB148 740 10 (by decide +kernel)
              have t151 := fhB148 740 11 (by decide +kernel)
              have t152 := fhB148 740 13 (by decide +kernel)
              have t153 := fhB148 740 14 (by decide +kernel)
              have t154 := fhB148 740 15 (by decide +kernel)
              have k155 := fBz_eq hB148 (a := 740) (j := 8) (by decide +kernel)
              have k156 := fBz_eq hB148 (a := 740) (j := 17) (by decide +kernel)
              refine And.intro (⟨by omega, by omega⟩) ?_
              exact ⟨_, rfl, by omega, (par_not (by omega) (fun j => (fFr_S fhB125 (by decide +kernel) j).trans (fup_other ehB114 741 j (Or.inl (by decide)))) g0z131 (g1z131 (by omega)) (fun j => fup_other ehB137 741 j (Or.inl (by decide))) g0z147 (by omega) (by omega) (by omega) (by omega) (by omega) (by omega)).1, (fun _ => (par_not (by omega) (fun j => (fFr_S fhB125 (by decide +kernel) j).trans (fup_other ehB114 741 j (Or.inl (by decide)))) g0z131 (g1z131 (by omega)) (fun j => fup_other ehB137 741 j (Or.inl (by decide))) g0z147 (by omega) (by omega) (by omega) (by omega) (by omega) (by omega)).2)⟩
            · intro c157
              refine And.intro (⟨by omega, by omega⟩) ?_
              exact ⟨_, rfl, by omega, (par_be0 (fun j => (fFr_S fhB125 (by decide +kernel) j).trans (fup_other ehB114 741 j (Or.inl (by decide)))) g0z131 (by omega) (by omega)), (fun q => absurd q (by omega))⟩
      · intro c158
        refine And.intro ⟨rfl, by decide, by decide⟩ (fgetf fb_740_13 h0 hB0 ?_)
        intro z159 lz159 uz159 qz159
        refine And.intro (by omega) (And.intro ?_ ?_)
        · intro c160
          refine Exists.intro xm_423 (And.intro mi_423 (And.intro ⟨rfl, rfl, rfl, rfl⟩ (And.intro rfl ?_)))
          refine fcallp hB0 (ct_M_isSign_90da9 (fBz h0 hB0) (by omega)) ?_
          rintro _ ⟨z161, rfl, hz161⟩
          refine And.intro (by omega) (And.intro ?_ ?_)
          · intro c162
            refine Exists.intro xm_423 (And.intro mi_423 (And.intro ⟨rfl, rfl, rfl, rfl⟩ (And.intro rfl ?_)))
            refine fcallp hB0 (ct_M_isSign_90da9 (fBz h0 hB0) (by omega)) ?_
            rintro _ ⟨z163, rfl, hz163⟩
            refine And.intro (by omega) (And.intro ?_ ?_)
            · intro c164
              refine And.intro (⟨by omega, by omega⟩) ?_
              exact ⟨_, rfl, by omega, sBe_refl, (fun q => absurd q (by omega))⟩
            · intro c165
              refine And.intro ⟨rfl, by decide, by decide⟩ (fgetf fb_740_14 h0 hB0 ?_)
              intro z166 lz166 uz166 qz166
              refine And.intro (by omega) (And.intro ?_ ?_)
              · intro c167
                refine And.intro ⟨rfl, by decide, by decide⟩ (fgetf fb_740_14 h0 hB0 ?_)
                intro z168 lz168 uz168 qz168
                refine And.intro ⟨rfl, by decide, by decide⟩ (And.intro rfl (And.intro (Or.inl rfl) (fputf fb_740_14 (by decide +kernel) hW (by omega) ?_)))
                intro IhB169 ehB169 hB169
                have t170 : IhB169 740 9 = I 740 9 := (congrFun (congrFun ehB169 740) 9).trans (fup_ne (by omega))
                have t171 : IhB169 740 10 = I 740 10 := (congrFun (congrFun ehB169 740) 10).trans (fup_ne (by omega))
                have t172 : IhB169 740 11 = I 740 11 := (congrFun (congrFun ehB169 740) 11).trans (fup_ne (by omega))
                have t173 : IhB169 740 13 = I 740 13 := (congrFun (congrFun ehB169 740) 13).trans (fup_ne (by omega))
                have t174 := fup_at ehB169 14 (by omega)
                have t175 : IhB169 740 15 = I 740 15 := (congrFun (congrFun ehB169 740) 15).trans (fup_ne (by omega))
                have t176 : IhB169 740 16 = I 740 16 := (congrFun (congrFun ehB169 740) 16).trans (fup_ne (by omega))
                have k177 := fBz_eq hB169 (a := 740) (j := 8) (by decide +kernel)
                have k178 := fBz_eq hB169 (a := 740) (j := 17) (by decide +kernel)
                refine Exists.intro xm_314 (And.intro mi_314 (And.intro ⟨rfl, rfl, rfl, rfl⟩ (And.intro rfl ?_)))
                refine fcall _ h0 (fzs_sub (by decide +kernel) hW) hB169 (ct_M_next_c8003 (fBz h0 hB169) (by omega)) ?_
                rintro IhB180 _ hB180 fhB180 ⟨rfl, hz179⟩
                have t181 := fhB180 740 14 (by decide +kernel)
                have t182 := fhB180 740 15 (by decide +kernel)
                have t183 := fhB180 740 16 (by decide +kernel)
                have k184 := fBz_eq hB180 (a := 740) (j := 8) (by decide +kernel)
                have k185 := fBz_eq hB180 (a := 740) (j := 17) (by decide +kernel)
                refine Exists.intro xm_320 (And.intro mi_320 (And.intro ⟨rfl, rfl, rfl, rfl⟩ (And.intro rfl ?_)))
                refine fcall _ h0 (fzs_sub (by decide +kernel) hW) hB180 (ct_M_either_94715 (fBz h0 hB180) (by omega) (by omega) (by omega) (by omega) (by omega)) ?_
                rintro IhB187 _ hB187 fhB187 ⟨z186, rfl, hz186, g0z186, g1z186⟩
                have k188 := fBz_eq hB187 (a := 740) (j := 8) (by decide +kernel)
                have k189 := fBz_eq hB187 (a := 740) (j := 17) (by decide +kernel)
                refine And.intro (by omega) (And.intro ?_ ?_)
                · intro c190
                  refine And.intro (⟨by omega, by omega⟩) ?_
                  exact ⟨_, rfl, by omega, (par_be0 (fun j => (fFr_S fhB180 (by decide +kernel) j).trans (fup_other ehB169 741 j (Or.inl (by decide)))) g0z186 (by omega) (by omega)), (fun q => absurd q (by omega))⟩
                · intro c191
                  refine Exists.intro xm_423 (And.intro mi_423 (And.intro ⟨rfl, rfl, rfl, rfl⟩ (And.intro rfl ?_)))
                  refine fcallp hB187 (ct_M_isSign_90da9 (fBz h0 hB187) (by omega)) ?_
                  rintro _ ⟨z192, rfl, hz192⟩
                  refine And.intro (by omega) (And.intro ?_ ?_)
                  · intro c193
                    refine And.intro ⟨rfl, by decide, by decide⟩ (fgetf fb_740_14 h0 hB187 ?_)
                    intro z194 lz194 uz194 qz194
                    refine And.intro ⟨rfl, by decide, by decide⟩ (And.intro rfl (And.intro (Or.inl rfl) (fputf fb_740_14 (by decide +kernel) hW (by omega) ?_)))
                    intro IhB195 ehB195 hB195
                    have t196 : IhB195 740 9 = IhB187 740 9 := (congrFun (congrFun ehB195 740) 9).trans (fup_ne (by omega))
                    have t197 : IhB195 740 10 = IhB187 740 10 := (congrFun (congrFun ehB195 740) 10).trans (fup_ne (by omega))
                    have t198 : IhB195 740 11 = IhB187 740 11 := (congrFun (congrFun ehB195 740) 11).trans (fup_ne (by omega))
                    have t199 : IhB195 740 13 = IhB187 740 13 := (congrFun (congrFun ehB195 740) 13).trans (fup_ne (by omega))
                    have t200 := fup_at ehB195 14 (by omega)
                    have t201 : IhB195 740 15 = IhB187 740 15 := (congrFun (congrFun ehB195 740) 15).trans (fup_ne (by omega))
                    have t202 : IhB195 740 16 = IhB187 740 16 := (congrFun (congrFun ehB195 740) 16).trans (fup_ne (by omega))
                    have k203 := fBz_eq hB195 (a := 740) (j := 8) (by decide +kernel)
                    have k204 := fBz_eq hB195 (a := 740) (j := 17) (by decide +kernel)
                    refine Exists.intro xm_314 (And.intro mi_314 (And.intro ⟨rfl, rfl, rfl, rfl⟩ (And.intro rfl ?_)))
                    refine fcall _ h0 (fzs_sub (by decide +kernel) hW) hB195 (ct_M_next_c8003 (fBz h0 hB195) (by omega)) ?_
                    rintro IhB206 _ hB206 fhB206 ⟨rfl, hz205⟩
                    have t207 := fhB206 740 14 (by decide +kernel)
                    have t208 := fhB206 740 15 (by decide +kernel)
                    have t209 := fhB206 740 16 (by decide +kernel)
                    have k210 := fBz_eq hB206 (a := 740) (j := 8) (by decide +kernel)
                    have k211 := fBz_eq hB206 (a := 740) (j := 17) (by decide +kernel)
                    refine And.intro (⟨by omega, by omega⟩) ?_
                    exact ⟨_, rfl, by omega, (par_par (by omega) (fun j => (fFr_S fhB180 (by decide +kernel) j).trans (fup_other ehB169 741 j (Or.inl (by decide)))) g0z186 (g1z186 (by omega)) (fun j => (fFr_S fhB206 (by decide +kernel) j).trans (fup_other ehB195 741 j (Or.inl (by decide)))) (by omega) (by omega) (by omega)).1, (fun _ => (par_par (by omega) (fun j => (fFr_S fhB180 (by decide +kernel) j).trans (fup_other ehB169 741 j (Or.inl (by decide)))) g0z186 (g1z186 (by omega)) (fun j => (fFr_S fhB206 (by decide +kernel) j).trans (fup_other ehB195 741 j (Or.inl (by decide)))) (by omega) (by omega) (by omega)).2)⟩
                  · intro c212
                    refine And.intro (⟨by omega, by omega⟩) ?_
                    exact ⟨_, rfl, by omega, (par_be0 (fun j => (fFr_S fhB180 (by decide +kernel) j).trans (fup_other ehB169 741 j (Or.inl (by decide)))) g0z186 (by omega) (by omega)), (fun q => absurd q (by omega))⟩
              · intro c213
                refine And.intro (⟨by omega, by omega⟩) ?_
                exact ⟨_, rfl, by omega, sBe_refl, (fun q => absurd q (by omega))⟩
          · intro c214
            refine And.intro ⟨rfl, by decide, by decide⟩ (fgetf fb_740_15 h0 hB0 ?_)
            intro z215 lz215 uz215 qz215
            refine And.intro (by omega) (And.intro ?_ ?_)
            · intro c216
              refine Exists.intro xm_423 (And.intro mi_423 (And.intro ⟨rfl, rfl, rfl, rfl⟩ (And.intro rfl ?_)))
              refine fcallp hB0 (ct_M_isSign_90da9 (fBz h0 hB0) (by omega)) ?_
              rintro _ ⟨z217, rfl, hz217⟩
              refine And.intro (by omega) (And.intro ?_ ?_)
              · intro c218
                refine And.intro (⟨by omega, by omega⟩) ?_
                exact ⟨_, rfl, by omega, sBe_refl, (fun q => absurd q (by omega))⟩
              · intro c219
                refine And.intro ⟨rfl, by decide, by decide⟩ (fgetf fb_740_14 h0 hB0 ?_)
                intro z220 lz220 uz220 qz220
                refine And.intro (by omega) (And.intro ?_ ?_)
                · intro c221
                  refine And.intro ⟨rfl, by decide, by decide⟩ (fgetf fb_740_14 h0 hB0 ?_)
                  intro z222 lz222 uz222 qz222
                  refine And.intro ⟨rfl, by decide, by decide⟩ (And.intro rfl (And.intro (Or.inl rfl) (fputf fb_740_14 (by decide +kernel) hW (by omega) ?_)))
                  intro IhB223 ehB223 hB223
                  have t224 : IhB223 740 9 = I 740 9 := (congrFun (congrFun ehB223 740) 9).trans (fup_ne (by omega))
                  have t225 : IhB223 740 10 = I 740 10 := (congrFun (congrFun ehB223 740) 10).trans (fup_ne (by omega))
                  have t226 : IhB223 740 11 = I 740 11 := (congrFun (congrFun ehB223 740) 11).trans (fup_ne (by omega))
                  have t227 : IhB223 740 13 = I 740 13 := (congrFun (congrFun ehB223 740) 13).trans (fup_ne (by omega))
                  have t228 := fup_at ehB223 14 (by omega)
                  have t229 : IhB223 740 15 = I 740 15 := (congrFun (congrFun ehB223 740) 15).trans (fup_ne (by omega))
                  have t230 : IhB223 740 16 = I 740 16 := (congrFun (congrFun ehB223 740) 16).trans (fup_ne (by omega))
                  have k231 := fBz_eq hB223 (a := 740) (j := 8) (by decide +kernel)
                  have k232 := fBz_eq hB223 (a := 740) (j := 17) (by decide +kernel)
                  refine Exists.intro xm_314 (And.intro mi_314 (And.intro ⟨rfl, rfl, rfl, rfl⟩ (And.intro rfl ?_)))
                  refine fcall _ h0 (fzs_sub (by decide +kernel) hW) hB223 (ct_M_next_c8003 (fBz h0 hB223) (by omega)) ?_
                  rintro IhB234 _ hB234 fhB234 ⟨rfl, hz233⟩
                  have t235 := fhB234 740 14 (by decide +kernel)
                  have t236 := fhB234 740 15 (by decide +kernel)
                  have t237 := fhB234 740 16 (by decide +kernel)
                  have k238 := fBz_eq hB234 (a := 740) (j := 8) (by decide +kernel)
                  have k239 := fBz_eq hB234 (a := 740) (j := 17) (by decide +kernel)
                  refine Exists.intro xm_320 (And.intro mi_320 (And.intro ⟨rfl, rfl, rfl, rfl⟩ (And.intro rfl ?_)))
                  refine fcall _ h0 (fzs_sub (by decide +kernel) hW) hB234 (ct_M_either_94715 (fBz h0 hB234) (by omega) (by omega) (by omega) (by omega) (by omega)) ?_
                  rintro IhB241 _ hB241 fhB241 ⟨z240, rfl, hz240, g0z240, g1z240⟩
                  have k242 := fBz_eq hB241 (a := 740) (j := 8) (by decide +kernel)
                  have k243 := fBz_eq hB241 (a := 740) (j := 17) (by decide +kernel)
                  refine And.intro (by omega) (And.intro ?_ ?_)
                  · intro c244
                    refine And.intro (⟨by omega, by omega⟩) ?_
                    exact ⟨_, rfl, by omega, (par_be0 (fun j => (fFr_S fhB234 (by decide +kernel) j).trans (fup_other ehB223 741 j (Or.inl (by decide)))) g0z240 (by omega) (by omega)), (fun q => absurd q (by omega))⟩
                  · intro c245
                    refine Exists.intro xm_423 (And.intro mi_423 (And.intro ⟨rfl, rfl, rfl, rfl⟩ (And.intro rfl ?_)))
                    refine fcallp hB241 (ct_M_isSign_90da9 (fBz h0 hB241) (by omega)) ?_
                    rintro _ ⟨z246, rfl, hz246⟩
                    refine And.intro (by omega) (And.intro ?_ ?_)
                    · intro c247
                      refine And.intro ⟨rfl, by decide, by decide⟩ (fgetf fb_740_14 h0 hB241 ?_)
                      intro z248 lz248 uz248 qz248
                      refine And.intro ⟨rfl, by decide, by decide⟩ (And.intro rfl (And.intro (Or.inl rfl) (fputf fb_740_14 (by decide +kernel) hW (by omega) ?_)))
                      intro IhB249 ehB249 hB249
                      have t250 : IhB249 740 9 = IhB241 740 9 := (congrFun (congrFun ehB249 740) 9).trans (fup_ne (by omega))
                      have t251 : IhB249 740 10 = IhB241 740 10 := (congrFun (congrFun ehB249 740) 10).trans (fup_ne (by omega))
                      have t252 : IhB249 740 11 = IhB241 740 11 := (congrFun (congrFun ehB249 740) 11).trans (fup_ne (by omega))
                      have t253 : IhB249 740 13 = IhB241 740 13 := (congrFun (congrFun ehB249 740) 13).trans (fup_ne (by omega))
                      have t254 := fup_at ehB249 14 (by omega)
                      have t255 : IhB249 740 15 = IhB241 740 15 := (congrFun (congrFun ehB249 740) 15).trans (fup_ne (by omega))
                      have t256 : IhB249 740 16 = IhB241 740 16 := (congrFun (congrFun ehB249 740) 16).trans (fup_ne (by omega))
                      have k257 := fBz_eq hB249 (a := 740) (j := 8) (by decide +kernel)
                      have k258 := fBz_eq hB249 (a := 740) (j := 17) (by decide +kernel)
                      refine Exists.intro xm_314 (And.intro mi_314 (And.intro ⟨rfl, rfl, rfl, rfl⟩ (And.intro rfl ?_)))
                      refine fcall _ h0 (fzs_sub (by decide +kernel) hW) hB249 (ct_M_next_c8003 (fBz h0 hB249) (by omega)) ?_
                      rintro IhB260 _ hB260 fhB260 ⟨rfl, hz259⟩
                      have t261 := fhB260 740 14 (by decide +kernel)
                      have t262 := fhB260 740 15 (by decide +kernel)
                      have t263 := fhB260 740 16 (by decide +kernel)
                      have k264 := fBz_eq hB260 (a := 740) (j := 8) (by decide +kernel)
                      have k265 := fBz_eq hB260 (a := 740) (j := 17) (by decide +kernel)
                      refine And.intro (⟨by omega, by omega⟩) ?_
                      exact ⟨_, rfl, by omega, (par_par (by omega) (fun j => (fFr_S fhB234 (by decide +kernel) j).trans (fup_other ehB223 741 j (Or.inl (by decide)))) g0z240 (g1z240 (by omega)) (fun j => (fFr_S fhB260 (by decide +kernel) j).trans (fup_other ehB249 741 j (Or.inl (by decide)))) (by omega) (by omega) (by omega)).1, (fun _ => (par_par (by omega) (fun j => (fFr_S fhB234 (by decide +kernel) j).trans (fup_other ehB223 741 j (Or.inl (by decide)))) g0z240 (g1z240 (by omega)) (fun j => (fFr_S fhB260 (by decide +kernel) j).trans (fup_other ehB249 741 j (Or.inl (by decide)))) (by omega) (by omega) (by omega)).2)⟩
                    · intro c266
                      refine And.intro (⟨by omega, by omega⟩) ?_
                      exact ⟨_, rfl, by omega, (par_be0 (fun j => (fFr_S fhB234 (by decide +kernel) j).trans (fup_other ehB223 741 j (Or.inl (by decide)))) g0z240 (by omega) (by omega)), (fun q => absurd q (by omega))⟩
                · intro c267
                  refine And.intro (⟨by omega, by omega⟩) ?_
                  exact ⟨_, rfl, by omega, sBe_refl, (fun q => absurd q (by omega))⟩
            · intro c268
              refine And.intro ⟨rfl, by decide, by decide⟩ (fgetf fb_740_15 h0 hB0 ?_)
              intro z269 lz269 uz269 qz269
              refine And.intro ⟨rfl, by decide, by decide⟩ (And.intro rfl (And.intro (Or.inl rfl) (fputf fb_740_15 (by decide +kernel) hW (by omega) ?_)))
              intro IhB270 ehB270 hB270
              have t271 : IhB270 740 9 = I 740 9 := (congrFun (congrFun ehB270 740) 9).trans (fup_ne (by omega))
              have t272 : IhB270 740 10 = I 740 10 := (congrFun (congrFun ehB270 740) 10).trans (fup_ne (by omega))
              have t273 : IhB270 740 11 = I 740 11 := (congrFun (congrFun ehB270 740) 11).trans (fup_ne (by omega))
              have t274 : IhB270 740 13 = I 740 13 := (congrFun (congrFun ehB270 740) 13).trans (fup_ne (by omega))
              have t275 : IhB270 740 14 = I 740 14 := (congrFun (congrFun ehB270 740) 14).trans (fup_ne (by omega))
              have t276 := fup_at ehB270 15 (by omega)
              have t277 : IhB270 740 16 = I 740 16 := (congrFun (congrFun ehB270 740) 16).trans (fup_ne (by omega))
              have k278 := fBz_eq hB270 (a := 740) (j := 8) (by decide +kernel)
              have k279 := fBz_eq hB270 (a := 740) (j := 17) (by decide +kernel)
              refine Exists.intro xm_314 (And.intro mi_314 (And.intro ⟨rfl, rfl, rfl, rfl⟩ (And.intro rfl ?_)))
              refine fcall _ h0 (fzs_sub (by decide +kernel) hW) hB270 (ct_M_next_c8003 (fBz h0 hB270) (by omega)) ?_
              rintro IhB281 _ hB281 fhB281 ⟨rfl, hz280⟩
              have t282 := fhB281 740 14 (by decide +kernel)
              have t283 := fhB281 740 15 (by decide +kernel)
              have t284 := fhB281 740 16 (by decide +kernel)
              have k285 := fBz_eq hB281 (a := 740) (j := 8) (by decide +kernel)
              have k286 := fBz_eq hB281 (a := 740) (j := 17) (by decide +kernel)
              refine Exists.intro xm_405 (And.intro mi_405 (And.intro ⟨rfl, rfl, rfl, rfl⟩ (And.intro rfl ?_)))
              refine fcall _ h0 (fzs_sub (by decide +kernel) hW) hB281 (ct_M_part0_18b69 (fBz h0 hB281) (by omega) (by omega) (by omega) (by omega) (by omega)) ?_
              rintro IhB288 _ hB288 fhB288 ⟨z287, rfl, hz287, g0z287, g1z287⟩
              have k289 := fBz_eq hB288 (a := 740) (j := 8) (by decide +kernel)
              have k290 := fBz_eq hB288 (a := 740) (j := 17) (by decide +kernel)
              refine And.intro (by omega) (And.intro ?_ ?_)
              · intro c291
                refine And.intro ⟨rfl, by decide, by decide⟩ (fgetf fb_740_15 h0 hB288 ?_)
                intro z292 lz292 uz292 qz292
                refine And.intro ⟨rfl, by decide, by decide⟩ (And.intro rfl (And.intro (Or.inl rfl) (fputf fb_740_15 (by decide +kernel) hW (by omega) ?_)))
                intro IhB293 ehB293 hB293
                have t294 : IhB293 740 9 = IhB288 740 9 := (congrFun (congrFun ehB293 740) 9).trans (fup_ne (by omega))
                have t295 : IhB293 740 10 = IhB288 740 10 := (congrFun (congrFun ehB293 740) 10).trans (fup_ne (by omega))
                have t296 : IhB293 740 11 = IhB288 740 11 := (congrFun (congrFun ehB293 740) 11).trans (fup_ne (by omega))
                have t297 : IhB293 740 13 = IhB288 740 13 := (congrFun (congrFun ehB293 740) 13).trans (fup_ne (by omega))
                have t298 : IhB293 740 14 = IhB288 740 14 := (congrFun (congrFun ehB293 740) 14).trans (fup_ne (by omega))
                have t299 := fup_at ehB293 15 (by omega)
                have t300 : IhB293 740 16 = IhB288 740 16 := (congrFun (congrFun ehB293 740) 16).trans (fup_ne (by omega))
                have k301 := fBz_eq hB293 (a := 740) (j := 8) (by decide +kernel)
                have k302 := fBz_eq hB293 (a := 740) (j := 17) (by decide +kernel)
                refine Exists.intro xm_421 (And.intro mi_421 (And.intro ⟨rfl, rfl, rfl, rfl⟩ (And.intro rfl ?_)))
                refine fcall _ h0 (fzs_sub (by decide +kernel) hW) hB293 (ct_M_step_2c704 (fBz h0 hB293) (by omega) (by omega) (by omega) (by omega)) ?_
                rintro IhB304 _ hB304 fhB304 ⟨rfl, hz303, g0z303⟩
                have t305 := fhB304 740 9 (by decide +kernel)
                have t306 := fhB304 740 10 (by decide +kernel)
                have t307 := fhB304 740 11 (by decide +kernel)
                have t308 := fhB304 740 13 (by decide +kernel)
                have t309 := fhB304 740 14 (by decide +kernel)
                have t310 := fhB304 740 15 (by decide +kernel)
                have k311 := fBz_eq hB304 (a := 740) (j := 8) (by decide +kernel)
                have k312 := fBz_eq hB304 (a := 740) (j := 17) (by decide +kernel)
                refine And.intro (⟨by omega, by omega⟩) ?_
                exact ⟨_, rfl, by omega, (par_not (by omega) (fun j => (fFr_S fhB281 (by decide +kernel) j).trans (fup_other ehB270 741 j (Or.inl (by decide)))) g0z287 (g1z287 (by omega)) (fun j => fup_other ehB293 741 j (Or.inl (by decide))) g0z303 (by omega) (by omega) (by omega) (by omega) (by omega) (by omega)).1, (fun _ => (par_not (by omega) (fun j => (fFr_S fhB281 (by decide +kernel) j).trans (fup_other ehB270 741 j (Or.inl (by decide)))) g0z287 (g1z287 (by omega)) (fun j => fup_other ehB293 741 j (Or.inl (by decide))) g0z303 (by omega) (by omega) (by omega) (by omega) (by omega) (by omega)).2)⟩
              · intro c313
                refine And.intro (⟨by omega, by omega⟩) ?_
                exact ⟨_, rfl, by omega, (par_be0 (fun j => (fFr_S fhB281 (by decide +kernel) j).trans (fup_other ehB270 741 j (Or.inl (by decide)))) g0z287 (by omega) (by omega)), (fun q => absurd q (by omega))⟩
        · intro c314
          refine And.intro ⟨rfl, by decide, by decide⟩ (fgetf fb_740_13 h0 hB0 ?_)
          intro z315 lz315 uz315 qz315
          refine Exists.intro xm_422 (And.intro mi_422 (And.intro ⟨rfl, rfl, rfl, rfl⟩ (And.intro True.intro ?_)))
          refine fcallp hB0 (ct_M_isName_49450 (fBz h0 hB0) (by omega) (by omega)) ?_
          rintro _ ⟨z316, rfl, hz316⟩
          refine And.intro (by omega) (And.intro ?_ ?_)
          · intro c317
            refine Exists.intro xm_423 (And.intro mi_423 (And.intro ⟨rfl, rfl, rfl, rfl⟩ (And.intro rfl ?_)))
            refine fcallp hB0 (ct_M_isSign_90da9 (fBz h0 hB0) (by omega)) ?_
            rintro _ ⟨z318, rfl, hz318⟩
            refine And.intro (by omega) (And.intro ?_ ?_)
            · intro c319
              refine Exists.intro xm_423 (And.intro mi_423 (And.intro ⟨rfl, rfl, rfl, rfl⟩ (And.intro rfl ?_)))
              refine fcallp hB0 (ct_M_isSign_90da9 (fBz h0 hB0) (by omega)) ?_
              rintro _ ⟨z320, rfl, hz320⟩
              refine And.intro (by omega) (And.intro ?_ ?_)
              · intro c321
                refine And.intro (⟨by omega, by omega⟩) ?_
                exact ⟨_, rfl, by omega, sBe_refl, (fun q => absurd q (by omega))⟩
              · intro c322
                refine And.intro ⟨rfl, by decide, by decide⟩ (fgetf fb_740_14 h0 hB0 ?_)
                intro z323 lz323 uz323 qz323
                refine And.intro (by omega) (And.intro ?_ ?_)
                · intro c324
                  refine And.intro ⟨rfl, by decide, by decide⟩ (fgetf fb_740_14 h0 hB0 ?_)
                  intro z325 lz325 uz325 qz325
                  refine And.intro ⟨rfl, by decide, by decide⟩ (And.intro rfl (And.intro (Or.inl rfl) (fputf fb_740_14 (by decide +kernel) hW (by omega) ?_)))
                  intro IhB326 ehB326 hB326
                  have t327 : IhB326 740 9 = I 740 9 := (congrFun (congrFun ehB326 740) 9).trans (fup_ne (by omega))
                  have t328 : IhB326 740 10 = I 740 10 := (congrFun (congrFun ehB326 740) 10).trans (fup_ne (by omega))
                  have t329 : IhB326 740 11 = I 740 11 := (congrFun (congrFun ehB326 740) 11).trans (fup_ne (by omega))
                  have t330 : IhB326 740 13 = I 740 13 := (congrFun (congrFun ehB326 740) 13).trans (fup_ne (by omega))
                  have t331 := fup_at ehB326 14 (by omega)
                  have t332 : IhB326 740 15 = I 740 15 := (congrFun (congrFun ehB326 740) 15).trans (fup_ne (by omega))
                  have t333 : IhB326 740 16 = I 740 16 := (congrFun (congrFun ehB326 740) 16).trans (fup_ne (by omega))
                  have k334 := fBz_eq hB326 (a := 740) (j := 8) (by decide +kernel)
                  have k335 := fBz_eq hB326 (a := 740) (j := 17) (by decide +kernel)
                  refine Exists.intro xm_314 (And.intro mi_314 (And.intro ⟨rfl, rfl, rfl, rfl⟩ (And.intro rfl ?_)))
                  refine fcall _ h0 (fzs_sub (by decide +kernel) hW) hB326 (ct_M_next_c8003 (fBz h0 hB326) (by omega)) ?_
                  rintro IhB337 _ hB337 fhB337 ⟨rfl, hz336⟩
                  have t338 := fhB337 740 14 (by decide +kernel)
                  have t339 := fhB337 740 15 (by decide +kernel)
                  have t340 := fhB337 740 16 (by decide +kernel)
                  have k341 := fBz_eq hB337 (a := 740) (j := 8) (by decide +kernel)
                  have k342 := fBz_eq hB337 (a := 740) (j := 17) (by decide +kernel)
                  refine Exists.intro xm_320 (And.intro mi_320 (And.intro ⟨rfl, rfl, rfl, rfl⟩ (And.intro rfl ?_)))
                  refine fcall _ h0 (fzs_sub (by decide +kernel) hW) hB337 (ct_M_either_94715 (fBz h0 hB337) (by omega) (by omega) (by omega) (by omega) (by omega)) ?_
                  rintro IhB344 _ hB344 fhB344 ⟨z343, rfl, hz343, g0z343, g1z343⟩
                  have k345 := fBz_eq hB344 (a := 740) (j := 8) (by decide +kernel)
                  have k346 := fBz_eq hB344 (a := 740) (j := 17) (by decide +kernel)
                  refine And.intro (by omega) (And.intro ?_ ?_)
                  · intro c347
                    refine And.intro (⟨by omega, by omega⟩) ?_
                    exact ⟨_, rfl, by omega, (par_be0 (fun j => (fFr_S fhB337 (by decide +kernel) j).trans (fup_other ehB326 741 j (Or.inl (by decide)))) g0z343 (by omega) (by omega)), (fun q => absurd q (by omega))⟩
                  · intro c348
                    refine Exists.intro xm_423 (And.intro mi_423 (And.intro ⟨rfl, rfl, rfl, rfl⟩ (And.intro rfl ?_)))
                    refine fcallp hB344 (ct_M_isSign_90da9 (fBz h0 hB344) (by omega)) ?_
                    rintro _ ⟨z349, rfl, hz349⟩
                    refine And.intro (by omega) (And.intro ?_ ?_)
                    · intro c350
                      refine And.intro ⟨rfl, by decide, by decide⟩ (fgetf fb_740_14 h0 hB344 ?_)
                      intro z351 lz351 uz351 qz351
                      refine And.intro ⟨rfl, by decide, by decide⟩ (And.intro rfl (And.intro (Or.inl rfl) (fputf fb_740_14 (by decide +kernel) hW (by omega) ?_)))
                      intro IhB352 ehB352 hB352
                      have t353 : IhB352 740 9 = IhB344 740 9 := (congrFun (congrFun ehB352 740) 9).trans (fup_ne (by omega))
                      have t354 : IhB352 740 10 = IhB344 740 10 := (congrFun (congrFun ehB352 740) 10).trans (fup_ne (by omega))
                      have t355 : IhB352 740 11 = IhB344 740 11 := (congrFun (congrFun ehB352 740) 11).trans (fup_ne (by omega))
                      have t356 : IhB352 740 13 = IhB344 740 13 := (congrFun (congrFun ehB352 740) 13).trans (fup_ne (by omega))
                      have t357 := fup_at ehB352 14 (by omega)
                      have t358 : IhB352 740 15 = IhB344 740 15 := (congrFun (congrFun ehB352 740) 15).trans (fup_ne (by omega))
                      have t359 : IhB352 740 16 = IhB344 740 16 := (congrFun (congrFun ehB352 740) 16).trans (fup_ne (by omega))
                      have k360 := fBz_eq hB352 (a := 740) (j := 8) (by decide +kernel)
                      have k361 := fBz_eq hB352 (a := 740) (j := 17) (by decide +kernel)
                      refine Exists.intro xm_314 (And.intro mi_314 (And.intro ⟨rfl, rfl, rfl, rfl⟩ (And.intro rfl ?_)))
                      refine fcall _ h0 (fzs_sub (by decide +kernel) hW) hB352 (ct_M_next_c8003 (fBz h0 hB352) (by omega)) ?_
                      rintro IhB363 _ hB363 fhB363 ⟨rfl, hz362⟩
                      have t364 := fhB363 740 14 (by decide +kernel)
                      have t365 := fhB363 740 15 (by decide +kernel)
                      have t366 := fhB363 740 16 (by decide +kernel)
                      have k367 := fBz_eq hB363 (a := 740) (j := 8) (by decide +kernel)
                      have k368 := fBz_eq hB363 (a := 740) (j := 17) (by decide +kernel)
                      refine And.intro (⟨by omega, by omega⟩) ?_
                      exact ⟨_, rfl, by omega, (par_par (by omega) (fun j => (fFr_S fhB337 (by decide +kernel) j).trans (fup_other ehB326 741 j (Or.inl (by decide)))) g0z343 (g1z343 (by omega)) (fun j => (fFr_S fhB363 (by decide +kernel) j).trans (fup_other ehB352 741 j (Or.inl (by decide)))) (by omega) (by omega) (by omega)).1, (fun _ => (par_par (by omega) (fun j => (fFr_S fhB337 (by decide +kernel) j).trans (fup_other ehB326 741 j (Or.inl (by decide)))) g0z343 (g1z343 (by omega)) (fun j => (fFr_S fhB363 (by decide +kernel) j).trans (fup_other ehB352 741 j (Or.inl (by decide)))) (by omega) (by omega) (by omega)).2)⟩
                    · intro c369
                      refine And.intro (⟨by omega, by omega⟩) ?_
                      exact ⟨_, rfl, by omega, (par_be0 (fun j => (fFr_S fhB337 (by decide +kernel) j).trans (fup_other ehB326 741 j (Or.inl (by decide)))) g0z343 (by omega) (by omega)), (fun q => absurd q (by omega))⟩
                · intro c370
                  refine And.intro (⟨by omega, by omega⟩) ?_
                  exact ⟨_, rfl, by omega, sBe_refl, (fun q => absurd q (by omega))⟩
            · intro c371
              refine And.intro ⟨rfl, by decide, by decide⟩ (fgetf fb_740_15 h0 hB0 ?_)
              intro z372 lz372 uz372 qz372
              refine And.intro (by omega) (And.intro ?_ ?_)
              · intro c373
                refine Exists.intro xm_423 (And.intro mi_423 (And.intro ⟨rfl, rfl, rfl, rfl⟩ (And.intro rfl ?_)))
                refine fcallp hB0 (ct_M_isSign_90da9 (fBz h0 hB0) (by omega)) ?_
                rintro _ ⟨z374, rfl, hz374⟩
                refine And.intro (by omega) (And.intro ?_ ?_)
                · intro c375
                  refine And.intro (⟨by omega, by omega⟩) ?_
                  exact ⟨_, rfl, by omega, sBe_refl, (fun q => absurd q (by omega))⟩
                · intro c376
                  refine And.intro ⟨rfl, by decide, by decide⟩ (fgetf fb_740_14 h0 hB0 ?_)
                  intro z377 lz377 uz377 qz377
                  refine And.intro (by omega) (And.intro ?_ ?_)
                  · intro c378
                    refine And.intro ⟨rfl, by decide, by decide⟩ (fgetf fb_740_14 h0 hB0 ?_)
                    intro z379 lz379 uz379 qz379
                    refine And.intro ⟨rfl, by decide, by decide⟩ (And.intro rfl (And.intro (Or.inl rfl) (fputf fb_740_14 (by decide +kernel) hW (by omega) ?_)))
                    intro IhB380 ehB380 hB380
                    have t381 : IhB380 740 9 = I 740 9 := (congrFun (congrFun ehB380 740) 9).trans (fup_ne (by omega))
                    have t382 : IhB380 740 10 = I 740 10 := (congrFun (congrFun ehB380 740) 10).trans (fup_ne (by omega))
                    have t383 : IhB380 740 11 = I 740 11 := (congrFun (congrFun ehB380 740) 11).trans (fup_ne (by omega))
                    have t384 : IhB380 740 13 = I 740 13 := (congrFun (congrFun ehB380 740) 13).trans (fup_ne (by omega))
                    have t385 := fup_at ehB380 14 (by omega)
                    have t386 : IhB380 740 15 = I 740 15 := (congrFun (congrFun ehB380 740) 15).trans (fup_ne (by omega))
                    have t387 : IhB380 740 16 = I 740 16 := (congrFun (congrFun ehB380 740) 16).trans (fup_ne (by omega))
                    have k388 := fBz_eq hB380 (a := 740) (j := 8) (by decide +kernel)
                    have k389 := fBz_eq hB380 (a := 740) (j := 17) (by decide +kernel)
                    refine Exists.intro xm_314 (And.intro mi_314 (And.intro ⟨rfl, rfl, rfl, rfl⟩ (And.intro rfl ?_)))
                    refine fcall _ h0 (fzs_sub (by decide +kernel) hW) hB380 (ct_M_next_c8003 (fBz h0 hB380) (by omega)) ?_
                    rintro IhB391 _ hB391 fhB391 ⟨rfl, hz390⟩
                    have t392 := fhB391 740 14 (by decide +kernel)
                    have t393 := fhB391 740 15 (by decide +kernel)
                    have t394 := fhB391 740 16 (by decide +kernel)
                    have k395 := fBz_eq hB391 (a := 740) (j := 8) (by decide +kernel)
                    have k396 := fBz_eq hB391 (a := 740) (j := 17) (by decide +kernel)
                    refine Exists.intro xm_320 (And.intro mi_320 (And.intro ⟨rfl, rfl, rfl, rfl⟩ (And.intro rfl ?_)))
                    refine fcall _ h0 (fzs_sub (by decide +kernel) hW) hB391 (ct_M_either_94715 (fBz h0 hB391) (by omega) (by omega) (by omega) (by omega) (by omega)) ?_
                    rintro IhB398 _ hB398 fhB398 ⟨z397, rfl, hz397, g0z397, g1z397⟩
                    have k399 := fBz_eq hB398 (a := 740) (j := 8) (by decide +kernel)
                    have k400 := fBz_eq hB398 (a := 740) (j := 17) (by decide +kernel)
                    refine And.intro (by omega) (And.intro ?_ ?_)
                    · intro c401
                      refine And.intro (⟨by omega, by omega⟩) ?_
                      exact ⟨_, rfl, by omega, (par_be0 (fun j => (fFr_S fhB391 (by decide +kernel) j).trans (fup_other ehB380 741 j (Or.inl (by decide)))) g0z397 (by omega) (by omega)), (fun q => absurd q (by omega))⟩
                    · intro c402
                      refine Exists.intro xm_423 (And.intro mi_423 (And.intro ⟨rfl, rfl, rfl, rfl⟩ (And.intro rfl ?_)))
                      refine fcallp hB398 (ct_M_isSign_90da9 (fBz h0 hB398) (by omega)) ?_
                      rintro _ ⟨z403, rfl, hz403⟩
                      refine And.intro (by omega) (And.intro ?_ ?_)
                      · intro c404
                        refine And.intro ⟨rfl, by decide, by decide⟩ (fgetf fb_740_14 h0 hB398 ?_)
                        intro z405 lz405 uz405 qz405
                        refine And.intro ⟨rfl, by decide, by decide⟩ (And.intro rfl (And.intro (Or.inl rfl) (fputf fb_740_14 (by decide +kernel) hW (by omega) ?_)))
                        intro IhB406 ehB406 hB406
                        have t407 : IhB406 740 9 = IhB398 740 9 := (congrFun (congrFun ehB406 740) 9).trans (fup_ne (by omega))
                        have t408 : IhB406 740 10 = IhB398 740 10 := (congrFun (congrFun ehB406 740) 10).trans (fup_ne (by omega))
                        have t409 : IhB406 740 11 = IhB398 740 11 := (congrFun (congrFun ehB406 740) 11).trans (fup_ne (by omega))
                        have t410 : IhB406 740 13 = IhB398 740 13 := (congrFun (congrFun ehB406 740) 13).trans (fup_ne (by omega))
                        have t411 := fup_at ehB406 14 (by omega)
                        have t412 : IhB406 740 15 = IhB398 740 15 := (congrFun (congrFun ehB406 740) 15).trans (fup_ne (by omega))
                        have t413 : IhB406 740 16 = IhB398 740 16 := (congrFun (congrFun ehB406 740) 16).trans (fup_ne (by omega))
                        have k414 := fBz_eq hB406 (a := 740) (j := 8) (by decide +kernel)
                        have k415 := fBz_eq hB406 (a := 740) (j := 17) (by decide +kernel)
                        refine Exists.intro xm_314 (And.intro mi_314 (And.intro ⟨rfl, rfl, rfl, rfl⟩ (And.intro rfl ?_)))
                        refine fcall _ h0 (fzs_sub (by decide +kernel) hW) hB406 (ct_M_next_c8003 (fBz h0 hB406) (by omega)) ?_
                        rintro IhB417 _ hB417 fhB417 ⟨rfl, hz416⟩
                        have t418 := fhB417 740 14 (by decide +kernel)
                        have t419 := fhB417 740 15 (by decide +kernel)
                        have t420 := fhB417 740 16 (by decide +kernel)
                        have k421 := fBz_eq hB417 (a := 740) (j := 8) (by decide +kernel)
                        have k422 := fBz_eq hB417 (a := 740) (j := 17) (by decide +kernel)
                        refine And.intro (⟨by omega, by omega⟩) ?_
                        exact ⟨_, rfl, by omega, (par_par (by omega) (fun j => (fFr_S fhB391 (by decide +kernel) j).trans (fup_other ehB380 741 j (Or.inl (by decide)))) g0z397 (g1z397 (by omega)) (fun j => (fFr_S fhB417 (by decide +kernel) j).trans (fup_other ehB406 741 j (Or.inl (by decide)))) (by omega) (by omega) (by omega)).1, (fun _ => (par_par (by omega) (fun j => (fFr_S fhB391 (by decide +kernel) j).trans (fup_other ehB380 741 j (Or.inl (by decide)))) g0z397 (g1z397 (by omega)) (fun j => (fFr_S fhB417 (by decide +kernel) j).trans (fup_other ehB406 741 j (Or.inl (by decide)))) (by omega) (by omega) (by omega)).2)⟩
                      · intro c423
                        refine And.intro (⟨by omega, by omega⟩) ?_
                        exact ⟨_, rfl, by omega, (par_be0 (fun j => (fFr_S fhB391 (by decide +kernel) j).trans (fup_other ehB380 741 j (Or.inl (by decide)))) g0z397 (by omega) (by omega)), (fun q => absurd q (by omega))⟩
                  · intro c424
                    refine And.intro (⟨by omega, by omega⟩) ?_
                    exact ⟨_, rfl, by omega, sBe_refl, (fun q => absurd q (by omega))⟩
              · intro c425
                refine And.intro ⟨rfl, by decide, by decide⟩ (fgetf fb_740_15 h0 hB0 ?_)
                intro z426 lz426 uz426 qz426
                refine And.intro ⟨rfl, by decide, by decide⟩ (And.intro rfl (And.intro (Or.inl rfl) (fputf fb_740_15 (by decide +kernel) hW (by omega) ?_)))
                intro IhB427 ehB427 hB427
                have t428 : IhB427 740 9 = I 740 9 := (congrFun (congrFun ehB427 740) 9).trans (fup_ne (by omega))
                have t429 : IhB427 740 10 = I 740 10 := (congrFun (congrFun ehB427 740) 10).trans (fup_ne (by omega))
                have t430 : IhB427 740 11 = I 740 11 := (congrFun (congrFun ehB427 740) 11).trans (fup_ne (by omega))
                have t431 : IhB427 740 13 = I 740 13 := (congrFun (congrFun ehB427 740) 13).trans (fup_ne (by omega))
                have t432 : IhB427 740 14 = I 740 14 := (congrFun (congrFun ehB427 740) 14).trans (fup_ne (by omega))
                have t433 := fup_at ehB427 15 (by omega)
                have t434 : IhB427 740 16 = I 740 16 := (congrFun (congrFun ehB427 740) 16).trans (fup_ne (by omega))
                have k435 := fBz_eq hB427 (a := 740) (j := 8) (by decide +kernel)
                have k436 := fBz_eq hB427 (a := 740) (j := 17) (by decide +kernel)
                refine Exists.intro xm_314 (And.intro mi_314 (And.intro ⟨rfl, rfl, rfl, rfl⟩ (And.intro rfl ?_)))
                refine fcall _ h0 (fzs_sub (by decide +kernel) hW) hB427 (ct_M_next_c8003 (fBz h0 hB427) (by omega)) ?_
                rintro IhB438 _ hB438 fhB438 ⟨rfl, hz437⟩
                have t439 := fhB438 740 14 (by decide +kernel)
                have t440 := fhB438 740 15 (by decide +kernel)
                have t441 := fhB438 740 16 (by decide +kernel)
                have k442 := fBz_eq hB438 (a := 740) (j := 8) (by decide +kernel)
                have k443 := fBz_eq hB438 (a := 740) (j := 17) (by decide +kernel)
                refine Exists.intro xm_405 (And.intro mi_405 (And.intro ⟨rfl, rfl, rfl, rfl⟩ (And.intro rfl ?_)))
                refine fcall _ h0 (fzs_sub (by decide +kernel) hW) hB438 (ct_M_part0_18b69 (fBz h0 hB438) (by omega) (by omega) (by omega) (by omega) (by omega)) ?_
                rintro IhB445 _ hB445 fhB445 ⟨z444, rfl, hz444, g0z444, g1z444⟩
                have k446 := fBz_eq hB445 (a := 740) (j := 8) (by decide +kernel)
                have k447 := fBz_eq hB445 (a := 740) (j := 17) (by decide +kernel)
                refine And.intro (by omega) (And.intro ?_ ?_)
                · intro c448
                  refine And.intro ⟨rfl, by decide, by decide⟩ (fgetf fb_740_15 h0 hB445 ?_)
                  intro z449 lz449 uz449 qz449
                  refine And.intro ⟨rfl, by decide, by decide⟩ (And.intro rfl (And.intro (Or.inl rfl) (fputf fb_740_15 (by decide +kernel) hW (by omega) ?_)))
                  intro IhB450 ehB450 hB450
                  have t451 : IhB450 740 9 = IhB445 740 9 := (congrFun (congrFun ehB450 740) 9).trans (fup_ne (by omega))
                  have t452 : IhB450 740 10 = IhB445 740 10 := (congrFun (congrFun ehB450 740) 10).trans (fup_ne (by omega))
                  have t453 : IhB450 740 11 = IhB445 740 11 := (congrFun (congrFun ehB450 740) 11).trans (fup_ne (by omega))
                  have t454 : IhB450 740 13 = IhB445 740 13 := (congrFun (congrFun ehB450 740) 13).trans (fup_ne (by omega))
                  have t455 : IhB450 740 14 = IhB445 740 14 := (congrFun (congrFun ehB450 740) 14).trans (fup_ne (by omega))
                  have t456 := fup_at ehB450 15 (by omega)
                  have t457 : IhB450 740 16 = IhB445 740 16 := (congrFun (congrFun ehB450 740) 16).trans (fup_ne (by omega))
                  have k458 := fBz_eq hB450 (a := 740) (j := 8) (by decide +kernel)
                  have k459 := fBz_eq hB450 (a := 740) (j := 17) (by decide +kernel)
                  refine Exists.intro xm_421 (And.intro mi_421 (And.intro ⟨rfl, rfl, rfl, rfl⟩ (And.intro rfl ?_)))
                  refine fcall _ h0 (fzs_sub (by decide +kernel) hW) hB450 (ct_M_step_2c704 (fBz h0 hB450) (by omega) (by omega) (by omega) (by omega)) ?_
                  rintro IhB461 _ hB461 fhB461 ⟨rfl, hz460, g0z460⟩
                  have t462 := fhB461 740 9 (by decide +kernel)
                  have t463 := fhB461 740 10 (by decide +kernel)
                  have t464 := fhB461 740 11 (by decide +kernel)
                  have t465 := fhB461 740 13 (by decide +kernel)
                  have t466 := fhB461 740 14 (by decide +kernel)
                  have t467 := fhB461 740 15 (by decide +kernel)
                  have k468 := fBz_eq hB461 (a := 740) (j := 8) (by decide +kernel)
                  have k469 := fBz_eq hB461 (a := 740) (j := 17) (by decide +kernel)
                  refine And.intro (⟨by omega, by omega⟩) ?_
                  exact ⟨_, rfl, by omega, (par_not (by omega) (fun j => (fFr_S fhB438 (by decide +kernel) j).trans (fup_other ehB427 741 j (Or.inl (by decide)))) g0z444 (g1z444 (by omega)) (fun j => fup_other ehB450 741 j (Or.inl (by decide))) g0z460 (by omega) (by omega) (by omega) (by omega) (by omega) (by omega)).1, (fun _ => (par_not (by omega) (fun j => (fFr_S fhB438 (by decide +kernel) j).trans (fup_other ehB427 741 j (Or.inl (by decide)))) g0z444 (g1z444 (by omega)) (fun j => fup_other ehB450 741 j (Or.inl (by decide))) g0z460 (by omega) (by omega) (by omega) (by omega) (by omega) (by omega)).2)⟩
                · intro c470
                  refine And.intro (⟨by omega, by omega⟩) ?_
                  exact ⟨_, rfl, by omega, (par_be0 (fun j => (fFr_S fhB438 (by decide +kernel) j).trans (fup_other ehB427 741 j (Or.inl (by decide)))) g0z444 (by omega) (by omega)), (fun q => absurd q (by omega))⟩
          · intro c471
            refine And.intro ⟨rfl, by decide, by decide⟩ (fgetf fb_740_13 h0 hB0 ?_)
            intro z472 lz472 uz472 qz472
            refine Exists.intro xm_421 (And.intro mi_421 (And.intro ⟨rfl, rfl, rfl, rfl⟩ (And.intro rfl ?_)))
            refine fcall _ h0 (fzs_sub (by decide +kernel) hW) hB0 (ct_M_step_2c704 (fBz h0 hB0) (by omega) (by omega) (by omega) (by omega)) ?_
            rintro IhB474 _ hB474 fhB474 ⟨rfl, hz473, g0z473⟩
            have t475 := fhB474 740 9 (by decide +kernel)
            have t476 := fhB474 740 10 (by decide +kernel)
            have t477 := fhB474 740 11 (by decide +kernel)
            have t478 := fhB474 740 13 (by decide +kernel)
            have t479 := fhB474 740 14 (by decide +kernel)
            have t480 := fhB474 740 15 (by decide +kernel)
            have k481 := fBz_eq hB474 (a := 740) (j := 8) (by decide +kernel)
            have k482 := fBz_eq hB474 (a := 740) (j := 17) (by decide +kernel)
            refine And.intro ⟨rfl, by decide, by decide⟩ (fgetf fb_740_18 h0 hB474 ?_)
            intro z483 lz483 uz483 qz483
            intro z484 hz484 ez484 bz484
            refine And.intro ⟨rfl, by decide, by decide⟩ (And.intro rfl (And.intro (Or.inl rfl) (fputf fb_740_18 (by decide +kernel) hW (by omega) ?_)))
            intro IhB485 ehB485 hB485
            have t486 : IhB485 740 9 = IhB474 740 9 := (congrFun (congrFun ehB485 740) 9).trans (fup_ne (by omega))
            have t487 : IhB485 740 10 = IhB474 740 10 := (congrFun (congrFun ehB485 740) 10).trans (fup_ne (by omega))
            have t488 : IhB485 740 11 = IhB474 740 11 := (congrFun (congrFun ehB485 740) 11).trans (fup_ne (by omega))
            have t489 : IhB485 740 13 = IhB474 740 13 := (congrFun (congrFun ehB485 740) 13).trans (fup_ne (by omega))
            have t490 : IhB485 740 14 = IhB474 740 14 := (congrFun (congrFun ehB485 740) 14).trans (fup_ne (by omega))
            have t491 : IhB485 740 15 = IhB474 740 15 := (congrFun (congrFun ehB485 740) 15).trans (fup_ne (by omega))
            have t492 : IhB485 740 16 = IhB474 740 16 := (congrFun (congrFun ehB485 740) 16).trans (fup_ne (by omega))
            have t493 := fup_at ehB485 18 (by omega)
            have k494 := fBz_eq hB485 (a := 740) (j := 8) (by decide +kernel)
            have k495 := fBz_eq hB485 (a := 740) (j := 17) (by decide +kernel)
            refine Exists.intro xm_314 (And.intro mi_314 (And.intro ⟨rfl, rfl, rfl, rfl⟩ (And.intro rfl ?_)))
            refine fcall _ h0 (fzs_sub (by decide +kernel) hW) hB485 (ct_M_next_c8003 (fBz h0 hB485) (by omega)) ?_
            rintro IhB497 _ hB497 fhB497 ⟨rfl, hz496⟩
            have t498 := fhB497 740 14 (by decide +kernel)
            have t499 := fhB497 740 15 (by decide +kernel)
            have t500 := fhB497 740 16 (by decide +kernel)
            have t501 := fhB497 740 18 (by decide +kernel)
            have k502 := fBz_eq hB497 (a := 740) (j := 8) (by decide +kernel)
            have k503 := fBz_eq hB497 (a := 740) (j := 17) (by decide +kernel)
            refine And.intro (⟨by omega, by omega⟩) ?_
            exact ⟨_, rfl, by omega, (par_leaf (by omega) (by omega) g0z473 (fun j => (fFr_S fhB497 (by decide +kernel) j).trans (fup_other ehB485 741 j (Or.inl (by decide)))) (by omega) (by omega)).1, (fun _ => (par_leaf (by omega) (by omega) g0z473 (fun j => (fFr_S fhB497 (by decide +kernel) j).trans (fup_other ehB485 741 j (Or.inl (by decide)))) (by omega) (by omega)).2)⟩
    · intro c504
      refine And.intro ⟨rfl, by decide, by decide⟩ (fgetf fb_740_12 h0 hB0 ?_)
      intro z505 lz505 uz505 qz505
      refine Exists.intro xm_421 (And.intro mi_421 (And.intro ⟨rfl, rfl, rfl, rfl⟩ (And.intro rfl ?_)))
      refine fcall _ h0 (fzs_sub (by decide +kernel) hW) hB0 (ct_M_step_2c704 (fBz h0 hB0) (by omega) (by omega) (by omega) (by omega)) ?_
      rintro IhB507 _ hB507 fhB507 ⟨rfl, hz506, g0z506⟩
      have t508 := fhB507 740 9 (by decide +kernel)
      have t509 := fhB507 740 10 (by decide +kernel)
      have t510 := fhB507 740 11 (by decide +kernel)
      have t511 := fhB507 740 12 (by decide +kernel)
      have t512 := fhB507 740 13 (by decide +kernel)
      have t513 := fhB507 740 14 (by decide +kernel)
      have t514 := fhB507 740 15 (by decide +kernel)
      have k515 := fBz_eq hB507 (a := 740) (j := 8) (by decide +kernel)
      have k516 := fBz_eq hB507 (a := 740) (j := 17) (by decide +kernel)
      refine And.intro ⟨rfl, by decide, by decide⟩ (fgetf fb_740_18 h0 hB507 ?_)
      intro z517 lz517 uz517 qz517
      intro z518 hz518 ez518 bz518
      refine And.intro ⟨rfl, by decide, by decide⟩ (And.intro rfl (And.intro (Or.inl rfl) (fputf fb_740_18 (by decide +kernel) hW (by omega) ?_)))
      intro IhB519 ehB519 hB519
      have t520 : IhB519 740 9 = IhB507 740 9 := (congrFun (congrFun ehB519 740) 9).trans (fup_ne (by omega))
      have t521 : IhB519 740 10 = IhB507 740 10 := (congrFun (congrFun ehB519 740) 10).trans (fup_ne (by omega))
      have t522 : IhB519 740 11 = IhB507 740 11 := (congrFun (congrFun ehB519 740) 11).trans (fup_ne (by omega))
      have t523 : IhB519 740 12 = IhB507 740 12 := (congrFun (congrFun ehB519 740) 12).trans (fup_ne (by omega))
      have t524 : IhB519 740 13 = IhB507 740 13 := (congrFun (congrFun ehB519 740) 13).trans (fup_ne (by omega))
      have t525 : IhB519 740 14 = IhB507 740 14 := (congrFun (congrFun ehB519 740) 14).trans (fup_ne (by omega))
      have t526 : IhB519 740 15 = IhB507 740 15 := (congrFun (congrFun ehB519 740) 15).trans (fup_ne (by omega))
      have t527 : IhB519 740 16 = IhB507 740 16 := (congrFun (congrFun ehB519 740) 16).trans (fup_ne (by omega))
      have t528 := fup_at ehB519 18 (by omega)
      have k529 := fBz_eq hB519 (a := 740) (j := 8) (by decide +kernel)
      have k530 := fBz_eq hB519 (a := 740) (j := 17) (by decide +kernel)
      refine Exists.intro xm_314 (And.intro mi_314 (And.intro ⟨rfl, rfl, rfl, rfl⟩ (And.intro rfl ?_)))
      refine fcall _ h0 (fzs_sub (by decide +kernel) hW) hB519 (ct_M_next_c8003 (fBz h0 hB519) (by omega)) ?_
      rintro IhB532 _ hB532 fhB532 ⟨rfl, hz531⟩
      have t533 := fhB532 740 14 (by decide +kernel)
      have t534 := fhB532 740 15 (by decide +kernel)
      have t535 := fhB532 740 16 (by decide +kernel)
      have t536 := fhB532 740 18 (by decide +kernel)
      have k537 := fBz_eq hB532 (a := 740) (j := 8) (by decide +kernel)
      have k538 := fBz_eq hB532 (a := 740) (j := 17) (by decide +kernel)
      refine And.intro (⟨by omega, by omega⟩) ?_
      exact ⟨_, rfl, by omega, (par_leaf (by omega) (by omega) g0z506 (fun j => (fFr_S fhB532 (by decide +kernel) j).trans (fup_other ehB519 741 j (Or.inl (by decide)))) (by omega) (by omega)).1, (fun _ => (par_leaf (by omega) (by omega) g0z506 (fun j => (fFr_S fhB532 (by decide +kernel) j).trans (fup_other ehB519 741 j (Or.inl (by decide)))) (by omega) (by omega)).2)⟩
abbrev jc_M_term_59905_10 (I0 : fH) : Nat → fL → List fV → fH → Prop := fun m lv st I => ∃ (y1 : Int), lv = [(0, .inr (.inr (some 740))), (1, .inl y1)] ∧ st = [] ∧ ((((-1) ≤ y1 ∧ y1 ≤ 5) ∧ (I0 740 9 ≤ I 740 9) ∧ (I 740 9 ≤ I 740 10) ∧ (I 740 10 ≤ I 740 8) ∧ (I 740 11 = 0 ∨ I 740 9 < I 740 10) ∧ (I0 740 16 ≤ I 740 16) ∧ (I 740 16 - I0 740 16 ≤ I 740 9 - I0 740 9) ∧ (I 740 14 = I0 740 14) ∧ (I 740 15 = I0 740 15)) ∧ (sBe I0 I (I0 740 17) (I0 740 16)) ∧ (sOne I (I0 740 17) (I0 740 16) (I 740 16))) ∧ m = (1 + 1 * (96 - I 740 9) : Int).toNat
set_option maxRecDepth 8000 in
theorem ct_M_term_59905 {I : fH} {x1 : Int} (h0 : fB bsJ I) (ha1 : ((-1) ≤ x1 ∧ x1 ≤ 5)) (hp0 : I 740 9 ≤ I 740 10 ∧ I 740 10 ≤ I 740 8 ∧ (I 740 11 = 0 ∨ I 740 9 < I 740 10)) (hp1 : 0 ≤ I 740 16 ∧ I 740 16 ≤ I 740 9) (hp2 : 14 ≤ I 740 14 + I 740 15) (hp3 : (1215 ≤ I 740 17 ∧ I 740 17 ≤ 3415 ∧ (I 740 17 - 1215) % 200 = 0) ∨ I 740 17 = 4700) : fC ρ base n F xTc vwCl xTys D dA la gJ (fbz bsJ znJ (fKc wz_2212a) I) xm_389 [.inr (.inr (some 740)), .inl x1] I (fun I' r => ∃ z, r = some (.inl z) ∧ ((0 ≤ z ∧ z ≤ 1) ∧ (I 740 9 ≤ I' 740 9 ∧ I' 740 9 ≤ I' 740 10 ∧ I' 740 10 ≤ I' 740 8 ∧ (I' 740 11 = 0 ∨ I' 740 9 < I' 740 10) ∧ (z = 1 → I 740 16 ≤ I' 740 16 ∧ I' 740 16 - I 740 16 ≤ I' 740 9 - I 740 9 ∧ I' 740 14 = I 740 14 ∧ I' 740 15 = I 740 15))) ∧ (sBe I I' (I 740 17) (I 740 16)) ∧ (z = 1 → sOne I' (I 740 17) (I 740 16) (I' 740 16))) := by
  have hW : fzs wz_2212a (fKc wz_2212a) := fKc_ok _
  refine f_meth (rb := rbJ) (J := [(10, (jc_M_term_59905_10 I))]) 98 400 xG xin_389 x6_389 okJ (fB_self h0) ?_ ?_
  · refine List.forall_mem_cons.mpr ⟨?_, fun q h => absurd h List.not_mem_nil⟩
    · rintro m _ _ I1 hB1 ⟨y1, rfl, rfl, ⟨hb, hx0, hx1⟩, hm⟩
      have k1 := fBz_eq hB1 (a := 740) (j := 8) (by decide +kernel)
      have k2 := fBz_eq hB1 (a := 740) (j := 17) (by decide +kernel)
      refine Exists.intro xm_423 (And.intro mi_423 (And.intro ⟨rfl, rfl, rfl, rfl⟩ (And.intro rfl ?_)))
      refine fcallp hB1 (ct_M_isSign_90da9 (fBz h0 hB1) (by omega)) ?_
      rintro _ ⟨z3, rfl, hz3⟩
      refine And.intro (by omega) (And.intro ?_ ?_)
      · intro c4
        refine And.intro ⟨rfl, by decide, by decide⟩ (fgetf fb_740_13 h0 hB1 ?_)
        intro z5 lz5 uz5 qz5
        refine Exists.intro xm_314 (And.intro mi_314 (And.intro ⟨rfl, rfl, rfl, rfl⟩ (And.intro rfl ?_)))
        refine fcall _ h0 (fzs_sub (by decide +kernel) hW) hB1 (ct_M_next_c8003 (fBz h0 hB1) (by omega)) ?_
        rintro IhB7 _ hB7 fhB7 ⟨rfl, hz6⟩
        have t8 := fhB7 740 14 (by decide +kernel)
        have t9 := fhB7 740 15 (by decide +kernel)
        have t10 := fhB7 740 16 (by decide +kernel)
        have k11 := fBz_eq hB7 (a := 740) (j := 8) (by decide +kernel)
        have k12 := fBz_eq hB7 (a := 740) (j := 17) (by decide +kernel)
        refine Exists.intro xm_406 (And.intro mi_406 (And.intro ⟨rfl, rfl, rfl, rfl⟩ (And.intro rfl ?_)))
        refine fcall _ h0 (fzs_sub (by decide +kernel) hW) hB7 (ct_M_part0_08c48 (fBz h0 hB7) (by omega) (by omega) (by omega) (by omega) (by omega)) ?_
        rintro IhB14 _ hB14 fhB14 ⟨z13, rfl, hz13, g0z13, g1z13⟩
        have k15 := fBz_eq hB14 (a := 740) (j := 8) (by decide +kernel)
        have k16 := fBz_eq hB14 (a := 740) (j := 17) (by decide +kernel)
        refine And.intro (by omega) (And.intro ?_ ?_)
        · intro c17
          refine Exists.intro xm_421 (And.intro mi_421 (And.intro ⟨rfl, rfl, rfl, rfl⟩ (And.intro rfl ?_)))
          refine fcall _ h0 (fzs_sub (by decide +kernel) hW) hB14 (ct_M_step_2c704 (fBz h0 hB14) (by omega) (by omega) (by omega) (by omega)) ?_
          rintro IhB19 _ hB19 fhB19 ⟨rfl, hz18, g0z18⟩
          have t20 := fhB19 740 9 (by decide +kernel)
          have t21 := fhB19 740 10 (by decide +kernel)
          have t22 := fhB19 740 11 (by decide +kernel)
          have t23 := fhB19 740 13 (by decide +kernel)
          have t24 := fhB19 740 14 (by decide +kernel)
          have t25 := fhB19 740 15 (by decide +kernel)
          have k26 := fBz_eq hB19 (a := 740) (j := 8) (by decide +kernel)
          have k27 := fBz_eq hB19 (a := 740) (j := 17) (by decide +kernel)
          exact fcutJ (I := IhB19) (j := (jc_M_term_59905_10 I)) (lv' := [(0, .inr (.inr (some 740))), (1, .inl _)]) (And.intro rfl (And.intro rfl True.intro)) ⟨_, rfl, rfl, ⟨by omega, (par_be hx0 (fFr_S fhB7 (by decide +kernel)) g0z13 g0z18 (by omega) (by omega) (by omega) (by omega)), (par_one (by omega) hx1 (fFr_S fhB7 (by decide +kernel)) g0z13 (g1z13 (by omega)) g0z18 (by omega) (by omega) (by omega) (by omega) (by omega) (by omega))⟩, rfl⟩ (by omega)
        · intro c28
          refine And.intro (⟨by omega, by omega⟩) ?_
          exact ⟨_, rfl, by omega, (par_bel hx0 (fFr_S fhB7 (by decide +kernel)) g0z13 (by omega) (by omega)), (fun q => absurd q (by omega))⟩
      · intro c29
        refine Exists.intro xm_423 (And.intro mi_423 (And.intro ⟨rfl, rfl, rfl, rfl⟩ (And.intro rfl ?_)))
        refine fcallp hB1 (ct_M_isSign_90da9 (fBz h0 hB1) (by omega)) ?_
        rintro _ ⟨z30, rfl, hz30⟩
        refine And.intro (by omega) (And.intro ?_ ?_)
        · intro c31
          refine And.intro (⟨by omega, by omega⟩) ?_
          exact ⟨_, rfl, by omega, hx0, (fun _ => hx1)⟩
        · intro c32
          refine And.intro ⟨rfl, by decide, by decide⟩ (fgetf fb_740_13 h0 hB1 ?_)
          intro z33 lz33 uz33 qz33
          refine Exists.intro xm_314 (And.intro mi_314 (And.intro ⟨rfl, rfl, rfl, rfl⟩ (And.intro rfl ?_)))
          refine fcall _ h0 (fzs_sub (by decide +kernel) hW) hB1 (ct_M_next_c8003 (fBz h0 hB1) (by omega)) ?_
          rintro IhB35 _ hB35 fhB35 ⟨rfl, hz34⟩
          have t36 := fhB35 740 14 (by decide +kernel)
          have t37 := fhB35 740 15 (by decide +kernel)
          have t38 := fhB35 740 16 (by decide +kernel)
          have k39 := fBz_eq hB35 (a := 740) (j := 8) (by decide +kernel)
          have k40 := fBz_eq hB35 (a := 740) (j := 17) (by decide +kernel)
          refine Exists.intro xm_406 (And.intro mi_406 (And.intro ⟨rfl, rfl, rfl, rfl⟩ (And.intro rfl ?_)))
          refine fcall _ h0 (fzs_sub (by decide +kernel) hW) hB35 (ct_M_part0_08c48 (fBz h0 hB35) (by omega) (by omega) (by omega) (by omega) (by omega)) ?_
          rintro IhB42 _ hB42 fhB42 ⟨z41, rfl, hz41, g0z41, g1z41⟩
          have k43 := fBz_eq hB42 (a := 740) (j := 8) (by decide +kernel)
          have k44 := fBz_eq hB42 (a := 740) (j := 17) (by decide +kernel)
          refine And.intro (by omega) (And.intro ?_ ?_)
          · intro c45
            refine Exists.intro xm_421 (And.intro mi_421 (And.intro ⟨rfl, rfl, rfl, rfl⟩ (And.intro rfl ?_)))
            refine fcall _ h0 (fzs_sub (by decide +kernel) hW) hB42 (ct_M_step_2c704 (fBz h0 hB42) (by omega) (by omega) (by omega) (by omega)) ?_
            rintro IhB47 _ hB47 fhB47 ⟨rfl, hz46, g0z46⟩
            have t48 := fhB47 740 9 (by decide +kernel)
            have t49 := fhB47 740 10 (by decide +kernel)
            have t50 := fhB47 740 11 (by decide +kernel)
            have t51 := fhB47 740 13 (by decide +kernel)
            have t52 := fhB47 740 14 (by decide +kernel)
            have t53 := fhB47 740 15 (by decide +kernel)
            have k54 := fBz_eq hB47 (a := 740) (j := 8) (by decide +kernel)
            have k55 := fBz_eq hB47 (a := 740) (j := 17) (by decide +kernel)
            exact fcutJ (I := IhB47) (j := (jc_M_term_59905_10 I)) (lv' := [(0, .inr (.inr (some 740))), (1, .inl _)]) (And.intro rfl (And.intro rfl True.intro)) ⟨_, rfl, rfl, ⟨by omega, (par_be hx0 (fFr_S fhB35 (by decide +kernel)) g0z41 g0z46 (by omega) (by omega) (by omega) (by omega)), (par_one (by omega) hx1 (fFr_S fhB35 (by decide +kernel)) g0z41 (g1z41 (by omega)) g0z46 (by omega) (by omega) (by omega) (by omega) (by omega) (by omega))⟩, rfl⟩ (by omega)
          · intro c56
            refine And.intro (⟨by omega, by omega⟩) ?_
            exact ⟨_, rfl, by omega, (par_bel hx0 (fFr_S fhB35 (by decide +kernel)) g0z41 (by omega) (by omega)), (fun q => absurd q (by omega))⟩
  · have hB0 := fB_self (zn := znJ) (K := fKc wz_2212a) h0
    refine Exists.intro xm_406 (And.intro mi_406 (And.intro ⟨rfl, rfl, rfl, rfl⟩ (And.intro rfl ?_)))
    refine fcall _ h0 (fzs_sub (by decide +kernel) hW) hB0 (ct_M_part0_08c48 (fBz h0 hB0) (by omega) (by omega) (by omega) (by omega) (by omega)) ?_
    rintro IhB58 _ hB58 fhB58 ⟨z57, rfl, hz57, g0z57, g1z57⟩
    have k59 := fBz_eq hB58 (a := 740) (j := 8) (by decide +kernel)
    have k60 := fBz_eq hB58 (a := 740) (j := 17) (by decide +kernel)
    refine And.intro (by omega) (And.intro ?_ ?_)
    · intro c61
      exact fcutJ (I := IhB58) (j := (jc_M_term_59905_10 I)) (lv' := [(0, .inr (.inr (some 740))), (1, .inl _)]) (And.intro rfl (And.intro rfl True.intro)) ⟨_, rfl, rfl, ⟨by omega, g0z57, (g1z57 (by omega))⟩, rfl⟩ (by omega)
    · intro c62
      refine And.intro (⟨by omega, by omega⟩) ?_
      exact ⟨_, rfl, by omega, g0z57, (fun q => absurd q (by omega))⟩
abbrev jc_M_sum_a9d56_10 (I0 : fH) : Nat → fL → List fV → fH → Prop := fun m lv st I => ∃ (y1 : Int), lv = [(0, .inr (.inr (some 740))), (1, .inl y1)] ∧ st = [] ∧ ((((-1) ≤ y1 ∧ y1 ≤ 5) ∧ (I0 740 9 ≤ I 740 9) ∧ (I 740 9 ≤ I 740 10) ∧ (I 740 10 ≤ I 740 8) ∧ (I 740 11 = 0 ∨ I 740 9 < I 740 10) ∧ (I0 740 16 ≤ I 740 16) ∧ (I 740 16 - I0 740 16 ≤ I 740 9 - I0 740 9) ∧ (I 740 14 = I0 740 14) ∧ (I 740 15 = I0 740 15)) ∧ (sBe I0 I (I0 740 17) (I0 740 16)) ∧ (sOne I (I0 740 17) (I0 740 16) (I 740 16))) ∧ m = (1 + 1 * (96 - I 740 9) : Int).toNat
set_option maxRecDepth 8000 in
theorem ct_M_sum_a9d56 {I : fH} {x1 : Int} (h0 : fB bsJ I) (ha1 : ((-1) ≤ x1 ∧ x1 ≤ 5)) (hp0 : I 740 9 ≤ I 740 10 ∧ I 740 10 ≤ I 740 8 ∧ (I 740 11 = 0 ∨ I 740 9 < I 740 10)) (hp1 : 0 ≤ I 740 16 ∧ I 740 16 ≤ I 740 9) (hp2 : 14 ≤ I 740 14 + I 740 15) (hp3 : (1215 ≤ I 740 17 ∧ I 740 17 ≤ 3415 ∧ (I 740 17 - 1215) % 200 = 0) ∨ I 740 17 = 4700) : fC ρ base n F xTc vwCl xTys D dA la gJ (fbz bsJ znJ (fKc wz_2212a) I) xm_372 [.inr (.inr (some 740)), .inl x1] I (fun I' r => ∃ z, r = some (.inl z) ∧ ((0 ≤ z ∧ z ≤ 1) ∧ (I 740 9 ≤ I' 740 9 ∧ I' 740 9 ≤ I' 740 10 ∧ I' 740 10 ≤ I' 740 8 ∧ (I' 740 11 = 0 ∨ I' 740 9 < I' 740 10) ∧ (z = 1 → I 740 16 ≤ I' 740 16 ∧ I' 740 16 - I 740 16 ≤ I' 740 9 - I 740 9 ∧ I' 740 14 = I 740 14 ∧ I' 740 15 = I 740 15))) ∧ (sBe I I' (I 740 17) (I 740 16)) ∧ (z = 1 → sOne I' (I 740 17) (I 740 16) (I' 740 16))) := by
  have hW : fzs wz_2212a (fKc wz_2212a) := fKc_ok _
  refine f_meth (rb := rbJ) (J := [(10, (jc_M_sum_a9d56_10 I))]) 98 400 xG xin_372 x6_372 okJ (fB_self h0) ?_ ?_
  · refine List.forall_mem_cons.mpr ⟨?_, fun q h => absurd h List.not_mem_nil⟩
    · rintro m _ _ I1 hB1 ⟨y1, rfl, rfl, ⟨hb, hx0, hx1⟩, hm⟩
      have k1 := fBz_eq hB1 (a := 740) (j := 8) (by decide +kernel)
      have k2 := fBz_eq hB1 (a := 740) (j := 17) (by decide +kernel)
      refine Exists.intro xm_423 (And.intro mi_423 (And.intro ⟨rfl, rfl, rfl, rfl⟩ (And.intro rfl ?_)))
      refine fcallp hB1 (ct_M_isSign_90da9 (fBz h0 hB1) (by omega)) ?_
      rintro _ ⟨z3, rfl, hz3⟩
      refine And.intro (by omega) (And.intro ?_ ?_)
      · intro c4
        refine And.intro ⟨rfl, by decide, by decide⟩ (fgetf fb_740_13 h0 hB1 ?_)
        intro z5 lz5 uz5 qz5
        refine Exists.intro xm_314 (And.intro mi_314 (And.intro ⟨rfl, rfl, rfl, rfl⟩ (And.intro rfl ?_)))
        refine fcall _ h0 (fzs_sub (by decide +kernel) hW) hB1 (ct_M_next_c8003 (fBz h0 hB1) (by omega)) ?_
        rintro IhB7 _ hB7 fhB7 ⟨rfl, hz6⟩
        have t8 := fhB7 740 14 (by decide +kernel)
        have t9 := fhB7 740 15 (by decide +kernel)
        have t10 := fhB7 740 16 (by decide +kernel)
        have k11 := fBz_eq hB7 (a := 740) (j := 8) (by decide +kernel)
        have k12 := fBz_eq hB7 (a := 740) (j := 17) (by decide +kernel)
        refine Exists.intro xm_389 (And.intro mi_389 (And.intro ⟨rfl, rfl, rfl, rfl⟩ (And.intro rfl ?_)))
        refine fcall _ h0 (fzs_sub (by decide +kernel) hW) hB7 (ct_M_term_59905 (fBz h0 hB7) (by omega) (by omega) (by omega) (by omega) (by omega)) ?_
        rintro IhB14 _ hB14 fhB14 ⟨z13, rfl, hz13, g0z13, g1z13⟩
        have k15 := fBz_eq hB14 (a := 740) (j := 8) (by decide +kernel)
        have k16 := fBz_eq hB14 (a := 740) (j := 17) (by decide +kernel)
        refine And.intro (by omega) (And.intro ?_ ?_)
        · intro c17
          refine Exists.intro xm_421 (And.intro mi_421 (And.intro ⟨rfl, rfl, rfl, rfl⟩ (And.intro rfl ?_)))
          refine fcall _ h0 (fzs_sub (by decide +kernel) hW) hB14 (ct_M_step_2c704 (fBz h0 hB14) (by omega) (by omega) (by omega) (by omega)) ?_
          rintro IhB19 _ hB19 fhB19 ⟨rfl, hz18, g0z18⟩
          have t20 := fhB19 740 9 (by decide +kernel)
          have t21 := fhB19 740 10 (by decide +kernel)
          have t22 := fhB19 740 11 (by decide +kernel)
          have t23 := fhB19 740 13 (by decide +kernel)
          have t24 := fhB19 740 14 (by decide +kernel)
          have t25 := fhB19 740 15 (by decide +kernel)
          have k26 := fBz_eq hB19 (a := 740) (j := 8) (by decide +kernel)
          have k27 := fBz_eq hB19 (a := 740) (j := 17) (by decide +kernel)
          exact fcutJ (I := IhB19) (j := (jc_M_sum_a9d56_10 I)) (lv' := [(0, .inr (.inr (some 740))), (1, .inl _)]) (And.intro rfl (And.intro rfl True.intro)) ⟨_, rfl, rfl, ⟨by omega, (par_be hx0 (fFr_S fhB7 (by decide +kernel)) g0z13 g0z18 (by omega) (by omega) (by omega) (by omega)), (par_one (by omega) hx1 (fFr_S fhB7 (by decide +kernel)) g0z13 (g1z13 (by omega)) g0z18 (by omega) (by omega) (by omega) (by omega) (by omega) (by omega))⟩, rfl⟩ (by omega)
        · intro c28
          refine And.intro (⟨by omega, by omega⟩) ?_
          exact ⟨_, rfl, by omega, (par_bel hx0 (fFr_S fhB7 (by decide +kernel)) g0z13 (by omega) (by omega)), (fun q => absurd q (by omega))⟩
      · intro c29
        refine Exists.intro xm_423 (And.intro mi_423 (And.intro ⟨rfl, rfl, rfl, rfl⟩ (And.intro rfl ?_)))
        refine fcallp hB1 (ct_M_isSign_90da9 (fBz h0 hB1) (by omega)) ?_
        rintro _ ⟨z30, rfl, hz30⟩
        refine And.intro (by omega) (And.intro ?_ ?_)
        · intro c31
          refine And.intro (⟨by omega, by omega⟩) ?_
          exact ⟨_, rfl, by omega, hx0, (fun _ => hx1)⟩
        · intro c32
          refine And.intro ⟨rfl, by decide, by decide⟩ (fgetf fb_740_13 h0 hB1 ?_)
          intro z33 lz33 uz33 qz33
          refine Exists.intro xm_314 (And.intro mi_314 (And.intro ⟨rfl, rfl, rfl, rfl⟩ (And.intro rfl ?_)))
          refine fcall _ h0 (fzs_sub (by decide +kernel) hW) hB1 (ct_M_next_c8003 (fBz h0 hB1) (by omega)) ?_
          rintro IhB35 _ hB35 fhB35 ⟨rfl, hz34⟩
          have t36 := fhB35 740 14 (by decide +kernel)
          have t37 := fhB35 740 15 (by decide +kernel)
          have t38 := fhB35 740 16 (by decide +kernel)
          have k39 := fBz_eq hB35 (a := 740) (j := 8) (by decide +kernel)
          have k40 := fBz_eq hB35 (a := 740) (j := 17) (by decide +kernel)
          refine Exists.intro xm_389 (And.intro mi_389 (And.intro ⟨rfl, rfl, rfl, rfl⟩ (And.intro rfl ?_)))
          refine fcall _ h0 (fzs_sub (by decide +kernel) hW) hB35 (ct_M_term_59905 (fBz h0 hB35) (by omega) (by omega) (by omega) (by omega) (by omega)) ?_
          rintro IhB42 _ hB42 fhB42 ⟨z41, rfl, hz41, g0z41, g1z41⟩
          have k43 := fBz_eq hB42 (a := 740) (j := 8) (by decide +kernel)
          have k44 := fBz_eq hB42 (a := 740) (j := 17) (by decide +kernel)
          refine And.intro (by omega) (And.intro ?_ ?_)
          · intro c45
            refine Exists.intro xm_421 (And.intro mi_421 (And.intro ⟨rfl, rfl, rfl, rfl⟩ (And.intro rfl ?_)))
            refine fcall _ h0 (fzs_sub (by decide +kernel) hW) hB42 (ct_M_step_2c704 (fBz h0 hB42) (by omega) (by omega) (by omega) (by omega)) ?_
            rintro IhB47 _ hB47 fhB47 ⟨rfl, hz46, g0z46⟩
            have t48 := fhB47 740 9 (by decide +kernel)
            have t49 := fhB47 740 10 (by decide +kernel)
            have t50 := fhB47 740 11 (by decide +kernel)
            have t51 := fhB47 740 13 (by decide +kernel)
            have t52 := fhB47 740 14 (by decide +kernel)
            have t53 := fhB47 740 15 (by decide +kernel)
            have k54 := fBz_eq hB47 (a := 740) (j := 8) (by decide +kernel)
            have k55 := fBz_eq hB47 (a := 740) (j := 17) (by decide +kernel)
            exact fcutJ (I := IhB47) (j := (jc_M_sum_a9d56_10 I)) (lv' := [(0, .inr (.inr (some 740))), (1, .inl _)]) (And.intro rfl (And.intro rfl True.intro)) ⟨_, rfl, rfl, ⟨by omega, (par_be hx0 (fFr_S fhB35 (by decide +kernel)) g0z41 g0z46 (by omega) (by omega) (by omega) (by omega)), (par_one (by omega) hx1 (fFr_S fhB35 (by decide +kernel)) g0z41 (g1z41 (by omega)) g0z46 (by omega) (by omega) (by omega) (by omega) (by omega) (by omega))⟩, rfl⟩ (by omega)
          · intro c56
            refine And.intro (⟨by omega, by omega⟩) ?_
            exact ⟨_, rfl, by omega, (par_bel hx0 (fFr_S fhB35 (by decide +kernel)) g0z41 (by omega) (by omega)), (fun q => absurd q (by omega))⟩
  · have hB0 := fB_self (zn := znJ) (K := fKc wz_2212a) h0
    refine Exists.intro xm_389 (And.intro mi_389 (And.intro ⟨rfl, rfl, rfl, rfl⟩ (And.intro rfl ?_)))
    refine fcall _ h0 (fzs_sub (by decide +kernel) hW) hB0 (ct_M_term_59905 (fBz h0 hB0) (by omega) (by omega) (by omega) (by omega) (by omega)) ?_
    rintro IhB58 _ hB58 fhB58 ⟨z57, rfl, hz57, g0z57, g1z57⟩
    have k59 := fBz_eq hB58 (a := 740) (j := 8) (by decide +kernel)
    have k60 := fBz_eq hB58 (a := 740) (j := 17) (by decide +kernel)
    refine And.intro (by omega) (And.intro ?_ ?_)
    · intro c61
      exact fcutJ (I := IhB58) (j := (jc_M_sum_a9d56_10 I)) (lv' := [(0, .inr (.inr (some 740))), (1, .inl _)]) (And.intro rfl (And.intro rfl True.intro)) ⟨_, rfl, rfl, ⟨by omega, g0z57, (g1z57 (by omega))⟩, rfl⟩ (by omega)
    · intro c62
      refine And.intro (⟨by omega, by omega⟩) ?_
      exact ⟨_, rfl, by omega, g0z57, (fun q => absurd q (by omega))⟩
end CT

/-! contracts (written by gen95.py) -/
abbrev wz_c5e7d : List Nat := [12208, 12209, 12210, 12211, 12212, 12213, 12214, 12215, 12216, 12217, 12218, 20009, 20600, 20601, 20602, 20603, 20604, 20605, 20840]
theorem x6_312 : f60c xTc xTys xm_312 = true := by decide +kernel
theorem rS_741_741_1210_3410_200_0 : frS gJ bsJ znJ [20600] 100 ((741, 741), (1210, 3410), (200, 0), ((-2147483648), 2147483647)) := frS_of (by decide +kernel)
theorem rS_741_741_1211_3411_200_0 : frS gJ bsJ znJ [20601] 100 ((741, 741), (1211, 3411), (200, 0), ((-2147483648), 2147483647)) := frS_of (by decide +kernel)
theorem rS_741_741_1212_3412_200_0 : frS gJ bsJ znJ [20602] 100 ((741, 741), (1212, 3412), (200, 0), ((-2147483648), 2147483647)) := frS_of (by decide +kernel)
theorem rS_741_741_1213_3413_200_0 : frS gJ bsJ znJ [20603] 100 ((741, 741), (1213, 3413), (200, 0), ((-2147483648), 2147483647)) := frS_of (by decide +kernel)
theorem rS_741_741_1214_3414_200_0 : frS gJ bsJ znJ [20604] 100 ((741, 741), (1214, 3414), (200, 0), ((-2147483648), 2147483647)) := frS_of (by decide +kernel)
theorem rS_741_741_9_9_1_0 : frS gJ bsJ znJ [20009] 100 ((741, 741), (9, 9), (1, 0), (0, 12)) := frS_of (by decide +kernel)
theorem fb_740_9 : bsJ 740 9 = (0, 96) := by decide +kernel
abbrev wz_ce28c : List Nat := [756]
abbrev wz_4d25e : List Nat := [757, 758, 12233, 12234, 12235]
theorem x6_478 : f60c xTc xTys xm_478 = true := by decide +kernel
theorem fb_740_33 : bsJ 740 33 = ((-2147483648), 2147483647) := by decide +kernel
theorem fb_740_34 : bsJ 740 34 = ((-2147483648), 2147483647) := by decide +kernel
theorem fb_740_35 : bsJ 740 35 = (0, 1) := by decide +kernel
theorem fb_741_12 : bsJ 741 12 = (0, 7) := by decide +kernel
theorem x6_487 : f60c xTc xTys xm_487 = true := by decide +kernel
theorem rL_741_741_12_12_1_0 : frL gJ bsJ 100 ((741, 741), (12, 12), (1, 0), (0, 7)) := frL_of (by decide +kernel)
theorem rL_758_758_0_6_1_0 : frL gJ bsJ 100 ((758, 758), (0, 6), (1, 0), (0, 6)) := frL_of (by decide +kernel)
abbrev wz_518f7 : List Nat := [760, 12239]
abbrev wz_7bd74 : List Nat := [756, 760, 12239]
abbrev wz_376a3 : List Nat := [743, 760, 12239, 20000, 20001, 20002, 20003, 20004, 20005, 20006, 20007, 20008, 20009, 20010, 20011, 20012, 20013, 20014, 20015, 20016, 20017, 20018, 20019, 20020, 20021, 20022, 20023, 20024, 20025, 20026, 20027, 20028, 20029, 20100, 20101, 20102, 20103, 20104, 20105, 20106, 20107, 20108, 20109, 20110, 20111, 20112, 20113, 20114, 20115, 20116, 20117, 20118, 20119, 20200, 20201, 20202, 20203, 20300, 20301, 20302, 20303, 20304, 20305, 20306, 20307, 20308, 20309, 20310, 20311, 20312, 20313, 20400, 20401, 20402, 20403, 20404, 20405, 20500, 20600, 20601, 20602, 20603, 20604, 20605, 20700, 20701, 20702, 20703, 20704, 20705, 20706, 20707, 20800, 20801, 20802, 20810, 20811, 20820, 20821, 20822, 20830, 20831, 20832, 20833, 20834, 20840, 20850]
theorem x6_493 : f60c xTc xTys xm_493 = true := by decide +kernel
theorem rL_742_742_0_4899_1_0 : frL gJ bsJ 100 ((742, 742), (0, 4899), (1, 0), ((-2147483648), 2147483647)) := frL_hull (by decide) (by decide +kernel)
theorem rL_741_741_1_1_1_0 : frL gJ bsJ 100 ((741, 741), (1, 1), (1, 0), (0, 600)) := frL_of (by decide +kernel)
theorem rL_743_743_0_4899_1_0 : frL gJ bsJ 100 ((743, 743), (0, 4899), (1, 0), ((-2147483648), 2147483647)) := frL_hull (by decide) (by decide +kernel)
theorem fb_740_3 : bsJ 740 3 = (0, 1) := by decide +kernel
abbrev wz_96c9e : List Nat := [757, 758, 760, 12233, 12234, 12235, 12239]
abbrev wz_a99d3 : List Nat := [743, 756, 757, 758, 760, 12233, 12234, 12235, 12237, 12239, 20000, 20001, 20002, 20003, 20004, 20005, 20006, 20007, 20008, 20009, 20010, 20011, 20012, 20013, 20014, 20015, 20016, 20017, 20018, 20019, 20020, 20021, 20022, 20023, 20024, 20025, 20026, 20027, 20028, 20029, 20100, 20101, 20102, 20103, 20104, 20105, 20106, 20107, 20108, 20109, 20110, 20111, 20112, 20113, 20114, 20115, 20116, 20117, 20118, 20119, 20200, 20201, 20202, 20203, 20300, 20301, 20302, 20303, 20304, 20305, 20306, 20307, 20308, 20309, 20310, 20311, 20312, 20313, 20400, 20401, 20402, 20403, 20404, 20405, 20500, 20600, 20601, 20602, 20603, 20604, 20605, 20700, 20701, 20702, 20703, 20704, 20705, 20706, 20707, 20800, 20801, 20802, 20810, 20811, 20820, 20821, 20822, 20830, 20831, 20832, 20833, 20834, 20840, 20850]
theorem x6_489 : f60c xTc xTys xm_489 = true := by decide +kernel
theorem fb_740_39 : bsJ 740 39 = (0, 60) := by decide +kernel
theorem rL_759_759_0_59_1_0 : frL gJ bsJ 100 ((759, 759), (0, 59), (1, 0), ((-2147483648), 2147483647)) := frL_hull (by decide) (by decide +kernel)
theorem rL_760_760_0_59_1_0 : frL gJ bsJ 100 ((760, 760), (0, 59), (1, 0), ((-2147483648), 2147483647)) := frL_hull (by decide) (by decide +kernel)
theorem fb_740_37 : bsJ 740 37 = (0, 60) := by decide +kernel
section CT
variable {ρ : Nat → Int32} {base n : Nat} {F : Nat → Prop} {D : va_G} {dA : Nat → ClassId} {la : Launch}
set_option maxRecDepth 8000 in
theorem ct_M_text_560c5 {I : fH}  (h0 : fB bsJ I) (hp0 : sI I 741) : fC ρ base n F xTc vwCl xTys D dA la gJ (fbz bsJ znJ (fKc wz_c5e7d) I) xm_312 [.inr (.inr (some 740))] I (fun I' r => ∃ z, r = some (.inl z) ∧ (((-196) ≤ z ∧ z ≤ 11) ∨ z = (-1000000003)) ∧ (sI I' 741)) := by
  have hW : fzs wz_c5e7d (fKc wz_c5e7d) := fKc_ok _
  refine f_meth (rb := rbJ) (J := []) 1 400 xG xin_312 x6_312 okJ (fB_self h0) ?_ ?_
  · exact fun q h => absurd h List.not_mem_nil
  · have hB0 := fB_self (zn := znJ) (K := fKc wz_c5e7d) h0
    have b1 := fBd fb_741_9 (fBz h0 hB0)
    refine Exists.intro xm_313 (And.intro mi_313 (And.intro ⟨rfl, rfl, rfl, rfl⟩ (And.intro rfl ?_)))
    refine fcall _ h0 (fzs_sub (by decide +kernel) hW) hB0 (ct_M_parse_ea878 (fBz h0 hB0)) ?_
    rintro IhB3 _ hB3 fhB3 ⟨z2, rfl, hz2, g0z2, g1z2⟩
    have t4 := fhB3 741 9 (by decide +kernel)
    refine And.intro (by omega) (And.intro ?_ ?_)
    · intro c5
      refine And.intro ⟨rfl, by decide, by decide⟩ ?_
      refine fload rL_741_741_9_9_1_0 h0 hB3 (by omega) ?_
      intro z6 lz6 uz6 qz6
      have pz6 := fld_at qz6 9 (by omega)
      refine And.intro (by omega) (And.intro ?_ ?_)
      · intro c7
        refine And.intro ⟨rfl, by decide, by decide⟩ ?_
        refine fload rL_741_741_9_9_1_0 h0 hB3 (by omega) ?_
        intro z8 lz8 uz8 qz8
        have pz8 := fld_at qz8 9 (by omega)
        refine Exists.intro xm_255 (And.intro mi_255 (And.intro ⟨rfl, rfl, rfl, rfl⟩ (And.intro rfl ?_)))
        refine fcallp hB3 (ct_M_textAt_ea474 (fBz h0 hB3) (by omega)) ?_
        rintro _ ⟨_, rfl, rfl⟩
        refine And.intro ⟨rfl, by decide, by decide⟩ ?_
        refine fstore rS_741_741_1210_3410_200_0 (fzs_sub (by decide +kernel) hW) (by omega) (by omega) ?_
        intro IhB10 ehB10 hB10
        have t11 := fup_self ehB10
        have t12 : IhB10 741 9 = IhB3 741 9 := (congrFun (congrFun ehB10 741) 9).trans (fup_ne (by omega))
        refine And.intro ⟨rfl, by decide, by decide⟩ ?_
        refine fstore rS_741_741_1211_3411_200_0 (fzs_sub (by decide +kernel) hW) (by omega) (by omega) ?_
        intro IhB13 ehB13 hB13
        have t14 := fup_self ehB13
        have t15 : IhB13 741 9 = IhB10 741 9 := (congrFun (congrFun ehB13 741) 9).trans (fup_ne (by omega))
        refine And.intro ⟨rfl, by decide, by decide⟩ ?_
        refine fstore rS_741_741_1212_3412_200_0 (fzs_sub (by decide +kernel) hW) (by omega) (by omega) ?_
        intro IhB16 ehB16 hB16
        have t17 := fup_self ehB16
        have t18 : IhB16 741 9 = IhB13 741 9 := (congrFun (congrFun ehB16 741) 9).trans (fup_ne (by omega))
        refine And.intro ⟨rfl, by decide, by decide⟩ ?_
        refine And.intro ⟨rfl, by decide, by decide⟩ (fgetf fb_740_18 h0 hB16 ?_)
        intro z19 lz19 uz19 qz19
        refine fstore rS_741_741_1213_3413_200_0 (fzs_sub (by decide +kernel) hW) (by omega) (by omega) ?_
        intro IhB20 ehB20 hB20
        have t21 := fup_self ehB20
        have t22 : IhB20 740 18 = IhB16 740 18 := (congrFun (congrFun ehB20 740) 18).trans (fup_ne (by omega))
        have t23 : IhB20 741 9 = IhB16 741 9 := (congrFun (congrFun ehB20 741) 9).trans (fup_ne (by omega))
        refine And.intro ⟨rfl, by decide, by decide⟩ ?_
        refine And.intro ⟨rfl, by decide, by decide⟩ (fgetf fb_740_16 h0 hB20 ?_)
        intro z24 lz24 uz24 qz24
        refine fstore rS_741_741_1214_3414_200_0 (fzs_sub (by decide +kernel) hW) (by omega) (by omega) ?_
        intro IhB25 ehB25 hB25
        have t26 := fup_self ehB25
        have t27 : IhB25 740 16 = IhB20 740 16 := (congrFun (congrFun ehB25 740) 16).trans (fup_ne (by omega))
        have t28 : IhB25 740 18 = IhB20 740 18 := (congrFun (congrFun ehB25 740) 18).trans (fup_ne (by omega))
        have t29 : IhB25 741 9 = IhB20 741 9 := (congrFun (congrFun ehB25 741) 9).trans (fup_ne (by omega))
        refine And.intro ⟨rfl, by decide, by decide⟩ ?_
        refine fload rL_741_741_9_9_1_0 h0 hB25 (by omega) ?_
        intro z30 lz30 uz30 qz30
        have pz30 := fld_at qz30 9 (by omega)
        refine fstore rS_741_741_9_9_1_0 (fzs_sub (by decide +kernel) hW) (by omega) (by omega) ?_
        intro IhB31 ehB31 hB31
        have t32 := fup_self ehB31
        have t33 : IhB31 740 16 = IhB25 740 16 := (congrFun (congrFun ehB31 740) 16).trans (fup_ne (by omega))
        have t34 : IhB31 740 18 = IhB25 740 18 := (congrFun (congrFun ehB31 740) 18).trans (fup_ne (by omega))
        have t35 := fup_at ehB31 9 (by omega)
        refine And.intro ⟨rfl, by decide, by decide⟩ ?_
        refine fload rL_741_741_9_9_1_0 h0 hB31 (by omega) ?_
        intro z36 lz36 uz36 qz36
        have pz36 := fld_at qz36 9 (by omega)
        refine And.intro (True.intro) ?_
        exact ⟨_, rfl, by omega, (sI_text (sBd_of h0) (by omega) (fun j h hj => h.elim (fun h => ((fup_other ehB31 741 j (Or.inr (by omega))).trans ((fup_other ehB25 741 j (Or.inr (by omega))).trans ((fup_other ehB20 741 j (Or.inr (by omega))).trans ((fup_other ehB16 741 j (Or.inr (by omega))).trans ((fup_other ehB13 741 j (Or.inr (by omega))).trans ((fup_other ehB10 741 j (Or.inr (by omega))).trans (g0z2.1 (by omega) j (by omega))))))))) (fun h => shp_keep hB31 (by decide +kernel) h)) (sT_of (M := IhB3 740 16) (sOne_to (sOne_be (by omega) (g1z2 (by omega) (by omega)) (fun j q => ((fup_other ehB31 741 j (Or.inr (by omega))).trans ((fup_other ehB25 741 j (Or.inr (by omega))).trans ((fup_other ehB20 741 j (Or.inr (by omega))).trans ((fup_other ehB16 741 j (Or.inr (by omega))).trans ((fup_other ehB13 741 j (Or.inr (by omega))).trans (fup_other ehB10 741 j (Or.inr (by omega)))))))))) (by omega) (by omega) (by omega)) (by omega) (by rw [(fup_other ehB31 741 (1214 + 200 * (I 741 9).toNat) (Or.inr (by omega))), fup_at ehB25 (1214 + 200 * (I 741 9).toNat) (by omega)]; omega)) (by omega) hp0)⟩
      · intro c37
        refine And.intro (True.intro) ?_
        exact ⟨_, rfl, by omega, (sI_par (sBd_of h0) (by omega) (fun j h => h.elim (fun h => by first | exact g0z2.1 (by omega) j (by omega) | exact g0z2.2 (by omega) j (by omega)) (fun h => shp_keep hB3 (by decide +kernel) h)) hp0)⟩
    · intro c38
      refine And.intro ⟨rfl, by decide, by decide⟩ (fgetf fb_740_9 h0 hB3 ?_)
      intro z39 lz39 uz39 qz39
      refine And.intro (True.intro) ?_
      exact ⟨_, rfl, by omega, (sI_par (sBd_of h0) (by omega) (fun j h => h.elim (fun h => by first | exact g0z2.1 (by omega) j (by omega) | exact g0z2.2 (by omega) j (by omega)) (fun h => shp_keep hB3 (by decide +kernel) h)) hp0)⟩
theorem ct_M_harmBy_4eb55 {I : fH} {x1 : Int} {x2 : Int} {x3 : Int} (h0 : fB bsJ I) (ha1 : (0 ≤ x1 ∧ x1 ≤ 23)) (ha2 : (0 ≤ x2 ∧ x2 ≤ 300)) (ha3 : (0 ≤ x3 ∧ x3 ≤ 3)) : fC ρ base n F xTc vwCl xTys D dA la gJ (fbz bsJ znJ (fKc []) I) xm_467 [.inr (.inr (some 740)), .inl x1, .inl x2, .inl x3] I (fun _ r => ∃ z, r = some (.inl z) ∧ (((-2147483648) ≤ z ∧ z ≤ 2147483647) ∧ (0 ≤ z ∧ z ≤ 1000000)) ∧ (z = hbv I x1 x2 x3)) := sorry
theorem ct_M_findLoads_1f96d {I : fH} {x1 : Int} {x2 : Int} (h0 : fB bsJ I) (ha1 : (1 ≤ x1 ∧ x1 ≤ 24)) (ha2 : (0 ≤ x2 ∧ x2 ≤ 300)) : fC ρ base n F xTc vwCl xTys D dA la gJ (fbz bsJ znJ (fKc wz_ce28c) I) xm_466 [.inr (.inr (some 740)), .inl x1, .inl x2] I (fun I' r => ∃ z, r = some (.inl z) ∧ (0 ≤ z ∧ z ≤ 1000000) ∧ (∀ i b : Int, 0 ≤ i → i < x1 → 0 ≤ b → b ≤ x2 → sLd I' i b) ∧ (z = I' 756 x2.toNat)) := sorry
theorem ct_M_isNight_38061 {I : fH} {x0 : Int} {x1 : Int} (h0 : fB bsJ I) (ha0 : ((-2147483648) ≤ x0 ∧ x0 ≤ 2147483647)) (ha1 : ((-2147483648) ≤ x1 ∧ x1 ≤ 2147483647)) : fC ρ base n F xTc vwCl xTys D dA la gJ (fbz bsJ znJ (fKc []) I) xm_465 [.inl x0, .inl x1] I (fun _ r => ∃ z, r = some (.inl z) ∧ ((z = 1 ∧ 1 ≤ x0 ∧ x0 ≤ 24 ∧ 0 ≤ x1 ∧ x1 ≤ 300) ∨ z = 0)) := sorry
theorem ct_M_loadAt_deb31 {I : fH} {x1 : Int} {x2 : Int} (h0 : fB bsJ I) (ha1 : (0 ≤ x1 ∧ x1 ≤ 23)) (ha2 : (0 ≤ x2 ∧ x2 ≤ 300)) (hp0 : sLd I x1 x2) : fC ρ base n F xTc vwCl xTys D dA la gJ (fbz bsJ znJ (fKc []) I) xm_469 [.inr (.inr (some 740)), .inl x1, .inl x2] I (fun _ r => ∃ z, r = some (.inl z) ∧ (0 ≤ z ∧ z ≤ 3) ∧ (hbv I x1 x2 z = I 756 (301 * x1 + x2).toNat)) := sorry
theorem ct_M_seek_c83ec {I : fH} {x1 : Int} {x2 : Int} {x3 : Int} {x4 : Int} {x5 : Int} (h0 : fB bsJ I) (ha1 : (1 ≤ x1 ∧ x1 ≤ 60)) (ha2 : (7 ≤ x2 ∧ x2 ≤ 7)) (ha3 : ((-2147483648) ≤ x3 ∧ x3 ≤ 2147483647)) (ha4 : ((-2147483648) ≤ x4 ∧ x4 ≤ 2147483647)) (ha5 : ((-2147483648) ≤ x5 ∧ x5 ≤ 2147483647)) (hp0 : x2 = 7) (hp1 : x2 ≤ I 741 12) : fC ρ base n F xTc vwCl xTys D dA la gJ (fbz bsJ znJ (fKc wz_4d25e) I) xm_479 [.inr (.inr (some 740)), .inl x1, .inl x2, .inl x3, .inl x4, .inl x5] I (fun _ r => r = none) := sorry
theorem ct_M_seek_ae1ea {I : fH} {x1 : Int} {x2 : Int} {x3 : Int} {x4 : Int} {x5 : Int} (h0 : fB bsJ I) (ha1 : (1 ≤ x1 ∧ x1 ≤ 60)) (ha2 : (6 ≤ x2 ∧ x2 ≤ 6)) (ha3 : ((-2147483648) ≤ x3 ∧ x3 ≤ 2147483647)) (ha4 : ((-2147483648) ≤ x4 ∧ x4 ≤ 2147483647)) (ha5 : ((-2147483648) ≤ x5 ∧ x5 ≤ 2147483647)) (hp0 : x2 = 6) (hp1 : x2 ≤ I 741 12) : fC ρ base n F xTc vwCl xTys D dA la gJ (fbz bsJ znJ (fKc wz_4d25e) I) xm_480 [.inr (.inr (some 740)), .inl x1, .inl x2, .inl x3, .inl x4, .inl x5] I (fun _ r => r = none) := sorry
theorem ct_M_seek_5a34b {I : fH} {x1 : Int} {x2 : Int} {x3 : Int} {x4 : Int} {x5 : Int} (h0 : fB bsJ I) (ha1 : (1 ≤ x1 ∧ x1 ≤ 60)) (ha2 : (5 ≤ x2 ∧ x2 ≤ 5)) (ha3 : ((-2147483648) ≤ x3 ∧ x3 ≤ 2147483647)) (ha4 : ((-2147483648) ≤ x4 ∧ x4 ≤ 2147483647)) (ha5 : ((-2147483648) ≤ x5 ∧ x5 ≤ 2147483647)) (hp0 : x2 = 5) (hp1 : x2 ≤ I 741 12) : fC ρ base n F xTc vwCl xTys D dA la gJ (fbz bsJ znJ (fKc wz_4d25e) I) xm_481 [.inr (.inr (some 740)), .inl x1, .inl x2, .inl x3, .inl x4, .inl x5] I (fun _ r => r = none) := sorry
theorem ct_M_seek_2af86 {I : fH} {x1 : Int} {x2 : Int} {x3 : Int} {x4 : Int} {x5 : Int} (h0 : fB bsJ I) (ha1 : (1 ≤ x1 ∧ x1 ≤ 60)) (ha2 : (4 ≤ x2 ∧ x2 ≤ 4)) (ha3 : ((-2147483648) ≤ x3 ∧ x3 ≤ 2147483647)) (ha4 : ((-2147483648) ≤ x4 ∧ x4 ≤ 2147483647)) (ha5 : ((-2147483648) ≤ x5 ∧ x5 ≤ 2147483647)) (hp0 : x2 = 4) (hp1 : x2 ≤ I 741 12) : fC ρ base n F xTc vwCl xTys D dA la gJ (fbz bsJ znJ (fKc wz_4d25e) I) xm_482 [.inr (.inr (some 740)), .inl x1, .inl x2, .inl x3, .inl x4, .inl x5] I (fun _ r => r = none) := sorry
theorem ct_M_seek_6e4c8 {I : fH} {x1 : Int} {x2 : Int} {x3 : Int} {x4 : Int} {x5 : Int} (h0 : fB bsJ I) (ha1 : (1 ≤ x1 ∧ x1 ≤ 60)) (ha2 : (3 ≤ x2 ∧ x2 ≤ 3)) (ha3 : ((-2147483648) ≤ x3 ∧ x3 ≤ 2147483647)) (ha4 : ((-2147483648) ≤ x4 ∧ x4 ≤ 2147483647)) (ha5 : ((-2147483648) ≤ x5 ∧ x5 ≤ 2147483647)) (hp0 : x2 = 3) (hp1 : x2 ≤ I 741 12) : fC ρ base n F xTc vwCl xTys D dA la gJ (fbz bsJ znJ (fKc wz_4d25e) I) xm_483 [.inr (.inr (some 740)), .inl x1, .inl x2, .inl x3, .inl x4, .inl x5] I (fun _ r => r = none) := sorry
theorem ct_M_seek_92ac3 {I : fH} {x1 : Int} {x2 : Int} {x3 : Int} {x4 : Int} {x5 : Int} (h0 : fB bsJ I) (ha1 : (1 ≤ x1 ∧ x1 ≤ 60)) (ha2 : (2 ≤ x2 ∧ x2 ≤ 2)) (ha3 : ((-2147483648) ≤ x3 ∧ x3 ≤ 2147483647)) (ha4 : ((-2147483648) ≤ x4 ∧ x4 ≤ 2147483647)) (ha5 : ((-2147483648) ≤ x5 ∧ x5 ≤ 2147483647)) (hp0 : x2 = 2) (hp1 : x2 ≤ I 741 12) : fC ρ base n F xTc vwCl xTys D dA la gJ (fbz bsJ znJ (fKc wz_4d25e) I) xm_484 [.inr (.inr (some 740)), .inl x1, .inl x2, .inl x3, .inl x4, .inl x5] I (fun _ r => r = none) := sorry
theorem ct_M_seek_58809 {I : fH} {x1 : Int} {x2 : Int} {x3 : Int} {x4 : Int} {x5 : Int} (h0 : fB bsJ I) (ha1 : (1 ≤ x1 ∧ x1 ≤ 60)) (ha2 : (1 ≤ x2 ∧ x2 ≤ 1)) (ha3 : ((-2147483648) ≤ x3 ∧ x3 ≤ 2147483647)) (ha4 : ((-2147483648) ≤ x4 ∧ x4 ≤ 2147483647)) (ha5 : ((-2147483648) ≤ x5 ∧ x5 ≤ 2147483647)) (hp0 : x2 = 1) (hp1 : x2 ≤ I 741 12) : fC ρ base n F xTc vwCl xTys D dA la gJ (fbz bsJ znJ (fKc wz_4d25e) I) xm_485 [.inr (.inr (some 740)), .inl x1, .inl x2, .inl x3, .inl x4, .inl x5] I (fun _ r => r = none) := sorry
theorem ct_M_seek_71684 {I : fH} {x1 : Int} {x2 : Int} {x3 : Int} {x4 : Int} {x5 : Int} (h0 : fB bsJ I) (ha1 : (1 ≤ x1 ∧ x1 ≤ 60)) (ha2 : (0 ≤ x2 ∧ x2 ≤ 0)) (ha3 : (0 ≤ x3 ∧ x3 ≤ 0)) (ha4 : (0 ≤ x4 ∧ x4 ≤ 0)) (ha5 : (0 ≤ x5 ∧ x5 ≤ 0)) (hp0 : x2 = 0) (hp1 : x2 ≤ I 741 12) : fC ρ base n F xTc vwCl xTys D dA la gJ (fbz bsJ znJ (fKc wz_4d25e) I) xm_486 [.inr (.inr (some 740)), .inl x1, .inl x2, .inl x3, .inl x4, .inl x5] I (fun _ r => r = none) := sorry
set_option maxRecDepth 8000 in
theorem ct_M_findOrder_1fb74 {I : fH} {x1 : Int} {x2 : Int} (h0 : fB bsJ I) (ha1 : (1 ≤ x1 ∧ x1 ≤ 60)) (ha2 : (1 ≤ x2 ∧ x2 ≤ 20000)) : fC ρ base n F xTc vwCl xTys D dA la gJ (fbz bsJ znJ (fKc wz_4d25e) I) xm_478 [.inr (.inr (some 740)), .inl x1, .inl x2] I (fun _ r => ∃ z, r = some (.inl z) ∧ ((0 ≤ z ∧ z ≤ 2147483647) ∨ z = (-1000000004) ∨ z = (-1000000002))) := by
  have hW : fzs wz_4d25e (fKc wz_4d25e) := fKc_ok _
  refine f_meth (rb := rbJ) (J := []) 1 400 xG xin_478 x6_478 okJ (fB_self h0) ?_ ?_
  · exact fun q h => absurd h List.not_mem_nil
  · have hB0 := fB_self (zn := znJ) (K := fKc wz_4d25e) h0
    refine And.intro ⟨rfl, by decide, by decide⟩ (And.intro rfl (And.intro (Or.inl rfl) (fputf fb_740_33 (by decide +kernel) hW (by omega) ?_)))
    intro IhB1 ehB1 hB1
    have t2 := fup_at ehB1 33 (by omega)
    refine And.intro ⟨rfl, by decide, by decide⟩ (And.intro rfl (And.intro (Or.inl rfl) (fputf fb_740_34 (by decide +kernel) hW (by omega) ?_)))
    intro IhB3 ehB3 hB3
    have t4 : IhB3 740 33 = IhB1 740 33 := (congrFun (congrFun ehB3 740) 33).trans (fup_ne (by omega))
    have t5 := fup_at ehB3 34 (by omega)
    refine And.intro ⟨rfl, by decide, by decide⟩ (And.intro rfl (And.intro (Or.inr ⟨rfl, by omega⟩) (fputf fb_740_35 (by decide +kernel) hW (by omega) ?_)))
    intro IhB6 ehB6 hB6
    have t7 : IhB6 740 33 = IhB3 740 33 := (congrFun (congrFun ehB6 740) 33).trans (fup_ne (by omega))
    have t8 : IhB6 740 34 = IhB3 740 34 := (congrFun (congrFun ehB6 740) 34).trans (fup_ne (by omega))
    have t9 := fup_at ehB6 35 (by omega)
    have b12 := fBd fb_741_12 (fBz h0 hB6)
    refine Exists.intro xm_486 (And.intro mi_486 (And.intro ⟨rfl, rfl, rfl, rfl⟩ (And.intro rfl ?_)))
    refine fcall _ h0 (fzs_sub (by decide +kernel) hW) hB6 (ct_M_seek_71684 (fBz h0 hB6) (by omega) (by omega) (by omega) (by omega) (by omega) (by omega) (by omega)) ?_
    rintro IhB11 _ hB11 fhB11 rfl
    refine And.intro ⟨rfl, by decide, by decide⟩ (fgetf fb_740_35 h0 hB11 ?_)
    intro z12 lz12 uz12 qz12
    refine And.intro (by omega) (And.intro ?_ ?_)
    · intro c13
      refine And.intro ⟨rfl, by decide, by decide⟩ (fgetf fb_740_33 h0 hB11 ?_)
      intro z14 lz14 uz14 qz14
      refine And.intro (by omega) (And.intro ?_ ?_)
      · intro c15
        refine And.intro ⟨rfl, by decide, by decide⟩ (fgetf fb_740_33 h0 hB11 ?_)
        intro z16 lz16 uz16 qz16
        refine And.intro (True.intro) ?_
        exact ⟨_, rfl, by omega⟩
      · intro c17
        refine And.intro (True.intro) ?_
        exact ⟨_, rfl, by omega⟩
    · intro c18
      refine And.intro (True.intro) ?_
      exact ⟨_, rfl, by omega⟩
theorem ct_M_isYears_9dc65 {I : fH} {x0 : Int} (h0 : fB bsJ I) (ha0 : ((-2147483648) ≤ x0 ∧ x0 ≤ 2147483647)) : fC ρ base n F xTc vwCl xTys D dA la gJ (fbz bsJ znJ (fKc []) I) xm_477 [.inl x0] I (fun _ r => ∃ z, r = some (.inl z) ∧ ((z = 1 ∧ 1 ≤ x0 ∧ x0 ≤ 60) ∨ z = 0)) := sorry
set_option maxRecDepth 8000 in
theorem ct_M_planned_1c024 {I : fH} {x1 : Int} {x2 : Int} (h0 : fB bsJ I) (ha1 : ((-2147483648) ≤ x1 ∧ x1 ≤ 2147483647)) (ha2 : ((-2147483648) ≤ x2 ∧ x2 ≤ 2147483647)) : fC ρ base n F xTc vwCl xTys D dA la gJ (fbz bsJ znJ (fKc wz_4d25e) I) xm_487 [.inr (.inr (some 740)), .inl x1, .inl x2] I (fun _ r => ∃ z, r = some (.inl z) ∧ ((0 ≤ z ∧ z ≤ 6) ∨ z = (-1000000005) ∨ z = (-1000000004) ∨ z = (-1000000002) ∨ z = (-1000000001))) := by
  have hW : fzs wz_4d25e (fKc wz_4d25e) := fKc_ok _
  refine f_meth (rb := rbJ) (J := []) 1 400 xG xin_487 x6_487 okJ (fB_self h0) ?_ ?_
  · exact fun q h => absurd h List.not_mem_nil
  · have hB0 := fB_self (zn := znJ) (K := fKc wz_4d25e) h0
    refine Exists.intro xm_477 (And.intro mi_477 (And.intro ⟨rfl, rfl, rfl, rfl⟩ (And.intro True.intro ?_)))
    refine fcallp hB0 (ct_M_isYears_9dc65 (fBz h0 hB0) (by omega)) ?_
    rintro _ ⟨z1, rfl, hz1⟩
    refine And.intro (by omega) (And.intro ?_ ?_)
    · intro c2
      refine And.intro (True.intro) ?_
      exact ⟨_, rfl, by omega⟩
    · intro c3
      refine And.intro (by omega) (And.intro ?_ ?_)
      · intro c4
        refine Exists.intro xm_478 (And.intro mi_478 (And.intro ⟨rfl, rfl, rfl, rfl⟩ (And.intro rfl ?_)))
        refine fcall _ h0 (fzs_sub (by decide +kernel) hW) hB0 (ct_M_findOrder_1fb74 (fBz h0 hB0) (by omega) (by omega)) ?_
        rintro IhB6 _ hB6 fhB6 ⟨z5, rfl, hz5⟩
        refine And.intro (by omega) (And.intro ?_ ?_)
        · intro c7
          refine And.intro ⟨rfl, by decide, by decide⟩ ?_
          refine fload rL_741_741_12_12_1_0 h0 hB6 (by omega) ?_
          intro z8 lz8 uz8 qz8
          have pz8 := fld_at qz8 12 (by omega)
          refine And.intro (by omega) (And.intro ?_ ?_)
          · intro c9
            refine And.intro (True.intro) ?_
            exact ⟨_, rfl, by omega⟩
          · intro c10
            refine And.intro ⟨rfl, by decide, by decide⟩ ?_
            refine fload rL_758_758_0_6_1_0 h0 hB6 (by omega) ?_
            intro z11 lz11 uz11 qz11
            refine And.intro (True.intro) ?_
            exact ⟨_, rfl, by omega⟩
        · intro c12
          refine And.intro (True.intro) ?_
          exact ⟨_, rfl, by omega⟩
      · intro c13
        refine And.intro (True.intro) ?_
        exact ⟨_, rfl, by omega⟩
theorem ct_M_dueIs_00623 {I : fH} {x1 : Int} {x2 : Int} (h0 : fB bsJ I) (ha1 : (0 ≤ x1 ∧ x1 ≤ 600)) (ha2 : ((-2147483648) ≤ x2 ∧ x2 ≤ 2147483647)) (hp0 : I 740 39 ≤ 58) : fC ρ base n F xTc vwCl xTys D dA la gJ (fbz bsJ znJ (fKc wz_518f7) I) xm_491 [.inr (.inr (some 740)), .inl x1, .inl x2] I (fun I' r => r = none ∧ I' 740 39 = I 740 39 + 2) := sorry
theorem ct_M_rowsOfLoads_5fe0b {I : fH} {x1 : Int} {x2 : Int} (h0 : fB bsJ I) (ha1 : ((-2147483648) ≤ x1 ∧ x1 ≤ 2147483647)) (ha2 : ((-2147483648) ≤ x2 ∧ x2 ≤ 2147483647)) (hp0 : I 740 39 = 0) : fC ρ base n F xTc vwCl xTys D dA la gJ (fbz bsJ znJ (fKc wz_7bd74) I) xm_490 [.inr (.inr (some 740)), .inl x1, .inl x2] I (fun _ r => ∃ z, r = some (.inl z) ∧ ((0 ≤ z ∧ z ≤ 0) ∨ z = (-1000000005) ∨ z = (-1000000001))) := sorry
theorem ct_M_oxygen_31ab3 {I : fH}  (h0 : fB bsJ I)  : fC ρ base n F xTc vwCl xTys D dA la gJ (fbz bsJ znJ (fKc []) I) xm_494 [.inr (.inr (some 740))] I (fun _ r => ∃ z, r = some (.inl z) ∧ ((-2147483648) ≤ z ∧ z ≤ 2147483647)) := sorry
abbrev jc_M_rowsOfDay_99311_27 (I0 : fH) : Nat → fL → List fV → fH → Prop := fun m lv st I => ∃ (y1 : Int) (y2 : Int), lv = [(0, .inr (.inr (some 740))), (1, .inl y1), (2, .inl y2)] ∧ st = [] ∧ (((1 ≤ y1 ∧ y1 ≤ 24) ∧ (0 ≤ y2 ∧ y2 ≤ 4900) ∧ (1 ≤ I 740 3 ∧ I 740 3 ≤ 1) ∧ (I0 740 3 = 1) ∧ (I 740 39 = 0)) ∧ (∀ j : Nat, (j : Int) < y2 → I 743 j = I0 741 j ∧ I 741 j = I0 742 j) ∧ (∀ j : Nat, y2 ≤ (j : Int) → I 741 j = I0 741 j)) ∧ m = (6452 + 1 * (4900 - y2) : Int).toNat
abbrev jc_M_rowsOfDay_99311_66 (I0 : fH) : Nat → fL → List fV → fH → Prop := fun m lv st I => ∃ (y1 : Int) (y2 : Int), lv = [(0, .inr (.inr (some 740))), (1, .inl y1), (2, .inl y2)] ∧ st = [] ∧ (((1 ≤ y1 ∧ y1 ≤ 24) ∧ (0 ≤ y2 ∧ y2 ≤ 24) ∧ (1 ≤ I 740 3 ∧ I 740 3 ≤ 1) ∧ (I0 740 3 = 1) ∧ (I 741 0 = I0 742 0 + 60 * y2) ∧ (I 740 39 = 2 * y2)) ∧ (∀ j : Nat, j < 4900 → I 743 j = I0 741 j) ∧ (sI I 741)) ∧ m = (4963 + 62 * (24 - y2) : Int).toNat
abbrev jc_M_rowsOfDay_99311_73 (I0 : fH) : Nat → fL → List fV → fH → Prop := fun m lv st I => ∃ (y1 : Int) (y2 : Int) (y3 : Int), lv = [(0, .inr (.inr (some 740))), (1, .inl y1), (2, .inl y2), (3, .inl y3)] ∧ st = [] ∧ (((1 ≤ y1 ∧ y1 ≤ 24) ∧ (0 ≤ y2 ∧ y2 ≤ 23) ∧ (0 ≤ y3 ∧ y3 ≤ 60) ∧ (1 ≤ I 740 3 ∧ I 740 3 ≤ 1) ∧ (I0 740 3 = 1) ∧ (I 741 0 = I0 742 0 + 60 * y2 + y3) ∧ (I 740 39 = 2 * y2)) ∧ (∀ j : Nat, j < 4900 → I 743 j = I0 741 j) ∧ (sI I 741)) ∧ m = (4902 + 62 * (24 - y2) + 1 * (60 - y3) : Int).toNat
abbrev jc_M_rowsOfDay_99311_111 (I0 : fH) : Nat → fL → List fV → fH → Prop := fun m lv st I => ∃ (y2 : Int), lv = [(0, .inr (.inr (some 740))), (2, .inl y2)] ∧ st = [] ∧ (((0 ≤ y2 ∧ y2 ≤ 4900) ∧ (1 ≤ I 740 3 ∧ I 740 3 ≤ 1) ∧ (I0 740 3 = 1)) ∧ (∀ j : Nat, j < 4900 → I 743 j = I0 741 j) ∧ (∀ j : Nat, (j : Int) < y2 → I 741 j = I0 741 j)) ∧ m = (1 + 1 * (4900 - y2) : Int).toNat
set_option maxRecDepth 8000 in
theorem ct_M_rowsOfDay_99311 {I : fH} {x1 : Int} (h0 : fB bsJ I) (ha1 : ((-2147483648) ≤ x1 ∧ x1 ≤ 2147483647)) (hp0 : I 740 39 = 0) (hp1 : kI I) : fC ρ base n F xTc vwCl xTys D dA la gJ (fbz bsJ znJ (fKc wz_376a3) I) xm_493 [.inr (.inr (some 740)), .inl x1] I (fun I' r => ∃ z, r = some (.inl z) ∧ ((0 ≤ z ∧ z ≤ 0) ∨ z = (-1000000002) ∨ z = (-1000000001)) ∧ (∀ j : Nat, j < 4900 → I' 741 j = I 741 j)) := by
  have hW : fzs wz_376a3 (fKc wz_376a3) := fKc_ok _
  refine f_meth (rb := rbJ) (J := [(27, (jc_M_rowsOfDay_99311_27 I)), (66, (jc_M_rowsOfDay_99311_66 I)), (73, (jc_M_rowsOfDay_99311_73 I)), (111, (jc_M_rowsOfDay_99311_111 I))]) 11353 400 xG xin_493 x6_493 okJ (fB_self h0) ?_ ?_
  · refine List.forall_mem_cons.mpr ⟨?_, List.forall_mem_cons.mpr ⟨?_, List.forall_mem_cons.mpr ⟨?_, List.forall_mem_cons.mpr ⟨?_, fun q h => absurd h List.not_mem_nil⟩⟩⟩⟩
    · rintro m _ _ I1 hB1 ⟨y1, y2, rfl, rfl, ⟨hb, hx0, hx1⟩, hm⟩
      have k1 := fBz_eq hB1 (a := 740) (j := 3) (by decide +kernel)
      obtain ⟨hk1, hk2, hk3⟩ := hp1 (by omega)
      refine And.intro (by omega) (And.intro ?_ ?_)
      · intro c2
        have w0 := (hx0 0 (by omega)).2
        exact fcutJ (I := I1) (j := (jc_M_rowsOfDay_99311_66 I)) (lv' := [(0, .inr (.inr (some 740))), (1, .inl _), (2, .inl _)]) (And.intro rfl (And.intro rfl (And.intro rfl True.intro))) ⟨_, _, rfl, rfl, ⟨by omega, (fun j h => (hx0 j (by omega)).1), (sI_congr (sBd_of2 h0) (fun j hj => (hx0 j (by have := relb_lt hj; omega)).2) hk1)⟩, rfl⟩ (by omega)
      · intro c3
        refine And.intro ⟨rfl, by decide, by decide⟩ ?_
        refine And.intro ⟨rfl, by decide, by decide⟩ ?_
        refine fload rL_741_741_0_4899_1_0 h0 hB1 (by omega) ?_
        intro z4 lz4 uz4 qz4
        refine fstoreX (fzs_sub (by decide +kernel) hW) (asd_st (fBz h0 hB1) qz4 (by omega)) ?_
        intro IhB5 ehB5 hB5
        have t6 := fup_self ehB5
        have t7 : IhB5 740 3 = I1 740 3 := (congrFun (congrFun ehB5 740) 3).trans (fup_ne (by omega))
        have t8 : IhB5 740 39 = I1 740 39 := (congrFun (congrFun ehB5 740) 39).trans (fup_ne (by omega))
        have t9 : IhB5 741 0 = I1 741 0 := (congrFun (congrFun ehB5 741) 0).trans (fup_ne (by omega))
        have k10 := fBz_eq hB5 (a := 740) (j := 3) (by decide +kernel)
        refine And.intro ⟨rfl, by decide, by decide⟩ ?_
        refine And.intro ⟨rfl, by decide, by decide⟩ ?_
        refine fload rL_742_742_0_4899_1_0 h0 hB5 (by omega) ?_
        intro z11 lz11 uz11 qz11
        refine fstoreX (fzs_sub (by decide +kernel) hW) (img_bk (fBz h0 hB5) qz11 (by omega) (by rw [sM_keep hB5 (by decide +kernel)]; exact hk2)) ?_
        intro IhB12 ehB12 hB12
        have t13 := fup_self ehB12
        have t14 : IhB12 740 3 = IhB5 740 3 := (congrFun (congrFun ehB12 740) 3).trans (fup_ne (by omega))
        have t15 : IhB12 740 39 = IhB5 740 39 := (congrFun (congrFun ehB12 740) 39).trans (fup_ne (by omega))
        have t16 : IhB12 741 0 = IhB5 741 0 := (congrFun (congrFun ehB12 741) 0).trans (fup_ne (by omega))
        have k17 := fBz_eq hB12 (a := 740) (j := 3) (by decide +kernel)
        exact fcutJ (I := IhB12) (j := (jc_M_rowsOfDay_99311_27 I)) (lv' := [(0, .inr (.inr (some 740))), (1, .inl _), (2, .inl _)]) (And.intro rfl (And.intro rfl (And.intro rfl True.intro))) ⟨_, _, rfl, rfl, ⟨by omega, (fun j h => if ej : j = y2.toNat then (by rw [ej]; exact ⟨(fup_other ehB12 743 _ (Or.inl (by decide))).trans ((fup_self ehB5).trans (qz4.trans (hx1 _ (by omega)))), (fup_self ehB12).trans (qz11.trans (sM_keep hB5 (by decide +kernel) _))⟩) else ⟨(fup_other ehB12 743 j (Or.inl (by decide))).trans ((fup_other ehB5 743 j (Or.inr ej)).trans (hx0 j (by omega)).1), (fup_other ehB12 741 j (Or.inr ej)).trans ((fup_other ehB5 741 j (Or.inl (by decide))).trans (hx0 j (by omega)).2)⟩), (fun j h => (fup_other ehB12 741 j (Or.inr (by omega))).trans ((fup_other ehB5 741 j (Or.inl (by decide))).trans (hx1 j (by omega))))⟩, rfl⟩ (by omega)
    · rintro m _ _ I1 hB1 ⟨y1, y2, rfl, rfl, ⟨hb, hx0, hx1⟩, hm⟩
      have k18 := fBz_eq hB1 (a := 740) (j := 3) (by decide +kernel)
      obtain ⟨hk1, hk2, hk3⟩ := hp1 (by omega)
      refine And.intro (by omega) (And.intro ?_ ?_)
      · intro c19
        exact fcutJ (I := I1) (j := (jc_M_rowsOfDay_99311_111 I)) (lv' := [(0, .inr (.inr (some 740))), (2, .inl _)]) (And.intro rfl (And.intro rfl True.intro)) ⟨_, rfl, rfl, ⟨by omega, hx0, (fun j h => absurd h (by omega))⟩, rfl⟩ (by omega)
      · intro c20
        exact fcutJ (I := I1) (j := (jc_M_rowsOfDay_99311_73 I)) (lv' := [(0, .inr (.inr (some 740))), (1, .inl _), (2, .inl _), (3, .inl _)]) (And.intro rfl (And.intro rfl (And.intro rfl (And.intro rfl True.intro)))) ⟨_, _, _, rfl, rfl, ⟨by omega, hx0, hx1⟩, rfl⟩ (by omega)
    · rintro m _ _ I1 hB1 ⟨y1, y2, y3, rfl, rfl, ⟨hb, hx0, hx1⟩, hm⟩
      have k21 := fBz_eq hB1 (a := 740) (j := 3) (by decide +kernel)
      obtain ⟨hk1, hk2, hk3⟩ := hp1 (by omega)
      refine And.intro (by omega) (And.intro ?_ ?_)
      · intro c22
        refine And.intro ⟨rfl, by decide, by decide⟩ ?_
        refine fload rL_741_741_1_1_1_0 h0 hB1 (by omega) ?_
        intro z23 lz23 uz23 qz23
        have pz23 := fld_at qz23 1 (by omega)
        refine Exists.intro xm_494 (And.intro mi_494 (And.intro ⟨rfl, rfl, rfl, rfl⟩ (And.intro rfl ?_)))
        refine fcallp hB1 (ct_M_oxygen_31ab3 (fBz h0 hB1)) ?_
        rintro _ ⟨z24, rfl, hz24⟩
        refine Exists.intro xm_491 (And.intro mi_491 (And.intro ⟨rfl, rfl, rfl, rfl⟩ (And.intro rfl ?_)))
        refine fcall _ h0 (fzs_sub (by decide +kernel) hW) hB1 (ct_M_dueIs_00623 (fBz h0 hB1) (by omega) (by omega) (by omega)) ?_
        rintro IhB26 _ hB26 fhB26 ⟨rfl, hz25⟩
        have t27 := fhB26 740 3 (by decide +kernel)
        have t28 := fhB26 741 0 (by decide +kernel)
        have t29 := fhB26 741 1 (by decide +kernel)
        have k30 := fBz_eq hB26 (a := 740) (j := 3) (by decide +kernel)
        exact fcutJ (I := IhB26) (j := (jc_M_rowsOfDay_99311_66 I)) (lv' := [(0, .inr (.inr (some 740))), (1, .inl _), (2, .inl _)]) (And.intro rfl (And.intro rfl (And.intro rfl True.intro))) ⟨_, _, rfl, rfl, ⟨by omega, (fun j h => (fFr_at fhB26 743 (by decide +kernel) rfl j).trans (hx0 j h)), (sI_fr hx1 (fBz h0 hB1) fhB26 (by decide +kernel))⟩, rfl⟩ (by omega)
      · intro c31
        refine Exists.intro xm_285 (And.intro mi_285 (And.intro ⟨rfl, rfl, rfl, rfl⟩ (And.intro rfl ?_)))
        refine fcall _ h0 (fzs_sub (by decide +kernel) hW) hB1 (ct_M_minute_7c04c (fBz h0 hB1) hx1 (by omega)) ?_
        rintro IhB33 _ hB33 fhB33 ⟨rfl, hz32⟩
        have t34 := fhB33 740 3 (by decide +kernel)
        have t35 := fhB33 740 39 (by decide +kernel)
        have k36 := fBz_eq hB33 (a := 740) (j := 3) (by decide +kernel)
        exact fcutJ (I := IhB33) (j := (jc_M_rowsOfDay_99311_73 I)) (lv' := [(0, .inr (.inr (some 740))), (1, .inl _), (2, .inl _), (3, .inl _)]) (And.intro rfl (And.intro rfl (And.intro rfl (And.intro rfl True.intro)))) ⟨_, _, _, rfl, rfl, ⟨by omega, (fun j h => (fFr_at fhB33 743 (by decide +kernel) rfl j).trans (hx0 j h)), (sI_fr hx1 (fBz h0 hB1) fhB33 (by decide +kernel))⟩, rfl⟩ (by omega)
    · rintro m _ _ I1 hB1 ⟨y2, rfl, rfl, ⟨hb, hx0, hx1⟩, hm⟩
      have k37 := fBz_eq hB1 (a := 740) (j := 3) (by decide +kernel)
      obtain ⟨hk1, hk2, hk3⟩ := hp1 (by omega)
      refine And.intro (by omega) (And.intro ?_ ?_)
      · intro c38
        refine And.intro (True.intro) ?_
        exact ⟨_, rfl, by omega, (fun j h => hx1 j (by omega))⟩
      · intro c39
        refine And.intro ⟨rfl, by decide, by decide⟩ ?_
        refine And.intro ⟨rfl, by decide, by decide⟩ ?_
        refine fload rL_743_743_0_4899_1_0 h0 hB1 (by omega) ?_
        intro z40 lz40 uz40 qz40
        refine fstoreX (fzs_sub (by decide +kernel) hW) (asd_bk h0 (fBz h0 hB1) qz40 (hx0 _ (by omega)) (by omega)) ?_
        intro IhB41 ehB41 hB41
        have t42 := fup_self ehB41
        have t43 : IhB41 740 3 = I1 740 3 := (congrFun (congrFun ehB41 740) 3).trans (fup_ne (by omega))
        have t44 : IhB41 740 39 = I1 740 39 := (congrFun (congrFun ehB41 740) 39).trans (fup_ne (by omega))
        have t45 : IhB41 741 0 = I1 741 0 := (congrFun (congrFun ehB41 741) 0).trans (fup_ne (by omega))
        have k46 := fBz_eq hB41 (a := 740) (j := 3) (by decide +kernel)
        exact fcutJ (I := IhB41) (j := (jc_M_rowsOfDay_99311_111 I)) (lv' := [(0, .inr (.inr (some 740))), (2, .inl _)]) (And.intro rfl (And.intro rfl True.intro)) ⟨_, rfl, rfl, ⟨by omega, (fun j h => (fup_other ehB41 743 j (Or.inl (by decide))).trans (hx0 j h)), (fun j h => if ej : j = y2.toNat then (by rw [ej]; exact (fup_self ehB41).trans (qz40.trans (hx0 _ (by omega)))) else (fup_other ehB41 741 j (Or.inr ej)).trans (hx1 j (by omega)))⟩, rfl⟩ (by omega)
  · have hB0 := fB_self (zn := znJ) (K := fKc wz_376a3) h0
    refine And.intro (by omega) ?_
    refine Exists.intro xm_238 (And.intro mi_238 (And.intro ⟨rfl, rfl, rfl, rfl⟩ (And.intro True.intro ?_)))
    refine fcallp hB0 (ct_M_isIn_27230 (fBz h0 hB0) (by omega) (by omega) (by omega)) ?_
    rintro _ ⟨z47, rfl, hz47⟩
    refine And.intro (by omega) (And.intro ?_ ?_)
    · intro c48
      refine And.intro ⟨rfl, by decide, by decide⟩ (fgetf fb_740_3 h0 hB0 ?_)
      intro z49 lz49 uz49 qz49
      refine And.intro (by omega) (And.intro ?_ ?_)
      · intro c50
        exact fcutJ (I := I) (j := (jc_M_rowsOfDay_99311_27 I)) (lv' := [(0, .inr (.inr (some 740))), (1, .inl _), (2, .inl _)]) (And.intro rfl (And.intro rfl (And.intro rfl True.intro))) ⟨_, _, rfl, rfl, ⟨by omega, (fun j h => absurd h (by omega)), (fun j _ => rfl)⟩, rfl⟩ (by omega)
      · intro c51
        refine And.intro (True.intro) ?_
        exact ⟨_, rfl, by omega, (fun _ _ => rfl)⟩
    · intro c52
      refine And.intro (True.intro) ?_
      exact ⟨_, rfl, by omega, (fun _ _ => rfl)⟩
theorem ct_M_rowsOfOrder_afdec {I : fH} {x1 : Int} (h0 : fB bsJ I) (ha1 : ((-2147483648) ≤ x1 ∧ x1 ≤ 2147483647)) (hp0 : I 740 39 = 0) : fC ρ base n F xTc vwCl xTys D dA la gJ (fbz bsJ znJ (fKc wz_96c9e) I) xm_492 [.inr (.inr (some 740)), .inl x1] I (fun _ r => ∃ z, r = some (.inl z) ∧ ((0 ≤ z ∧ z ≤ 0) ∨ z = (-1000000004) ∨ z = (-1000000002) ∨ z = (-1000000001))) := sorry
abbrev jc_M_check_402b5_70 (I0 : fH) : Nat → fL → List fV → fH → Prop := fun m lv st I => ∃ (y4 : Int) (y6 : Int), lv = [(0, .inr (.inr (some 740))), (4, .inl y4), (6, .inl y6)] ∧ st = [] ∧ (((0 ≤ y4 ∧ y4 ≤ 60) ∧ (0 ≤ y6 ∧ y6 ≤ 60) ∧ (0 ≤ I 740 37 ∧ I 740 37 ≤ 0)) ∧ (∀ j : Nat, j < 4900 → I 741 j = I0 741 j)) ∧ m = (1 + 1 * (60 - y6) : Int).toNat
set_option maxRecDepth 8000 in
theorem ct_M_check_402b5 {I : fH} {x1 : Int} {x2 : Int} {x3 : Int} (h0 : fB bsJ I) (ha1 : ((-2147483648) ≤ x1 ∧ x1 ≤ 2147483647)) (ha2 : ((-2147483648) ≤ x2 ∧ x2 ≤ 2147483647)) (ha3 : ((-2147483648) ≤ x3 ∧ x3 ≤ 2147483647)) (hp0 : kI I) : fC ρ base n F xTc vwCl xTys D dA la gJ (fbz bsJ znJ (fKc wz_a99d3) I) xm_489 [.inr (.inr (some 740)), .inl x1, .inl x2, .inl x3] I (fun I' r => ∃ z, r = some (.inl z) ∧ ((0 ≤ z ∧ z ≤ 61) ∨ z = (-1000000005) ∨ z = (-1000000004) ∨ z = (-1000000002) ∨ z = (-1000000001)) ∧ (∀ j : Nat, j < 4900 → I' 741 j = I 741 j)) := by
  have hW : fzs wz_a99d3 (fKc wz_a99d3) := fKc_ok _
  refine f_meth (rb := rbJ) (J := [(70, (jc_M_check_402b5_70 I))]) 62 400 xG xin_489 x6_489 okJ (fB_self h0) ?_ ?_
  · refine List.forall_mem_cons.mpr ⟨?_, fun q h => absurd h List.not_mem_nil⟩
    · rintro m _ _ I1 hB1 ⟨y4, y6, rfl, rfl, ⟨hb, hx0⟩, hm⟩
      refine And.intro (by omega) (And.intro ?_ ?_)
      · intro c1
        refine And.intro (by omega) (And.intro ?_ ?_)
        · intro c2
          refine And.intro (True.intro) ?_
          exact ⟨_, rfl, by omega, hx0⟩
        · intro c3
          refine And.intro ⟨rfl, by decide, by decide⟩ (fgetf fb_740_39 h0 hB1 ?_)
          intro z4 lz4 uz4 qz4
          refine And.intro (by omega) (And.intro ?_ ?_)
          · intro c5
            refine And.intro (True.intro) ?_
            exact ⟨_, rfl, by omega, hx0⟩
          · intro c6
            refine And.intro (True.intro) ?_
            exact ⟨_, rfl, by omega, hx0⟩
      · intro c7
        refine And.intro ⟨rfl, by decide, by decide⟩ (fgetf fb_740_39 h0 hB1 ?_)
        intro z8 lz8 uz8 qz8
        refine And.intro (by omega) (And.intro ?_ ?_)
        · intro c9
          refine And.intro (by omega) (And.intro ?_ ?_)
          · intro c10
            refine And.intro (True.intro) ?_
            exact ⟨_, rfl, by omega, hx0⟩
          · intro c11
            refine And.intro ⟨rfl, by decide, by decide⟩ (fgetf fb_740_39 h0 hB1 ?_)
            intro z12 lz12 uz12 qz12
            refine And.intro (by omega) (And.intro ?_ ?_)
            · intro c13
              refine And.intro (True.intro) ?_
              exact ⟨_, rfl, by omega, hx0⟩
            · intro c14
              refine And.intro (True.intro) ?_
              exact ⟨_, rfl, by omega, hx0⟩
        · intro c15
          refine And.intro ⟨rfl, by decide, by decide⟩ ?_
          refine fload rL_759_759_0_59_1_0 h0 hB1 (by omega) ?_
          intro z16 lz16 uz16 qz16
          refine And.intro ⟨rfl, by decide, by decide⟩ ?_
          refine fload rL_760_760_0_59_1_0 h0 hB1 (by omega) ?_
          intro z17 lz17 uz17 qz17
          refine And.intro (by omega) (And.intro ?_ ?_)
          · intro c18
            refine And.intro (by omega) (And.intro ?_ ?_)
            · intro c19
              refine And.intro (True.intro) ?_
              exact ⟨_, rfl, by omega, hx0⟩
            · intro c20
              refine And.intro ⟨rfl, by decide, by decide⟩ (fgetf fb_740_39 h0 hB1 ?_)
              intro z21 lz21 uz21 qz21
              refine And.intro (by omega) (And.intro ?_ ?_)
              · intro c22
                refine And.intro (True.intro) ?_
                exact ⟨_, rfl, by omega, hx0⟩
              · intro c23
                refine And.intro (True.intro) ?_
                exact ⟨_, rfl, by omega, hx0⟩
          · intro c24
            exact fcutJ (I := I1) (j := (jc_M_check_402b5_70 I)) (lv' := [(0, .inr (.inr (some 740))), (4, .inl _), (6, .inl _)]) (And.intro rfl (And.intro rfl (And.intro rfl True.intro))) ⟨_, _, rfl, rfl, ⟨by omega, hx0⟩, rfl⟩ (by omega)
  · have hB0 := fB_self (zn := znJ) (K := fKc wz_a99d3) h0
    refine And.intro ⟨rfl, by decide, by decide⟩ (fgetf fb_740_37 h0 hB0 ?_)
    intro z25 lz25 uz25 qz25
    refine And.intro ⟨rfl, by decide, by decide⟩ (And.intro rfl (And.intro (Or.inl rfl) (fputf fb_740_37 (by decide +kernel) hW (by omega) ?_)))
    intro IhB26 ehB26 hB26
    have t27 := fup_at ehB26 37 (by omega)
    have t28 : IhB26 740 39 = I 740 39 := (congrFun (congrFun ehB26 740) 39).trans (fup_ne (by omega))
    refine And.intro ⟨rfl, by decide, by decide⟩ (And.intro rfl (And.intro (Or.inl rfl) (fputf fb_740_39 (by decide +kernel) hW (by omega) ?_)))
    intro IhB29 ehB29 hB29
    have t30 : IhB29 740 37 = IhB26 740 37 := (congrFun (congrFun ehB29 740) 37).trans (fup_ne (by omega))
    have t31 := fup_at ehB29 39 (by omega)
    refine And.intro (by omega) (And.intro ?_ ?_)
    · intro c32
      refine And.intro (by omega) (And.intro ?_ ?_)
      · intro c33
        refine And.intro (by omega) (And.intro ?_ ?_)
        · intro c34
          refine And.intro (by omega) (And.intro ?_ ?_)
          · intro c35
            exact fcutJ (I := IhB29) (j := (jc_M_check_402b5_70 I)) (lv' := [(0, .inr (.inr (some 740))), (4, .inl _), (6, .inl _)]) (And.intro rfl (And.intro rfl (And.intro rfl True.intro))) ⟨_, _, rfl, rfl, ⟨by omega, (fun j h => by first | exact (fFr_S fnil0 (by decide +kernel) j).trans ((fup_other ehB29 741 j (Or.inl (by decide))).trans (fup_other ehB26 741 j (Or.inl (by decide)))) | exact (fFr_S fnil0 (by decide +kernel) j).trans ((fup_other ehB29 741 j (Or.inl (by decide))).trans (fup_other ehB26 741 j (Or.inl (by decide)))) | exact (g0nil0 j h).trans ((fup_other ehB29 741 j (Or.inl (by decide))).trans (fup_other ehB26 741 j (Or.inl (by decide)))) | exact ((fup_other ehB29 741 j (Or.inl (by decide))).trans (fup_other ehB26 741 j (Or.inl (by decide)))))⟩, rfl⟩ (by omega)
          · intro c36
            refine And.intro (True.intro) ?_
            exact ⟨_, rfl, by omega, (fun j h => by first | exact (fFr_S fnil0 (by decide +kernel) j).trans ((fup_other ehB29 741 j (Or.inl (by decide))).trans (fup_other ehB26 741 j (Or.inl (by decide)))) | exact (fFr_S fnil0 (by decide +kernel) j).trans ((fup_other ehB29 741 j (Or.inl (by decide))).trans (fup_other ehB26 741 j (Or.inl (by decide)))) | exact (g0nil0 j h).trans ((fup_other ehB29 741 j (Or.inl (by decide))).trans (fup_other ehB26 741 j (Or.inl (by decide)))) | exact ((fup_other ehB29 741 j (Or.inl (by decide))).trans (fup_other ehB26 741 j (Or.inl (by decide)))))⟩
        · intro c37
          refine Exists.intro xm_493 (And.intro mi_493 (And.intro ⟨rfl, rfl, rfl, rfl⟩ (And.intro rfl ?_)))
          refine fcall _ h0 (fzs_sub (by decide +kernel) hW) hB29 (ct_M_rowsOfDay_99311 (fBz h0 hB29) (by omega) (by omega) (kI_keep hp0 h0 hB29 (by decide +kernel) (by decide +kernel))) ?_
          rintro IhB39 _ hB39 fhB39 ⟨z38, rfl, hz38, g0z38⟩
          have t40 := fhB39 740 37 (by decide +kernel)
          refine And.intro (by omega) (And.intro ?_ ?_)
          · intro c41
            exact fcutJ (I := IhB39) (j := (jc_M_check_402b5_70 I)) (lv' := [(0, .inr (.inr (some 740))), (4, .inl _), (6, .inl _)]) (And.intro rfl (And.intro rfl (And.intro rfl True.intro))) ⟨_, _, rfl, rfl, ⟨by omega, (fun j h => by first | exact (fFr_S fnil0 (by decide +kernel) j).trans ((fup_other ehB29 741 j (Or.inl (by decide))).trans (fup_other ehB26 741 j (Or.inl (by decide)))) | exact (fFr_S fnil0 (by decide +kernel) j).trans ((fup_other ehB29 741 j (Or.inl (by decide))).trans (fup_other ehB26 741 j (Or.inl (by decide)))) | exact (g0z38 j h).trans ((fup_other ehB29 741 j (Or.inl (by decide))).trans (fup_other ehB26 741 j (Or.inl (by decide)))) | exact ((fup_other ehB29 741 j (Or.inl (by decide))).trans (fup_other ehB26 741 j (Or.inl (by decide)))))⟩, rfl⟩ (by omega)
          · intro c42
            refine And.intro (True.intro) ?_
            exact ⟨_, rfl, by omega, (fun j h => by first | exact (fFr_S fnil0 (by decide +kernel) j).trans ((fup_other ehB29 741 j (Or.inl (by decide))).trans (fup_other ehB26 741 j (Or.inl (by decide)))) | exact (fFr_S fnil0 (by decide +kernel) j).trans ((fup_other ehB29 741 j (Or.inl (by decide))).trans (fup_other ehB26 741 j (Or.inl (by decide)))) | exact (g0z38 j h).trans ((fup_other ehB29 741 j (Or.inl (by decide))).trans (fup_other ehB26 741 j (Or.inl (by decide)))) | exact ((fup_other ehB29 741 j (Or.inl (by decide))).trans (fup_other ehB26 741 j (Or.inl (by decide)))))⟩
      · intro c43
        refine Exists.intro xm_492 (And.intro mi_492 (And.intro ⟨rfl, rfl, rfl, rfl⟩ (And.intro rfl ?_)))
        refine fcall _ h0 (fzs_sub (by decide +kernel) hW) hB29 (ct_M_rowsOfOrder_afdec (fBz h0 hB29) (by omega) (by omega)) ?_
        rintro IhB45 _ hB45 fhB45 ⟨z44, rfl, hz44⟩
        have t46 := fhB45 740 37 (by decide +kernel)
        refine And.intro (by omega) (And.intro ?_ ?_)
        · intro c47
          exact fcutJ (I := IhB45) (j := (jc_M_check_402b5_70 I)) (lv' := [(0, .inr (.inr (some 740))), (4, .inl _), (6, .inl _)]) (And.intro rfl (And.intro rfl (And.intro rfl True.intro))) ⟨_, _, rfl, rfl, ⟨by omega, (fun j h => by first | exact (fFr_S fnil0 (by decide +kernel) j).trans ((fup_other ehB29 741 j (Or.inl (by decide))).trans (fup_other ehB26 741 j (Or.inl (by decide)))) | exact (fFr_S fhB45 (by decide +kernel) j).trans ((fup_other ehB29 741 j (Or.inl (by decide))).trans (fup_other ehB26 741 j (Or.inl (by decide)))) | exact (g0z38 j h).trans ((fup_other ehB29 741 j (Or.inl (by decide))).trans (fup_other ehB26 741 j (Or.inl (by decide)))) | exact ((fup_other ehB29 741 j (Or.inl (by decide))).trans (fup_other ehB26 741 j (Or.inl (by decide)))))⟩, rfl⟩ (by omega)
        · intro c48
          refine And.intro (True.intro) ?_
          exact ⟨_, rfl, by omega, (fun j h => by first | exact (fFr_S fnil0 (by decide +kernel) j).trans ((fup_other ehB29 741 j (Or.inl (by decide))).trans (fup_other ehB26 741 j (Or.inl (by decide)))) | exact (fFr_S fhB45 (by decide +kernel) j).trans ((fup_other ehB29 741 j (Or.inl (by decide))).trans (fup_other ehB26 741 j (Or.inl (by decide)))) | exact (g0z38 j h).trans ((fup_other ehB29 741 j (Or.inl (by decide))).trans (fup_other ehB26 741 j (Or.inl (by decide)))) | exact ((fup_other ehB29 741 j (Or.inl (by decide))).trans (fup_other ehB26 741 j (Or.inl (by decide)))))⟩
    · intro c49
      refine Exists.intro xm_490 (And.intro mi_490 (And.intro ⟨rfl, rfl, rfl, rfl⟩ (And.intro rfl ?_)))
      refine fcall _ h0 (fzs_sub (by decide +kernel) hW) hB29 (ct_M_rowsOfLoads_5fe0b (fBz h0 hB29) (by omega) (by omega) (by omega)) ?_
      rintro IhB51 _ hB51 fhB51 ⟨z50, rfl, hz50⟩
      have t52 := fhB51 740 37 (by decide +kernel)
      refine And.intro (by omega) (And.intro ?_ ?_)
      · intro c53
        exact fcutJ (I := IhB51) (j := (jc_M_check_402b5_70 I)) (lv' := [(0, .inr (.inr (some 740))), (4, .inl _), (6, .inl _)]) (And.intro rfl (And.intro rfl (And.intro rfl True.intro))) ⟨_, _, rfl, rfl, ⟨by omega, (fun j h => by first | exact (fFr_S fhB51 (by decide +kernel) j).trans ((fup_other ehB29 741 j (Or.inl (by decide))).trans (fup_other ehB26 741 j (Or.inl (by decide)))) | exact (fFr_S fhB45 (by decide +kernel) j).trans ((fup_other ehB29 741 j (Or.inl (by decide))).trans (fup_other ehB26 741 j (Or.inl (by decide)))) | exact (g0z38 j h).trans ((fup_other ehB29 741 j (Or.inl (by decide))).trans (fup_other ehB26 741 j (Or.inl (by decide)))) | exact ((fup_other ehB29 741 j (Or.inl (by decide))).trans (fup_other ehB26 741 j (Or.inl (by decide)))))⟩, rfl⟩ (by omega)
      · intro c54
        refine And.intro (True.intro) ?_
        exact ⟨_, rfl, by omega, (fun j h => by first | exact (fFr_S fhB51 (by decide +kernel) j).trans ((fup_other ehB29 741 j (Or.inl (by decide))).trans (fup_other ehB26 741 j (Or.inl (by decide)))) | exact (fFr_S fhB45 (by decide +kernel) j).trans ((fup_other ehB29 741 j (Or.inl (by decide))).trans (fup_other ehB26 741 j (Or.inl (by decide)))) | exact (g0z38 j h).trans ((fup_other ehB29 741 j (Or.inl (by decide))).trans (fup_other ehB26 741 j (Or.inl (by decide)))) | exact ((fup_other ehB29 741 j (Or.inl (by decide))).trans (fup_other ehB26 741 j (Or.inl (by decide)))))⟩
end CT

set_option linter.all false
/-! contracts (written by gen95.py) -/
abbrev wz_abae9 : List Nat := [5, 26, 182]
theorem x6_85 : f60c xTc xTys xm_85 = true := by decide +kernel
abbrev wz_1f04a : List Nat := [5, 26, 171, 172, 173, 174, 175, 176, 182, 10106]
theorem x6_77 : f60c xTc xTys xm_77 = true := by decide +kernel
theorem x6_92 : f60c xTc xTys xm_92 = true := by decide +kernel
abbrev wz_b5181 : List Nat := [181]
theorem x6_93 : f60c xTc xTys xm_93 = true := by decide +kernel
theorem rS_181_181_0_23_1_0 : frS gJ bsJ znJ [181] 100 ((181, 181), (0, 23), (1, 0), (0, 100)) := frS_of (by decide +kernel)
abbrev wz_e3569 : List Nat := [5, 26, 181]
theorem x6_91 : f60c xTc xTys xm_91 = true := by decide +kernel
abbrev wz_57158 : List Nat := [168, 170]
theorem x6_95 : f60c xTc xTys xm_95 = true := by decide +kernel
theorem rL_170_170_0_23_1_0 : frL gJ bsJ 100 ((170, 170), (0, 23), (1, 0), ((-2147483648), 2147483647)) := frL_hull (by decide) (by decide +kernel)
abbrev wz_0cc09 : List Nat := [47, 72, 10212]
theorem x6_98 : f60c xTc xTys xm_98 = true := by decide +kernel
theorem fb_2_12 : bsJ 2 12 = (0, 90) := by decide +kernel
theorem rgG_73_162 {o : Nat} (h1 : 73 ≤ o) (h2 : o ≤ 162) : gJ.1 o = some (100, 8) ∧ ∀ j, j < 8 → gJ.2 o j = none := frG_of (a0 := 73) (a1 := 162) (by decide +kernel) h1 h2
theorem rS_73_162_0_4_1_0 : frS gJ bsJ znJ [72] 100 ((73, 162), (0, 4), (1, 0), ((-2147483648), 2147483647)) := frS_of (by decide +kernel)
theorem rS_73_162_5_5_1_0 : frS gJ bsJ znJ [72] 100 ((73, 162), (5, 5), (1, 0), ((-2147483648), 2147483647)) := frS_of (by decide +kernel)
theorem rS_73_162_6_6_1_0 : frS gJ bsJ znJ [72] 100 ((73, 162), (6, 6), (1, 0), ((-2147483648), 2147483647)) := frS_of (by decide +kernel)
theorem rS_73_162_7_7_1_0 : frS gJ bsJ znJ [72] 100 ((73, 162), (7, 7), (1, 0), (0, 19)) := frS_of (by decide +kernel)
theorem x6_97 : f60c xTc xTys xm_97 = true := by decide +kernel
theorem x6_96 : f60c xTc xTys xm_96 = true := by decide +kernel
theorem x6_89 : f60c xTc xTys xm_89 = true := by decide +kernel
theorem rL_70_70_0_23_1_0 : frL gJ bsJ 100 ((70, 70), (0, 23), (1, 0), (0, 9)) := frL_of (by decide +kernel)
theorem rL_68_68_0_23_1_0 : frL gJ bsJ 100 ((68, 68), (0, 23), (1, 0), (0, 19)) := frL_of (by decide +kernel)
theorem rL_69_69_0_23_1_0 : frL gJ bsJ 100 ((69, 69), (0, 23), (1, 0), (0, 19)) := frL_of (by decide +kernel)
theorem x6_88 : f60c xTc xTys xm_88 = true := by decide +kernel
theorem x6_76 : f60c xTc xTys xm_76 = true := by decide +kernel
theorem rL_73_162_7_7_1_0 : frL gJ bsJ 100 ((73, 162), (7, 7), (1, 0), (0, 19)) := frL_of (by decide +kernel)
theorem rL_73_162_5_5_1_0 : frL gJ bsJ 100 ((73, 162), (5, 5), (1, 0), ((-2147483648), 2147483647)) := frL_hull (by decide) (by decide +kernel)
theorem rL_48_67_0_5_1_0 : frL gJ bsJ 100 ((48, 67), (0, 5), (1, 0), ((-2147483648), 2147483647)) := frL_hull (by decide) (by decide +kernel)
theorem rL_73_162_0_5_1_0 : frL gJ bsJ 100 ((73, 162), (0, 5), (1, 0), ((-2147483648), 2147483647)) := frL_hull (by decide) (by decide +kernel)
theorem x6_74 : f60c xTc xTys xm_74 = true := by decide +kernel
theorem rL_73_162_6_6_1_0 : frL gJ bsJ 100 ((73, 162), (6, 6), (1, 0), ((-2147483648), 2147483647)) := frL_hull (by decide) (by decide +kernel)
abbrev wz_fd6d1 : List Nat := [10105]
theorem x6_94 : f60c xTc xTys xm_94 = true := by decide +kernel
theorem x6_90 : f60c xTc xTys xm_90 = true := by decide +kernel
abbrev wz_c5d03 : List Nat := [5, 26, 47, 72, 168, 170, 171, 172, 173, 174, 175, 176, 181, 182, 10105, 10106, 10109, 10212]
theorem x6_73 : f60c xTc xTys xm_73 = true := by decide +kernel
theorem x6_72 : f60c xTc xTys xm_72 = true := by decide +kernel
theorem x6_304 : f60c xTc xTys xm_304 = true := by decide +kernel
abbrev wz_3cf37 : List Nat := [20112, 20113, 20114, 20115, 20116, 20117]
theorem x6_287 : f60c xTc xTys xm_287 = true := by decide +kernel
theorem rL_741_741_31_4327_1_0 : frL gJ bsJ 100 ((741, 741), (31, 4327), (1, 0), ((-2147483648), 2147483647)) := frL_hull (by decide) (by decide +kernel)
theorem rS_741_741_42_426_20_4 : frS gJ bsJ znJ [20112, 20113, 20114, 20115, 20116] 100 ((741, 741), (42, 426), (20, 4), ((-2147483648), 2147483647)) := frS_of (by decide +kernel)
theorem rL_741_741_47_427_20_0 : frL gJ bsJ 100 ((741, 741), (47, 427), (20, 0), ((-2147483648), 2147483647)) := frL_hull (by decide) (by decide +kernel)
abbrev wz_24e16 : List Nat := [20013, 20112, 20113, 20114, 20115, 20116, 20117, 20700, 20701, 20702, 20703, 20704, 20705, 20706, 20707]
theorem x6_303 : f60c xTc xTys xm_303 = true := by decide +kernel
theorem rL_741_741_4_4_1_0 : frL gJ bsJ 100 ((741, 741), (4, 4), (1, 0), (0, 99)) := frL_of (by decide +kernel)
theorem rL_741_741_13_13_1_0 : frL gJ bsJ 100 ((741, 741), (13, 13), (1, 0), (0, 90)) := frL_of (by decide +kernel)
theorem rS_741_741_3610_4322_8_0 : frS gJ bsJ znJ [20700] 100 ((741, 741), (3610, 4322), (8, 0), (0, 19)) := frS_of (by decide +kernel)
theorem rS_741_741_3616_4328_8_0 : frS gJ bsJ znJ [20706] 100 ((741, 741), (3616, 4328), (8, 0), ((-2147483648), 2147483647)) := frS_of (by decide +kernel)
theorem rS_741_741_3617_4329_8_0 : frS gJ bsJ znJ [20707] 100 ((741, 741), (3617, 4329), (8, 0), ((-2147483648), 2147483647)) := frS_of (by decide +kernel)
theorem rS_741_741_13_13_1_0 : frS gJ bsJ znJ [20013] 100 ((741, 741), (13, 13), (1, 0), (0, 90)) := frS_of (by decide +kernel)
theorem rS_741_741_3611_4327_8_4 : frS gJ bsJ znJ [20701, 20702, 20703, 20704, 20705] 100 ((741, 741), (3611, 4327), (8, 4), ((-2147483648), 2147483647)) := frS_of (by decide +kernel)
abbrev wz_e4f60 : List Nat := [20101, 20102, 20103, 20104, 20105, 20107, 20108, 20109, 20110, 20111]
theorem x6_298 : f60c xTc xTys xm_298 = true := by decide +kernel
theorem rS_741_741_37_421_20_4 : frS gJ bsJ znJ [20107, 20108, 20109, 20110, 20111] 100 ((741, 741), (37, 421), (20, 4), ((-2147483648), 2147483647)) := frS_of (by decide +kernel)
theorem x6_286 : f60c xTc xTys xm_286 = true := by decide +kernel
theorem fb_741_13 : bsJ 741 13 = (0, 90) := by decide +kernel
theorem rL_741_741_3617_4329_8_0 : frL gJ bsJ 100 ((741, 741), (3617, 4329), (8, 0), ((-2147483648), 2147483647)) := frL_hull (by decide) (by decide +kernel)
theorem rL_741_741_3610_4322_8_0 : frL gJ bsJ 100 ((741, 741), (3610, 4322), (8, 0), (0, 19)) := frL_of (by decide +kernel)
theorem rL_741_741_3616_4328_8_0 : frL gJ bsJ 100 ((741, 741), (3616, 4328), (8, 0), ((-2147483648), 2147483647)) := frL_hull (by decide) (by decide +kernel)
theorem rL_741_741_3610_4329_8_7 : frL gJ bsJ 100 ((741, 741), (3610, 4329), (8, 7), ((-2147483648), 2147483647)) := frL_hull (by decide) (by decide +kernel)
theorem x6_291 : f60c xTc xTys xm_291 = true := by decide +kernel
abbrev wz_fa024 : List Nat := [20001]
theorem x6_301 : f60c xTc xTys xm_301 = true := by decide +kernel
theorem x6_292 : f60c xTc xTys xm_292 = true := by decide +kernel
theorem x6_297 : f60c xTc xTys xm_297 = true := by decide +kernel
theorem rL_741_741_432_524_4_0 : frL gJ bsJ 100 ((741, 741), (432, 524), (4, 0), (0, 9)) := frL_of (by decide +kernel)
theorem rL_741_741_430_522_4_0 : frL gJ bsJ 100 ((741, 741), (430, 522), (4, 0), (0, 19)) := frL_of (by decide +kernel)
theorem rL_741_741_431_523_4_0 : frL gJ bsJ 100 ((741, 741), (431, 523), (4, 0), (0, 19)) := frL_of (by decide +kernel)
theorem x6_290 : f60c xTc xTys xm_290 = true := by decide +kernel
abbrev wz_76090 : List Nat := [20022, 20101, 20102, 20103, 20104, 20105, 20107, 20108, 20109, 20110, 20111]
theorem x6_293 : f60c xTc xTys xm_293 = true := by decide +kernel
theorem rL_741_741_22_22_1_0 : frL gJ bsJ 100 ((741, 741), (22, 22), (1, 0), (0, 999999)) := frL_of (by decide +kernel)
theorem rS_741_741_22_22_1_0 : frS gJ bsJ znJ [20022] 100 ((741, 741), (22, 22), (1, 0), (0, 999999)) := frS_of (by decide +kernel)
theorem rL_741_741_34_414_20_0 : frL gJ bsJ 100 ((741, 741), (34, 414), (20, 0), (0, 999999)) := frL_of (by decide +kernel)
theorem rS_741_741_34_414_20_0 : frS gJ bsJ znJ [20104] 100 ((741, 741), (34, 414), (20, 0), (0, 999999)) := frS_of (by decide +kernel)
theorem x6_289 : f60c xTc xTys xm_289 = true := by decide +kernel
theorem rL_741_741_33_413_20_0 : frL gJ bsJ 100 ((741, 741), (33, 413), (20, 0), (0, 999999)) := frL_of (by decide +kernel)
theorem rS_741_741_33_413_20_0 : frS gJ bsJ znJ [20103] 100 ((741, 741), (33, 413), (20, 0), (0, 999999)) := frS_of (by decide +kernel)
theorem x6_294 : f60c xTc xTys xm_294 = true := by decide +kernel
theorem rL_741_741_533_855_14_0 : frL gJ bsJ 100 ((741, 741), (533, 855), (14, 0), (0, 1)) := frL_of (by decide +kernel)
section CT
variable {ρ : Nat → Int32} {base n : Nat} {F : Nat → Prop} {D : va_G} {dA : Nat → ClassId} {la : Launch}
set_option maxRecDepth 8000 in
theorem ct_City_runStill_e1f2a {I : fH} {x1 : Int} (h0 : fB bsJ I) (ha1 : (0 ≤ x1 ∧ x1 ≤ 23)) : fC ρ base n F xTc vwCl xTys D dA la gJ (fbz bsJ znJ (fKc wz_abae9) I) xm_85 [.inr (.inr (some 1)), .inl x1] I (fun I' r => r = none ∧ True ∧ (cR 0 I' = sSti (cR 0 I) x1)) := by
  have hW : fzs wz_abae9 (fKc wz_abae9) := fKc_ok _
  refine f_meth (rb := rbJ) (J := []) 1 400 xG xin_85 x6_85 okJ (fB_self h0) ?_ ?_
  · exact fun q h => absurd h List.not_mem_nil
  · have hB0 := fB_self (zn := znJ) (K := fKc wz_abae9) h0
    refine And.intro ⟨rfl, by decide, by decide⟩ ?_
    refine fload1 rL_182_182_0_5_1_0 h0 hB0 ⟨by decide, by decide⟩ (by first | exact ⟨by decide, by decide⟩ | omega) ?_
    intro z1 lz1 uz1 qz1
    have pz1 := fld_at qz1 5 (by omega)
    have v5 := cL_a (d := 0) (a := 182) (n := 6) (b := 17) (m := 1) (by decide +kernel) (by decide) qz1 (by omega) rfl
    refine And.intro (And.intro (by first | exact fi_ lz1 uz1 rfl | omega) (by first | exact ⟨by decide, by decide⟩ | omega)) (And.intro ?_ ?_)
    · intro c2
      refine And.intro ⟨rfl, by decide, by decide⟩ ?_
      refine fload1 rL_182_182_0_5_1_0 h0 hB0 ⟨by decide, by decide⟩ (by first | exact ⟨by decide, by decide⟩ | omega) ?_
      intro z3 lz3 uz3 qz3
      have pz3 := fld_at qz3 5 (by omega)
      have v17 := cL_a (d := 0) (a := 182) (n := 6) (b := 17) (m := 1) (by decide +kernel) (by decide) qz3 (by omega) rfl
      refine fstore1 rS_182_182_0_5_1_0 (fzs_sub (by decide +kernel) hW) ⟨by decide, by decide⟩ (by first | exact ⟨by decide, by decide⟩ | omega) (by omega) ?_
      intro IhB4 ehB4 hB4
      have t5 := fup_self ehB4
      have t6 := fup_at ehB4 5 (by first | rfl | omega)
      have r20 := cS_a (d := 0) (a := 182) (n := 6) (b := 17) (m := 1) (by decide +kernel) (by decide) ehB4 (by omega) rfl
      refine And.intro ⟨rfl, by decide, by decide⟩ ?_
      refine And.intro ⟨rfl, by decide, by decide⟩ ?_
      refine fload1 rL_165_165_0_23_1_0 h0 hB4 ⟨by decide, by decide⟩ (by first | exact ⟨ha1.1, ha1.2⟩ | omega) ?_
      intro z7 lz7 uz7 qz7
      have v29 := cL_a (d := 0) (a := 165) (n := 24) (b := 531) (m := 14) (by decide +kernel) (by decide) qz7 (by omega) rfl
      rw [r20] at v29
      refine And.intro ⟨rfl, by decide, by decide⟩ ?_
      refine Exists.intro xm_83 (And.intro mi_83 (And.intro ⟨rfl, rfl, rfl, rfl⟩ (And.intro rfl ?_)))
      refine fcallp hB4 (ct_Works_partForFoul_f7a9f (fBz h0 hB4) (by first | exact ⟨ha1.1, ha1.2⟩ | omega)) ?_
      rintro _ ⟨z8, rfl, hz8, g0z8⟩
      try rw [r20] at g0z8
      refine And.intro ⟨rfl, by decide, by decide⟩ ?_
      refine And.intro ⟨rfl, by decide, by decide⟩ ?_
      refine And.intro ⟨rfl, by decide⟩ (And.intro (by first | exact ⟨lz7, Int.lt_of_le_of_lt uz7 (by decide)⟩ | omega) ?_)
      refine fload rL_6_25_0_4_1_0 h0 hB4 (by omega) ?_
      intro z9 lz9 uz9 qz9
      have v49 := cL_r (d := 0) (a := 6) (nr := 20) (n := 5) (b := 31) (mr := 20) (m := 1) (by decide +kernel) (by decide) qz9 (by omega) (by omega) rfl
      rw [r20] at v49
      refine And.intro (And.intro (by first | exact fi_ hz8.1 hz8.2 rfl | omega) (And.intro (by first | exact fi_ lz9 uz9 rfl | omega) rfl)) ?_
      intro z10 hz10
      refine And.intro ⟨rfl, by decide, by decide⟩ ?_
      refine And.intro ⟨rfl, by decide, by decide⟩ ?_
      refine And.intro ⟨rfl, by decide⟩ (And.intro (by first | exact ⟨lz7, Int.lt_of_le_of_lt uz7 (by decide)⟩ | omega) ?_)
      refine fload rL_6_25_0_4_1_0 h0 hB4 (by omega) ?_
      intro z11 lz11 uz11 qz11
      have v65 := cL_r (d := 0) (a := 6) (nr := 20) (n := 5) (b := 31) (mr := 20) (m := 1) (by decide +kernel) (by decide) qz11 (by omega) (by omega) rfl
      rw [r20] at v65
      intro z12 hz12 ez12 bz12
      clear ez12
      have bz12 := bz12 (by omega)
      refine fstore rS_6_25_0_4_1_0 (fzs_sub (by decide +kernel) hW) (by omega) (by omega) ?_
      intro IhB13 ehB13 hB13
      have t14 := fup_self ehB13
      have t15 : IhB13 182 5 = IhB4 182 5 := (congrFun (congrFun ehB13 182) 5).trans (fup_ne (by first | exact Or.inl (by decide) | omega))
      have r68 := cS_r (d := 0) (a := 6) (nr := 20) (n := 5) (b := 31) (mr := 20) (m := 1) (by decide +kernel) (by decide) ehB13 (by omega) (by omega) rfl
      refine And.intro ⟨rfl, by decide, by decide⟩ ?_
      refine And.intro (And.intro (by omega) (And.intro (by first | exact ⟨by decide, by decide⟩ | omega) (And.intro (by first | exact by decide | omega) rfl))) ?_
      intro z16 hz16 ez16 dz16
      have dz16 := dz16 (by omega) (by omega)
      change _ = _ / _ at dz16
      refine Exists.intro xm_84 (And.intro mi_84 (And.intro ⟨rfl, rfl, rfl, rfl⟩ (And.intro rfl ?_)))
      refine fcall _ h0 (fzs_sub (by decide +kernel) hW) hB13 (ct_Cells_addAir_1fa72 (fBz h0 hB13) (by first | exact ⟨lz7, uz7⟩ | omega) (by first | exact ⟨by decide, by decide⟩ | omega) (by omega) (by omega) (by omega)) ?_
      rintro IhB18 _ hB18 fhB18 ⟨rfl, hz17, g0z17⟩
      have t19 := fhB18 182 5 (by decide +kernel)
      refine And.intro ⟨rfl, by decide, by decide⟩ ?_
      refine And.intro (And.intro (by omega) (And.intro (by first | exact ⟨by decide, by decide⟩ | omega) (And.intro (by first | exact by decide | omega) rfl))) ?_
      intro z20 hz20 ez20 dz20
      have dz20 := dz20 (by omega) (by omega)
      change _ = _ / _ at dz20
      intro z21 hz21 ez21 bz21
      clear ez21
      have bz21 := bz21 (by omega)
      refine Exists.intro xm_84 (And.intro mi_84 (And.intro ⟨rfl, rfl, rfl, rfl⟩ (And.intro rfl ?_)))
      refine fcall _ h0 (fzs_sub (by decide +kernel) hW) hB18 (ct_Cells_addAir_1fa72 (fBz h0 hB18) (by first | exact ⟨lz7, uz7⟩ | omega) (by first | exact ⟨by decide, by decide⟩ | omega) (by omega) (by omega) (by omega)) ?_
      rintro IhB23 _ hB23 fhB23 ⟨rfl, hz22, g0z22⟩
      have t24 := fhB23 182 5 (by decide +kernel)
      exact ⟨rfl, True.intro, (by rw [g0z22, g0z17, r68, r20]; exact (sSt_y (n := z10) (by omega) v5 (by omega) (by omega) (by omega) v29 (by omega) (by omega) (by omega) (mn_of (mn_le (by omega) (by omega) (by omega)) g0z8 v49) (by omega) (by omega) (by omega) (by omega) (by omega) rfl rfl))⟩
    · intro c25
      exact ⟨rfl, True.intro, (sSt_n v5 (by omega) (by omega))⟩
set_option maxRecDepth 8000 in
theorem ct_City_runWork_55621 {I : fH} {x1 : Int} (h0 : fB bsJ I) (ha1 : (0 ≤ x1 ∧ x1 ≤ 23)) (hp0 : okA (cR 0 I)) (hp1 : gt (cR 0 I) (538 + 14 * x1) = 0) : fC ρ base n F xTc vwCl xTys D dA la gJ (fbz bsJ znJ (fKc wz_1f04a) I) xm_77 [.inr (.inr (some 1)), .inl x1] I (fun I' r => r = none ∧ True ∧ (cR 0 I' = sWk (cR 0 I) x1)) := by
  have hW : fzs wz_1f04a (fKc wz_1f04a) := fKc_ok _
  refine f_meth (rb := rbJ) (J := []) 1 400 xG xin_77 x6_77 okJ (fB_self h0) ?_ ?_
  · exact fun q h => absurd h List.not_mem_nil
  · have hB0 := fB_self (zn := znJ) (K := fKc wz_1f04a) h0
    refine And.intro ⟨rfl, by decide, by decide⟩ ?_
    refine And.intro ⟨rfl, by decide, by decide⟩ ?_
    refine fload1 rL_164_164_0_23_1_0 h0 hB0 ⟨by decide, by decide⟩ (by first | exact ⟨ha1.1, ha1.2⟩ | omega) ?_
    intro z1 lz1 uz1 qz1
    have v8 := cL_a (d := 0) (a := 164) (n := 24) (b := 530) (m := 14) (by decide +kernel) (by decide) qz1 (by omega) rfl
    refine And.intro (by first | exact fi_ lz1 uz1 rfl | omega) (And.intro ?_ ?_)
    · refine And.intro (fun ex => ?_) (And.intro (fun ex => ?_) (And.intro (fun ex => ?_) (And.intro (fun ex => ?_) (And.intro (fun ex => ?_) (And.intro (fun ex => ?_) (True.intro))))))
      · skip
        refine Exists.intro xm_78 (And.intro mi_78 (And.intro ⟨rfl, rfl, rfl, rfl⟩ (And.intro rfl ?_)))
        refine fcall _ h0 (fzs_sub (by decide +kernel) hW) hB0 (ct_City_runSkin_7959e (fBz h0 hB0) (by first | exact ⟨ha1.1, ha1.2⟩ | omega)) ?_
        rintro IhB3 _ hB3 fhB3 ⟨rfl, hz2, g0z2⟩
        exact ⟨rfl, True.intro, (by rw [g0z2]; exact ((sWk_at v8 (by omega)).1 (by omega)))⟩
      · skip
        refine Exists.intro xm_82 (And.intro mi_82 (And.intro ⟨rfl, rfl, rfl, rfl⟩ (And.intro rfl ?_)))
        refine fcall _ h0 (fzs_sub (by decide +kernel) hW) hB0 (ct_City_runGarden_95dd6 (fBz h0 hB0) (by first | exact ⟨ha1.1, ha1.2⟩ | omega)) ?_
        rintro IhB5 _ hB5 fhB5 ⟨rfl, hz4, g0z4⟩
        exact ⟨rfl, True.intro, (by rw [g0z4]; exact ((sWk_at v8 (by omega)).2.1 (by omega)))⟩
      · skip
        refine Exists.intro xm_85 (And.intro mi_85 (And.intro ⟨rfl, rfl, rfl, rfl⟩ (And.intro rfl ?_)))
        refine fcall _ h0 (fzs_sub (by decide +kernel) hW) hB0 (ct_City_runStill_e1f2a (fBz h0 hB0) (by first | exact ⟨ha1.1, ha1.2⟩ | omega)) ?_
        rintro IhB7 _ hB7 fhB7 ⟨rfl, hz6, g0z6⟩
        exact ⟨rfl, True.intro, (by rw [g0z6]; exact ((sWk_at v8 (by omega)).2.2.1 (by omega)))⟩
      · skip
        refine Exists.intro xm_86 (And.intro mi_86 (And.intro ⟨rfl, rfl, rfl, rfl⟩ (And.intro rfl ?_)))
        refine fcall _ h0 (fzs_sub (by decide +kernel) hW) hB0 (ct_City_runRotor_c3465 (fBz h0 hB0) (by first | exact ⟨ha1.1, ha1.2⟩ | omega)) ?_
        rintro IhB9 _ hB9 fhB9 ⟨rfl, hz8, g0z8⟩
        exact ⟨rfl, True.intro, (by rw [g0z8]; exact ((sWk_at v8 (by omega)).2.2.2.1 (by omega)))⟩
      · skip
        refine And.intro ⟨rfl, by decide, by decide⟩ ?_
        refine And.intro ⟨rfl, by decide, by decide⟩ ?_
        refine fload1 rL_172_172_0_23_1_0 h0 hB0 ⟨by decide, by decide⟩ (by first | exact ⟨ha1.1, ha1.2⟩ | omega) ?_
        intro z10 lz10 uz10 qz10
        have v89 := cL_a (d := 0) (a := 172) (n := 24) (b := 536) (m := 14) (by decide +kernel) (by decide) qz10 (by omega) rfl
        have w89 := okA_pat hp0 v8 (by omega) (by omega) hp1 v89 (by omega) (by omega)
        intro z11 hz11 ez11 bz11
        clear ez11
        have bz11 := bz11 (by omega)
        refine fstore1 rS_172_172_0_23_1_0 (fzs_sub (by decide +kernel) hW) ⟨by decide, by decide⟩ (by first | exact ⟨ha1.1, ha1.2⟩ | omega) (by omega) ?_
        intro IhB12 ehB12 hB12
        have t13 := fup_self ehB12
        have r92 := cS_a (d := 0) (a := 172) (n := 24) (b := 536) (m := 14) (by decide +kernel) (by decide) ehB12 (by omega) rfl
        refine And.intro ⟨rfl, by decide, by decide⟩ ?_
        refine And.intro ⟨rfl, by decide, by decide⟩ ?_
        refine And.intro ⟨rfl, by decide, by decide⟩ ?_
        refine And.intro ⟨rfl, by decide, by decide⟩ ?_
        refine fload1 rL_172_172_0_23_1_0 h0 hB12 ⟨by decide, by decide⟩ (by first | exact ⟨ha1.1, ha1.2⟩ | omega) ?_
        intro z14 lz14 uz14 qz14
        have v109 := cL_a (d := 0) (a := 172) (n := 24) (b := 536) (m := 14) (by decide +kernel) (by decide) qz14 (by omega) rfl
        rw [r92] at v109
        refine And.intro (by first | exact fi_ lz14 uz14 rfl | omega) (And.intro ?_ ?_)
        · intro c15
          refine fstore1 rS_174_174_0_23_1_0 (fzs_sub (by decide +kernel) hW) ⟨by decide, by decide⟩ (by first | exact ⟨ha1.1, ha1.2⟩ | omega) (by omega) ?_
          intro IhB16 ehB16 hB16
          have t17 := fup_self ehB16
          have r118 := cS_a (d := 0) (a := 174) (n := 24) (b := 538) (m := 14) (by decide +kernel) (by decide) ehB16 (by omega) rfl
          exact ⟨rfl, True.intro, (by rw [r118, r92]; exact ((sPa_of (by omega) v89 (by omega) (by omega) (by omega) v109 (by omega) (by omega) (by split <;> omega)).trans ((sWk_at v8 (by omega)).2.2.2.2.1 (by omega))))⟩
        · intro c18
          refine fstore1 rS_174_174_0_23_1_0 (fzs_sub (by decide +kernel) hW) ⟨by decide, by decide⟩ (by first | exact ⟨ha1.1, ha1.2⟩ | omega) (by first | exact ⟨by decide, by decide⟩ | omega) ?_
          intro IhB19 ehB19 hB19
          have t20 := fup_self ehB19
          have r118 := cS_a (d := 0) (a := 174) (n := 24) (b := 538) (m := 14) (by decide +kernel) (by decide) ehB19 (by omega) rfl
          exact ⟨rfl, True.intro, (by rw [r118, r92]; exact ((sPa_of (by omega) v89 (by omega) (by omega) (by omega) v109 (by omega) (by omega) (by split <;> omega)).trans ((sWk_at v8 (by omega)).2.2.2.2.1 (by omega))))⟩
      · skip
        refine Exists.intro xm_87 (And.intro mi_87 (And.intro ⟨rfl, rfl, rfl, rfl⟩ (And.intro rfl ?_)))
        refine fcall _ h0 (fzs_sub (by decide +kernel) hW) hB0 (ct_City_runProbe_4687a (fBz h0 hB0) (by first | exact ⟨ha1.1, ha1.2⟩ | omega) hp0) ?_
        rintro IhB22 _ hB22 fhB22 ⟨rfl, hz21, g0z21⟩
        exact ⟨rfl, True.intro, (by rw [g0z21]; exact ((sWk_at v8 (by omega)).2.2.2.2.2.1 (by omega)))⟩
    · intro c23
      simp only [List.length_cons, List.length_nil] at c23
      exact ⟨rfl, True.intro, (by exact ((sWk_at v8 (by omega)).2.2.2.2.2.2 (by omega)))⟩
set_option maxRecDepth 8000 in
theorem ct_People_needOf_69fc2 {I : fH} {x1 : Int} (h0 : fB bsJ I) (ha1 : (0 ≤ x1 ∧ x1 ≤ 23)) : fC ρ base n F xTc vwCl xTys D dA la gJ (fbz bsJ znJ (fKc []) I) xm_92 [.inr (.inr (some 177)), .inl x1] I (fun _ r => ∃ z, r = some (.inl z) ∧ (1 ≤ z ∧ z ≤ 2) ∧ (z = sNd (cR 0 I) x1)) := by
  have hW : fzs [] (fKc []) := fKc_ok _
  refine f_meth (rb := rbJ) (J := []) 1 400 xG xin_92 x6_92 okJ (fB_self h0) ?_ ?_
  · exact fun q h => absurd h List.not_mem_nil
  · have hB0 := fB_self (zn := znJ) (K := fKc []) h0
    refine And.intro ⟨rfl, by decide, by decide⟩ ?_
    refine fload1 rL_178_178_0_23_1_0 h0 hB0 ⟨by decide, by decide⟩ (by first | exact ⟨ha1.1, ha1.2⟩ | omega) ?_
    intro z1 lz1 uz1 qz1
    have v5 := cL_a (d := 0) (a := 178) (n := 24) (b := 870) (m := 6) (by decide +kernel) (by decide) qz1 (by omega) rfl
    refine And.intro (And.intro (by first | exact fi_ lz1 uz1 rfl | omega) (by first | exact ⟨by decide, by decide⟩ | omega)) (And.intro ?_ ?_)
    · intro c2
      refine And.intro (True.intro) ?_
      exact ⟨_, rfl, by omega, (sNd_of v5 (by omega) (by omega))⟩
    · intro c3
      refine And.intro (True.intro) ?_
      exact ⟨_, rfl, (by first | exact ⟨by decide, by decide⟩ | omega), (sNd_of v5 (by omega) (by omega))⟩
set_option maxRecDepth 8000 in
theorem ct_People_sicken_1f528 {I : fH} {x1 : Int} {x2 : Int} (h0 : fB bsJ I) (ha1 : (0 ≤ x1 ∧ x1 ≤ 23)) (ha2 : ((-1) ≤ x2 ∧ x2 ≤ 8)) : fC ρ base n F xTc vwCl xTys D dA la gJ (fbz bsJ znJ (fKc wz_b5181) I) xm_93 [.inr (.inr (some 177)), .inl x1, .inl x2] I (fun I' r => r = none ∧ True ∧ (cR 0 I' = sSi (cR 0 I) x1 x2)) := by
  have hW : fzs wz_b5181 (fKc wz_b5181) := fKc_ok _
  refine f_meth (rb := rbJ) (J := []) 1 400 xG xin_93 x6_93 okJ (fB_self h0) ?_ ?_
  · exact fun q h => absurd h List.not_mem_nil
  · have hB0 := fB_self (zn := znJ) (K := fKc wz_b5181) h0
    refine And.intro ⟨rfl, by decide, by decide⟩ ?_
    refine And.intro ⟨rfl, by decide, by decide⟩ ?_
    refine fload1 rL_181_181_0_23_1_0 h0 hB0 ⟨by decide, by decide⟩ (by first | exact ⟨ha1.1, ha1.2⟩ | omega) ?_
    intro z1 lz1 uz1 qz1
    have v13 := cL_a (d := 0) (a := 181) (n := 24) (b := 873) (m := 6) (by decide +kernel) (by decide) qz1 (by omega) rfl
    intro z2 hz2 ez2 bz2
    clear ez2
    have bz2 := bz2 (by omega)
    refine And.intro (And.intro (by first | exact ⟨by decide, by decide⟩ | omega) (And.intro (by omega) rfl)) ?_
    intro z3 hz3
    refine And.intro (And.intro (by first | exact ⟨by decide, by decide⟩ | omega) (And.intro (by omega) rfl)) ?_
    intro z4 hz4
    refine fstore1 rS_181_181_0_23_1_0 (fzs_sub (by decide +kernel) hW) ⟨by decide, by decide⟩ (by first | exact ⟨ha1.1, ha1.2⟩ | omega) (by omega) ?_
    intro IhB5 ehB5 hB5
    have t6 := fup_self ehB5
    have r22 := cS_a (d := 0) (a := 181) (n := 24) (b := 873) (m := 6) (by decide +kernel) (by decide) ehB5 (by omega) rfl
    exact ⟨rfl, True.intro, (by rw [r22]; exact (sSi_of v13 (by omega) (by omega) (mn_le (by (repeat' split) <;> omega) (by (repeat' split) <;> omega) (by (repeat' split) <;> omega))))⟩
set_option maxRecDepth 8000 in
theorem ct_City_breathe_98bcc {I : fH} {x1 : Int} (h0 : fB bsJ I) (ha1 : (0 ≤ x1 ∧ x1 ≤ 23)) : fC ρ base n F xTc vwCl xTys D dA la gJ (fbz bsJ znJ (fKc wz_e3569) I) xm_91 [.inr (.inr (some 1)), .inl x1] I (fun I' r => r = none ∧ True ∧ (cR 0 I' = sBr (cR 0 I) x1)) := by
  have hW : fzs wz_e3569 (fKc wz_e3569) := fKc_ok _
  refine f_meth (rb := rbJ) (J := []) 1 400 xG xin_91 x6_91 okJ (fB_self h0) ?_ ?_
  · exact fun q h => absurd h List.not_mem_nil
  · have hB0 := fB_self (zn := znJ) (K := fKc wz_e3569) h0
    refine And.intro ⟨rfl, by decide, by decide⟩ ?_
    refine And.intro ⟨rfl, by decide, by decide⟩ ?_
    refine fload1 rL_180_180_0_23_1_0 h0 hB0 ⟨by decide, by decide⟩ (by first | exact ⟨ha1.1, ha1.2⟩ | omega) ?_
    intro z1 lz1 uz1 qz1
    have v8 := cL_a (d := 0) (a := 180) (n := 24) (b := 872) (m := 6) (by decide +kernel) (by decide) qz1 (by omega) rfl
    refine And.intro ⟨rfl, by decide, by decide⟩ ?_
    refine Exists.intro xm_92 (And.intro mi_92 (And.intro ⟨rfl, rfl, rfl, rfl⟩ (And.intro rfl ?_)))
    refine fcallp hB0 (ct_People_needOf_69fc2 (fBz h0 hB0) (by first | exact ⟨ha1.1, ha1.2⟩ | omega)) ?_
    rintro _ ⟨z2, rfl, hz2, g0z2⟩
    refine And.intro ⟨rfl, by decide, by decide⟩ ?_
    refine And.intro ⟨rfl, by decide, by decide⟩ ?_
    refine And.intro ⟨rfl, by decide⟩ (And.intro (by first | exact ⟨lz1, Int.lt_of_le_of_lt uz1 (by decide)⟩ | omega) ?_)
    refine fload rL_6_25_0_4_1_0 h0 hB0 (by omega) ?_
    intro z3 lz3 uz3 qz3
    have v30 := cL_r (d := 0) (a := 6) (nr := 20) (n := 5) (b := 31) (mr := 20) (m := 1) (by decide +kernel) (by decide) qz3 (by omega) (by omega) rfl
    refine And.intro (And.intro (by first | exact fi_ hz2.1 hz2.2 rfl | omega) (And.intro (by first | exact fi_ lz3 uz3 rfl | omega) rfl)) ?_
    intro z4 hz4
    refine And.intro ⟨rfl, by decide, by decide⟩ ?_
    refine And.intro ⟨rfl, by decide, by decide⟩ ?_
    refine And.intro ⟨rfl, by decide⟩ (And.intro (by first | exact ⟨lz1, Int.lt_of_le_of_lt uz1 (by decide)⟩ | omega) ?_)
    refine fload rL_6_25_0_4_1_0 h0 hB0 (by omega) ?_
    intro z5 lz5 uz5 qz5
    have v47 := cL_r (d := 0) (a := 6) (nr := 20) (n := 5) (b := 31) (mr := 20) (m := 1) (by decide +kernel) (by decide) qz5 (by omega) (by omega) rfl
    intro z6 hz6 ez6 bz6
    clear ez6
    have bz6 := bz6 (by omega)
    refine fstore rS_6_25_0_4_1_0 (fzs_sub (by decide +kernel) hW) (by omega) (by omega) ?_
    intro IhB7 ehB7 hB7
    have t8 := fup_self ehB7
    have r51 := cS_r (d := 0) (a := 6) (nr := 20) (n := 5) (b := 31) (mr := 20) (m := 1) (by decide +kernel) (by decide) ehB7 (by omega) (by omega) rfl
    refine And.intro ⟨rfl, by decide, by decide⟩ ?_
    refine And.intro (And.intro (by omega) (And.intro (by first | exact ⟨by decide, by decide⟩ | omega) (And.intro (by first | exact by decide | omega) rfl))) ?_
    intro z9 hz9 ez9 dz9
    have dz9 := dz9 (by omega) (by omega)
    change _ = _ / _ at dz9
    refine Exists.intro xm_84 (And.intro mi_84 (And.intro ⟨rfl, rfl, rfl, rfl⟩ (And.intro rfl ?_)))
    refine fcall _ h0 (fzs_sub (by decide +kernel) hW) hB7 (ct_Cells_addAir_1fa72 (fBz h0 hB7) (by first | exact ⟨lz1, uz1⟩ | omega) (by first | exact ⟨by decide, by decide⟩ | omega) (by omega) (by omega) (by omega)) ?_
    rintro IhB11 _ hB11 fhB11 ⟨rfl, hz10, g0z10⟩
    refine And.intro ⟨rfl, by decide, by decide⟩ ?_
    refine And.intro (And.intro (by omega) (And.intro (by first | exact ⟨by decide, by decide⟩ | omega) (And.intro (by first | exact by decide | omega) rfl))) ?_
    intro z12 hz12 ez12 dz12
    have dz12 := dz12 (by omega) (by omega)
    change _ = _ / _ at dz12
    intro z13 hz13 ez13 bz13
    clear ez13
    have bz13 := bz13 (by omega)
    refine Exists.intro xm_84 (And.intro mi_84 (And.intro ⟨rfl, rfl, rfl, rfl⟩ (And.intro rfl ?_)))
    refine fcall _ h0 (fzs_sub (by decide +kernel) hW) hB11 (ct_Cells_addAir_1fa72 (fBz h0 hB11) (by first | exact ⟨lz1, uz1⟩ | omega) (by first | exact ⟨by decide, by decide⟩ | omega) (by omega) (by omega) (by omega)) ?_
    rintro IhB15 _ hB15 fhB15 ⟨rfl, hz14, g0z14⟩
    refine And.intro (by omega) (And.intro ?_ ?_)
    · intro c16
      refine And.intro ⟨rfl, by decide, by decide⟩ ?_
      refine And.intro ⟨rfl, by decide, by decide⟩ ?_
      refine And.intro ⟨rfl, by decide⟩ (And.intro (by first | exact ⟨lz1, Int.lt_of_le_of_lt uz1 (by decide)⟩ | omega) ?_)
      refine fload rL_6_25_0_4_1_0 h0 hB15 (by omega) ?_
      intro z17 lz17 uz17 qz17
      have v104 := cL_r (d := 0) (a := 6) (nr := 20) (n := 5) (b := 31) (mr := 20) (m := 1) (by decide +kernel) (by decide) qz17 (by omega) (by omega) rfl
      rw [g0z14, g0z10, r51] at v104
      refine And.intro ⟨rfl, by decide, by decide⟩ ?_
      refine And.intro ⟨rfl, by decide, by decide⟩ ?_
      refine fload1 rL_3_3_0_19_1_0 h0 hB15 ⟨by decide, by decide⟩ (by first | exact ⟨lz1, uz1⟩ | omega) ?_
      intro z18 lz18 uz18 qz18
      have v113 := cL_a (d := 0) (a := 3) (n := 20) (b := 30) (m := 20) (by decide +kernel) (by decide) qz18 (by omega) rfl
      rw [g0z14, g0z10, r51] at v113
      refine And.intro (And.intro (by first | exact fi_ lz17 uz17 rfl | omega) (by first | exact fi_ lz18 uz18 rfl | omega)) (And.intro ?_ ?_)
      · intro c19
        refine And.intro ⟨rfl, by decide, by decide⟩ ?_
        refine And.intro (by omega) (And.intro ?_ ?_)
        · intro c20
          refine Exists.intro xm_93 (And.intro mi_93 (And.intro ⟨rfl, rfl, rfl, rfl⟩ (And.intro rfl ?_)))
          refine fcall _ h0 (fzs_sub (by decide +kernel) hW) hB15 (ct_People_sicken_1f528 (fBz h0 hB15) (by first | exact ⟨ha1.1, ha1.2⟩ | omega) (by omega)) ?_
          rintro IhB22 _ hB22 fhB22 ⟨rfl, hz21, g0z21⟩
          exact ⟨rfl, True.intro, (by rw [g0z21, g0z14, g0z10, r51]; exact (sBr_cl (n := z4) v8 (by omega) g0z2 (by omega) (mn_of (mn_le (by omega) (by omega) (by omega)) rfl v30) (by omega) (by omega) (by omega) (by omega) (by omega) rfl rfl v104 (by omega) v113 (by omega) rfl (by (repeat' split) <;> omega)))⟩
        · intro c23
          refine Exists.intro xm_93 (And.intro mi_93 (And.intro ⟨rfl, rfl, rfl, rfl⟩ (And.intro rfl ?_)))
          refine fcall _ h0 (fzs_sub (by decide +kernel) hW) hB15 (ct_People_sicken_1f528 (fBz h0 hB15) (by first | exact ⟨ha1.1, ha1.2⟩ | omega) (by first | exact ⟨by decide, by decide⟩ | omega)) ?_
          rintro IhB25 _ hB25 fhB25 ⟨rfl, hz24, g0z24⟩
          exact ⟨rfl, True.intro, (by rw [g0z24, g0z14, g0z10, r51]; exact (sBr_cl (n := z4) v8 (by omega) g0z2 (by omega) (mn_of (mn_le (by omega) (by omega) (by omega)) rfl v30) (by omega) (by omega) (by omega) (by omega) (by omega) rfl rfl v104 (by omega) v113 (by omega) rfl (by (repeat' split) <;> omega)))⟩
      · intro c26
        refine And.intro ⟨rfl, by decide, by decide⟩ ?_
        refine And.intro (by omega) (And.intro ?_ ?_)
        · intro c27
          refine Exists.intro xm_93 (And.intro mi_93 (And.intro ⟨rfl, rfl, rfl, rfl⟩ (And.intro rfl ?_)))
          refine fcall _ h0 (fzs_sub (by decide +kernel) hW) hB15 (ct_People_sicken_1f528 (fBz h0 hB15) (by first | exact ⟨ha1.1, ha1.2⟩ | omega) (by omega)) ?_
          rintro IhB29 _ hB29 fhB29 ⟨rfl, hz28, g0z28⟩
          exact ⟨rfl, True.intro, (by rw [g0z28, g0z14, g0z10, r51]; exact (sBr_cl (n := z4) v8 (by omega) g0z2 (by omega) (mn_of (mn_le (by omega) (by omega) (by omega)) rfl v30) (by omega) (by omega) (by omega) (by omega) (by omega) rfl rfl v104 (by omega) v113 (by omega) rfl (by (repeat' split) <;> omega)))⟩
        · intro c30
          refine Exists.intro xm_93 (And.intro mi_93 (And.intro ⟨rfl, rfl, rfl, rfl⟩ (And.intro rfl ?_)))
          refine fcall _ h0 (fzs_sub (by decide +kernel) hW) hB15 (ct_People_sicken_1f528 (fBz h0 hB15) (by first | exact ⟨ha1.1, ha1.2⟩ | omega) (by first | exact ⟨by decide, by decide⟩ | omega)) ?_
          rintro IhB32 _ hB32 fhB32 ⟨rfl, hz31, g0z31⟩
          exact ⟨rfl, True.intro, (by rw [g0z31, g0z14, g0z10, r51]; exact (sBr_cl (n := z4) v8 (by omega) g0z2 (by omega) (mn_of (mn_le (by omega) (by omega) (by omega)) rfl v30) (by omega) (by omega) (by omega) (by omega) (by omega) rfl rfl v104 (by omega) v113 (by omega) rfl (by (repeat' split) <;> omega)))⟩
    · intro c33
      refine And.intro ⟨rfl, by decide, by decide⟩ ?_
      refine And.intro ⟨rfl, by decide, by decide⟩ ?_
      refine And.intro ⟨rfl, by decide⟩ (And.intro (by first | exact ⟨lz1, Int.lt_of_le_of_lt uz1 (by decide)⟩ | omega) ?_)
      refine fload rL_6_25_0_4_1_0 h0 hB15 (by omega) ?_
      intro z34 lz34 uz34 qz34
      have v104 := cL_r (d := 0) (a := 6) (nr := 20) (n := 5) (b := 31) (mr := 20) (m := 1) (by decide +kernel) (by decide) qz34 (by omega) (by omega) rfl
      rw [g0z14, g0z10, r51] at v104
      refine And.intro ⟨rfl, by decide, by decide⟩ ?_
      refine And.intro ⟨rfl, by decide, by decide⟩ ?_
      refine fload1 rL_3_3_0_19_1_0 h0 hB15 ⟨by decide, by decide⟩ (by first | exact ⟨lz1, uz1⟩ | omega) ?_
      intro z35 lz35 uz35 qz35
      have v113 := cL_a (d := 0) (a := 3) (n := 20) (b := 30) (m := 20) (by decide +kernel) (by decide) qz35 (by omega) rfl
      rw [g0z14, g0z10, r51] at v113
      refine And.intro (And.intro (by first | exact fi_ lz34 uz34 rfl | omega) (by first | exact fi_ lz35 uz35 rfl | omega)) (And.intro ?_ ?_)
      · intro c36
        refine And.intro ⟨rfl, by decide, by decide⟩ ?_
        refine And.intro (by first | exact ⟨by decide, by decide⟩ | omega) (And.intro ?_ ?_)
        · intro c37
          refine Exists.intro xm_93 (And.intro mi_93 (And.intro ⟨rfl, rfl, rfl, rfl⟩ (And.intro rfl ?_)))
          refine fcall _ h0 (fzs_sub (by decide +kernel) hW) hB15 (ct_People_sicken_1f528 (fBz h0 hB15) (by first | exact ⟨ha1.1, ha1.2⟩ | omega) (by first | exact ⟨by decide, by decide⟩ | omega)) ?_
          rintro IhB39 _ hB39 fhB39 ⟨rfl, hz38, g0z38⟩
          exact ⟨rfl, True.intro, (by rw [g0z38, g0z14, g0z10, r51]; exact (sBr_cl (n := z4) v8 (by omega) g0z2 (by omega) (mn_of (mn_le (by omega) (by omega) (by omega)) rfl v30) (by omega) (by omega) (by omega) (by omega) (by omega) rfl rfl v104 (by omega) v113 (by omega) rfl (by (repeat' split) <;> omega)))⟩
        · intro c40
          refine Exists.intro xm_93 (And.intro mi_93 (And.intro ⟨rfl, rfl, rfl, rfl⟩ (And.intro rfl ?_)))
          refine fcall _ h0 (fzs_sub (by decide +kernel) hW) hB15 (ct_People_sicken_1f528 (fBz h0 hB15) (by first | exact ⟨ha1.1, ha1.2⟩ | omega) (by first | exact ⟨by decide, by decide⟩ | omega)) ?_
          rintro IhB42 _ hB42 fhB42 ⟨rfl, hz41, g0z41⟩
          exact ⟨rfl, True.intro, (by rw [g0z41, g0z14, g0z10, r51]; exact (sBr_cl (n := z4) v8 (by omega) g0z2 (by omega) (mn_of (mn_le (by omega) (by omega) (by omega)) rfl v30) (by omega) (by omega) (by omega) (by omega) (by omega) rfl rfl v104 (by omega) v113 (by omega) rfl (by (repeat' split) <;> omega)))⟩
      · intro c43
        refine And.intro ⟨rfl, by decide, by decide⟩ ?_
        refine And.intro (by omega) (And.intro ?_ ?_)
        · intro c44
          refine Exists.intro xm_93 (And.intro mi_93 (And.intro ⟨rfl, rfl, rfl, rfl⟩ (And.intro rfl ?_)))
          refine fcall _ h0 (fzs_sub (by decide +kernel) hW) hB15 (ct_People_sicken_1f528 (fBz h0 hB15) (by first | exact ⟨ha1.1, ha1.2⟩ | omega) (by omega)) ?_
          rintro IhB46 _ hB46 fhB46 ⟨rfl, hz45, g0z45⟩
          exact ⟨rfl, True.intro, (by rw [g0z45, g0z14, g0z10, r51]; exact (sBr_cl (n := z4) v8 (by omega) g0z2 (by omega) (mn_of (mn_le (by omega) (by omega) (by omega)) rfl v30) (by omega) (by omega) (by omega) (by omega) (by omega) rfl rfl v104 (by omega) v113 (by omega) rfl (by (repeat' split) <;> omega)))⟩
        · intro c47
          refine Exists.intro xm_93 (And.intro mi_93 (And.intro ⟨rfl, rfl, rfl, rfl⟩ (And.intro rfl ?_)))
          refine fcall _ h0 (fzs_sub (by decide +kernel) hW) hB15 (ct_People_sicken_1f528 (fBz h0 hB15) (by first | exact ⟨ha1.1, ha1.2⟩ | omega) (by first | exact ⟨by decide, by decide⟩ | omega)) ?_
          rintro IhB49 _ hB49 fhB49 ⟨rfl, hz48, g0z48⟩
          exact ⟨rfl, True.intro, (by rw [g0z48, g0z14, g0z10, r51]; exact (sBr_cl (n := z4) v8 (by omega) g0z2 (by omega) (mn_of (mn_le (by omega) (by omega) (by omega)) rfl v30) (by omega) (by omega) (by omega) (by omega) (by omega) rfl rfl v104 (by omega) v113 (by omega) rfl (by (repeat' split) <;> omega)))⟩
abbrev jc_Works_foulAll_0fc04_2 (I0 : fH) : Nat → fL → List fV → fH → Prop := fun m lv st I => ∃ (y1 : Int), lv = [(0, .inr (.inr (some 163))), (1, .inl y1)] ∧ st = [] ∧ (((0 ≤ y1 ∧ y1 ≤ 24) ∧ (y1 ≤ I0 163 13)) ∧ ((cR 0 I) = nf sFo1 (cR 0 I0) y1.toNat)) ∧ m = (1 + 1 * (24 - y1) : Int).toNat
set_option maxRecDepth 8000 in
theorem ct_Works_foulAll_0fc04 {I : fH}  (h0 : fB bsJ I) (hp0 : okA (cR 0 I)) : fC ρ base n F xTc vwCl xTys D dA la gJ (fbz bsJ znJ (fKc wz_57158) I) xm_95 [.inr (.inr (some 163))] I (fun I' r => r = none ∧ True ∧ (cR 0 I' = sMi6 (cR 0 I))) := by
  have hW : fzs wz_57158 (fKc wz_57158) := fKc_ok _
  refine f_meth (rb := rbJ) (J := [(2, (jc_Works_foulAll_0fc04_2 I))]) 26 400 xG xin_95 x6_95 okJ (fB_self h0) ?_ ?_
  · refine List.forall_mem_cons.mpr ⟨?_, fun q h => absurd h List.not_mem_nil⟩
    · rintro m _ _ I1 hB1 ⟨y1, rfl, rfl, ⟨hb, hx0⟩, hm⟩
      have k1 := fBz_eq hB1 (a := 163) (j := 13) (by decide +kernel)
      have b2 := fBd fb_163_13 (fBz h0 hB1)
      have wk : okA (cR 0 I1) := (by rw [hx0]; exact okA_fo hp0)
      refine And.intro ⟨rfl, by decide, by decide⟩ (fgetf fb_163_13 h0 hB1 ?_)
      intro z3 lz3 uz3 qz3
      have v4 := cL_f (d := 0) (a := 163) (j := 13) (r := 7) (p := 7) (by decide +kernel) (by decide) qz3 rfl
      refine And.intro (And.intro (by first | exact fi_ hb.1.1 hb.1.2 rfl | omega) (by first | exact fi_ lz3 uz3 rfl | omega)) (And.intro ?_ ?_)
      · intro c4
        have w7 := (cL_f (d := 0) (a := 163) (j := 13) (r := 7) (p := 7) (I := I) (z := I 163 13) (by decide +kernel) (by decide) rfl rfl)
        exact ⟨rfl, True.intro, (nf_end hx0 (by omega))⟩
      · intro c5
        refine And.intro ⟨rfl, by decide, by decide⟩ ?_
        refine fload1 rL_174_174_0_23_1_0 h0 hB1 ⟨by decide, by decide⟩ (by first | exact ⟨hb.1.1, Int.le_trans (Int.le_sub_one_of_lt (Int.lt_of_lt_of_le c5 uz3)) (by decide)⟩ | omega) ?_
        intro z6 lz6 uz6 qz6
        have v15 := cL_a (d := 0) (a := 174) (n := 24) (b := 538) (m := 14) (by decide +kernel) (by decide) qz6 (by omega) rfl
        refine And.intro (by first | exact fi_ lz6 uz6 rfl | omega) (And.intro ?_ ?_)
        · intro c7
          exact fcutJ (I := I1) (j := (jc_Works_foulAll_0fc04_2 I)) (lv' := [(0, .inr (.inr (some 163))), (1, .inl _)]) (And.intro rfl (And.intro rfl True.intro)) ⟨_, rfl, rfl, ⟨by omega, (nf_row hx0 (by omega) (by omega) (by exact (sFo1_n (u := y1) v15 (by omega) (by omega) (by omega))))⟩, rfl⟩ (by omega)
        · intro c8
          refine And.intro ⟨rfl, by decide, by decide⟩ ?_
          refine fload1 rL_170_170_0_23_1_0 h0 hB1 ⟨by decide, by decide⟩ (by first | exact ⟨hb.1.1, Int.le_trans (Int.le_sub_one_of_lt (Int.lt_of_lt_of_le c5 uz3)) (by decide)⟩ | omega) ?_
          intro z9 lz9 uz9 qz9
          have v25 := cL_a (d := 0) (a := 170) (n := 24) (b := 542) (m := 14) (by decide +kernel) (by decide) qz9 (by omega) rfl
          have w25 := okA_sum (w := y1) wk v25 (by omega) (by omega)
          refine And.intro ⟨rfl, by decide, by decide⟩ ?_
          refine fload1 rL_169_169_0_23_1_0 h0 hB1 ⟨by decide, by decide⟩ (by first | exact ⟨hb.1.1, Int.le_trans (Int.le_sub_one_of_lt (Int.lt_of_lt_of_le c5 uz3)) (by decide)⟩ | omega) ?_
          intro z10 lz10 uz10 qz10
          have v31 := cL_a (d := 0) (a := 169) (n := 24) (b := 541) (m := 14) (by decide +kernel) (by decide) qz10 (by omega) rfl
          intro z11 hz11 ez11 bz11
          clear ez11
          try replace bz11 := bz11 (by omega)
          refine fstore1 rS_170_170_0_23_1_0 (fzs_sub (by decide +kernel) hW) ⟨by decide, by decide⟩ (by first | exact ⟨hb.1.1, Int.le_trans (Int.le_sub_one_of_lt (Int.lt_of_lt_of_le c5 uz3)) (by decide)⟩ | omega) (by omega) ?_
          intro IhB12 ehB12 hB12
          have t13 := fup_self ehB12
          have t14 : IhB12 163 13 = I1 163 13 := (congrFun (congrFun ehB12 163) 13).trans (fup_ne (by first | exact Or.inl (by decide) | omega))
          have k15 := fBz_eq hB12 (a := 163) (j := 13) (by decide +kernel)
          have r33 := cS_a (d := 0) (a := 170) (n := 24) (b := 542) (m := 14) (by decide +kernel) (by decide) ehB12 (by omega) rfl
          refine And.intro ⟨rfl, by decide, by decide⟩ ?_
          refine And.intro ⟨rfl, by decide, by decide⟩ ?_
          refine fload1 rL_168_168_0_23_1_0 h0 hB12 ⟨by decide, by decide⟩ (by first | exact ⟨hb.1.1, Int.le_trans (Int.le_sub_one_of_lt (Int.lt_of_lt_of_le c5 uz3)) (by decide)⟩ | omega) ?_
          intro z16 lz16 uz16 qz16
          have v46 := cL_a (d := 0) (a := 168) (n := 24) (b := 534) (m := 14) (by decide +kernel) (by decide) qz16 (by omega) rfl
          rw [r33] at v46
          refine And.intro ⟨rfl, by decide, by decide⟩ ?_
          refine fload1 rL_170_170_0_23_1_0 h0 hB12 ⟨by decide, by decide⟩ (by first | exact ⟨hb.1.1, Int.le_trans (Int.le_sub_one_of_lt (Int.lt_of_lt_of_le c5 uz3)) (by decide)⟩ | omega) ?_
          intro z17 lz17 uz17 qz17
          have v52 := cL_a (d := 0) (a := 170) (n := 24) (b := 542) (m := 14) (by decide +kernel) (by decide) qz17 (by omega) rfl
          rw [r33] at v52
          have w52 := gt_e (by omega) (by omega) v52
          refine And.intro (And.intro (by first | exact fi_ lz17 uz17 rfl | omega) (And.intro (by first | exact ⟨by decide, by decide⟩ | omega) (And.intro (by first | exact by decide | omega) rfl))) ?_
          intro z18 hz18 ez18 dz18
          have dz18 := dz18 (by omega) (by omega)
          change _ = _ / _ at dz18
          intro z19 hz19 ez19 bz19
          clear ez19
          try replace bz19 := bz19 (by omega)
          refine And.intro (And.intro (by first | exact ⟨by decide, by decide⟩ | omega) (And.intro (by omega) rfl)) ?_
          intro z20 hz20
          refine fstore1 rS_168_168_0_23_1_0 (fzs_sub (by decide +kernel) hW) ⟨by decide, by decide⟩ (by first | exact ⟨hb.1.1, Int.le_trans (Int.le_sub_one_of_lt (Int.lt_of_lt_of_le c5 uz3)) (by decide)⟩ | omega) (by omega) ?_
          intro IhB21 ehB21 hB21
          have t22 := fup_self ehB21
          have t23 : IhB21 163 13 = IhB12 163 13 := (congrFun (congrFun ehB21 163) 13).trans (fup_ne (by first | exact Or.inl (by decide) | omega))
          have k24 := fBz_eq hB21 (a := 163) (j := 13) (by decide +kernel)
          have r60 := cS_a (d := 0) (a := 168) (n := 24) (b := 534) (m := 14) (by decide +kernel) (by decide) ehB21 (by omega) rfl
          refine And.intro ⟨rfl, by decide, by decide⟩ ?_
          refine fload1 rL_170_170_0_23_1_0 h0 hB21 ⟨by decide, by decide⟩ (by first | exact ⟨hb.1.1, Int.le_trans (Int.le_sub_one_of_lt (Int.lt_of_lt_of_le c5 uz3)) (by decide)⟩ | omega) ?_
          intro z25 lz25 uz25 qz25
          have v67 := cL_a (d := 0) (a := 170) (n := 24) (b := 542) (m := 14) (by decide +kernel) (by decide) qz25 (by omega) rfl
          rw [r60, r33] at v67
          have w67 := gt_e (by omega) (by omega) (gt_n (by omega) (by omega) v67)
          refine And.intro (And.intro (by first | exact fi_ lz25 uz25 rfl | omega) (And.intro (by first | exact ⟨by decide, by decide⟩ | omega) (And.intro (by first | exact by decide | omega) rfl))) ?_
          intro z26 hz26 ez26 dz26
          have dz26 := dz26 (by omega) (by omega)
          change _ = _ % _ at dz26
          refine fstore1 rS_170_170_0_23_1_0 (fzs_sub (by decide +kernel) hW) ⟨by decide, by decide⟩ (by first | exact ⟨hb.1.1, Int.le_trans (Int.le_sub_one_of_lt (Int.lt_of_lt_of_le c5 uz3)) (by decide)⟩ | omega) (by omega) ?_
          intro IhB27 ehB27 hB27
          have t28 := fup_self ehB27
          have t29 : IhB27 163 13 = IhB21 163 13 := (congrFun (congrFun ehB27 163) 13).trans (fup_ne (by first | exact Or.inl (by decide) | omega))
          have k30 := fBz_eq hB27 (a := 163) (j := 13) (by decide +kernel)
          have r71 := cS_a (d := 0) (a := 170) (n := 24) (b := 542) (m := 14) (by decide +kernel) (by decide) ehB27 (by omega) rfl
          exact fcutJ (I := IhB27) (j := (jc_Works_foulAll_0fc04_2 I)) (lv' := [(0, .inr (.inr (some 163))), (1, .inl _)]) (And.intro rfl (And.intro rfl True.intro)) ⟨_, rfl, rfl, ⟨by omega, (nf_row hx0 (by omega) (by omega) (by rw [r71, r60, r33]; exact ((sFo_of (w := y1) (by omega) v25 (by omega) v31 (by omega) (by omega) (by omega) v46 (by omega) (gt_e (by omega) (by omega) v52) (by omega) (mn_le (by omega) (by omega) (by omega)) (by omega) (gt_e (by omega) (by omega) (gt_n (by omega) (by omega) v67)) (by omega)).trans (sFo1_y v15 (by omega) (by omega) (by omega)))))⟩, rfl⟩ (by omega)
  · have hB0 := fB_self (zn := znJ) (K := fKc wz_57158) h0
    have b31 := fBd fb_163_13 (fBz h0 hB0)
    exact fcutJ (I := I) (j := (jc_Works_foulAll_0fc04_2 I)) (lv' := [(0, .inr (.inr (some 163))), (1, .inl _)]) (And.intro rfl (And.intro rfl True.intro)) ⟨_, rfl, rfl, ⟨by omega, rfl⟩, rfl⟩ (by omega)
set_option maxRecDepth 8000 in
theorem ct_Cells_sendReport_d1e0c {I : fH} {x1 : Int} {x2 : Int} {x3 : Int} (h0 : fB bsJ I) (ha1 : (0 ≤ x1 ∧ x1 ≤ 19)) (ha2 : ((-2147483648) ≤ x2 ∧ x2 ≤ 2147483647)) (ha3 : (0 ≤ x3 ∧ x3 ≤ 99)) (hp0 : 0 ≤ x2) : fC ρ base n F xTc vwCl xTys D dA la gJ (fbz bsJ znJ (fKc wz_0cc09) I) xm_98 [.inr (.inr (some 2)), .inl x1, .inl x2, .inl x3] I (fun I' r => r = none ∧ True ∧ (cR 0 I' = sSx (cR 0 I) x1 x2 x3)) := by
  have hW : fzs wz_0cc09 (fKc wz_0cc09) := fKc_ok _
  refine f_meth (rb := rbJ) (J := []) 1 400 xG xin_98 x6_98 okJ (fB_self h0) ?_ ?_
  · exact fun q h => absurd h List.not_mem_nil
  · have hB0 := fB_self (zn := znJ) (K := fKc wz_0cc09) h0
    refine And.intro (by first | exact fi_ ha3.1 ha3.2 rfl | omega) (And.intro ?_ ?_)
    · intro c1
      refine And.intro ⟨rfl, by decide, by decide⟩ (fgetf fb_2_12 h0 hB0 ?_)
      intro z2 lz2 uz2 qz2
      have v35 := cL_f (d := 0) (a := 2) (j := 12) (r := 13) (p := 13) (by decide +kernel) (by decide) qz2 rfl
      refine And.intro (And.intro (by first | exact fi_ lz2 uz2 rfl | omega) (by first | exact ⟨by decide, by decide⟩ | omega)) (And.intro ?_ ?_)
      · intro c3
        exact ⟨rfl, True.intro, (sSx_f (by omega) v35 (by omega) (by omega))⟩
      · intro c4
        refine And.intro ⟨rfl, by decide, by decide⟩ ?_
        refine And.intro ⟨rfl, by decide, by decide⟩ (fgetf fb_2_12 h0 hB0 ?_)
        intro z5 lz5 uz5 qz5
        have v48 := cL_f (d := 0) (a := 2) (j := 12) (r := 13) (p := 13) (by decide +kernel) (by decide) qz5 rfl
        refine And.intro ⟨rfl, by decide⟩ (And.intro (by omega) ?_)
        refine And.intro ⟨rfl, by decide, by decide⟩ ?_
        refine And.intro ⟨rfl, by decide⟩ (And.intro (by first | exact ⟨ha1.1, Int.lt_of_le_of_lt ha1.2 (by decide)⟩ | omega) ?_)
        refine And.intro (fcopyU (rgG_6_25 (by omega) (by omega)) (rgG_73_162 (by omega) (by omega)) rL_6_25_0_4_1_0 rS_73_162_0_4_1_0 (fzs_sub (by decide +kernel) hW) h0 hB0 (by omega) (by omega) (by omega) (by omega)) (And.intro rfl ?_)
        intro IhB6 ehB6 hB6
        have t7 : IhB6 2 12 = I 2 12 := (congrFun (congrFun ehB6 2) 12).trans (fcpy_ne (by omega))
        have r65 := cR_ra (d := 0) (c := x1.toNat) (s := z5.toNat) ehB6 rfl (by omega) (by omega) (by omega) (by omega) rfl rfl
        skip
        refine fstore rS_73_162_5_5_1_0 (fzs_sub (by decide +kernel) hW) (by omega) (by first | exact ⟨ha2.1, ha2.2⟩ | omega) ?_
        intro IhB8 ehB8 hB8
        have t9 := fup_self ehB8
        have t10 : IhB8 2 12 = IhB6 2 12 := (congrFun (congrFun ehB8 2) 12).trans (fup_ne (by first | exact Or.inl (by decide) | omega))
        have r72 := cS_c (d := 0) (a := 73) (nr := 90) (j := 5) (b := 3616) (mr := 8) (by decide +kernel) (by decide) ehB8 (by omega) (by omega) rfl
        intro z11 hz11 ez11 bz11
        try replace bz11 := bz11 (by omega)
        refine fstore rS_73_162_6_6_1_0 (fzs_sub (by decide +kernel) hW) (by omega) (by omega) ?_
        intro IhB12 ehB12 hB12
        have t13 := fup_self ehB12
        have t14 : IhB12 2 12 = IhB8 2 12 := (congrFun (congrFun ehB12 2) 12).trans (fup_ne (by first | exact Or.inl (by decide) | omega))
        have r80 := cS_c (d := 0) (a := 73) (nr := 90) (j := 6) (b := 3617) (mr := 8) (by decide +kernel) (by decide) ehB12 (by omega) (by omega) rfl
        refine fstore rS_73_162_7_7_1_0 (fzs_sub (by decide +kernel) hW) (by omega) (by first | exact ⟨ha1.1, ha1.2⟩ | omega) ?_
        intro IhB15 ehB15 hB15
        have t16 := fup_self ehB15
        have t17 : IhB15 2 12 = IhB12 2 12 := (congrFun (congrFun ehB15 2) 12).trans (fup_ne (by first | exact Or.inl (by decide) | omega))
        have r86 := cS_c (d := 0) (a := 73) (nr := 90) (j := 7) (b := 3610) (mr := 8) (by decide +kernel) (by decide) ehB15 (by omega) (by omega) rfl
        refine And.intro ⟨rfl, by decide, by decide⟩ (fgetf fb_2_12 h0 hB15 ?_)
        intro z18 lz18 uz18 qz18
        have v89 := cL_f (d := 0) (a := 2) (j := 12) (r := 13) (p := 13) (by decide +kernel) (by decide) qz18 rfl
        rw [r86, r80, r72, r65] at v89
        refine And.intro ⟨rfl, by decide, by decide⟩ (And.intro rfl (And.intro (Or.inl rfl) (fputf fb_2_12 (by decide +kernel) hW (by omega) ?_)))
        intro IhB19 ehB19 hB19
        have r94 := cS_f (d := 0) (a := 2) (j := 12) (r := 13) (p := 13) (by decide +kernel) (by decide) ehB19 rfl
        exact ⟨rfl, True.intro, (by rw [r94, r86, r80, r72, r65]; exact (sSx_2 (n := z5) (by omega) v48 (by omega) (by omega) (by omega) (by omega) (fun _ => congrArg (gt _) (by omega)) (by omega) (by omega) hz11 ez11 (by omega) v89 (by omega) (by omega) (by omega)))⟩
    · intro c20
      refine And.intro ⟨rfl, by decide, by decide⟩ ?_
      refine And.intro ⟨rfl, by decide⟩ (And.intro (by first | exact ⟨ha1.1, Int.lt_of_le_of_lt ha1.2 (by decide)⟩ | omega) ?_)
      refine And.intro ⟨rfl, by decide, by decide⟩ ?_
      refine And.intro ⟨rfl, by decide⟩ (And.intro (by first | exact ⟨ha1.1, Int.lt_of_le_of_lt ha1.2 (by decide)⟩ | omega) ?_)
      refine And.intro (fcopyU (rgG_6_25 (by omega) (by omega)) (rgG_48_67 (by omega) (by omega)) rL_6_25_0_4_1_0 rS_48_67_0_5_1_0 (fzs_sub (by decide +kernel) hW) h0 hB0 (by omega) (by omega) (by omega) (by omega)) (And.intro rfl ?_)
      intro IhB21 ehB21 hB21
      refine And.intro ⟨rfl, by decide, by decide⟩ ?_
      refine And.intro ⟨rfl, by decide⟩ (And.intro (by first | exact ⟨ha1.1, Int.lt_of_le_of_lt ha1.2 (by decide)⟩ | omega) ?_)
      refine fstore rS_48_67_0_5_1_0 (fzs_sub (by decide +kernel) hW) (by omega) (by first | exact ⟨ha2.1, ha2.2⟩ | omega) ?_
      intro IhB22 ehB22 hB22
      have t23 := fup_self ehB22
      exact ⟨rfl, True.intro, (sSx_0 (by omega) ((cR_no (d := 0) (c := x1.toNat) ehB21 rfl (by omega) (by omega) ehB22 (by omega) rfl (by omega) hp0 rfl).trans (by rw [Int.toNat_of_nonneg (by omega)])))⟩
abbrev jc_People_isWatched_5c632_2 (x1 : Int) (I0 : fH) : Nat → fL → List fV → fH → Prop := fun m lv st I => ∃ (y1 : Int) (y2 : Int), lv = [(0, .inr (.inr (some 177))), (1, .inl y1), (2, .inl y2)] ∧ st = [] ∧ (((0 ≤ y1 ∧ y1 ≤ 19) ∧ (0 ≤ y2 ∧ y2 ≤ 24) ∧ (y2 ≤ I0 177 4) ∧ (y1 = x1)) ∧ (anU (wt1 (cR 0 I0) x1) y2 0)) ∧ m = (1 + 1 * (24 - y2) : Int).toNat
set_option maxRecDepth 8000 in
theorem ct_People_isWatched_5c632 {I : fH} {x1 : Int} (h0 : fB bsJ I) (ha1 : (0 ≤ x1 ∧ x1 ≤ 19)) : fC ρ base n F xTc vwCl xTys D dA la gJ (fbz bsJ znJ (fKc []) I) xm_97 [.inr (.inr (some 177)), .inl x1] I (fun _ r => ∃ z, r = some (.inl z) ∧ (0 ≤ z ∧ z ≤ 1) ∧ ((z = 1 ∧ sWat (cR 0 I) x1) ∨ (z = 0 ∧ ¬ sWat (cR 0 I) x1))) := by
  have hW : fzs [] (fKc []) := fKc_ok _
  refine f_meth (rb := rbJ) (J := [(2, (jc_People_isWatched_5c632_2 x1 I))]) 26 400 xG xin_97 x6_97 okJ (fB_self h0) ?_ ?_
  · refine List.forall_mem_cons.mpr ⟨?_, fun q h => absurd h List.not_mem_nil⟩
    · rintro m _ _ I1 hB1 ⟨y1, y2, rfl, rfl, ⟨hb, hx0⟩, hm⟩
      have eJ : I1 = I := fFr_nil (fFr_of hB1)
      have k1 := fBz_eq hB1 (a := 177) (j := 4) (by decide +kernel)
      have b2 := fBd fb_177_4 (fBz h0 hB1)
      refine And.intro ⟨rfl, by decide, by decide⟩ (fgetf fb_177_4 h0 hB1 ?_)
      intro z3 lz3 uz3 qz3
      have v4 := cL_f (d := 0) (a := 177) (j := 4) (r := 8) (p := 8) (by decide +kernel) (by decide) qz3 rfl
      rw [eJ] at v4
      refine And.intro (And.intro (by first | exact fi_ hb.2.1.1 hb.2.1.2 rfl | omega) (by first | exact fi_ lz3 uz3 rfl | omega)) (And.intro ?_ ?_)
      · intro c4
        refine And.intro (⟨by decide, by decide⟩) ?_
        have w8 := (cL_f (d := 0) (a := 177) (j := 4) (r := 8) (p := 8) (I := I) (z := I 177 4) (by decide +kernel) (by decide) rfl rfl)
        exact ⟨_, rfl, (by first | exact ⟨by decide, by decide⟩ | omega), (Or.inr ⟨by omega, (wt_end hx0 (by omega)).elim (fun q => absurd q.1 (by omega)) (fun q => q.2)⟩)⟩
      · intro c5
        refine And.intro ⟨rfl, by decide, by decide⟩ ?_
        refine fload1 rL_180_180_0_23_1_0 h0 hB1 ⟨by decide, by decide⟩ (by first | exact ⟨hb.2.1.1, Int.le_trans (Int.le_sub_one_of_lt (Int.lt_of_lt_of_le c5 uz3)) (by decide)⟩ | omega) ?_
        intro z6 lz6 uz6 qz6
        have v15 := cL_a (d := 0) (a := 180) (n := 24) (b := 872) (m := 6) (by decide +kernel) (by decide) qz6 (by omega) rfl
        rw [eJ] at v15
        refine And.intro (And.intro (by first | exact fi_ lz6 uz6 rfl | omega) (by first | exact fi_ hb.1.1 hb.1.2 rfl | omega)) (And.intro ?_ ?_)
        · intro c7
          exact fcutJ (I := I1) (j := (jc_People_isWatched_5c632_2 x1 I)) (lv' := [(0, .inr (.inr (some 177))), (1, .inl _), (2, .inl _)]) (And.intro rfl (And.intro rfl (And.intro rfl True.intro))) ⟨_, _, rfl, rfl, ⟨by omega, (anU_no hx0 (by omega) (by omega) rfl (wt1_a (u := y2) (by omega) v15 (Or.inl ⟨by omega, by omega⟩)))⟩, rfl⟩ (by omega)
        · intro c8
          refine And.intro ⟨rfl, by decide, by decide⟩ ?_
          refine fload1 rL_179_179_0_23_1_0 h0 hB1 ⟨by decide, by decide⟩ (by first | exact ⟨hb.2.1.1, Int.le_trans (Int.le_sub_one_of_lt (Int.lt_of_lt_of_le c5 uz3)) (by decide)⟩ | omega) ?_
          intro z9 lz9 uz9 qz9
          have v25 := cL_a (d := 0) (a := 179) (n := 24) (b := 871) (m := 6) (by decide +kernel) (by decide) qz9 (by omega) rfl
          rw [eJ] at v25
          refine And.intro (And.intro (by first | exact fi_ lz9 uz9 rfl | omega) (by first | exact ⟨by decide, by decide⟩ | omega)) (And.intro ?_ ?_)
          · intro c10
            exact fcutJ (I := I1) (j := (jc_People_isWatched_5c632_2 x1 I)) (lv' := [(0, .inr (.inr (some 177))), (1, .inl _), (2, .inl _)]) (And.intro rfl (And.intro rfl (And.intro rfl True.intro))) ⟨_, _, rfl, rfl, ⟨by omega, (anU_no hx0 (by omega) (by omega) rfl (wt1_a (u := y2) (by omega) v25 (Or.inr ⟨by omega, by omega⟩)))⟩, rfl⟩ (by omega)
          · intro c11
            refine Exists.intro xm_21 (And.intro mi_21 (And.intro ⟨rfl, rfl, rfl, rfl⟩ (And.intro rfl ?_)))
            refine fcallp hB1 (ct_People_isDead_edb17 (fBz h0 hB1) (by first | exact ⟨hb.2.1.1, Int.le_trans (Int.le_sub_one_of_lt (Int.lt_of_lt_of_le c5 uz3)) (by decide)⟩ | omega)) ?_
            rintro _ ⟨z12, rfl, hz12, g0z12⟩
            try rw [eJ] at g0z12
            refine And.intro (by omega) (And.intro ?_ ?_)
            · intro c13
              exact fcutJ (I := I1) (j := (jc_People_isWatched_5c632_2 x1 I)) (lv' := [(0, .inr (.inr (some 177))), (1, .inl _), (2, .inl _)]) (And.intro rfl (And.intro rfl (And.intro rfl True.intro))) ⟨_, _, rfl, rfl, ⟨by omega, (anU_no hx0 (by omega) (by omega) rfl (wt1_d (u := y2) (by omega) (g0z12.elim (fun q => q.2) (fun q => absurd q.1 (by omega)))))⟩, rfl⟩ (by omega)
            · intro c14
              refine And.intro (⟨by decide, by decide⟩) ?_
              have w8 := (cL_f (d := 0) (a := 177) (j := 4) (r := 8) (p := 8) (I := I) (z := I 177 4) (by decide +kernel) (by decide) rfl rfl)
              exact ⟨_, rfl, (by first | exact ⟨by decide, by decide⟩ | omega), (Or.inl ⟨by omega, wt_yes (y := y2) (by omega) (by omega) (wt1_of (u := y2) (by omega) v25 (by omega) (by omega) v15 (by omega) (by omega) (g0z12.elim (fun q => absurd q.1 (by omega)) (fun q => q.2)))⟩)⟩
  · have hB0 := fB_self (zn := znJ) (K := fKc []) h0
    have b15 := fBd fb_177_4 (fBz h0 hB0)
    exact fcutJ (I := I) (j := (jc_People_isWatched_5c632_2 x1 I)) (lv' := [(0, .inr (.inr (some 177))), (1, .inl _), (2, .inl _)]) (And.intro rfl (And.intro rfl (And.intro rfl True.intro))) ⟨_, _, rfl, rfl, ⟨by omega, (anU_0 (by omega) rfl)⟩, rfl⟩ (by omega)
abbrev jc_City_sendReports_0032f_2 (I0 : fH) : Nat → fL → List fV → fH → Prop := fun m lv st I => ∃ (y1 : Int), lv = [(0, .inr (.inr (some 1))), (1, .inl y1)] ∧ st = [] ∧ (((0 ≤ y1 ∧ y1 ≤ 20) ∧ (y1 ≤ I0 2 5)) ∧ ((cR 0 I) = nf sSe (cR 0 I0) y1.toNat)) ∧ m = (1 + 1 * (20 - y1) : Int).toNat
set_option maxRecDepth 8000 in
theorem ct_City_sendReports_0032f {I : fH}  (h0 : fB bsJ I) (hp0 : 0 ≤ gt (cR 0 I) 0) : fC ρ base n F xTc vwCl xTys D dA la gJ (fbz bsJ znJ (fKc wz_0cc09) I) xm_96 [.inr (.inr (some 1))] I (fun I' r => r = none ∧ True ∧ (cR 0 I' = nf sSe (cR 0 I) (gt (cR 0 I) 5).toNat)) := by
  have hW : fzs wz_0cc09 (fKc wz_0cc09) := fKc_ok _
  refine f_meth (rb := rbJ) (J := [(2, (jc_City_sendReports_0032f_2 I))]) 22 400 xG xin_96 x6_96 okJ (fB_self h0) ?_ ?_
  · refine List.forall_mem_cons.mpr ⟨?_, fun q h => absurd h List.not_mem_nil⟩
    · rintro m _ _ I1 hB1 ⟨y1, rfl, rfl, ⟨hb, hx0⟩, hm⟩
      have k1 := fBz_eq hB1 (a := 1) (j := 9) (by decide +kernel)
      have k2 := fBz_eq hB1 (a := 2) (j := 5) (by decide +kernel)
      have b3 := fBd fb_2_5 (fBz h0 hB1)
      have w0 : gt (cR 0 I1) 0 = gt (cR 0 I) 0 := (cG_fr (d := 0) (i0 := 0) (i1 := 0) (m := 1) (q := 0) (by decide +kernel) (fFr_of hB1) (by omega))
      refine And.intro ⟨rfl, by decide, by decide⟩ ?_
      refine And.intro ⟨rfl, by decide, by decide⟩ (fgetf fb_2_5 h0 hB1 ?_)
      intro z4 lz4 uz4 qz4
      have v7 := cL_f (d := 0) (a := 2) (j := 5) (r := 5) (p := 5) (by decide +kernel) (by decide) qz4 rfl
      refine And.intro (And.intro (by first | exact fi_ hb.1.1 hb.1.2 rfl | omega) (by first | exact fi_ lz4 uz4 rfl | omega)) (And.intro ?_ ?_)
      · intro c5
        have w5 : I 2 5 = gt (cR 0 I) 5 := (cL_f (d := 0) (a := 2) (j := 5) (r := 5) (p := 5) (I := I) (z := I 2 5) (by decide +kernel) (by decide) rfl rfl)
        exact ⟨rfl, True.intro, (nf_end hx0 (by omega))⟩
      · intro c6
        refine And.intro ⟨rfl, by decide, by decide⟩ ?_
        refine Exists.intro xm_97 (And.intro mi_97 (And.intro ⟨rfl, rfl, rfl, rfl⟩ (And.intro rfl ?_)))
        refine fcallp hB1 (ct_People_isWatched_5c632 (fBz h0 hB1) (by first | exact ⟨hb.1.1, Int.le_trans (Int.le_sub_one_of_lt (Int.lt_of_lt_of_le c6 uz4)) (by decide)⟩ | omega)) ?_
        rintro _ ⟨z7, rfl, hz7, g0z7⟩
        refine And.intro (by omega) (And.intro ?_ ?_)
        · intro c8
          exact fcutJ (I := I1) (j := (jc_City_sendReports_0032f_2 I)) (lv' := [(0, .inr (.inr (some 1))), (1, .inl _)]) (And.intro rfl (And.intro rfl True.intro)) ⟨_, rfl, rfl, ⟨by omega, (nf_row hx0 (by omega) (by omega) (sSe_n (u := y1) (by omega) (g0z7.elim (fun q => absurd q.1 (by omega)) (fun q => q.2))))⟩, rfl⟩ (by omega)
        · intro c9
          refine And.intro ⟨rfl, by decide, by decide⟩ ?_
          refine And.intro ⟨rfl, by decide, by decide⟩ (fgetf fb_1_9 h0 hB1 ?_)
          intro z10 lz10 uz10 qz10
          have v30 := cL_f (d := 0) (a := 1) (j := 9) (r := 0) (p := 0) (by decide +kernel) (by decide) qz10 rfl
          have w30 : z10 = gt (cR 0 I1) 0 := gt_at v30 (by omega)
          refine And.intro ⟨rfl, by decide, by decide⟩ (fgetf fb_1_8 h0 hB1 ?_)
          intro z11 lz11 uz11 qz11
          have v34 := cL_f (d := 0) (a := 1) (j := 8) (r := 4) (p := 4) (by decide +kernel) (by decide) qz11 rfl
          refine Exists.intro xm_98 (And.intro mi_98 (And.intro ⟨rfl, rfl, rfl, rfl⟩ (And.intro rfl ?_)))
          refine fcall _ h0 (fzs_sub (by decide +kernel) hW) hB1 (ct_Cells_sendReport_d1e0c (fBz h0 hB1) (by first | exact ⟨hb.1.1, Int.le_trans (Int.le_sub_one_of_lt (Int.lt_of_lt_of_le c6 uz4)) (by decide)⟩ | omega) (by first | exact ⟨lz10, uz10⟩ | omega) (by first | exact ⟨lz11, uz11⟩ | omega) (by omega)) ?_
          rintro IhB13 _ hB13 fhB13 ⟨rfl, hz12, g0z12⟩
          have t14 := fhB13 2 5 (by decide +kernel)
          have k15 := fBz_eq hB13 (a := 1) (j := 9) (by decide +kernel)
          have k16 := fBz_eq hB13 (a := 2) (j := 5) (by decide +kernel)
          exact fcutJ (I := IhB13) (j := (jc_City_sendReports_0032f_2 I)) (lv' := [(0, .inr (.inr (some 1))), (1, .inl _)]) (And.intro rfl (And.intro rfl True.intro)) ⟨_, rfl, rfl, ⟨by omega, (nf_row hx0 (by omega) (by omega) (sSe_y (u := y1) (by omega) (g0z7.elim (fun q => q.2) (fun q => absurd q.1 (by omega))) (g0z12.trans (by unfold sSe1; rw [gt_at v30 (show _ = (0 : Int) by omega), gt_at v34 (show _ = (4 : Int) by omega)]))))⟩, rfl⟩ (by omega)
  · have hB0 := fB_self (zn := znJ) (K := fKc wz_0cc09) h0
    have b17 := fBd fb_2_5 (fBz h0 hB0)
    exact fcutJ (I := I) (j := (jc_City_sendReports_0032f_2 I)) (lv' := [(0, .inr (.inr (some 1))), (1, .inl _)]) (And.intro rfl (And.intro rfl True.intro)) ⟨_, rfl, rfl, ⟨by omega, rfl⟩, rfl⟩ (by omega)
abbrev jc_Cells_flow_5ffc6_38 (x1 : Int) (I0 : fH) : Nat → fL → List fV → fH → Prop := fun m lv st I => ∃ (y1 : Int) (y2 : Int) (y3 : Int) (y4 : Int) (y5 : Int), lv = [(0, .inr (.inr (some 2))), (1, .inl y1), (2, .inl y2), (3, .inl y3), (4, .inl y4), (5, .inl y5)] ∧ st = [] ∧ (((0 ≤ y1 ∧ y1 ≤ 23) ∧ (0 ≤ y2 ∧ y2 ≤ 19) ∧ (0 ≤ y3 ∧ y3 ≤ 19) ∧ (1 ≤ y4 ∧ y4 ≤ 1998) ∧ (0 ≤ y5 ∧ y5 ≤ 5) ∧ (y4 = I 3 y2.toNat + I 3 y3.toNat) ∧ (y1 = x1) ∧ (y2 = I0 68 x1.toNat) ∧ (y3 = I0 69 x1.toNat)) ∧ ((cR 0 I) = nf (sFg x1) (cR 0 I0) y5.toNat)) ∧ m = (1 + 1 * (5 - y5) : Int).toNat
set_option maxRecDepth 8000 in
theorem ct_Cells_flow_5ffc6 {I : fH} {x1 : Int} (h0 : fB bsJ I) (ha1 : (0 ≤ x1 ∧ x1 ≤ 23)) : fC ρ base n F xTc vwCl xTys D dA la gJ (fbz bsJ znJ (fKc wz_ed400) I) xm_89 [.inr (.inr (some 2)), .inl x1] I (fun I' r => r = none ∧ True ∧ (cR 0 I' = sFl (cR 0 I) x1)) := by
  have hW : fzs wz_ed400 (fKc wz_ed400) := fKc_ok _
  refine f_meth (rb := rbJ) (J := [(38, (jc_Cells_flow_5ffc6_38 x1 I))]) 7 400 xG xin_89 x6_89 okJ (fB_self h0) ?_ ?_
  · refine List.forall_mem_cons.mpr ⟨?_, fun q h => absurd h List.not_mem_nil⟩
    · rintro m _ _ I1 hB1 ⟨y1, y2, y3, y4, y5, rfl, rfl, ⟨hb, hx0⟩, hm⟩
      have wa : gt (cR 0 I1) (430 + 4 * x1) = y2 := (cG_fr (d := 0) (i0 := 430) (i1 := 522) (m := 4) (q := 0) (by decide +kernel) (fFr_of hB1) (by omega)).trans ((cL_a (d := 0) (a := 68) (n := 24) (b := 430) (m := 4) (z := I 68 x1.toNat) (i := x1) (by decide +kernel) (by decide) rfl (by omega) (by omega)).symm.trans (by omega))
      have wb : gt (cR 0 I1) (431 + 4 * x1) = y3 := (cG_fr (d := 0) (i0 := 431) (i1 := 523) (m := 4) (q := 0) (by decide +kernel) (fFr_of hB1) (by omega)).trans ((cL_a (d := 0) (a := 69) (n := 24) (b := 431) (m := 4) (z := I 69 x1.toNat) (i := x1) (by decide +kernel) (by decide) rfl (by omega) (by omega)).symm.trans (by omega))
      refine And.intro (And.intro (by first | exact fi_ hb.2.2.2.2.1.1 hb.2.2.2.2.1.2 rfl | omega) (by first | exact ⟨by decide, by decide⟩ | omega)) (And.intro ?_ ?_)
      · intro c1
        exact ⟨rfl, True.intro, (by have e5 : y5 = 5 := (by omega); have q := hx0; rw [e5] at q; exact q)⟩
      · intro c2
        refine And.intro ⟨rfl, by decide, by decide⟩ ?_
        refine And.intro ⟨rfl, by decide⟩ (And.intro (by first | exact ⟨hb.2.1.1, Int.lt_of_le_of_lt hb.2.1.2 (by decide)⟩ | omega) ?_)
        refine fload rL_6_25_0_4_1_0 h0 hB1 (by omega) ?_
        intro z3 lz3 uz3 qz3
        have v52 := cL_r (d := 0) (a := 6) (nr := 20) (n := 5) (b := 31) (mr := 20) (m := 1) (by decide +kernel) (by decide) qz3 (by omega) (by omega) rfl
        refine And.intro ⟨rfl, by decide, by decide⟩ ?_
        refine fload1 rL_3_3_0_19_1_0 h0 hB1 ⟨by decide, by decide⟩ (by first | exact ⟨hb.2.2.1.1, hb.2.2.1.2⟩ | omega) ?_
        intro z4 lz4 uz4 qz4
        have v58 := cL_a (d := 0) (a := 3) (n := 20) (b := 30) (m := 20) (by decide +kernel) (by decide) qz4 (by omega) rfl
        intro z5 hz5 ez5 bz5
        clear ez5
        try replace bz5 := bz5 (by omega)
        have m59 := mul_rng lz3 uz3 lz4 uz4
        have k59 := bz5 ⟨by omega, by omega⟩
        refine And.intro ⟨rfl, by decide, by decide⟩ ?_
        refine And.intro ⟨rfl, by decide⟩ (And.intro (by first | exact ⟨hb.2.2.1.1, Int.lt_of_le_of_lt hb.2.2.1.2 (by decide)⟩ | omega) ?_)
        refine fload rL_6_25_0_4_1_0 h0 hB1 (by omega) ?_
        intro z6 lz6 uz6 qz6
        have v68 := cL_r (d := 0) (a := 6) (nr := 20) (n := 5) (b := 31) (mr := 20) (m := 1) (by decide +kernel) (by decide) qz6 (by omega) (by omega) rfl
        refine And.intro ⟨rfl, by decide, by decide⟩ ?_
        refine fload1 rL_3_3_0_19_1_0 h0 hB1 ⟨by decide, by decide⟩ (by first | exact ⟨hb.2.1.1, hb.2.1.2⟩ | omega) ?_
        intro z7 lz7 uz7 qz7
        have v74 := cL_a (d := 0) (a := 3) (n := 20) (b := 30) (m := 20) (by decide +kernel) (by decide) qz7 (by omega) rfl
        intro z8 hz8 ez8 bz8
        clear ez8
        try replace bz8 := bz8 (by omega)
        have m75 := mul_rng lz6 uz6 lz7 uz7
        have k75 := bz8 ⟨by omega, by omega⟩
        intro z9 hz9 ez9 bz9
        clear ez9
        have bz9 := bz9 (by omega)
        refine And.intro (And.intro (by omega) (And.intro (by first | exact fi_ hb.2.2.2.1.1 hb.2.2.2.1.2 rfl | omega) (And.intro (by omega) rfl))) ?_
        intro z10 hz10 ez10 dz10
        have d79 := xdv_t (by omega) (by omega) (by omega) hz10 ez10
        have f79 := fl_al lz3 lz6 lz7 lz4 (show 0 < z7 + z4 by omega) rfl (show z9 = z3 * z4 - z6 * z7 by omega)
        rw [show z7 + z4 = y4 by omega, ← d79] at f79
        refine And.intro ⟨rfl, by decide, by decide⟩ ?_
        refine fload1 rL_70_70_0_23_1_0 h0 hB1 ⟨by decide, by decide⟩ (by first | exact ⟨hb.1.1, hb.1.2⟩ | omega) ?_
        intro z11 lz11 uz11 qz11
        have v89 := cL_a (d := 0) (a := 70) (n := 24) (b := 432) (m := 4) (by decide +kernel) (by decide) qz11 (by omega) rfl
        intro z12 hz12 ez12 bz12
        clear ez12
        try replace bz12 := bz12 (by omega)
        have g90 := fl_go lz3 lz6 f79 ⟨lz11, uz11⟩
        have k90 := bz12 ⟨by omega, by omega⟩
        refine And.intro (And.intro (by omega) (And.intro (by first | exact ⟨by decide, by decide⟩ | omega) (And.intro (by first | exact by decide | omega) rfl))) ?_
        intro z13 hz13 ez13 dz13
        have d93 := xdv_t (by omega) (by omega) (by decide) hz13 ez13
        have f93 : -z6 ≤ z13 ∧ z13 ≤ z3 := by
            rw [d93, k90]
            exact g90.2
        refine And.intro (by omega) (And.intro ?_ ?_)
        · intro c14
          refine And.intro ⟨rfl, by decide, by decide⟩ ?_
          refine And.intro ⟨rfl, by decide⟩ (And.intro (by first | exact ⟨hb.2.2.1.1, Int.lt_of_le_of_lt hb.2.2.1.2 (by decide)⟩ | omega) ?_)
          refine fload rL_6_25_0_4_1_0 h0 hB1 (by omega) ?_
          intro z15 lz15 uz15 qz15
          have v136 := cL_r (d := 0) (a := 6) (nr := 20) (n := 5) (b := 31) (mr := 20) (m := 1) (by decide +kernel) (by decide) qz15 (by omega) (by omega) rfl
          intro z16 hz16 ez16 bz16
          clear ez16
          have bz16 := bz16 (by omega)
          refine fstore rS_6_25_0_4_1_0 (fzs_sub (by decide +kernel) hW) (by omega) (by omega) ?_
          intro IhB17 ehB17 hB17
          have t18 := fup_self ehB17
          have r140 := cS_r (d := 0) (a := 6) (nr := 20) (n := 5) (b := 31) (mr := 20) (m := 1) (by decide +kernel) (by decide) ehB17 (by omega) (by omega) rfl
          intro z19 hz19 ez19 bz19
          clear ez19
          have bz19 := bz19 rfl (by omega)
          refine Exists.intro xm_84 (And.intro mi_84 (And.intro ⟨rfl, rfl, rfl, rfl⟩ (And.intro rfl ?_)))
          refine fcall _ h0 (fzs_sub (by decide +kernel) hW) hB17 (ct_Cells_addAir_1fa72 (fBz h0 hB17) (by first | exact ⟨hb.2.1.1, hb.2.1.2⟩ | omega) (by first | exact ⟨hb.2.2.2.2.1.1, Int.le_trans (Int.le_sub_one_of_lt (Int.lt_of_lt_of_le c2 (Int.le_refl _))) (by decide)⟩ | omega) (by omega) (by omega) (by omega)) ?_
          rintro IhB21 _ hB21 fhB21 ⟨rfl, hz20, g0z20⟩
          have c2 := (fFr_at fhB21 3 (by decide +kernel) rfl y2.toNat).trans (fup_other ehB17 3 y2.toNat (Or.inl (by omega)))
          have c3 := (fFr_at fhB21 3 (by decide +kernel) rfl y3.toNat).trans (fup_other ehB17 3 y3.toNat (Or.inl (by omega)))
          exact fcutJ (I := IhB21) (j := (jc_Cells_flow_5ffc6_38 x1 I)) (lv' := [(0, .inr (.inr (some 2))), (1, .inl _), (2, .inl _), (3, .inl _), (4, .inl _), (5, .inl _)]) (And.intro rfl (And.intro rfl (And.intro rfl (And.intro rfl (And.intro rfl (And.intro rfl True.intro)))))) ⟨_, _, _, _, _, rfl, rfl, ⟨by omega, (nf_row hx0 (by omega) (by omega) (by rw [g0z20, r140]; exact sFg_neg wa wb (sFx_of wa wb v52 (by omega) v58 (by omega) v68 (by omega) v74 (by omega) v89 (by omega) (show z9 = z3 * z4 - z6 * z7 by omega) (show y4 = z7 + z4 by omega) d79 k90 d93) (by omega) (by omega) (by omega) (by omega) (by omega)))⟩, rfl⟩ (by omega)
        · intro c22
          refine And.intro ⟨rfl, by decide, by decide⟩ ?_
          refine And.intro ⟨rfl, by decide⟩ (And.intro (by first | exact ⟨hb.2.1.1, Int.lt_of_le_of_lt hb.2.1.2 (by decide)⟩ | omega) ?_)
          refine fload rL_6_25_0_4_1_0 h0 hB1 (by omega) ?_
          intro z23 lz23 uz23 qz23
          have v110 := cL_r (d := 0) (a := 6) (nr := 20) (n := 5) (b := 31) (mr := 20) (m := 1) (by decide +kernel) (by decide) qz23 (by omega) (by omega) rfl
          intro z24 hz24 ez24 bz24
          clear ez24
          have bz24 := bz24 (by omega)
          refine fstore rS_6_25_0_4_1_0 (fzs_sub (by decide +kernel) hW) (by omega) (by omega) ?_
          intro IhB25 ehB25 hB25
          have t26 := fup_self ehB25
          have r114 := cS_r (d := 0) (a := 6) (nr := 20) (n := 5) (b := 31) (mr := 20) (m := 1) (by decide +kernel) (by decide) ehB25 (by omega) (by omega) rfl
          refine Exists.intro xm_84 (And.intro mi_84 (And.intro ⟨rfl, rfl, rfl, rfl⟩ (And.intro rfl ?_)))
          refine fcall _ h0 (fzs_sub (by decide +kernel) hW) hB25 (ct_Cells_addAir_1fa72 (fBz h0 hB25) (by first | exact ⟨hb.2.2.1.1, hb.2.2.1.2⟩ | omega) (by first | exact ⟨hb.2.2.2.2.1.1, Int.le_trans (Int.le_sub_one_of_lt (Int.lt_of_lt_of_le c2 (Int.le_refl _))) (by decide)⟩ | omega) (by omega) (by omega) (by omega)) ?_
          rintro IhB28 _ hB28 fhB28 ⟨rfl, hz27, g0z27⟩
          have c2 := (fFr_at fhB28 3 (by decide +kernel) rfl y2.toNat).trans (fup_other ehB25 3 y2.toNat (Or.inl (by omega)))
          have c3 := (fFr_at fhB28 3 (by decide +kernel) rfl y3.toNat).trans (fup_other ehB25 3 y3.toNat (Or.inl (by omega)))
          exact fcutJ (I := IhB28) (j := (jc_Cells_flow_5ffc6_38 x1 I)) (lv' := [(0, .inr (.inr (some 2))), (1, .inl _), (2, .inl _), (3, .inl _), (4, .inl _), (5, .inl _)]) (And.intro rfl (And.intro rfl (And.intro rfl (And.intro rfl (And.intro rfl (And.intro rfl True.intro)))))) ⟨_, _, _, _, _, rfl, rfl, ⟨by omega, (nf_row hx0 (by omega) (by omega) (by rw [g0z27, r114]; exact sFg_pos wa wb (sFx_of wa wb v52 (by omega) v58 (by omega) v68 (by omega) v74 (by omega) v89 (by omega) (show z9 = z3 * z4 - z6 * z7 by omega) (show y4 = z7 + z4 by omega) d79 k90 d93) (by omega) (by omega) (by omega) (by omega)))⟩, rfl⟩ (by omega)
  · have hB0 := fB_self (zn := znJ) (K := fKc wz_ed400) h0
    refine And.intro ⟨rfl, by decide, by decide⟩ ?_
    refine fload1 rL_68_68_0_23_1_0 h0 hB0 ⟨by decide, by decide⟩ (by first | exact ⟨ha1.1, ha1.2⟩ | omega) ?_
    intro z29 lz29 uz29 qz29
    have v5 := cL_a (d := 0) (a := 68) (n := 24) (b := 430) (m := 4) (by decide +kernel) (by decide) qz29 (by omega) rfl
    refine And.intro ⟨rfl, by decide, by decide⟩ ?_
    refine fload1 rL_69_69_0_23_1_0 h0 hB0 ⟨by decide, by decide⟩ (by first | exact ⟨ha1.1, ha1.2⟩ | omega) ?_
    intro z30 lz30 uz30 qz30
    have v12 := cL_a (d := 0) (a := 69) (n := 24) (b := 431) (m := 4) (by decide +kernel) (by decide) qz30 (by omega) rfl
    refine And.intro ⟨rfl, by decide, by decide⟩ ?_
    refine fload1 rL_3_3_0_19_1_0 h0 hB0 ⟨by decide, by decide⟩ (by first | exact ⟨lz29, uz29⟩ | omega) ?_
    intro z31 lz31 uz31 qz31
    have v19 := cL_a (d := 0) (a := 3) (n := 20) (b := 30) (m := 20) (by decide +kernel) (by decide) qz31 (by omega) rfl
    refine And.intro ⟨rfl, by decide, by decide⟩ ?_
    refine fload1 rL_3_3_0_19_1_0 h0 hB0 ⟨by decide, by decide⟩ (by first | exact ⟨lz30, uz30⟩ | omega) ?_
    intro z32 lz32 uz32 qz32
    have v25 := cL_a (d := 0) (a := 3) (n := 20) (b := 30) (m := 20) (by decide +kernel) (by decide) qz32 (by omega) rfl
    intro z33 hz33 ez33 bz33
    clear ez33
    have bz33 := bz33 (by omega)
    refine And.intro (by omega) (And.intro ?_ ?_)
    · intro c34
      exact fcutJ (I := I) (j := (jc_Cells_flow_5ffc6_38 x1 I)) (lv' := [(0, .inr (.inr (some 2))), (1, .inl _), (2, .inl _), (3, .inl _), (4, .inl _), (5, .inl _)]) (And.intro rfl (And.intro rfl (And.intro rfl (And.intro rfl (And.intro rfl (And.intro rfl True.intro)))))) ⟨_, _, _, _, _, rfl, rfl, ⟨by omega, rfl⟩, rfl⟩ (by omega)
    · intro c35
      exact ⟨rfl, True.intro, (sFl_0 (a := z29) (b := z30) (gt_at v5 (by omega)).symm (gt_at v12 (by omega)).symm (by omega) (by omega) (by have q1 := gt_at v19 (show _ = 30 + 20 * z29 by omega); have q2 := gt_at v25 (show _ = 30 + 20 * z30 by omega); omega) (fun k => (cR_fin cF0_ok h0 k)) (fun g hg => (cR_rng (d := 0) (i0 := 31) (i1 := 415) (m := 20) (q := 4) (lo := 0) (hi := 999999) (by decide +kernel) h0 (by omega)).2)).symm⟩
abbrev jc_Cells_flowAll_6143e_2 (I0 : fH) : Nat → fL → List fV → fH → Prop := fun m lv st I => ∃ (y1 : Int), lv = [(0, .inr (.inr (some 2))), (1, .inl y1)] ∧ st = [] ∧ (((0 ≤ y1 ∧ y1 ≤ 24) ∧ (y1 ≤ I0 2 10)) ∧ ((cR 0 I) = nf sFl1 (cR 0 I0) y1.toNat)) ∧ m = (1 + 1 * (24 - y1) : Int).toNat
set_option maxRecDepth 8000 in
theorem ct_Cells_flowAll_6143e {I : fH}  (h0 : fB bsJ I)  : fC ρ base n F xTc vwCl xTys D dA la gJ (fbz bsJ znJ (fKc wz_ed400) I) xm_88 [.inr (.inr (some 2))] I (fun I' r => r = none ∧ True ∧ (cR 0 I' = sMi2 (cR 0 I))) := by
  have hW : fzs wz_ed400 (fKc wz_ed400) := fKc_ok _
  refine f_meth (rb := rbJ) (J := [(2, (jc_Cells_flowAll_6143e_2 I))]) 26 400 xG xin_88 x6_88 okJ (fB_self h0) ?_ ?_
  · refine List.forall_mem_cons.mpr ⟨?_, fun q h => absurd h List.not_mem_nil⟩
    · rintro m _ _ I1 hB1 ⟨y1, rfl, rfl, ⟨hb, hx0⟩, hm⟩
      have k1 := fBz_eq hB1 (a := 2) (j := 10) (by decide +kernel)
      have b2 := fBd fb_2_10 (fBz h0 hB1)
      refine And.intro ⟨rfl, by decide, by decide⟩ (fgetf fb_2_10 h0 hB1 ?_)
      intro z3 lz3 uz3 qz3
      have v4 := cL_f (d := 0) (a := 2) (j := 10) (r := 6) (p := 6) (by decide +kernel) (by decide) qz3 rfl
      refine And.intro (And.intro (by first | exact fi_ hb.1.1 hb.1.2 rfl | omega) (by first | exact fi_ lz3 uz3 rfl | omega)) (And.intro ?_ ?_)
      · intro c4
        have w6 := (cL_f (d := 0) (a := 2) (j := 10) (r := 6) (p := 6) (I := I) (z := I 2 10) (by decide +kernel) (by decide) rfl rfl)
        exact ⟨rfl, True.intro, (nf_end hx0 (by omega))⟩
      · intro c5
        refine And.intro ⟨rfl, by decide, by decide⟩ ?_
        refine fload1 rL_71_71_0_23_1_0 h0 hB1 ⟨by decide, by decide⟩ (by first | exact ⟨hb.1.1, Int.le_trans (Int.le_sub_one_of_lt (Int.lt_of_lt_of_le c5 uz3)) (by decide)⟩ | omega) ?_
        intro z6 lz6 uz6 qz6
        have v15 := cL_a (d := 0) (a := 71) (n := 24) (b := 433) (m := 4) (by decide +kernel) (by decide) qz6 (by omega) rfl
        refine And.intro (And.intro (by first | exact fi_ lz6 uz6 rfl | omega) (by first | exact ⟨by decide, by decide⟩ | omega)) (And.intro ?_ ?_)
        · intro c7
          exact fcutJ (I := I1) (j := (jc_Cells_flowAll_6143e_2 I)) (lv' := [(0, .inr (.inr (some 2))), (1, .inl _)]) (And.intro rfl (And.intro rfl True.intro)) ⟨_, rfl, rfl, ⟨by omega, (nf_row hx0 (by omega) (by omega) (by exact sFl1_n (u := y1) v15 (by omega) (by omega) (by omega)))⟩, rfl⟩ (by omega)
        · intro c8
          refine Exists.intro xm_89 (And.intro mi_89 (And.intro ⟨rfl, rfl, rfl, rfl⟩ (And.intro rfl ?_)))
          refine fcall _ h0 (fzs_sub (by decide +kernel) hW) hB1 (ct_Cells_flow_5ffc6 (fBz h0 hB1) (by first | exact ⟨hb.1.1, Int.le_trans (Int.le_sub_one_of_lt (Int.lt_of_lt_of_le c5 uz3)) (by decide)⟩ | omega)) ?_
          rintro IhB10 _ hB10 fhB10 ⟨rfl, hz9, g0z9⟩
          have t11 := fhB10 2 10 (by decide +kernel)
          have k12 := fBz_eq hB10 (a := 2) (j := 10) (by decide +kernel)
          exact fcutJ (I := IhB10) (j := (jc_Cells_flowAll_6143e_2 I)) (lv' := [(0, .inr (.inr (some 2))), (1, .inl _)]) (And.intro rfl (And.intro rfl True.intro)) ⟨_, rfl, rfl, ⟨by omega, (nf_row hx0 (by omega) (by omega) (by rw [g0z9]; exact sFl1_y v15 (by omega) (by omega) (by omega)))⟩, rfl⟩ (by omega)
  · have hB0 := fB_self (zn := znJ) (K := fKc wz_ed400) h0
    have b13 := fBd fb_2_10 (fBz h0 hB0)
    exact fcutJ (I := I) (j := (jc_Cells_flowAll_6143e_2 I)) (lv' := [(0, .inr (.inr (some 2))), (1, .inl _)]) (And.intro rfl (And.intro rfl True.intro)) ⟨_, rfl, rfl, ⟨by omega, rfl⟩, rfl⟩ (by omega)
set_option maxRecDepth 8000 in
theorem ct_Cells_hear_3a84b {I : fH} {x1 : Nat} (h0 : fB bsJ I) (ha1 : (73 ≤ x1 ∧ x1 ≤ 162)) (hp0 : 0 ≤ gt (cR 0 I) (3616 + 8 * ((x1 : Int) - 73))) (hp1 : gt (cR 0 I) (47 + 20 * gt (cR 0 I) (3610 + 8 * ((x1 : Int) - 73))) ≠ gt (cR 0 I) (3616 + 8 * ((x1 : Int) - 73))) : fC ρ base n F xTc vwCl xTys D dA la gJ (fbz bsJ znJ (fKc wz_ef877) I) xm_76 [.inr (.inr (some 2)), .inr (.inr (some x1))] I (fun I' r => r = none ∧ True ∧ (cR 0 I' = sKn1 (cR 0 I) (gt (cR 0 I) (3610 + 8 * ((x1 : Int) - 73))) (fun k : Nat => gt (cR 0 I) (3611 + 8 * ((x1 : Int) - 73) + (k : Int))) (gt (cR 0 I) (3616 + 8 * ((x1 : Int) - 73))))) := by
  have hW : fzs wz_ef877 (fKc wz_ef877) := fKc_ok _
  refine f_meth (rb := rbJ) (J := []) 1 400 xG xin_76 x6_76 okJ (fB_self h0) ?_ ?_
  · exact fun q h => absurd h List.not_mem_nil
  · have hB0 := fB_self (zn := znJ) (K := fKc wz_ef877) h0
    refine fload rL_73_162_7_7_1_0 h0 hB0 (by omega) ?_
    intro z1 lz1 uz1 qz1
    have w3 := fld_at qz1 7 (by omega)
    refine fload rL_73_162_5_5_1_0 h0 hB0 (by omega) ?_
    intro z2 lz2 uz2 qz2
    have w7 := fld_at qz2 5 (by omega)
    refine And.intro ⟨rfl, by decide, by decide⟩ ?_
    refine And.intro ⟨rfl, by decide⟩ (And.intro (by first | exact ⟨lz1, Int.lt_of_le_of_lt uz1 (by decide)⟩ | omega) ?_)
    refine fload rL_48_67_0_5_1_0 h0 hB0 (by omega) ?_
    intro z3 lz3 uz3 qz3
    refine And.intro (And.intro (by first | exact fi_ lz2 uz2 rfl | omega) (by first | exact fi_ lz3 uz3 rfl | omega)) (And.intro ?_ ?_)
    · intro c4
      exact ⟨rfl, True.intro, (by have ei : ((x1 : Int) - 73) = (((x1 - 73 : Nat) : Nat) : Int) := (by omega); have e3 : gt (cR 0 I) (3610 + 8 * ((x1 : Int) - 73)) = ((z1.toNat : Nat) : Int) := (by rw [ei]; exact (gR_rp (d := 0) (i := x1 - 73) (k := 0) (by omega) (by omega) (by omega)).trans (by rw [if_pos rfl, show 73 + (x1 - 73) + 0 = x1 by omega]; omega)); have h1 := hp0; have h2 := hp1; rw [e3, ei] at h2; rw [ei] at h1; rw [e3, ei]; exact he_0 (d := 0) (z := z3) (by omega) (by omega) h1 h2 (by rw [show 48 + z1.toNat + 0 = 48 + z1.toNat by omega]; exact fld_at qz3 5 (by omega)) (by rw [show 73 + (x1 - 73) + 0 = x1 by omega]; omega))⟩
    · intro c5
      refine And.intro ⟨rfl, by decide, by decide⟩ ?_
      refine And.intro ⟨rfl, by decide⟩ (And.intro (by first | exact ⟨lz1, Int.lt_of_le_of_lt uz1 (by decide)⟩ | omega) ?_)
      refine And.intro (fcopyU (rgG_73_162 (by omega) (by omega)) (rgG_48_67 (by omega) (by omega)) rL_73_162_0_5_1_0 rS_48_67_0_5_1_0 (fzs_sub (by decide +kernel) hW) h0 hB0 (by omega) (by omega) (by omega) (by omega)) (And.intro rfl ?_)
      intro IhB6 ehB6 hB6
      exact ⟨rfl, True.intro, (by have ei : ((x1 : Int) - 73) = (((x1 - 73 : Nat) : Nat) : Int) := (by omega); have e3 : gt (cR 0 I) (3610 + 8 * ((x1 : Int) - 73)) = ((z1.toNat : Nat) : Int) := (by rw [ei]; exact (gR_rp (d := 0) (i := x1 - 73) (k := 0) (by omega) (by omega) (by omega)).trans (by rw [if_pos rfl, show 73 + (x1 - 73) + 0 = x1 by omega]; omega)); have h1 := hp0; rw [ei] at h1; rw [e3, ei]; exact he_1 (d := 0) (z := z3) ehB6 rfl (by omega) (by omega) (by omega) (by omega) h1 (by rw [show 48 + z1.toNat + 0 = 48 + z1.toNat by omega]; exact fld_at qz3 5 (by omega)) (by rw [show 73 + (x1 - 73) + 0 = x1 by omega]; omega))⟩
abbrev jc_Cells_takeReports_b5cfd_4 (x1 : Int) (I0 : fH) : Nat → fL → List fV → fH → Prop := fun m lv st I => ∃ (y1 : Int) (y2 : Int) (y3 : Int), lv = [(0, .inr (.inr (some 2))), (1, .inl y1), (2, .inl y2), (3, .inl y3)] ∧ st = [] ∧ ((((-2147483648) ≤ y1 ∧ y1 ≤ 2147483647) ∧ (0 ≤ y2 ∧ y2 ≤ 90) ∧ (0 ≤ y3 ∧ y3 ≤ 90) ∧ (y2 ≤ y3) ∧ (I 2 12 = I0 2 12) ∧ (y3 ≤ I0 2 12) ∧ (y1 = x1)) ∧ ((y2, (cR 0 I)) = nf sCm (0, (cR 0 I0)) y3.toNat)) ∧ m = (1 + 1 * (90 - y3) : Int).toNat
set_option maxRecDepth 8000 in
theorem ct_Cells_takeReports_b5cfd {I : fH} {x1 : Int} (h0 : fB bsJ I) (ha1 : ((-2147483648) ≤ x1 ∧ x1 ≤ 2147483647)) (hp0 : x1 = gt (cR 0 I) 0) (hp1 : okB (cR 0 I)) : fC ρ base n F xTc vwCl xTys D dA la gJ (fbz bsJ znJ (fKc wz_0cc09) I) xm_74 [.inr (.inr (some 2)), .inl x1] I (fun I' r => r = none ∧ True ∧ (cR 0 I' = sCome (cR 0 I))) := by
  have hW : fzs wz_0cc09 (fKc wz_0cc09) := fKc_ok _
  refine f_meth (rb := rbJ) (J := [(4, (jc_Cells_takeReports_b5cfd_4 x1 I))]) 92 400 xG xin_74 x6_74 okJ (fB_self h0) ?_ ?_
  · refine List.forall_mem_cons.mpr ⟨?_, fun q h => absurd h List.not_mem_nil⟩
    · rintro m _ _ I1 hB1 ⟨y1, y2, y3, rfl, rfl, ⟨hb, hx0⟩, hm⟩
      have b1 := fBd fb_2_12 (fBz h0 hB1)
      have w13 : I 2 12 = gt (cR 0 I) 13 := (cL_f (d := 0) (a := 2) (j := 12) (r := 13) (p := 13) (I := I) (z := I 2 12) (by decide +kernel) (by decide) rfl rfl)
      have c3 : okC (cR 0 I1) y2 y3 (gt (cR 0 I) 13) ∧ gt (cR 0 I1) 0 = gt (cR 0 I) 0 := by have q := okC_nf hp1 y3.toNat (by omega); rw [← hx0] at q; refine ⟨?_, q.2.2.2 0 (by omega) (by omega)⟩; have q1 := q.1; rw [Int.toNat_of_nonneg (by omega)] at q1; exact q1
      refine And.intro ⟨rfl, by decide, by decide⟩ (fgetf fb_2_12 h0 hB1 ?_)
      intro z2 lz2 uz2 qz2
      have v6 := cL_f (d := 0) (a := 2) (j := 12) (r := 13) (p := 13) (by decide +kernel) (by decide) qz2 rfl
      refine And.intro (And.intro (by first | exact fi_ hb.2.2.1.1 hb.2.2.1.2 rfl | omega) (by first | exact fi_ lz2 uz2 rfl | omega)) (And.intro ?_ ?_)
      · intro c3
        refine And.intro ⟨rfl, by decide, by decide⟩ (And.intro rfl (And.intro (Or.inl rfl) (fputf fb_2_12 (by decide +kernel) hW (by first | exact ⟨hb.2.1.1, hb.2.1.2⟩ | omega) ?_)))
        intro IhB4 ehB4 hB4
        have t5 := fup_at ehB4 12 (by first | rfl | omega)
        have r60 := cS_f (d := 0) (a := 2) (j := 12) (r := 13) (p := 13) (by decide +kernel) (by decide) ehB4 rfl
        exact ⟨rfl, True.intro, (by rw [r60]; exact (cmr_end hx0 (by omega) (by omega) (by omega)))⟩
      · intro c6
        refine And.intro ⟨rfl, by decide, by decide⟩ ?_
        refine And.intro ⟨rfl, by decide⟩ (And.intro (by first | exact ⟨hb.2.2.1.1, Int.lt_of_le_of_lt (Int.le_sub_one_of_lt (Int.lt_of_lt_of_le c6 uz2)) (by decide)⟩ | omega) ?_)
        refine fload rL_73_162_6_6_1_0 h0 hB1 (by omega) ?_
        intro z7 lz7 uz7 qz7
        have v24 := cL_c (d := 0) (a := 73) (nr := 90) (j := 6) (b := 3617) (mr := 8) (by decide +kernel) (by decide) qz7 (by omega) (by omega) rfl
        refine And.intro (And.intro (by first | exact fi_ lz7 uz7 rfl | omega) (by first | exact fi_ hb.1.1 hb.1.2 rfl | omega)) (And.intro ?_ ?_)
        · intro c8
          refine Exists.intro xm_76 (And.intro mi_76 (And.intro ⟨rfl, rfl, rfl, rfl⟩ (And.intro rfl ?_)))
          refine fcall _ h0 (fzs_sub (by decide +kernel) hW) hB1 (ct_Cells_hear_3a84b (fBz h0 hB1) (by omega) (okC_he (i := y3) c3.1 (by omega) (by omega)).1 (okC_he (i := y3) c3.1 (by omega) (by omega)).2) ?_
          rintro IhB10 _ hB10 fhB10 ⟨rfl, hz9, g0z9⟩
          have t11 := fhB10 2 12 (by decide +kernel)
          exact fcutJ (I := IhB10) (j := (jc_Cells_takeReports_b5cfd_4 x1 I)) (lv' := [(0, .inr (.inr (some 2))), (1, .inl _), (2, .inl _), (3, .inl _)]) (And.intro rfl (And.intro rfl (And.intro rfl (And.intro rfl True.intro)))) ⟨_, _, _, rfl, rfl, ⟨by omega, (cmr_old hx0 (by omega) (by omega) v24 (by omega) (show x1 = gt (cR 0 I1) 0 by rw [c3.2]; exact hp0) rfl (by omega) g0z9 rfl (by omega) rfl (by omega) (fun _ => congrArg (gt _) (by omega)))⟩, rfl⟩ (by omega)
        · intro c12
          refine And.intro ⟨rfl, by decide, by decide⟩ ?_
          refine And.intro ⟨rfl, by decide⟩ (And.intro (by omega) ?_)
          refine Exists.intro xm_75 (And.intro mi_75 (And.intro ⟨rfl, rfl, rfl, rfl⟩ (And.intro True.intro ?_)))
          refine fcall _ h0 (fzs_sub (by decide +kernel) hW) hB1 (ct_copyRow (W := [72]) (len := 8) (fBz h0 hB1) (frCx (a0 := 73) (a1 := 162) (by decide +kernel) (by omega) (by omega))) ?_
          rintro IhB13 _ hB13 fhB13 ⟨rfl, ehB13⟩
          have t14 := fhB13 2 12 (by decide +kernel)
          intro z15 hz15 bz15
          have bz15 := bz15 (by omega)
          exact fcutJ (I := IhB13) (j := (jc_Cells_takeReports_b5cfd_4 x1 I)) (lv' := [(0, .inr (.inr (some 2))), (1, .inl _), (2, .inl _), (3, .inl _)]) (And.intro rfl (And.intro rfl (And.intro rfl (And.intro rfl True.intro)))) ⟨_, _, _, rfl, rfl, ⟨by omega, (cmr_new hx0 v24 (by omega) (show x1 = gt (cR 0 I1) 0 by rw [c3.2]; exact hp0) rfl (by omega) (cR_mv (d := 0) (i := y3.toNat) (s := y2.toNat) ehB13 rfl (by omega) (by omega) (by omega) (by omega) rfl rfl) (by omega) (fun _ => congrArg (gt _) (by omega)) (by omega) (by omega) (by omega))⟩, rfl⟩ (by omega)
  · have hB0 := fB_self (zn := znJ) (K := fKc wz_0cc09) h0
    have b16 := fBd fb_2_12 (fBz h0 hB0)
    exact fcutJ (I := I) (j := (jc_Cells_takeReports_b5cfd_4 x1 I)) (lv' := [(0, .inr (.inr (some 2))), (1, .inl _), (2, .inl _), (3, .inl _)]) (And.intro rfl (And.intro rfl (And.intro rfl (And.intro rfl True.intro)))) ⟨_, _, _, rfl, rfl, ⟨by omega, rfl⟩, rfl⟩ (by omega)
set_option maxRecDepth 8000 in
theorem ct_City_rise_1dcb3 {I : fH}  (h0 : fB bsJ I) (hp0 : okA (cR 0 I)) : fC ρ base n F xTc vwCl xTys D dA la gJ (fbz bsJ znJ (fKc wz_fd6d1) I) xm_94 [.inr (.inr (some 1))] I (fun I' r => r = none ∧ True ∧ (cR 0 I' = sRi (cR 0 I))) := by
  have hW : fzs wz_fd6d1 (fKc wz_fd6d1) := fKc_ok _
  refine f_meth (rb := rbJ) (J := []) 1 400 xG xin_94 x6_94 okJ (fB_self h0) ?_ ?_
  · exact fun q h => absurd h List.not_mem_nil
  · have hB0 := fB_self (zn := znJ) (K := fKc wz_fd6d1) h0
    refine Exists.intro xm_62 (And.intro mi_62 (And.intro ⟨rfl, rfl, rfl, rfl⟩ (And.intro rfl ?_)))
    refine fcallp hB0 (ct_City_lift_641ac (fBz h0 hB0)) ?_
    rintro _ ⟨z1, rfl, hz1, g0z1⟩
    refine Exists.intro xm_65 (And.intro mi_65 (And.intro ⟨rfl, rfl, rfl, rfl⟩ (And.intro rfl ?_)))
    refine fcallp hB0 (ct_City_weight_75fdd (fBz h0 hB0) hp0) ?_
    rintro _ ⟨z2, rfl, hz2, g0z2⟩
    intro z3 hz3 ez3 bz3
    clear ez3
    have bz3 := bz3 (by omega)
    refine And.intro (And.intro (by omega) (And.intro (by first | exact ⟨by decide, by decide⟩ | omega) (And.intro (by first | exact by decide | omega) rfl))) ?_
    intro z4 hz4 ez4 dz4
    have d11 := xdv_t (by omega) (by omega) (by omega) hz4 ez4
    refine And.intro (And.intro (by first | exact ⟨by decide, by decide⟩ | omega) (And.intro (by omega) rfl)) ?_
    intro z5 hz5
    refine And.intro (And.intro (by first | exact ⟨by decide, by decide⟩ | omega) (And.intro (by omega) rfl)) ?_
    intro z6 hz6
    refine And.intro ⟨rfl, by decide, by decide⟩ (fgetf fb_1_5 h0 hB0 ?_)
    intro z7 lz7 uz7 qz7
    have v31 := cL_f (d := 0) (a := 1) (j := 5) (r := 1) (p := 1) (by decide +kernel) (by decide) qz7 rfl
    refine And.intro (And.intro (by first | exact ⟨by decide, by decide⟩ | omega) (And.intro (by omega) rfl)) ?_
    intro z8 hz8
    refine And.intro (And.intro (by first | exact ⟨by decide, by decide⟩ | omega) (And.intro (by omega) rfl)) ?_
    intro z9 hz9
    refine And.intro ⟨rfl, by decide, by decide⟩ (And.intro rfl (And.intro (Or.inl rfl) (fputf fb_1_5 (by decide +kernel) hW (by omega) ?_)))
    intro IhB10 ehB10 hB10
    have t11 := fup_at ehB10 5 (by first | rfl | omega)
    have r42 := cS_f (d := 0) (a := 1) (j := 5) (r := 1) (p := 1) (by decide +kernel) (by decide) ehB10 rfl
    exact ⟨rfl, True.intro, (by rw [r42]; exact (sRi_of g0z1 g0z2 (by omega) d11 (n := z6) (by (repeat' split) <;> omega) v31 (by omega) (by omega) (by unfold mn; (repeat' split) <;> omega)))⟩
abbrev jc_Cells_leakAll_bf967_2 (I0 : fH) : Nat → fL → List fV → fH → Prop := fun m lv st I => ∃ (y1 : Int), lv = [(0, .inr (.inr (some 2))), (1, .inl y1)] ∧ st = [] ∧ (((0 ≤ y1 ∧ y1 ≤ 20) ∧ (y1 ≤ I0 2 5)) ∧ ((cR 0 I) = nf sLk (cR 0 I0) y1.toNat)) ∧ m = (7 + 7 * (20 - y1) : Int).toNat
abbrev jc_Cells_leakAll_bf967_12 (I0 : fH) : Nat → fL → List fV → fH → Prop := fun m lv st I => ∃ (y1 : Int) (y2 : Int), lv = [(0, .inr (.inr (some 2))), (1, .inl y1), (2, .inl y2)] ∧ st = [] ∧ (((0 ≤ y1 ∧ y1 ≤ 19) ∧ (0 ≤ y2 ∧ y2 ≤ 5) ∧ (1 ≤ I 2 5 ∧ I 2 5 ≤ 20) ∧ (y1 + 1 ≤ I0 2 5)) ∧ ((cR 0 I) = nf (sLkg y1) (nf sLk (cR 0 I0) y1.toNat) y2.toNat)) ∧ m = (1 + 7 * (20 - y1) + 1 * (5 - y2) : Int).toNat
set_option maxRecDepth 8000 in
theorem ct_Cells_leakAll_bf967 {I : fH}  (h0 : fB bsJ I)  : fC ρ base n F xTc vwCl xTys D dA la gJ (fbz bsJ znJ (fKc wz_ed400) I) xm_90 [.inr (.inr (some 2))] I (fun I' r => r = none ∧ True ∧ (cR 0 I' = sMi3 (cR 0 I))) := by
  have hW : fzs wz_ed400 (fKc wz_ed400) := fKc_ok _
  refine f_meth (rb := rbJ) (J := [(2, (jc_Cells_leakAll_bf967_2 I)), (12, (jc_Cells_leakAll_bf967_12 I))]) 148 400 xG xin_90 x6_90 okJ (fB_self h0) ?_ ?_
  · refine List.forall_mem_cons.mpr ⟨?_, List.forall_mem_cons.mpr ⟨?_, fun q h => absurd h List.not_mem_nil⟩⟩
    · rintro m _ _ I1 hB1 ⟨y1, rfl, rfl, ⟨hb, hx0⟩, hm⟩
      have k1 := fBz_eq hB1 (a := 2) (j := 5) (by decide +kernel)
      have b2 := fBd fb_2_5 (fBz h0 hB1)
      refine And.intro ⟨rfl, by decide, by decide⟩ (fgetf fb_2_5 h0 hB1 ?_)
      intro z3 lz3 uz3 qz3
      have v4 := cL_f (d := 0) (a := 2) (j := 5) (r := 5) (p := 5) (by decide +kernel) (by decide) qz3 rfl
      refine And.intro (And.intro (by first | exact fi_ hb.1.1 hb.1.2 rfl | omega) (by first | exact fi_ lz3 uz3 rfl | omega)) (And.intro ?_ ?_)
      · intro c4
        have w5 := (cL_f (d := 0) (a := 2) (j := 5) (r := 5) (p := 5) (I := I) (z := I 2 5) (by decide +kernel) (by decide) rfl rfl)
        exact ⟨rfl, True.intro, (nf_end hx0 (by omega))⟩
      · intro c5
        exact fcutJ (I := I1) (j := (jc_Cells_leakAll_bf967_12 I)) (lv' := [(0, .inr (.inr (some 2))), (1, .inl _), (2, .inl _)]) (And.intro rfl (And.intro rfl (And.intro rfl True.intro))) ⟨_, _, rfl, rfl, ⟨by omega, hx0⟩, rfl⟩ (by omega)
    · rintro m _ _ I1 hB1 ⟨y1, y2, rfl, rfl, ⟨hb, hx0⟩, hm⟩
      have k6 := fBz_eq hB1 (a := 2) (j := 5) (by decide +kernel)
      have b7 := fBd fb_2_5 (fBz h0 hB1)
      refine And.intro (And.intro (by first | exact fi_ hb.2.1.1 hb.2.1.2 rfl | omega) (by first | exact ⟨by decide, by decide⟩ | omega)) (And.intro ?_ ?_)
      · intro c8
        exact fcutJ (I := I1) (j := (jc_Cells_leakAll_bf967_2 I)) (lv' := [(0, .inr (.inr (some 2))), (1, .inl _)]) (And.intro rfl (And.intro rfl True.intro)) ⟨_, rfl, rfl, ⟨by omega, (nf_row rfl (by omega) (by omega) (sLk_end hx0 (by omega) (by omega)))⟩, rfl⟩ (by omega)
      · intro c9
        refine And.intro ⟨rfl, by decide, by decide⟩ ?_
        refine And.intro ⟨rfl, by decide⟩ (And.intro (by first | exact ⟨hb.1.1, Int.lt_of_le_of_lt hb.1.2 (by decide)⟩ | omega) ?_)
        refine fload rL_6_25_0_4_1_0 h0 hB1 (by omega) ?_
        intro z10 lz10 uz10 qz10
        have v24 := cL_r (d := 0) (a := 6) (nr := 20) (n := 5) (b := 31) (mr := 20) (m := 1) (by decide +kernel) (by decide) qz10 (by omega) (by omega) rfl
        refine And.intro ⟨rfl, by decide, by decide⟩ ?_
        refine fload1 rL_4_4_0_19_1_0 h0 hB1 ⟨by decide, by decide⟩ (by first | exact ⟨hb.1.1, hb.1.2⟩ | omega) ?_
        intro z11 lz11 uz11 qz11
        have v30 := cL_a (d := 0) (a := 4) (n := 20) (b := 36) (m := 20) (by decide +kernel) (by decide) qz11 (by omega) rfl
        intro z12 hz12 ez12 bz12
        try replace bz12 := bz12 (by omega)
        have m31 := mul_rng lz10 uz10 lz11 uz11
        have k31 := bz12 ⟨by omega, by omega⟩
        have n31 := Int.mul_le_mul_of_nonneg_left (a := z11) (b := 99) uz11 lz10
        refine And.intro (And.intro (by omega) (And.intro (by first | exact ⟨by decide, by decide⟩ | omega) (And.intro (by first | exact by decide | omega) rfl))) ?_
        intro z13 hz13 ez13 dz13
        have dz13 := dz13 (by omega) (by omega)
        change _ = _ / _ at dz13
        refine And.intro ⟨rfl, by decide, by decide⟩ ?_
        refine And.intro ⟨rfl, by decide⟩ (And.intro (by first | exact ⟨hb.1.1, Int.lt_of_le_of_lt hb.1.2 (by decide)⟩ | omega) ?_)
        refine fload rL_6_25_0_4_1_0 h0 hB1 (by omega) ?_
        intro z14 lz14 uz14 qz14
        have v45 := cL_r (d := 0) (a := 6) (nr := 20) (n := 5) (b := 31) (mr := 20) (m := 1) (by decide +kernel) (by decide) qz14 (by omega) (by omega) rfl
        intro z15 hz15 ez15 bz15
        have bz15 := bz15 (by omega)
        refine fstore rS_6_25_0_4_1_0 (fzs_sub (by decide +kernel) hW) (by omega) (by omega) ?_
        intro IhB16 ehB16 hB16
        have t17 := fup_self ehB16
        have t18 : IhB16 2 5 = I1 2 5 := (congrFun (congrFun ehB16 2) 5).trans (fup_ne (by first | exact Or.inl (by decide) | omega))
        have k19 := fBz_eq hB16 (a := 2) (j := 5) (by decide +kernel)
        have r48 := cS_r (d := 0) (a := 6) (nr := 20) (n := 5) (b := 31) (mr := 20) (m := 1) (by decide +kernel) (by decide) ehB16 (by omega) (by omega) rfl
        refine And.intro ⟨rfl, by decide, by decide⟩ ?_
        refine And.intro ⟨rfl, by decide⟩ (And.intro (by first | exact ⟨hb.1.1, Int.lt_of_le_of_lt hb.1.2 (by decide)⟩ | omega) ?_)
        refine fload rL_27_46_0_4_1_0 h0 hB16 (by omega) ?_
        intro z20 lz20 uz20 qz20
        have v57 := cL_r (d := 0) (a := 27) (nr := 20) (n := 5) (b := 37) (mr := 20) (m := 1) (by decide +kernel) (by decide) qz20 (by omega) (by omega) rfl
        rw [r48] at v57
        intro z21 hz21 ez21 bz21
        try replace bz21 := bz21 (by omega)
        refine fstore rS_27_46_0_4_1_0 (fzs_sub (by decide +kernel) hW) (by omega) (by omega) ?_
        intro IhB22 ehB22 hB22
        have t23 := fup_self ehB22
        have t24 : IhB22 2 5 = IhB16 2 5 := (congrFun (congrFun ehB22 2) 5).trans (fup_ne (by first | exact Or.inl (by decide) | omega))
        have k25 := fBz_eq hB22 (a := 2) (j := 5) (by decide +kernel)
        have r60 := cS_r (d := 0) (a := 27) (nr := 20) (n := 5) (b := 37) (mr := 20) (m := 1) (by decide +kernel) (by decide) ehB22 (by omega) (by omega) rfl
        exact fcutJ (I := IhB22) (j := (jc_Cells_leakAll_bf967_12 I)) (lv' := [(0, .inr (.inr (some 2))), (1, .inl _), (2, .inl _)]) (And.intro rfl (And.intro rfl (And.intro rfl True.intro))) ⟨_, _, rfl, rfl, ⟨by omega, (nf_row hx0 (by omega) (by omega) (by rw [r60, r48]; exact (sLkg_of (by omega) (by omega) v24 (by omega) v30 (by omega) k31 (by omega) (by omega) (by omega) (by omega) hz21 ez21 v57)))⟩, rfl⟩ (by omega)
  · have hB0 := fB_self (zn := znJ) (K := fKc wz_ed400) h0
    have b26 := fBd fb_2_5 (fBz h0 hB0)
    exact fcutJ (I := I) (j := (jc_Cells_leakAll_bf967_2 I)) (lv' := [(0, .inr (.inr (some 2))), (1, .inl _)]) (And.intro rfl (And.intro rfl True.intro)) ⟨_, rfl, rfl, ⟨by omega, rfl⟩, rfl⟩ (by omega)
abbrev jc_City_passMinute_6a7f6_13 (I0 : fH) : Nat → fL → List fV → fH → Prop := fun m lv st I => ∃ (y1 : Int), lv = [(0, .inr (.inr (some 1))), (1, .inl y1)] ∧ st = [] ∧ (((0 ≤ y1 ∧ y1 ≤ 24) ∧ (I 1 9 = I0 1 9) ∧ (y1 ≤ I0 163 13)) ∧ ((cR 0 I) = nf sWk1 (sCome (cR 0 I0)) y1.toNat) ∧ (okA (cR 0 I)) ∧ (okB (cR 0 I)) ∧ (gt (sCome (cR 0 I0)) 7 = I0 163 13)) ∧ m = (26 + 1 * (24 - y1) : Int).toNat
abbrev jc_City_passMinute_6a7f6_75 (I0 : fH) : Nat → fL → List fV → fH → Prop := fun m lv st I => ∃ (y1 : Int), lv = [(0, .inr (.inr (some 1))), (1, .inl y1)] ∧ st = [] ∧ (((0 ≤ y1 ∧ y1 ≤ 24) ∧ (I 1 9 = I0 1 9) ∧ (y1 ≤ I0 177 4)) ∧ ((cR 0 I) = nf sBr0 (sMi3 (sMi2 (sMi1 (sCome (cR 0 I0))))) y1.toNat) ∧ (okA (cR 0 I)) ∧ (okB (cR 0 I)) ∧ (gt (sMi3 (sMi2 (sMi1 (sCome (cR 0 I0))))) 8 = I0 177 4)) ∧ m = (1 + 1 * (24 - y1) : Int).toNat
set_option maxRecDepth 8000 in
theorem ct_City_passMinute_6a7f6 {I : fH}  (h0 : fB bsJ I) (hp0 : okA (cR 0 I)) (hp1 : okB (cR 0 I)) (hp2 : 0 ≤ gt (cR 0 I) 0 ∧ gt (cR 0 I) 0 ≤ 30000) : fC ρ base n F xTc vwCl xTys D dA la gJ (fbz bsJ znJ (fKc wz_c5d03) I) xm_73 [.inr (.inr (some 1))] I (fun I' r => r = none ∧ (I 1 9 < 2147483647 → I' 1 9 = I 1 9 + 1) ∧ (okA (cR 0 I')) ∧ (okB (cR 0 I')) ∧ (cR 0 I' = sMin (cR 0 I))) := by
  have hW : fzs wz_c5d03 (fKc wz_c5d03) := fKc_ok _
  refine f_meth (rb := rbJ) (J := [(13, (jc_City_passMinute_6a7f6_13 I)), (75, (jc_City_passMinute_6a7f6_75 I))]) 51 400 xG xin_73 x6_73 okJ (fB_self h0) ?_ ?_
  · refine List.forall_mem_cons.mpr ⟨?_, List.forall_mem_cons.mpr ⟨?_, fun q h => absurd h List.not_mem_nil⟩⟩
    · rintro m _ _ I1 hB1 ⟨y1, rfl, rfl, ⟨hb, hx0, hx1, hx2, hx3⟩, hm⟩
      have k1 := fBz_eq hB1 (a := 163) (j := 13) (by decide +kernel)
      have k2 := fBz_eq hB1 (a := 177) (j := 4) (by decide +kernel)
      have k3 := fBz_eq hB1 (a := 163) (j := 13) (by decide +kernel)
      have b4 := fBd fb_163_13 (fBz h0 hB1)
      have b5 := fBd fb_177_4 (fBz h0 hB1)
      refine And.intro ⟨rfl, by decide, by decide⟩ ?_
      refine And.intro ⟨rfl, by decide, by decide⟩ (fgetf fb_163_13 h0 hB1 ?_)
      intro z6 lz6 uz6 qz6
      have v18 := cL_f (d := 0) (a := 163) (j := 13) (r := 7) (p := 7) (by decide +kernel) (by decide) qz6 rfl
      refine And.intro (And.intro (by first | exact fi_ hb.1.1 hb.1.2 rfl | omega) (by first | exact fi_ lz6 uz6 rfl | omega)) (And.intro ?_ ?_)
      · intro c7
        refine And.intro ⟨rfl, by decide, by decide⟩ ?_
        refine Exists.intro xm_88 (And.intro mi_88 (And.intro ⟨rfl, rfl, rfl, rfl⟩ (And.intro rfl ?_)))
        refine fcall _ h0 (fzs_sub (by decide +kernel) hW) hB1 (ct_Cells_flowAll_6143e (fBz h0 hB1)) ?_
        rintro IhB9 _ hB9 fhB9 ⟨rfl, hz8, g0z8⟩
        have t10 := fhB9 1 9 (by decide +kernel)
        have t11 := fhB9 163 13 (by decide +kernel)
        have k12 := fBz_eq hB9 (a := 163) (j := 13) (by decide +kernel)
        have k13 := fBz_eq hB9 (a := 177) (j := 4) (by decide +kernel)
        have k14 := fBz_eq hB9 (a := 163) (j := 13) (by decide +kernel)
        refine And.intro ⟨rfl, by decide, by decide⟩ ?_
        refine Exists.intro xm_90 (And.intro mi_90 (And.intro ⟨rfl, rfl, rfl, rfl⟩ (And.intro rfl ?_)))
        refine fcall _ h0 (fzs_sub (by decide +kernel) hW) hB9 (ct_Cells_leakAll_bf967 (fBz h0 hB9)) ?_
        rintro IhB16 _ hB16 fhB16 ⟨rfl, hz15, g0z15⟩
        have t17 := fhB16 1 9 (by decide +kernel)
        have t18 := fhB16 163 13 (by decide +kernel)
        have k19 := fBz_eq hB16 (a := 163) (j := 13) (by decide +kernel)
        have k20 := fBz_eq hB16 (a := 177) (j := 4) (by decide +kernel)
        have k21 := fBz_eq hB16 (a := 163) (j := 13) (by decide +kernel)
        have m1 : cR 0 I1 = (sMi1 (sCome (cR 0 I))) := nf_end hx0 (by omega)
        have m3 : cR 0 IhB16 = (sMi3 (sMi2 (sMi1 (sCome (cR 0 I))))) := by rw [g0z15, g0z8, m1]
        exact fcutJ (I := IhB16) (j := (jc_City_passMinute_6a7f6_75 I)) (lv' := [(0, .inr (.inr (some 1))), (1, .inl _)]) (And.intro rfl (And.intro rfl True.intro)) ⟨_, rfl, rfl, ⟨by omega, m3, (okA_fr cA0_ok fhB16 (by decide +kernel) (okA_fr cA0_ok fhB9 (by decide +kernel) hx1)), (okB_fr cB0_ok fhB16 (by decide +kernel) ((cR_rng (d := 0) (i0 := 13) (i1 := 13) (m := 1) (q := 0) (lo := 0) (hi := 90) (by decide +kernel) (fBz h0 hB9) (by omega)).2) (okB_fr cB0_ok fhB9 (by decide +kernel) ((cR_rng (d := 0) (i0 := 13) (i1 := 13) (m := 1) (q := 0) (lo := 0) (hi := 90) (by decide +kernel) (fBz h0 hB1) (by omega)).2) hx2)), (by rw [← m3]; exact ((cL_f (d := 0) (a := 177) (j := 4) (r := 8) (p := 8) (I := IhB16) (z := IhB16 177 4) (by decide +kernel) (by decide) rfl rfl)).symm.trans (fBz_eq hB16 (a := 177) (j := 4) (by decide +kernel)))⟩, rfl⟩ (by omega)
      · intro c22
        refine And.intro ⟨rfl, by decide, by decide⟩ ?_
        refine And.intro ⟨rfl, by decide, by decide⟩ ?_
        refine fload1 rL_167_167_0_23_1_0 h0 hB1 ⟨by decide, by decide⟩ (by first | exact ⟨hb.1.1, Int.le_trans (Int.le_sub_one_of_lt (Int.lt_of_lt_of_le c22 uz6)) (by decide)⟩ | omega) ?_
        intro z23 lz23 uz23 qz23
        have v32 := cL_a (d := 0) (a := 167) (n := 24) (b := 533) (m := 14) (by decide +kernel) (by decide) qz23 (by omega) rfl
        refine And.intro (And.intro (by first | exact fi_ lz23 uz23 rfl | omega) (by first | exact ⟨by decide, by decide⟩ | omega)) (And.intro ?_ ?_)
        · intro c24
          have s13 : cR 0 I1 = sWk1 y1.toNat (cR 0 I1) := sWk1_n (u := y1) (by omega) (Or.inl ⟨_, v32, by omega, by omega⟩)
          exact fcutJ (I := I1) (j := (jc_City_passMinute_6a7f6_13 I)) (lv' := [(0, .inr (.inr (some 1))), (1, .inl _)]) (And.intro rfl (And.intro rfl True.intro)) ⟨_, rfl, rfl, ⟨by omega, (nf_row hx0 (by omega) (by omega) s13), hx1, hx2, hx3⟩, rfl⟩ (by omega)
        · intro c25
          refine And.intro ⟨rfl, by decide, by decide⟩ ?_
          refine Exists.intro xm_50 (And.intro mi_50 (And.intro ⟨rfl, rfl, rfl, rfl⟩ (And.intro rfl ?_)))
          refine fcallp hB1 (ct_Works_isGone_6681e (fBz h0 hB1) (by first | exact ⟨hb.1.1, Int.le_trans (Int.le_sub_one_of_lt (Int.lt_of_lt_of_le c22 uz6)) (by decide)⟩ | omega)) ?_
          rintro _ ⟨z26, rfl, hz26, g0z26⟩
          refine And.intro (by omega) (And.intro ?_ ?_)
          · intro c27
            have s13 : cR 0 I1 = sWk1 y1.toNat (cR 0 I1) := sWk1_n (p := 0) (u := y1) (by omega) (Or.inr (g0z26.elim (fun q => q.2) (fun q => absurd q.1 (by omega))))
            exact fcutJ (I := I1) (j := (jc_City_passMinute_6a7f6_13 I)) (lv' := [(0, .inr (.inr (some 1))), (1, .inl _)]) (And.intro rfl (And.intro rfl True.intro)) ⟨_, rfl, rfl, ⟨by omega, (nf_row hx0 (by omega) (by omega) s13), hx1, hx2, hx3⟩, rfl⟩ (by omega)
          · intro c28
            refine Exists.intro xm_77 (And.intro mi_77 (And.intro ⟨rfl, rfl, rfl, rfl⟩ (And.intro rfl ?_)))
            refine fcall _ h0 (fzs_sub (by decide +kernel) hW) hB1 (ct_City_runWork_55621 (fBz h0 hB1) (by first | exact ⟨hb.1.1, Int.le_trans (Int.le_sub_one_of_lt (Int.lt_of_lt_of_le c22 uz6)) (by decide)⟩ | omega) hx1 (by have q := (g0z26.elim (fun q => absurd q.1 (by omega)) (fun q => q.2)); exact q)) ?_
            rintro IhB30 _ hB30 fhB30 ⟨rfl, hz29, g0z29⟩
            have t31 := fhB30 1 9 (by decide +kernel)
            have t32 := fhB30 163 13 (by decide +kernel)
            have k33 := fBz_eq hB30 (a := 163) (j := 13) (by decide +kernel)
            have k34 := fBz_eq hB30 (a := 177) (j := 4) (by decide +kernel)
            have k35 := fBz_eq hB30 (a := 163) (j := 13) (by decide +kernel)
            have s13 : cR 0 IhB30 = sWk1 y1.toNat (cR 0 I1) := (g0z29).trans (sWk1_y (u := y1) (by omega) v32 (by omega) (by omega) (by have q := (g0z26.elim (fun q => absurd q.1 (by omega)) (fun q => q.2)); omega))
            exact fcutJ (I := IhB30) (j := (jc_City_passMinute_6a7f6_13 I)) (lv' := [(0, .inr (.inr (some 1))), (1, .inl _)]) (And.intro rfl (And.intro rfl True.intro)) ⟨_, rfl, rfl, ⟨by omega, (nf_row hx0 (by omega) (by omega) s13), (by rw [s13]; exact okA_wk1 hx1 (by omega) (cR_rng (d := 0) (i0 := 531) (i1 := 853) (m := 14) (q := 0) (lo := 0) (hi := 19) (by decide +kernel) (fBz h0 hB1) (by omega)) ((cR_rng (d := 0) (i0 := 535) (i1 := 857) (m := 14) (q := 0) (lo := 0) (hi := 99999) (by decide +kernel) (fBz h0 hB1) (by omega)).1) (by have q1 := (hx1 y1.toNat (by omega)).2.2.2.2; have q2 := tb_pos (r := (cR 0 I1)) (cR_rng (d := 0) (i0 := 1) (i1 := 1) (m := 1) (q := 0) (lo := 0) (hi := 600) (by decide +kernel) (fBz h0 hB1) (by omega)) (fun i h1 h2 => ((cR_rng (d := 0) (i0 := 1142) (i1 := 1202) (m := 1) (q := 0) (lo := 0) (hi := 9999) (by decide +kernel) (fBz h0 hB1) (by omega)).1)); omega)), (okB_fr cB0_ok fhB30 (by decide +kernel) ((cR_rng (d := 0) (i0 := 13) (i1 := 13) (m := 1) (q := 0) (lo := 0) (hi := 90) (by decide +kernel) (fBz h0 hB1) (by omega)).2) hx2), hx3⟩, rfl⟩ (by omega)
    · rintro m _ _ I1 hB1 ⟨y1, rfl, rfl, ⟨hb, hx0, hx1, hx2, hx3⟩, hm⟩
      have k36 := fBz_eq hB1 (a := 163) (j := 13) (by decide +kernel)
      have k37 := fBz_eq hB1 (a := 177) (j := 4) (by decide +kernel)
      have k38 := fBz_eq hB1 (a := 163) (j := 13) (by decide +kernel)
      have b39 := fBd fb_163_13 (fBz h0 hB1)
      have b40 := fBd fb_177_4 (fBz h0 hB1)
      refine And.intro ⟨rfl, by decide, by decide⟩ ?_
      refine And.intro ⟨rfl, by decide, by decide⟩ (fgetf fb_177_4 h0 hB1 ?_)
      intro z41 lz41 uz41 qz41
      have v80 := cL_f (d := 0) (a := 177) (j := 4) (r := 8) (p := 8) (by decide +kernel) (by decide) qz41 rfl
      refine And.intro (And.intro (by first | exact fi_ hb.1.1 hb.1.2 rfl | omega) (by first | exact fi_ lz41 uz41 rfl | omega)) (And.intro ?_ ?_)
      · intro c42
        have w0 : I 1 9 = gt (cR 0 I) 0 := (cL_f (d := 0) (a := 1) (j := 9) (r := 0) (p := 0) (I := I) (z := I 1 9) (by decide +kernel) (by decide) rfl rfl)
        have m4 : cR 0 I1 = (sMi4 (sMi3 (sMi2 (sMi1 (sCome (cR 0 I)))))) := nf_end hx0 (by omega)
        refine Exists.intro xm_94 (And.intro mi_94 (And.intro ⟨rfl, rfl, rfl, rfl⟩ (And.intro rfl ?_)))
        refine fcall _ h0 (fzs_sub (by decide +kernel) hW) hB1 (ct_City_rise_1dcb3 (fBz h0 hB1) hx1) ?_
        rintro IhB44 _ hB44 fhB44 ⟨rfl, hz43, g0z43⟩
        have t45 := fhB44 1 9 (by decide +kernel)
        have t46 := fhB44 177 4 (by decide +kernel)
        have k47 := fBz_eq hB44 (a := 163) (j := 13) (by decide +kernel)
        have k48 := fBz_eq hB44 (a := 177) (j := 4) (by decide +kernel)
        have k49 := fBz_eq hB44 (a := 163) (j := 13) (by decide +kernel)
        refine And.intro ⟨rfl, by decide, by decide⟩ (fgetf fb_1_6 h0 hB44 ?_)
        intro z50 lz50 uz50 qz50
        have v114 := cL_f (d := 0) (a := 1) (j := 6) (r := 2) (p := 2) (by decide +kernel) (by decide) qz50 rfl
        rw [g0z43] at v114
        intro z51 hz51 ez51 bz51
        try replace bz51 := bz51 (by omega)
        refine And.intro ⟨rfl, by decide, by decide⟩ (And.intro rfl (And.intro (Or.inl rfl) (fputf fb_1_6 (by decide +kernel) hW (by omega) ?_)))
        intro IhB52 ehB52 hB52
        have t53 := fup_at ehB52 6 (by first | rfl | omega)
        have t54 : IhB52 1 9 = IhB44 1 9 := (congrFun (congrFun ehB52 1) 9).trans (fup_ne (by first | decide | omega))
        have t55 : IhB52 177 4 = IhB44 177 4 := (congrFun (congrFun ehB52 177) 4).trans (fup_ne (by first | decide | omega))
        have k56 := fBz_eq hB52 (a := 163) (j := 13) (by decide +kernel)
        have k57 := fBz_eq hB52 (a := 177) (j := 4) (by decide +kernel)
        have k58 := fBz_eq hB52 (a := 163) (j := 13) (by decide +kernel)
        have r119 := cS_f (d := 0) (a := 1) (j := 6) (r := 2) (p := 2) (by decide +kernel) (by decide) ehB52 rfl
        have b109 : okB (cR 0 IhB44) := (okB_fr cB0_ok fhB44 (by decide +kernel) ((cR_rng (d := 0) (i0 := 13) (i1 := 13) (m := 1) (q := 0) (lo := 0) (hi := 90) (by decide +kernel) (fBz h0 hB1) (by omega)).2) hx2)
        have a119 : okA (cR 0 IhB52) := by rw [r119]; exact okA_lo (okA_fr cA0_ok fhB44 (by decide +kernel) hx1) (by omega)
        have b119 : okB (cR 0 IhB52) := by rw [r119]; exact okB_lo b109 ((cR_rng (d := 0) (i0 := 13) (i1 := 13) (m := 1) (q := 0) (lo := 0) (hi := 90) (by decide +kernel) (fBz h0 hB44) (by omega)).2) (by omega) (by omega) (by omega)
        refine And.intro ⟨rfl, by decide, by decide⟩ ?_
        refine Exists.intro xm_95 (And.intro mi_95 (And.intro ⟨rfl, rfl, rfl, rfl⟩ (And.intro rfl ?_)))
        refine fcall _ h0 (fzs_sub (by decide +kernel) hW) hB52 (ct_Works_foulAll_0fc04 (fBz h0 hB52) a119) ?_
        rintro IhB60 _ hB60 fhB60 ⟨rfl, hz59, g0z59⟩
        have t61 := fhB60 1 6 (by decide +kernel)
        have t62 := fhB60 1 9 (by decide +kernel)
        have t63 := fhB60 177 4 (by decide +kernel)
        have k64 := fBz_eq hB60 (a := 163) (j := 13) (by decide +kernel)
        have k65 := fBz_eq hB60 (a := 177) (j := 4) (by decide +kernel)
        have k66 := fBz_eq hB60 (a := 163) (j := 13) (by decide +kernel)
        have a126 : okA (cR 0 IhB60) := by rw [g0z59]; exact okA_fo a119
        have b126 : okB (cR 0 IhB60) := (okB_fr cB0_ok fhB60 (by decide +kernel) ((cR_rng (d := 0) (i0 := 13) (i1 := 13) (m := 1) (q := 0) (lo := 0) (hi := 90) (by decide +kernel) (fBz h0 hB52) (by omega)).2) b119)
        refine And.intro ⟨rfl, by decide, by decide⟩ (fgetf fb_1_9 h0 hB60 ?_)
        intro z67 lz67 uz67 qz67
        have v131 := cL_f (d := 0) (a := 1) (j := 9) (r := 0) (p := 0) (by decide +kernel) (by decide) qz67 rfl
        rw [g0z59, r119, g0z43] at v131
        intro z68 hz68 ez68 bz68
        try replace bz68 := bz68 (by omega)
        refine And.intro ⟨rfl, by decide, by decide⟩ (And.intro rfl (And.intro (Or.inl rfl) (fputf fb_1_9 (by decide +kernel) hW (by omega) ?_)))
        intro IhB69 ehB69 hB69
        have t70 : IhB69 1 6 = IhB60 1 6 := (congrFun (congrFun ehB69 1) 6).trans (fup_ne (by first | decide | omega))
        have t71 := fup_at ehB69 9 (by first | rfl | omega)
        have t72 : IhB69 177 4 = IhB60 177 4 := (congrFun (congrFun ehB69 177) 4).trans (fup_ne (by first | decide | omega))
        have k73 := fBz_eq hB69 (a := 163) (j := 13) (by decide +kernel)
        have k74 := fBz_eq hB69 (a := 177) (j := 4) (by decide +kernel)
        have k75 := fBz_eq hB69 (a := 163) (j := 13) (by decide +kernel)
        have r136 := cS_f (d := 0) (a := 1) (j := 9) (r := 0) (p := 0) (by decide +kernel) (by decide) ehB69 rfl
        have n126 : IhB60 1 9 = gt (cR 0 IhB60) 0 := (cL_f (d := 0) (a := 1) (j := 9) (r := 0) (p := 0) (I := IhB60) (z := IhB60 1 9) (by decide +kernel) (by decide) rfl rfl)
        have S136 : okS (cR 0 IhB69) 0 := by rw [r136]; exact okS_up b126 ((cR_rng (d := 0) (i0 := 13) (i1 := 13) (m := 1) (q := 0) (lo := 0) (hi := 90) (by decide +kernel) (fBz h0 hB60) (by omega)).2) rfl (by omega)
        have a136 : okA (cR 0 IhB69) := by rw [r136]; exact okA_lo a126 (by omega)
        have n136 : IhB69 1 9 = gt (cR 0 IhB69) 0 := (cL_f (d := 0) (a := 1) (j := 9) (r := 0) (p := 0) (I := IhB69) (z := IhB69 1 9) (by decide +kernel) (by decide) rfl rfl)
        have e136 : cR 0 IhB69 = rud (sMi6 (sMi5 (sRi (cR 0 I1)))) 0 (gt (sMi6 (sMi5 (sRi (cR 0 I1)))) 0 + 1) := by rw [r136, g0z59, r119, g0z43]; exact mi_x rfl ((wr_add hz51 ez51).trans (by rw [v114]; rfl)) rfl (by rw [← v131]; omega)
        refine And.intro ⟨rfl, by decide, by decide⟩ (fgetf fb_1_9 h0 hB69 ?_)
        intro z76 lz76 uz76 qz76
        have v140 := cL_f (d := 0) (a := 1) (j := 9) (r := 0) (p := 0) (by decide +kernel) (by decide) qz76 rfl
        rw [r136, g0z59, r119, g0z43] at v140
        refine And.intro (And.intro (by first | exact fi_ lz76 uz76 rfl | omega) (And.intro (by first | exact ⟨by decide, by decide⟩ | omega) (And.intro (by first | exact by decide | omega) rfl))) ?_
        intro z77 hz77 ez77 dz77
        have dz77 := dz77 (by omega) (by omega)
        change _ = _ % _ at dz77
        refine And.intro (by omega) (And.intro ?_ ?_)
        · intro c78
          exact ⟨rfl, by omega, a136, S136.1, ((mi_n e136 n136.symm.symm (by omega)).trans (congrArg sMiE m4))⟩
        · intro c79
          refine Exists.intro xm_96 (And.intro mi_96 (And.intro ⟨rfl, rfl, rfl, rfl⟩ (And.intro rfl ?_)))
          refine fcall _ h0 (fzs_sub (by decide +kernel) hW) hB69 (ct_City_sendReports_0032f (fBz h0 hB69) (by omega)) ?_
          rintro IhB81 _ hB81 fhB81 ⟨rfl, hz80, g0z80⟩
          have t82 := fhB81 1 6 (by decide +kernel)
          have t83 := fhB81 1 9 (by decide +kernel)
          have t84 := fhB81 177 4 (by decide +kernel)
          have k85 := fBz_eq hB81 (a := 163) (j := 13) (by decide +kernel)
          have k86 := fBz_eq hB81 (a := 177) (j := 4) (by decide +kernel)
          have k87 := fBz_eq hB81 (a := 163) (j := 13) (by decide +kernel)
          exact ⟨rfl, by omega, (okA_fr cA0_ok fhB81 (by decide +kernel) a136), (by rw [g0z80]; exact (okS_nf S136 (by omega) ((cR_rng (d := 0) (i0 := 13) (i1 := 13) (m := 1) (q := 0) (lo := 0) (hi := 90) (by decide +kernel) (fBz h0 hB69) (by omega)).1) _ (by have q := (cR_rng (d := 0) (i0 := 5) (i1 := 5) (m := 1) (q := 0) (lo := 0) (hi := 20) (by decide +kernel) (fBz h0 hB69) (i := 5) (by omega)); omega)).1.1), ((g0z80).trans ((mi_y e136 n136 (by omega)).trans (congrArg sMiE m4)))⟩
      · intro c88
        refine And.intro ⟨rfl, by decide, by decide⟩ ?_
        refine Exists.intro xm_21 (And.intro mi_21 (And.intro ⟨rfl, rfl, rfl, rfl⟩ (And.intro rfl ?_)))
        refine fcallp hB1 (ct_People_isDead_edb17 (fBz h0 hB1) (by first | exact ⟨hb.1.1, Int.le_trans (Int.le_sub_one_of_lt (Int.lt_of_lt_of_le c88 uz41)) (by decide)⟩ | omega)) ?_
        rintro _ ⟨z89, rfl, hz89, g0z89⟩
        refine And.intro (by omega) (And.intro ?_ ?_)
        · intro c90
          have s75 : cR 0 I1 = sBr0 y1.toNat (cR 0 I1) := sBr0_y (u := y1) (by omega) (g0z89.elim (fun q => q.2) (fun q => absurd q.1 (by omega)))
          exact fcutJ (I := I1) (j := (jc_City_passMinute_6a7f6_75 I)) (lv' := [(0, .inr (.inr (some 1))), (1, .inl _)]) (And.intro rfl (And.intro rfl True.intro)) ⟨_, rfl, rfl, ⟨by omega, (nf_row hx0 (by omega) (by omega) s75), hx1, hx2, hx3⟩, rfl⟩ (by omega)
        · intro c91
          refine Exists.intro xm_91 (And.intro mi_91 (And.intro ⟨rfl, rfl, rfl, rfl⟩ (And.intro rfl ?_)))
          refine fcall _ h0 (fzs_sub (by decide +kernel) hW) hB1 (ct_City_breathe_98bcc (fBz h0 hB1) (by first | exact ⟨hb.1.1, Int.le_trans (Int.le_sub_one_of_lt (Int.lt_of_lt_of_le c88 uz41)) (by decide)⟩ | omega)) ?_
          rintro IhB93 _ hB93 fhB93 ⟨rfl, hz92, g0z92⟩
          have t94 := fhB93 1 9 (by decide +kernel)
          have t95 := fhB93 177 4 (by decide +kernel)
          have k96 := fBz_eq hB93 (a := 163) (j := 13) (by decide +kernel)
          have k97 := fBz_eq hB93 (a := 177) (j := 4) (by decide +kernel)
          have k98 := fBz_eq hB93 (a := 163) (j := 13) (by decide +kernel)
          have s75 : cR 0 IhB93 = sBr0 y1.toNat (cR 0 I1) := (g0z92).trans (sBr0_n (u := y1) (by omega) (g0z89.elim (fun q => absurd q.1 (by omega)) (fun q => q.2)))
          exact fcutJ (I := IhB93) (j := (jc_City_passMinute_6a7f6_75 I)) (lv' := [(0, .inr (.inr (some 1))), (1, .inl _)]) (And.intro rfl (And.intro rfl True.intro)) ⟨_, rfl, rfl, ⟨by omega, (nf_row hx0 (by omega) (by omega) s75), (okA_fr cA0_ok fhB93 (by decide +kernel) hx1), (okB_fr cB0_ok fhB93 (by decide +kernel) ((cR_rng (d := 0) (i0 := 13) (i1 := 13) (m := 1) (q := 0) (lo := 0) (hi := 90) (by decide +kernel) (fBz h0 hB1) (by omega)).2) hx2), hx3⟩, rfl⟩ (by omega)
  · have hB0 := fB_self (zn := znJ) (K := fKc wz_c5d03) h0
    have b99 := fBd fb_163_13 (fBz h0 hB0)
    have b100 := fBd fb_177_4 (fBz h0 hB0)
    refine And.intro ⟨rfl, by decide, by decide⟩ ?_
    refine And.intro ⟨rfl, by decide, by decide⟩ (fgetf fb_1_9 h0 hB0 ?_)
    intro z101 lz101 uz101 qz101
    have v5 := cL_f (d := 0) (a := 1) (j := 9) (r := 0) (p := 0) (by decide +kernel) (by decide) qz101 rfl
    refine Exists.intro xm_74 (And.intro mi_74 (And.intro ⟨rfl, rfl, rfl, rfl⟩ (And.intro rfl ?_)))
    refine fcall _ h0 (fzs_sub (by decide +kernel) hW) hB0 (ct_Cells_takeReports_b5cfd (fBz h0 hB0) (by first | exact ⟨lz101, uz101⟩ | omega) (gt_at v5 (by omega)) hp1) ?_
    rintro IhB103 _ hB103 fhB103 ⟨rfl, hz102, g0z102⟩
    have t104 := fhB103 1 9 (by decide +kernel)
    have k105 := fBz_eq hB103 (a := 163) (j := 13) (by decide +kernel)
    have k106 := fBz_eq hB103 (a := 177) (j := 4) (by decide +kernel)
    have k107 := fBz_eq hB103 (a := 163) (j := 13) (by decide +kernel)
    have w7 : I 163 13 = gt (cR 0 I) 7 := (cL_f (d := 0) (a := 163) (j := 13) (r := 7) (p := 7) (I := I) (z := I 163 13) (by decide +kernel) (by decide) rfl rfl)
    exact fcutJ (I := IhB103) (j := (jc_City_passMinute_6a7f6_13 I)) (lv' := [(0, .inr (.inr (some 1))), (1, .inl _)]) (And.intro rfl (And.intro rfl True.intro)) ⟨_, rfl, rfl, ⟨by omega, g0z102, (okA_fr cA0_ok fhB103 (by decide +kernel) hp0), (by rw [g0z102]; exact (okB_come hp1 ((cR_rng (d := 0) (i0 := 13) (i1 := 13) (m := 1) (q := 0) (lo := 0) (hi := 90) (by decide +kernel) h0 (by omega)).1)).1), (((okB_come hp1 ((cR_rng (d := 0) (i0 := 13) (i1 := 13) (m := 1) (q := 0) (lo := 0) (hi := 90) (by decide +kernel) h0 (by omega)).1)).2 7 (by omega) (by omega) (by omega)).trans w7.symm)⟩, rfl⟩ (by omega)
abbrev jc_X_run_f9fd1_33 (x1 : Int) (I0 : fH) : Nat → fL → List fV → fH → Prop := fun m lv st I => ∃ (y1 : Int) (y2 : Int), lv = [(0, .inr (.inr (some 0))), (1, .inl y1), (2, .inl y2)] ∧ st = [] ∧ (((1 ≤ y1 ∧ y1 ≤ 120) ∧ (0 ≤ y2 ∧ y2 ≤ 120) ∧ (I 1 9 = I0 1 9 + y2) ∧ (I0 1 9 + y1 ≤ 20000) ∧ (0 ≤ I0 1 9) ∧ (y2 ≤ y1) ∧ (y1 = x1) ∧ (1 ≤ x1) ∧ (x1 ≤ 120)) ∧ (cR 0 I = nMin (cR 0 I0) y2.toNat) ∧ (okA (cR 0 I)) ∧ (okB (cR 0 I))) ∧ m = (1 + 1 * (120 - y2) : Int).toNat
set_option maxRecDepth 8000 in
theorem ct_X_run_f9fd1 {I : fH} {x1 : Int} (h0 : fB bsJ I) (ha1 : ((-2147483648) ≤ x1 ∧ x1 ≤ 2147483647)) (hp0 : 0 ≤ I 1 9 ∧ I 1 9 ≤ 20000) (hp1 : okA (cR 0 I)) (hp2 : okB (cR 0 I)) : fC ρ base n F xTc vwCl xTys D dA la gJ (fbz bsJ znJ (fKc wz_c5d03) I) xm_72 [.inr (.inr (some 0)), .inl x1] I (fun I' r => ∃ z, r = some (.inl z) ∧ (((-2147483648) ≤ z ∧ z ≤ 2147483647) ∧ ((1 ≤ x1 ∧ x1 ≤ 120 ∧ I 1 9 + x1 ≤ 20000 → z = I 1 9 + x1 ∧ I' 1 9 = I 1 9 + x1) ∧ (1 ≤ x1 ∧ x1 ≤ 120 ∧ 20000 < I 1 9 + x1 → z = (-1000000003) ∧ I' 1 9 = I 1 9) ∧ (¬ (1 ≤ x1 ∧ x1 ≤ 120) → z = (-1000000001) ∧ I' 1 9 = I 1 9))) ∧ (okA (cR 0 I')) ∧ (okB (cR 0 I')) ∧ (((1 ≤ x1 ∧ x1 ≤ 120 ∧ I 1 9 + x1 ≤ 20000) ∧ cR 0 I' = nMin (cR 0 I) x1.toNat) ∨ (¬ (1 ≤ x1 ∧ x1 ≤ 120 ∧ I 1 9 + x1 ≤ 20000) ∧ cR 0 I' = cR 0 I))) := by
  have hW : fzs wz_c5d03 (fKc wz_c5d03) := fKc_ok _
  refine f_meth (rb := rbJ) (J := [(33, (jc_X_run_f9fd1_33 x1 I))]) 122 400 xG xin_72 x6_72 okJ (fB_self h0) ?_ ?_
  · refine List.forall_mem_cons.mpr ⟨?_, fun q h => absurd h List.not_mem_nil⟩
    · rintro m _ _ I1 hB1 ⟨y1, y2, rfl, rfl, ⟨hb, hx0, hx1, hx2⟩, hm⟩
      refine And.intro (And.intro (by first | exact fi_ hb.2.1.1 hb.2.1.2 rfl | omega) (by first | exact fi_ hb.1.1 hb.1.2 rfl | omega)) (And.intro ?_ ?_)
      · intro c1
        refine And.intro ⟨rfl, by decide, by decide⟩ ?_
        refine And.intro ⟨rfl, by decide, by decide⟩ (fgetf fb_1_9 h0 hB1 ?_)
        intro z2 lz2 uz2 qz2
        refine And.intro (True.intro) ?_
        exact ⟨_, rfl, by omega, hx1, hx2, (Or.inl ⟨by omega, by have q := hx0; rw [show y2 = x1 by omega] at q; exact q⟩)⟩
      · intro c3
        refine And.intro ⟨rfl, by decide, by decide⟩ ?_
        refine Exists.intro xm_73 (And.intro mi_73 (And.intro ⟨rfl, rfl, rfl, rfl⟩ (And.intro rfl ?_)))
        refine fcall _ h0 (fzs_sub (by decide +kernel) hW) hB1 (ct_City_passMinute_6a7f6 (fBz h0 hB1) hx1 hx2 (by have q : I1 1 9 = gt (cR 0 I1) 0 := (cL_f (d := 0) (a := 1) (j := 9) (r := 0) (p := 0) (I := I1) (z := I1 1 9) (by decide +kernel) (by decide) rfl rfl); omega)) ?_
        rintro IhB5 _ hB5 fhB5 ⟨rfl, hz4, g0z4, g1z4, g2z4⟩
        exact fcutJ (I := IhB5) (j := (jc_X_run_f9fd1_33 x1 I)) (lv' := [(0, .inr (.inr (some 0))), (1, .inl _), (2, .inl _)]) (And.intro rfl (And.intro rfl (And.intro rfl True.intro))) ⟨_, _, rfl, rfl, ⟨by omega, (nMin_S hx0 (by omega) (by omega) g2z4), g0z4, g1z4⟩, rfl⟩ (by omega)
  · have hB0 := fB_self (zn := znJ) (K := fKc wz_c5d03) h0
    refine Exists.intro xm_13 (And.intro mi_13 (And.intro ⟨rfl, rfl, rfl, rfl⟩ (And.intro True.intro ?_)))
    refine fcallp hB0 (ct_X_within_c27b1 (fBz h0 hB0) (by first | exact ⟨ha1.1, ha1.2⟩ | omega) (by first | exact ⟨by decide, by decide⟩ | omega) (by first | exact ⟨by decide, by decide⟩ | omega)) ?_
    rintro _ ⟨z6, rfl, hz6⟩
    refine And.intro (by omega) (And.intro ?_ ?_)
    · intro c7
      refine And.intro ⟨rfl, by decide, by decide⟩ ?_
      refine And.intro ⟨rfl, by decide, by decide⟩ (fgetf fb_1_9 h0 hB0 ?_)
      intro z8 lz8 uz8 qz8
      intro z9 hz9 ez9 bz9
      clear ez9
      try replace bz9 := bz9 (by omega)
      refine And.intro (by omega) (And.intro ?_ ?_)
      · intro c10
        exact fcutJ (I := I) (j := (jc_X_run_f9fd1_33 x1 I)) (lv' := [(0, .inr (.inr (some 0))), (1, .inl _), (2, .inl _)]) (And.intro rfl (And.intro rfl (And.intro rfl True.intro))) ⟨_, _, rfl, rfl, ⟨by omega, rfl, hp1, hp2⟩, rfl⟩ (by omega)
      · intro c11
        refine And.intro (True.intro) ?_
        exact ⟨_, rfl, by omega, hp1, hp2, (Or.inr ⟨by omega, rfl⟩)⟩
    · intro c12
      refine And.intro (True.intro) ?_
      exact ⟨_, rfl, by omega, hp1, hp2, (Or.inr ⟨by omega, rfl⟩)⟩
abbrev jc_M_hasWatch_bb889_4 (x1 : Int) (I0 : fH) : Nat → fL → List fV → fH → Prop := fun m lv st I => ∃ (y1 : Int) (y2 : Int) (y3 : Int), lv = [(0, .inr (.inr (some 740))), (1, .inl y1), (2, .inl y2), (3, .inl y3)] ∧ st = [] ∧ (((0 ≤ y1 ∧ y1 ≤ 19) ∧ (0 ≤ y2 ∧ y2 ≤ 1) ∧ (0 ≤ y3 ∧ y3 ≤ 24) ∧ (y3 ≤ I0 741 8) ∧ (y1 = x1)) ∧ (anU (wt1 (mR I0) x1) y3 y2)) ∧ m = (1 + 1 * (24 - y3) : Int).toNat
set_option maxRecDepth 8000 in
theorem ct_M_hasWatch_bb889 {I : fH} {x1 : Int} (h0 : fB bsJ I) (ha1 : (0 ≤ x1 ∧ x1 ≤ 19)) : fC ρ base n F xTc vwCl xTys D dA la gJ (fbz bsJ znJ (fKc []) I) xm_304 [.inr (.inr (some 740)), .inl x1] I (fun _ r => ∃ z, r = some (.inl z) ∧ (0 ≤ z ∧ z ≤ 1) ∧ ((z = 1 ∧ sWat (mR I) x1) ∨ (z = 0 ∧ ¬ sWat (mR I) x1))) := by
  have hW : fzs [] (fKc []) := fKc_ok _
  refine f_meth (rb := rbJ) (J := [(4, (jc_M_hasWatch_bb889_4 x1 I))]) 26 400 xG xin_304 x6_304 okJ (fB_self h0) ?_ ?_
  · refine List.forall_mem_cons.mpr ⟨?_, fun q h => absurd h List.not_mem_nil⟩
    · rintro m _ _ I1 hB1 ⟨y1, y2, y3, rfl, rfl, ⟨hb, hx0⟩, hm⟩
      have eJ : I1 = I := fFr_nil (fFr_of hB1)
      have k1 := fBz_eq hB1 (a := 741) (j := 8) (by decide +kernel)
      have b2 := fBd fb_741_8 (fBz h0 hB1)
      refine And.intro ⟨rfl, by decide, by decide⟩ ?_
      refine fload1 rL_741_741_8_8_1_0 h0 hB1 ⟨by decide, by decide⟩ (by first | exact ⟨by decide, by decide⟩ | omega) ?_
      intro z3 lz3 uz3 qz3
      have pz3 := fld_at qz3 8 (by omega)
      have v11 := mL_r (i0 := 8) (i1 := 8) (m := 1) (q := 0) (by decide +kernel) qz3 (by omega) rfl
      rw [eJ] at v11
      have w11 : z3 = gt (mR I) 8 := gt_at v11 (by omega)
      refine And.intro (And.intro (by first | exact fi_ hb.2.2.1.1 hb.2.2.1.2 rfl | omega) (by first | exact fi_ lz3 uz3 rfl | omega)) (And.intro ?_ ?_)
      · intro c4
        refine And.intro (⟨by omega, by omega⟩) ?_
        exact ⟨_, rfl, (by first | exact ⟨hb.2.1.1, hb.2.1.2⟩ | omega), (wt_end hx0 (by omega))⟩
      · intro c5
        refine And.intro (by first | exact fi_ hb.2.1.1 hb.2.1.2 rfl | omega) (And.intro ?_ ?_)
        · intro c6
          exact fcutJ (I := I1) (j := (jc_M_hasWatch_bb889_4 x1 I)) (lv' := [(0, .inr (.inr (some 740))), (1, .inl _), (2, .inl _), (3, .inl _)]) (And.intro rfl (And.intro rfl (And.intro rfl (And.intro rfl True.intro)))) ⟨_, _, _, rfl, rfl, ⟨by omega, (anU_was hx0 (by omega) (by omega) rfl)⟩, rfl⟩ (by omega)
        · intro c7
          refine And.intro ⟨rfl, by decide, by decide⟩ ?_
          refine Exists.intro xm_247 (And.intro mi_247 (And.intro ⟨rfl, rfl, rfl, rfl⟩ (And.intro rfl ?_)))
          refine fcallp hB1 (ct_M_personAt_9b331 (fBz h0 hB1) (by first | exact ⟨hb.2.2.1.1, Int.le_trans (Int.le_sub_one_of_lt (Int.lt_of_lt_of_le c5 uz3)) (by decide)⟩ | omega)) ?_
          rintro _ ⟨_, rfl, rfl⟩
          refine fload rL_741_741_871_1009_6_0 h0 hB1 (by omega) ?_
          intro z9 lz9 uz9 qz9
          have v30 := mL_r (i0 := 871) (i1 := 1009) (m := 6) (q := 0) (by decide +kernel) qz9 (by omega) rfl
          rw [eJ] at v30
          refine And.intro (And.intro (by first | exact fi_ lz9 uz9 rfl | omega) (by first | exact ⟨by decide, by decide⟩ | omega)) (And.intro ?_ ?_)
          · intro c10
            exact fcutJ (I := I1) (j := (jc_M_hasWatch_bb889_4 x1 I)) (lv' := [(0, .inr (.inr (some 740))), (1, .inl _), (2, .inl _), (3, .inl _)]) (And.intro rfl (And.intro rfl (And.intro rfl (And.intro rfl True.intro)))) ⟨_, _, _, rfl, rfl, ⟨by omega, (anU_no hx0 (by omega) (by omega) (by omega) (wt1_a (u := y3) (by omega) v30 (Or.inr ⟨by omega, by omega⟩)))⟩, rfl⟩ (by omega)
          · intro c11
            refine And.intro ⟨rfl, by decide, by decide⟩ ?_
            refine Exists.intro xm_247 (And.intro mi_247 (And.intro ⟨rfl, rfl, rfl, rfl⟩ (And.intro rfl ?_)))
            refine fcallp hB1 (ct_M_personAt_9b331 (fBz h0 hB1) (by first | exact ⟨hb.2.2.1.1, Int.le_trans (Int.le_sub_one_of_lt (Int.lt_of_lt_of_le c5 uz3)) (by decide)⟩ | omega)) ?_
            rintro _ ⟨_, rfl, rfl⟩
            refine fload rL_741_741_872_1010_6_0 h0 hB1 (by omega) ?_
            intro z13 lz13 uz13 qz13
            have v46 := mL_r (i0 := 872) (i1 := 1010) (m := 6) (q := 0) (by decide +kernel) qz13 (by omega) rfl
            rw [eJ] at v46
            refine And.intro (And.intro (by first | exact fi_ lz13 uz13 rfl | omega) (by first | exact fi_ hb.1.1 hb.1.2 rfl | omega)) (And.intro ?_ ?_)
            · intro c14
              exact fcutJ (I := I1) (j := (jc_M_hasWatch_bb889_4 x1 I)) (lv' := [(0, .inr (.inr (some 740))), (1, .inl _), (2, .inl _), (3, .inl _)]) (And.intro rfl (And.intro rfl (And.intro rfl (And.intro rfl True.intro)))) ⟨_, _, _, rfl, rfl, ⟨by omega, (anU_no hx0 (by omega) (by omega) (by omega) (wt1_a (u := y3) (by omega) v46 (Or.inl ⟨by omega, by omega⟩)))⟩, rfl⟩ (by omega)
            · intro c15
              refine Exists.intro xm_248 (And.intro mi_248 (And.intro ⟨rfl, rfl, rfl, rfl⟩ (And.intro rfl ?_)))
              refine fcallp hB1 (ct_M_isDead_21e1a (fBz h0 hB1) (by first | exact ⟨hb.2.2.1.1, Int.le_trans (Int.le_sub_one_of_lt (Int.lt_of_lt_of_le c5 uz3)) (by decide)⟩ | omega)) ?_
              rintro _ ⟨z16, rfl, hz16, g0z16⟩
              try rw [eJ] at g0z16
              refine And.intro (by omega) (And.intro ?_ ?_)
              · intro c17
                exact fcutJ (I := I1) (j := (jc_M_hasWatch_bb889_4 x1 I)) (lv' := [(0, .inr (.inr (some 740))), (1, .inl _), (2, .inl _), (3, .inl _)]) (And.intro rfl (And.intro rfl (And.intro rfl (And.intro rfl True.intro)))) ⟨_, _, _, rfl, rfl, ⟨by omega, (anU_no hx0 (by omega) (by omega) (by omega) (wt1_d (u := y3) (by omega) (g0z16.elim (fun q => q.2) (fun q => absurd q.1 (by omega)))))⟩, rfl⟩ (by omega)
              · intro c18
                exact fcutJ (I := I1) (j := (jc_M_hasWatch_bb889_4 x1 I)) (lv' := [(0, .inr (.inr (some 740))), (1, .inl _), (2, .inl _), (3, .inl _)]) (And.intro rfl (And.intro rfl (And.intro rfl (And.intro rfl True.intro)))) ⟨_, _, _, rfl, rfl, ⟨by omega, (anU_yes (y := y3) (by omega) (by omega) rfl (wt1_of (u := y3) (by omega) v30 (by omega) (by omega) v46 (by omega) (by omega) (g0z16.elim (fun q => absurd q.1 (by omega)) (fun q => q.2))))⟩, rfl⟩ (by omega)
  · have hB0 := fB_self (zn := znJ) (K := fKc []) h0
    have b19 := fBd fb_741_8 (fBz h0 hB0)
    exact fcutJ (I := I) (j := (jc_M_hasWatch_bb889_4 x1 I)) (lv' := [(0, .inr (.inr (some 740))), (1, .inl _), (2, .inl _), (3, .inl _)]) (And.intro rfl (And.intro rfl (And.intro rfl (And.intro rfl True.intro)))) ⟨_, _, _, rfl, rfl, ⟨by omega, (anU_0 (by omega) rfl)⟩, rfl⟩ (by omega)
abbrev jc_M_knows_34678_25 (x1 : Int) (x2 : Int) (x3 : Int) (I0 : fH) : Nat → fL → List fV → fH → Prop := fun m lv st I => ∃ (y2 : Int) (y3 : Int) (y4 : Int) (y5 : Int), lv = [(0, .inr (.inr (some 740))), (2, .inl y2), (3, .inl y3), (4, .inl y4), (5, .inl y5)] ∧ st = [] ∧ (((31 ≤ y2 ∧ y2 ≤ 4323) ∧ ((-2147483648) ≤ y3 ∧ y3 ≤ 2147483647) ∧ ((30 ≤ y4 ∧ y4 ≤ 410) ∧ (y4 - 30) % 20 ≤ 0) ∧ (0 ≤ y5 ∧ y5 ≤ 5) ∧ (y4 = 30 + 20 * x1) ∧ (y2 = x2) ∧ (y3 = x3)) ∧ (mR I = cpy (mR I0) (42 + 20 * x1) (fun k : Nat => gt (mR I0) (x2 + (k : Int))) y5.toNat) ∧ (¬ x3 < gt (mR I0) (47 + 20 * x1))) ∧ m = (1 + 1 * (5 - y5) : Int).toNat
set_option maxRecDepth 8000 in
theorem ct_M_knows_34678 {I : fH} {x1 : Int} {x2 : Int} {x3 : Int} (h0 : fB bsJ I) (ha1 : (0 ≤ x1 ∧ x1 ≤ 19)) (ha2 : (31 ≤ x2 ∧ x2 ≤ 4323)) (ha3 : ((-2147483648) ≤ x3 ∧ x3 ≤ 2147483647)) (hp0 : (31 ≤ x2 ∧ x2 ≤ 411 ∧ (x2 - 31) % 20 = 0) ∨ 3611 ≤ x2) : fC ρ base n F xTc vwCl xTys D dA la gJ (fbz bsJ znJ (fKc wz_3cf37) I) xm_287 [.inr (.inr (some 740)), .inl x1, .inl x2, .inl x3] I (fun I' r => r = none ∧ True ∧ (mR I' = sKn1 (mR I) x1 (fun k : Nat => gt (mR I) (x2 + (k : Int))) x3)) := by
  have hW : fzs wz_3cf37 (fKc wz_3cf37) := fKc_ok _
  refine f_meth (rb := rbJ) (J := [(25, (jc_M_knows_34678_25 x1 x2 x3 I))]) 7 400 xG xin_287 x6_287 okJ (fB_self h0) ?_ ?_
  · refine List.forall_mem_cons.mpr ⟨?_, fun q h => absurd h List.not_mem_nil⟩
    · rintro m _ _ I1 hB1 ⟨y2, y3, y4, y5, rfl, rfl, ⟨hb, hx0, hx1⟩, hm⟩
      refine And.intro (And.intro (by first | exact fi_ hb.2.2.2.1.1 hb.2.2.2.1.2 rfl | omega) (by first | exact ⟨by decide, by decide⟩ | omega)) (And.intro ?_ ?_)
      · intro c1
        refine And.intro ⟨rfl, by decide, by decide⟩ ?_
        refine fstore rS_741_741_47_427_20_0 (fzs_sub (by decide +kernel) hW) (by omega) (by first | exact ⟨hb.2.1.1, hb.2.1.2⟩ | omega) ?_
        intro IhB2 ehB2 hB2
        have t3 := fup_self ehB2
        have r69 := mS_r (i0 := 47) (i1 := 427) (m := 20) (q := 0) (by decide +kernel) ehB2 (by omega) rfl
        exact ⟨rfl, True.intro, (by rw [r69]; exact ((kn_end hx0 (by omega) (by omega) (by omega)).trans (sKn1_y hx1)))⟩
      · intro c4
        refine And.intro ⟨rfl, by decide, by decide⟩ ?_
        refine And.intro ⟨rfl, by decide, by decide⟩ ?_
        refine fload rL_741_741_31_4327_1_0 h0 hB1 (by omega) ?_
        intro z5 lz5 uz5 qz5
        have v51 := mL_cov (kn_cov (by omega)) qz5
        refine fstore rS_741_741_42_426_20_4 (fzs_sub (by decide +kernel) hW) (by omega) (by first | exact ⟨lz5, uz5⟩ | omega) ?_
        intro IhB6 ehB6 hB6
        have t7 := fup_self ehB6
        have r52 := mS_r (i0 := 42) (i1 := 426) (m := 20) (q := 4) (by decide +kernel) ehB6 (by omega) rfl
        exact fcutJ (I := IhB6) (j := (jc_M_knows_34678_25 x1 x2 x3 I)) (lv' := [(0, .inr (.inr (some 740))), (2, .inl _), (3, .inl _), (4, .inl _), (5, .inl _)]) (And.intro rfl (And.intro rfl (And.intro rfl (And.intro rfl (And.intro rfl True.intro))))) ⟨_, _, _, _, rfl, rfl, ⟨by omega, (by rw [r52]; exact (cpy_go (a := x2) hx0 (by omega) (by omega) (by omega) v51 (by omega) (by omega) (by omega) (fun _ => rfl) (by omega) (by omega))), hx1⟩, rfl⟩ (by omega)
  · have hB0 := fB_self (zn := znJ) (K := fKc wz_3cf37) h0
    refine Exists.intro xm_239 (And.intro mi_239 (And.intro ⟨rfl, rfl, rfl, rfl⟩ (And.intro rfl ?_)))
    refine fcallp hB0 (ct_M_cellAt_c15f4 (fBz h0 hB0) (by first | exact ⟨ha1.1, ha1.2⟩ | omega)) ?_
    rintro _ ⟨_, rfl, rfl⟩
    refine And.intro ⟨rfl, by decide, by decide⟩ ?_
    refine fload rL_741_741_47_427_20_0 h0 hB0 (by omega) ?_
    intro z9 lz9 uz9 qz9
    have v17 := mL_r (i0 := 47) (i1 := 427) (m := 20) (q := 0) (by decide +kernel) qz9 (by omega) rfl
    have w17 : z9 = gt (mR I) (47 + 20 * x1) := gt_at v17 (by omega)
    refine And.intro (And.intro (by first | exact fi_ ha3.1 ha3.2 rfl | omega) (by first | exact fi_ lz9 uz9 rfl | omega)) (And.intro ?_ ?_)
    · intro c10
      exact fcutJ (I := I) (j := (jc_M_knows_34678_25 x1 x2 x3 I)) (lv' := [(0, .inr (.inr (some 740))), (2, .inl _), (3, .inl _), (4, .inl _), (5, .inl _)]) (And.intro rfl (And.intro rfl (And.intro rfl (And.intro rfl (And.intro rfl True.intro))))) ⟨_, _, _, _, rfl, rfl, ⟨by omega, cpy_0.symm, (by omega)⟩, rfl⟩ (by omega)
    · intro c11
      exact ⟨rfl, True.intro, (sKn1_n v17 (by omega) (by omega))⟩
abbrev jc_M_sends_ddcd7_2 (I0 : fH) : Nat → fL → List fV → fH → Prop := fun m lv st I => ∃ (y1 : Int), lv = [(0, .inr (.inr (some 740))), (1, .inl y1)] ∧ st = [] ∧ (((0 ≤ y1 ∧ y1 ≤ 20) ∧ (y1 ≤ I0 741 5)) ∧ (mR I = nf sSe (mR I0) y1.toNat)) ∧ m = (7 + 7 * (20 - y1) : Int).toNat
abbrev jc_M_sends_ddcd7_89 (I0 : fH) : Nat → fL → List fV → fH → Prop := fun m lv st I => ∃ (y1 : Int) (y2 : Int) (y3 : Int), lv = [(0, .inr (.inr (some 740))), (1, .inl y1), (2, .inl y2), (3, .inl y3)] ∧ st = [] ∧ (((0 ≤ y1 ∧ y1 ≤ 19) ∧ ((3610 ≤ y2 ∧ y2 ≤ 4322) ∧ (y2 - 3610) % 8 ≤ 0) ∧ (0 ≤ y3 ∧ y3 ≤ 5) ∧ (1 ≤ I 741 4 ∧ I 741 4 ≤ 99) ∧ (1 ≤ I 741 5 ∧ I 741 5 ≤ 20) ∧ (0 ≤ I 741 13 ∧ I 741 13 ≤ 89) ∧ (y1 + 1 ≤ I0 741 5)) ∧ (mR I = cpy (rud (nf sSe (mR I0) y1.toNat) (3610 + 8 * gt (nf sSe (mR I0) y1.toNat) 13) y1) (3611 + 8 * gt (nf sSe (mR I0) y1.toNat) 13) (fun k : Nat => gt (nf sSe (mR I0) y1.toNat) (31 + 20 * y1 + (k : Int))) y3.toNat) ∧ (y2 = 3610 + 8 * gt (nf sSe (mR I0) y1.toNat) 13 ∧ (0 ≤ gt (nf sSe (mR I0) y1.toNat) 13 ∧ gt (nf sSe (mR I0) y1.toNat) 13 < 90) ∧ gt (nf sSe (mR I0) y1.toNat) 4 ≠ 0) ∧ (sWat (nf sSe (mR I0) y1.toNat) y1)) ∧ m = (1 + 7 * (20 - y1) + 1 * (5 - y3) : Int).toNat
set_option maxRecDepth 8000 in
theorem ct_M_sends_ddcd7 {I : fH}  (h0 : fB bsJ I) (hp0 : okS (mR I) 0) (hp1 : 0 ≤ gt (mR I) 0) : fC ρ base n F xTc vwCl xTys D dA la gJ (fbz bsJ znJ (fKc wz_24e16) I) xm_303 [.inr (.inr (some 740))] I (fun I' r => r = none ∧ True ∧ (mR I' = nf sSe (mR I) (gt (mR I) 5).toNat)) := by
  have hW : fzs wz_24e16 (fKc wz_24e16) := fKc_ok _
  refine f_meth (rb := rbJ) (J := [(2, (jc_M_sends_ddcd7_2 I)), (89, (jc_M_sends_ddcd7_89 I))]) 148 400 xG xin_303 x6_303 okJ (fB_self h0) ?_ ?_
  · refine List.forall_mem_cons.mpr ⟨?_, List.forall_mem_cons.mpr ⟨?_, fun q h => absurd h List.not_mem_nil⟩⟩
    · rintro m _ _ I1 hB1 ⟨y1, rfl, rfl, ⟨hb, hx0⟩, hm⟩
      have k1 := fBz_eq hB1 (a := 741) (j := 5) (by decide +kernel)
      have b2 := fBd fb_741_5 (fBz h0 hB1)
      refine And.intro ⟨rfl, by decide, by decide⟩ ?_
      refine fload1 rL_741_741_5_5_1_0 h0 hB1 ⟨by decide, by decide⟩ (by first | exact ⟨by decide, by decide⟩ | omega) ?_
      intro z3 lz3 uz3 qz3
      have pz3 := fld_at qz3 5 (by omega)
      have v8 := mL_r (i0 := 5) (i1 := 5) (m := 1) (q := 0) (by decide +kernel) qz3 (by omega) rfl
      refine And.intro (And.intro (by first | exact fi_ hb.1.1 hb.1.2 rfl | omega) (by first | exact fi_ lz3 uz3 rfl | omega)) (And.intro ?_ ?_)
      · intro c4
        have w5 := (show I 741 5 = gt (mR I) 5 from (mR_ld (I := I) (k := 5) (by decide +kernel)).symm)
        exact ⟨rfl, True.intro, (nf_end hx0 (by omega))⟩
      · intro c5
        refine Exists.intro xm_304 (And.intro mi_304 (And.intro ⟨rfl, rfl, rfl, rfl⟩ (And.intro rfl ?_)))
        refine fcallp hB1 (ct_M_hasWatch_bb889 (fBz h0 hB1) (by first | exact ⟨hb.1.1, Int.le_trans (Int.le_sub_one_of_lt (Int.lt_of_lt_of_le c5 uz3)) (by decide)⟩ | omega)) ?_
        rintro _ ⟨z6, rfl, hz6, g0z6⟩
        refine And.intro (by omega) (And.intro ?_ ?_)
        · intro c7
          refine And.intro ⟨rfl, by decide, by decide⟩ ?_
          refine fload1 rL_741_741_4_4_1_0 h0 hB1 ⟨by decide, by decide⟩ (by first | exact ⟨by decide, by decide⟩ | omega) ?_
          intro z8 lz8 uz8 qz8
          have pz8 := fld_at qz8 4 (by omega)
          have v28 := mL_r (i0 := 4) (i1 := 4) (m := 1) (q := 0) (by decide +kernel) qz8 (by omega) rfl
          have w28 : z8 = gt (nf sSe (mR I) y1.toNat) 4 := (gt_at v28 (show _ = (4 : Int) by omega)).trans (by rw [hx0])
          refine And.intro (by first | exact fi_ lz8 uz8 rfl | omega) (And.intro ?_ ?_)
          · intro c9
            refine And.intro ⟨rfl, by decide, by decide⟩ ?_
            refine fload1 rL_741_741_13_13_1_0 h0 hB1 ⟨by decide, by decide⟩ (by first | exact ⟨by decide, by decide⟩ | omega) ?_
            intro z10 lz10 uz10 qz10
            have pz10 := fld_at qz10 13 (by omega)
            have v59 := mL_r (i0 := 13) (i1 := 13) (m := 1) (q := 0) (by decide +kernel) qz10 (by omega) rfl
            have w59 : z10 = gt (nf sSe (mR I) y1.toNat) 13 := (gt_at v59 (show _ = (13 : Int) by omega)).trans (by rw [hx0])
            refine And.intro (And.intro (by first | exact fi_ lz10 uz10 rfl | omega) (by first | exact ⟨by decide, by decide⟩ | omega)) (And.intro ?_ ?_)
            · intro c11
              exact fcutJ (I := I1) (j := (jc_M_sends_ddcd7_2 I)) (lv' := [(0, .inr (.inr (some 740))), (1, .inl _)]) (And.intro rfl (And.intro rfl True.intro)) ⟨_, rfl, rfl, ⟨by omega, (nf_row hx0 (by omega) (by omega) (sSe_y (u := y1) (by omega) (g0z6.elim (fun q => q.2) (fun q => absurd q.1 (by omega))) (se_f v28 (by omega) (by omega) v59 (by omega) (by omega))))⟩, rfl⟩ (by omega)
            · intro c12
              refine And.intro ⟨rfl, by decide, by decide⟩ ?_
              refine fload1 rL_741_741_13_13_1_0 h0 hB1 ⟨by decide, by decide⟩ (by first | exact ⟨by decide, by decide⟩ | omega) ?_
              intro z13 lz13 uz13 qz13
              have pz13 := fld_at qz13 13 (by omega)
              have v76 := mL_r (i0 := 13) (i1 := 13) (m := 1) (q := 0) (by decide +kernel) qz13 (by omega) rfl
              have w76 : z13 = gt (nf sSe (mR I) y1.toNat) 13 := (gt_at v76 (show _ = (13 : Int) by omega)).trans (by rw [hx0])
              refine And.intro ⟨rfl, by decide, by decide⟩ ?_
              refine fstore rS_741_741_3610_4322_8_0 (fzs_sub (by decide +kernel) hW) (by omega) (by first | exact ⟨hb.1.1, Int.le_trans (Int.le_sub_one_of_lt (Int.lt_of_lt_of_le c5 uz3)) (by decide)⟩ | omega) ?_
              intro IhB14 ehB14 hB14
              have t15 := fup_self ehB14
              have t16 : IhB14 741 4 = I1 741 4 := (congrFun (congrFun ehB14 741) 4).trans (fup_ne (by first | exact Or.inl (by decide) | omega))
              have t17 : IhB14 741 5 = I1 741 5 := (congrFun (congrFun ehB14 741) 5).trans (fup_ne (by first | exact Or.inl (by decide) | omega))
              have t18 : IhB14 741 13 = I1 741 13 := (congrFun (congrFun ehB14 741) 13).trans (fup_ne (by first | exact Or.inl (by decide) | omega))
              have k19 := fBz_eq hB14 (a := 741) (j := 5) (by decide +kernel)
              have r86 := mS_r (i0 := 3610) (i1 := 4322) (m := 8) (q := 0) (by decide +kernel) ehB14 (by omega) rfl
              exact fcutJ (I := IhB14) (j := (jc_M_sends_ddcd7_89 I)) (lv' := [(0, .inr (.inr (some 740))), (1, .inl _), (2, .inl _), (3, .inl _)]) (And.intro rfl (And.intro rfl (And.intro rfl (And.intro rfl True.intro)))) ⟨_, _, _, rfl, rfl, ⟨by omega, (by rw [r86]; exact (se_1 hx0 (by omega) rfl)), ⟨by omega, ⟨by omega, by omega⟩, by omega⟩, (by rw [← hx0]; exact (g0z6.elim (fun q => q.2) (fun q => absurd q.1 (by omega))))⟩, rfl⟩ (by omega)
          · intro c20
            refine Exists.intro xm_239 (And.intro mi_239 (And.intro ⟨rfl, rfl, rfl, rfl⟩ (And.intro rfl ?_)))
            refine fcallp hB1 (ct_M_cellAt_c15f4 (fBz h0 hB1) (by first | exact ⟨hb.1.1, Int.le_trans (Int.le_sub_one_of_lt (Int.lt_of_lt_of_le c5 uz3)) (by decide)⟩ | omega)) ?_
            rintro _ ⟨_, rfl, rfl⟩
            refine And.intro ⟨rfl, by decide, by decide⟩ ?_
            refine fload1 rL_741_741_0_0_1_0 h0 hB1 ⟨by decide, by decide⟩ (by first | exact ⟨by decide, by decide⟩ | omega) ?_
            intro z22 lz22 uz22 qz22
            have pz22 := fld_at qz22 0 (by omega)
            have v46 := mL_r (i0 := 0) (i1 := 0) (m := 1) (q := 0) (by decide +kernel) qz22 (by omega) rfl
            refine Exists.intro xm_287 (And.intro mi_287 (And.intro ⟨rfl, rfl, rfl, rfl⟩ (And.intro rfl ?_)))
            refine fcall _ h0 (fzs_sub (by decide +kernel) hW) hB1 (ct_M_knows_34678 (fBz h0 hB1) (by first | exact ⟨hb.1.1, Int.le_trans (Int.le_sub_one_of_lt (Int.lt_of_lt_of_le c5 uz3)) (by decide)⟩ | omega) (by omega) (by first | exact ⟨Int.le_trans (by decide) lz22, Int.le_trans uz22 (by decide)⟩ | omega) (by omega)) ?_
            rintro IhB24 _ hB24 fhB24 ⟨rfl, hz23, g0z23⟩
            have t25 := fhB24 741 0 (by decide +kernel)
            have t26 := fhB24 741 4 (by decide +kernel)
            have t27 := fhB24 741 5 (by decide +kernel)
            have k28 := fBz_eq hB24 (a := 741) (j := 5) (by decide +kernel)
            exact fcutJ (I := IhB24) (j := (jc_M_sends_ddcd7_2 I)) (lv' := [(0, .inr (.inr (some 740))), (1, .inl _)]) (And.intro rfl (And.intro rfl True.intro)) ⟨_, rfl, rfl, ⟨by omega, (nf_row hx0 (by omega) (by omega) (sSe_y (u := y1) (by omega) (g0z6.elim (fun q => q.2) (fun q => absurd q.1 (by omega))) (se_0 v28 (by omega) (by omega) v46 (by omega) (by rw [hx0]; exact okM_se hp0 hp1 ((mR_rng (i0 := 13) (i1 := 13) (m := 1) (q := 0) (lo := 0) (hi := 90) (by decide +kernel) h0 (by omega)).1) (by omega)) (by omega) (fun _ => congrArg (gt (mR I1)) (by omega)) g0z23)))⟩, rfl⟩ (by omega)
        · intro c29
          exact fcutJ (I := I1) (j := (jc_M_sends_ddcd7_2 I)) (lv' := [(0, .inr (.inr (some 740))), (1, .inl _)]) (And.intro rfl (And.intro rfl True.intro)) ⟨_, rfl, rfl, ⟨by omega, (nf_row hx0 (by omega) (by omega) (sSe_n (u := y1) (by omega) (g0z6.elim (fun q => absurd q.1 (by omega)) (fun q => q.2))))⟩, rfl⟩ (by omega)
    · rintro m _ _ I1 hB1 ⟨y1, y2, y3, rfl, rfl, ⟨hb, hx0, hx1, hx2⟩, hm⟩
      have k30 := fBz_eq hB1 (a := 741) (j := 5) (by decide +kernel)
      have b31 := fBd fb_741_5 (fBz h0 hB1)
      refine And.intro (And.intro (by first | exact fi_ hb.2.2.1.1 hb.2.2.1.2 rfl | omega) (by first | exact ⟨by decide, by decide⟩ | omega)) (And.intro ?_ ?_)
      · intro c32
        refine And.intro ⟨rfl, by decide, by decide⟩ ?_
        refine And.intro ⟨rfl, by decide, by decide⟩ ?_
        refine fload1 rL_741_741_0_0_1_0 h0 hB1 ⟨by decide, by decide⟩ (by first | exact ⟨by decide, by decide⟩ | omega) ?_
        intro z33 lz33 uz33 qz33
        have pz33 := fld_at qz33 0 (by omega)
        have v137 := mL_r (i0 := 0) (i1 := 0) (m := 1) (q := 0) (by decide +kernel) qz33 (by omega) rfl
        refine fstore rS_741_741_3616_4328_8_0 (fzs_sub (by decide +kernel) hW) (by omega) (by first | exact ⟨Int.le_trans (by decide) lz33, Int.le_trans uz33 (by decide)⟩ | omega) ?_
        intro IhB34 ehB34 hB34
        have t35 := fup_self ehB34
        have t36 : IhB34 741 0 = I1 741 0 := (congrFun (congrFun ehB34 741) 0).trans (fup_ne (by first | exact Or.inl (by decide) | omega))
        have t37 : IhB34 741 4 = I1 741 4 := (congrFun (congrFun ehB34 741) 4).trans (fup_ne (by first | exact Or.inl (by decide) | omega))
        have t38 : IhB34 741 5 = I1 741 5 := (congrFun (congrFun ehB34 741) 5).trans (fup_ne (by first | exact Or.inl (by decide) | omega))
        have t39 : IhB34 741 13 = I1 741 13 := (congrFun (congrFun ehB34 741) 13).trans (fup_ne (by first | exact Or.inl (by decide) | omega))
        have k40 := fBz_eq hB34 (a := 741) (j := 5) (by decide +kernel)
        have r138 := mS_r (i0 := 3616) (i1 := 4328) (m := 8) (q := 0) (by decide +kernel) ehB34 (by omega) rfl
        refine And.intro ⟨rfl, by decide, by decide⟩ ?_
        refine And.intro ⟨rfl, by decide, by decide⟩ ?_
        refine fload1 rL_741_741_0_0_1_0 h0 hB34 ⟨by decide, by decide⟩ (by first | exact ⟨by decide, by decide⟩ | omega) ?_
        intro z41 lz41 uz41 qz41
        have pz41 := fld_at qz41 0 (by omega)
        have v152 := mL_r (i0 := 0) (i1 := 0) (m := 1) (q := 0) (by decide +kernel) qz41 (by omega) rfl
        rw [r138] at v152
        refine And.intro ⟨rfl, by decide, by decide⟩ ?_
        refine fload1 rL_741_741_4_4_1_0 h0 hB34 ⟨by decide, by decide⟩ (by first | exact ⟨by decide, by decide⟩ | omega) ?_
        intro z42 lz42 uz42 qz42
        have pz42 := fld_at qz42 4 (by omega)
        have v158 := mL_r (i0 := 4) (i1 := 4) (m := 1) (q := 0) (by decide +kernel) qz42 (by omega) rfl
        rw [r138] at v158
        refine fstore rS_741_741_3617_4329_8_0 (fzs_sub (by decide +kernel) hW) (by omega) (by omega) ?_
        intro IhB43 ehB43 hB43
        have t44 := fup_self ehB43
        have t45 : IhB43 741 0 = IhB34 741 0 := (congrFun (congrFun ehB43 741) 0).trans (fup_ne (by first | exact Or.inl (by decide) | omega))
        have t46 : IhB43 741 4 = IhB34 741 4 := (congrFun (congrFun ehB43 741) 4).trans (fup_ne (by first | exact Or.inl (by decide) | omega))
        have t47 : IhB43 741 5 = IhB34 741 5 := (congrFun (congrFun ehB43 741) 5).trans (fup_ne (by first | exact Or.inl (by decide) | omega))
        have t48 : IhB43 741 13 = IhB34 741 13 := (congrFun (congrFun ehB43 741) 13).trans (fup_ne (by first | exact Or.inl (by decide) | omega))
        have k49 := fBz_eq hB43 (a := 741) (j := 5) (by decide +kernel)
        have r160 := mS_r (i0 := 3617) (i1 := 4329) (m := 8) (q := 0) (by decide +kernel) ehB43 (by omega) rfl
        refine And.intro ⟨rfl, by decide, by decide⟩ ?_
        refine fload1 rL_741_741_13_13_1_0 h0 hB43 ⟨by decide, by decide⟩ (by first | exact ⟨by decide, by decide⟩ | omega) ?_
        intro z50 lz50 uz50 qz50
        have pz50 := fld_at qz50 13 (by omega)
        have v168 := mL_r (i0 := 13) (i1 := 13) (m := 1) (q := 0) (by decide +kernel) qz50 (by omega) rfl
        rw [r160, r138] at v168
        refine fstore1 rS_741_741_13_13_1_0 (fzs_sub (by decide +kernel) hW) ⟨by decide, by decide⟩ (by first | exact ⟨by decide, by decide⟩ | omega) (by omega) ?_
        intro IhB51 ehB51 hB51
        have t52 := fup_self ehB51
        have t53 : IhB51 741 5 = IhB43 741 5 := (congrFun (congrFun ehB51 741) 5).trans (fup_ne (by first | decide | omega))
        have k54 := fBz_eq hB51 (a := 741) (j := 5) (by decide +kernel)
        have r171 := mS_r (i0 := 13) (i1 := 13) (m := 1) (q := 0) (by decide +kernel) ehB51 (by omega) rfl
        exact fcutJ (I := IhB51) (j := (jc_M_sends_ddcd7_2 I)) (lv' := [(0, .inr (.inr (some 740))), (1, .inl _)]) (And.intro rfl (And.intro rfl True.intro)) ⟨_, rfl, rfl, ⟨by omega, (nf_row rfl (by omega) (by omega) (sSe_y (u := y1) (by omega) hx2 (by rw [r171, r160, r138]; exact (se_2 hx0 (by omega) (by omega) (by omega) hx1.2.2 v137 (by omega) (by omega) (by omega) v152 (by omega) v158 (by omega) (by omega) (wr_id ⟨by omega, by omega⟩).symm v168 (by omega) (by omega) (by omega)))))⟩, rfl⟩ (by omega)
      · intro c55
        refine And.intro ⟨rfl, by decide, by decide⟩ ?_
        refine And.intro ⟨rfl, by decide, by decide⟩ ?_
        refine Exists.intro xm_239 (And.intro mi_239 (And.intro ⟨rfl, rfl, rfl, rfl⟩ (And.intro rfl ?_)))
        refine fcallp hB1 (ct_M_cellAt_c15f4 (fBz h0 hB1) (by first | exact ⟨hb.1.1, hb.1.2⟩ | omega)) ?_
        rintro _ ⟨_, rfl, rfl⟩
        refine fload rL_741_741_31_415_20_4 h0 hB1 (by omega) ?_
        intro z57 lz57 uz57 qz57
        have v116 := mL_r (i0 := 31) (i1 := 415) (m := 20) (q := 4) (by decide +kernel) qz57 (by omega) rfl
        refine fstore rS_741_741_3611_4327_8_4 (fzs_sub (by decide +kernel) hW) (by omega) (by first | exact ⟨Int.le_trans (by decide) lz57, Int.le_trans uz57 (by decide)⟩ | omega) ?_
        intro IhB58 ehB58 hB58
        have t59 := fup_self ehB58
        have t60 : IhB58 741 4 = I1 741 4 := (congrFun (congrFun ehB58 741) 4).trans (fup_ne (by first | exact Or.inl (by decide) | omega))
        have t61 : IhB58 741 5 = I1 741 5 := (congrFun (congrFun ehB58 741) 5).trans (fup_ne (by first | exact Or.inl (by decide) | omega))
        have t62 : IhB58 741 13 = I1 741 13 := (congrFun (congrFun ehB58 741) 13).trans (fup_ne (by first | exact Or.inl (by decide) | omega))
        have k63 := fBz_eq hB58 (a := 741) (j := 5) (by decide +kernel)
        have r117 := mS_r (i0 := 3611) (i1 := 4327) (m := 8) (q := 4) (by decide +kernel) ehB58 (by omega) rfl
        exact fcutJ (I := IhB58) (j := (jc_M_sends_ddcd7_89 I)) (lv' := [(0, .inr (.inr (some 740))), (1, .inl _), (2, .inl _), (3, .inl _)]) (And.intro rfl (And.intro rfl (And.intro rfl (And.intro rfl True.intro)))) ⟨_, _, _, rfl, rfl, ⟨by omega, (by rw [r117]; exact (cpy_gm (a := 31 + 20 * y1) hx0 (by omega) (by omega) (by omega) v116 (by omega) (by omega) (by omega) ((gt_ne (by omega) (by omega)).trans (congrArg (gt _) (by omega))) (by omega) (by omega))), hx1, hx2⟩, rfl⟩ (by omega)
  · have hB0 := fB_self (zn := znJ) (K := fKc wz_24e16) h0
    have b64 := fBd fb_741_5 (fBz h0 hB0)
    exact fcutJ (I := I) (j := (jc_M_sends_ddcd7_2 I)) (lv' := [(0, .inr (.inr (some 740))), (1, .inl _)]) (And.intro rfl (And.intro rfl True.intro)) ⟨_, rfl, rfl, ⟨by omega, rfl⟩, rfl⟩ (by omega)
abbrev jc_M_leaks_eedee_8 (x1 : Int) (I0 : fH) : Nat → fL → List fV → fH → Prop := fun m lv st I => ∃ (y2 : Int) (y3 : Int), lv = [(0, .inr (.inr (some 740))), (2, .inl y2), (3, .inl y3)] ∧ st = [] ∧ ((((30 ≤ y2 ∧ y2 ≤ 410) ∧ (y2 - 30) % 20 ≤ 0) ∧ (0 ≤ y3 ∧ y3 ≤ 5) ∧ (y2 = 30 + 20 * x1)) ∧ (mR I = nf (sLkg x1) (mR I0) y3.toNat)) ∧ m = (1 + 1 * (5 - y3) : Int).toNat
set_option maxRecDepth 8000 in
theorem ct_M_leaks_eedee {I : fH} {x1 : Int} (h0 : fB bsJ I) (ha1 : (0 ≤ x1 ∧ x1 ≤ 19)) : fC ρ base n F xTc vwCl xTys D dA la gJ (fbz bsJ znJ (fKc wz_e4f60) I) xm_298 [.inr (.inr (some 740)), .inl x1] I (fun I' r => r = none ∧ True ∧ (mR I' = sLk x1.toNat (mR I))) := by
  have hW : fzs wz_e4f60 (fKc wz_e4f60) := fKc_ok _
  refine f_meth (rb := rbJ) (J := [(8, (jc_M_leaks_eedee_8 x1 I))]) 7 400 xG xin_298 x6_298 okJ (fB_self h0) ?_ ?_
  · refine List.forall_mem_cons.mpr ⟨?_, fun q h => absurd h List.not_mem_nil⟩
    · rintro m _ _ I1 hB1 ⟨y2, y3, rfl, rfl, ⟨hb, hx0⟩, hm⟩
      refine And.intro (And.intro (by first | exact fi_ hb.2.1.1 hb.2.1.2 rfl | omega) (by first | exact ⟨by decide, by decide⟩ | omega)) (And.intro ?_ ?_)
      · intro c1
        exact ⟨rfl, True.intro, (sLk_end hx0 (by omega) (by omega))⟩
      · intro c2
        refine And.intro ⟨rfl, by decide, by decide⟩ ?_
        refine fload rL_741_741_31_415_20_4 h0 hB1 (by omega) ?_
        intro z3 lz3 uz3 qz3
        have v22 := mL_r (i0 := 31) (i1 := 415) (m := 20) (q := 4) (by decide +kernel) qz3 (by omega) rfl
        refine And.intro (by first | exact fi_ lz3 uz3 rfl | omega) ?_
        refine And.intro ⟨rfl, by decide, by decide⟩ ?_
        refine fload rL_741_741_36_416_20_0 h0 hB1 (by omega) ?_
        intro z4 lz4 uz4 qz4
        have v32 := mL_r (i0 := 36) (i1 := 416) (m := 20) (q := 0) (by decide +kernel) qz4 (by omega) rfl
        refine And.intro (by first | exact fi_ lz4 uz4 rfl | omega) ?_
        intro z5 hz5 ez5 bz5
        have m34 := mul_rng lz3 uz3 lz4 uz4
        have k34 := bz5 ⟨by omega, by omega⟩
        have n34 := Int.mul_le_mul_of_nonneg_left (a := z4) (b := 99) uz4 lz3
        refine And.intro (And.intro (by omega) (by omega)) ?_
        intro z6 hz6 ez6
        have d38 := xldv_t (by omega) (by omega) (by decide) hz6 ez6
        rw [Int.tdiv_eq_ediv_of_nonneg (by omega)] at d38
        intro z7 hz7 ez7 bz7
        clear ez7
        have bz7 := bz7 (by omega)
        refine And.intro ⟨rfl, by decide, by decide⟩ ?_
        refine fload rL_741_741_31_415_20_4 h0 hB1 (by omega) ?_
        intro z8 lz8 uz8 qz8
        have v52 := mL_r (i0 := 31) (i1 := 415) (m := 20) (q := 4) (by decide +kernel) qz8 (by omega) rfl
        intro z9 hz9 ez9 bz9
        have bz9 := bz9 (by omega)
        refine fstore rS_741_741_31_415_20_4 (fzs_sub (by decide +kernel) hW) (by omega) (by omega) ?_
        intro IhB10 ehB10 hB10
        have t11 := fup_self ehB10
        have r56 := mS_r (i0 := 31) (i1 := 415) (m := 20) (q := 4) (by decide +kernel) ehB10 (by omega) rfl
        refine And.intro ⟨rfl, by decide, by decide⟩ ?_
        refine fload rL_741_741_37_421_20_4 h0 hB10 (by omega) ?_
        intro z12 lz12 uz12 qz12
        have v68 := mL_r (i0 := 37) (i1 := 421) (m := 20) (q := 4) (by decide +kernel) qz12 (by omega) rfl
        rw [r56] at v68
        intro z13 hz13 ez13 bz13
        try replace bz13 := bz13 (by omega)
        refine fstore rS_741_741_37_421_20_4 (fzs_sub (by decide +kernel) hW) (by omega) (by omega) ?_
        intro IhB14 ehB14 hB14
        have t15 := fup_self ehB14
        have r72 := mS_r (i0 := 37) (i1 := 421) (m := 20) (q := 4) (by decide +kernel) ehB14 (by omega) rfl
        exact fcutJ (I := IhB14) (j := (jc_M_leaks_eedee_8 x1 I)) (lv' := [(0, .inr (.inr (some 740))), (2, .inl _), (3, .inl _)]) (And.intro rfl (And.intro rfl (And.intro rfl True.intro))) ⟨_, _, rfl, rfl, ⟨by omega, (nf_row hx0 (by omega) (by omega) (by rw [r72, r56]; exact (sLkg_of (by omega) (by omega) v22 (by omega) v32 (by omega) k34 (show z7 = z5 / 1000 by omega) (by omega) (by omega) (by omega) hz13 ez13 v68)))⟩, rfl⟩ (by omega)
  · have hB0 := fB_self (zn := znJ) (K := fKc wz_e4f60) h0
    refine Exists.intro xm_239 (And.intro mi_239 (And.intro ⟨rfl, rfl, rfl, rfl⟩ (And.intro rfl ?_)))
    refine fcallp hB0 (ct_M_cellAt_c15f4 (fBz h0 hB0) (by first | exact ⟨ha1.1, ha1.2⟩ | omega)) ?_
    rintro _ ⟨_, rfl, rfl⟩
    exact fcutJ (I := I) (j := (jc_M_leaks_eedee_8 x1 I)) (lv' := [(0, .inr (.inr (some 740))), (2, .inl _), (3, .inl _)]) (And.intro rfl (And.intro rfl (And.intro rfl True.intro))) ⟨_, _, rfl, rfl, ⟨by omega, rfl⟩, rfl⟩ (by omega)
abbrev jc_M_come_3ca41_4 (I0 : fH) : Nat → fL → List fV → fH → Prop := fun m lv st I => ∃ (y1 : Int) (y2 : Int), lv = [(0, .inr (.inr (some 740))), (1, .inl y1), (2, .inl y2)] ∧ st = [] ∧ (((0 ≤ y1 ∧ y1 ≤ 90) ∧ (0 ≤ y2 ∧ y2 ≤ 90) ∧ (y1 ≤ y2) ∧ (I 741 13 = I0 741 13) ∧ (y2 ≤ I0 741 13)) ∧ ((y1, mR I) = nf sCm (0, mR I0) y2.toNat)) ∧ m = (10 + 10 * (90 - y2) : Int).toNat
abbrev jc_M_come_3ca41_70 (I0 : fH) : Nat → fL → List fV → fH → Prop := fun m lv st I => ∃ (y1 : Int) (y2 : Int) (y3 : Int) (y4 : Int), lv = [(0, .inr (.inr (some 740))), (1, .inl y1), (2, .inl y2), (3, .inl y3), (4, .inl y4)] ∧ st = [] ∧ (((0 ≤ y1 ∧ y1 ≤ 89) ∧ (0 ≤ y2 ∧ y2 ≤ 89) ∧ ((3610 ≤ y3 ∧ y3 ≤ 4322) ∧ (y3 - 3610) % 8 ≤ 0) ∧ (0 ≤ y4 ∧ y4 ≤ 8) ∧ (1 ≤ I 741 13 ∧ I 741 13 ≤ 90) ∧ (y1 ≤ y2) ∧ (I 741 13 = I0 741 13) ∧ (y2 + 1 ≤ I0 741 13) ∧ (y3 = 3610 + 8 * y2)) ∧ (y1 = (nf sCm (0, mR I0) y2.toNat).1) ∧ (mR I = cpy (nf sCm (0, mR I0) y2.toNat).2 (3610 + 8 * y1) (fun k : Nat => gt (nf sCm (0, mR I0) y2.toNat).2 (3610 + 8 * y2 + (k : Int))) y4.toNat) ∧ (¬ gt (nf sCm (0, mR I0) y2.toNat).2 (3617 + 8 * y2) ≤ gt (nf sCm (0, mR I0) y2.toNat).2 0)) ∧ m = (1 + 10 * (90 - y2) + 1 * (8 - y4) : Int).toNat
set_option maxRecDepth 8000 in
theorem ct_M_come_3ca41 {I : fH}  (h0 : fB bsJ I)  : fC ρ base n F xTc vwCl xTys D dA la gJ (fbz bsJ znJ (fKc wz_24e16) I) xm_286 [.inr (.inr (some 740))] I (fun I' r => r = none ∧ True ∧ (mR I' = sCome (mR I))) := by
  have hW : fzs wz_24e16 (fKc wz_24e16) := fKc_ok _
  refine f_meth (rb := rbJ) (J := [(4, (jc_M_come_3ca41_4 I)), (70, (jc_M_come_3ca41_70 I))]) 911 400 xG xin_286 x6_286 okJ (fB_self h0) ?_ ?_
  · refine List.forall_mem_cons.mpr ⟨?_, List.forall_mem_cons.mpr ⟨?_, fun q h => absurd h List.not_mem_nil⟩⟩
    · rintro m _ _ I1 hB1 ⟨y1, y2, rfl, rfl, ⟨hb, hx0⟩, hm⟩
      have b1 := fBd fb_741_13 (fBz h0 hB1)
      have b2 := fBd fb_741_13 (fBz h0 hB1)
      refine And.intro ⟨rfl, by decide, by decide⟩ ?_
      refine fload1 rL_741_741_13_13_1_0 h0 hB1 ⟨by decide, by decide⟩ (by first | exact ⟨by decide, by decide⟩ | omega) ?_
      intro z3 lz3 uz3 qz3
      have pz3 := fld_at qz3 13 (by omega)
      have v11 := mL_r (i0 := 13) (i1 := 13) (m := 1) (q := 0) (by decide +kernel) qz3 (by omega) rfl
      refine And.intro (And.intro (by first | exact fi_ hb.2.1.1 hb.2.1.2 rfl | omega) (by first | exact fi_ lz3 uz3 rfl | omega)) (And.intro ?_ ?_)
      · intro c4
        refine And.intro ⟨rfl, by decide, by decide⟩ ?_
        refine fstore1 rS_741_741_13_13_1_0 (fzs_sub (by decide +kernel) hW) ⟨by decide, by decide⟩ (by first | exact ⟨by decide, by decide⟩ | omega) (by first | exact ⟨hb.1.1, hb.1.2⟩ | omega) ?_
        intro IhB5 ehB5 hB5
        have t6 := fup_self ehB5
        have t7 := fup_at ehB5 13 (by first | rfl | omega)
        have r124 := mS_r (i0 := 13) (i1 := 13) (m := 1) (q := 0) (by decide +kernel) ehB5 (by omega) rfl
        have w13 := (show I 741 13 = gt (mR I) 13 from (mR_ld (I := I) (k := 13) (by decide +kernel)).symm)
        exact ⟨rfl, True.intro, (by rw [r124]; exact (cmr_end hx0 (by omega) (by omega) (by omega)))⟩
      · intro c8
        refine And.intro ⟨rfl, by decide, by decide⟩ ?_
        refine fload rL_741_741_3617_4329_8_0 h0 hB1 (by omega) ?_
        intro z9 lz9 uz9 qz9
        have v32 := mL_r (i0 := 3617) (i1 := 4329) (m := 8) (q := 0) (by decide +kernel) qz9 (by omega) rfl
        refine And.intro ⟨rfl, by decide, by decide⟩ ?_
        refine fload1 rL_741_741_0_0_1_0 h0 hB1 ⟨by decide, by decide⟩ (by first | exact ⟨by decide, by decide⟩ | omega) ?_
        intro z10 lz10 uz10 qz10
        have pz10 := fld_at qz10 0 (by omega)
        have v38 := mL_r (i0 := 0) (i1 := 0) (m := 1) (q := 0) (by decide +kernel) qz10 (by omega) rfl
        refine And.intro (And.intro (by first | exact fi_ lz9 uz9 rfl | omega) (by first | exact fi_ lz10 uz10 rfl | omega)) (And.intro ?_ ?_)
        · intro c11
          exact fcutJ (I := I1) (j := (jc_M_come_3ca41_70 I)) (lv' := [(0, .inr (.inr (some 740))), (1, .inl _), (2, .inl _), (3, .inl _), (4, .inl _)]) (And.intro rfl (And.intro rfl (And.intro rfl (And.intro rfl (And.intro rfl True.intro))))) ⟨_, _, _, _, rfl, rfl, ⟨by omega, (congrArg Prod.fst hx0), ((congrArg Prod.snd hx0).trans cpy_0.symm), (cmr_due hx0 v32 (by omega) v38 (by omega) (by omega))⟩, rfl⟩ (by omega)
        · intro c12
          refine And.intro ⟨rfl, by decide, by decide⟩ ?_
          refine fload rL_741_741_3610_4322_8_0 h0 hB1 (by omega) ?_
          intro z13 lz13 uz13 qz13
          have v48 := mL_r (i0 := 3610) (i1 := 4322) (m := 8) (q := 0) (by decide +kernel) qz13 (by omega) rfl
          refine And.intro ⟨rfl, by decide, by decide⟩ ?_
          refine fload rL_741_741_3616_4328_8_0 h0 hB1 (by omega) ?_
          intro z14 lz14 uz14 qz14
          have v60 := mL_r (i0 := 3616) (i1 := 4328) (m := 8) (q := 0) (by decide +kernel) qz14 (by omega) rfl
          refine Exists.intro xm_287 (And.intro mi_287 (And.intro ⟨rfl, rfl, rfl, rfl⟩ (And.intro rfl ?_)))
          refine fcall _ h0 (fzs_sub (by decide +kernel) hW) hB1 (ct_M_knows_34678 (fBz h0 hB1) (by first | exact ⟨lz13, uz13⟩ | omega) (by omega) (by first | exact ⟨lz14, uz14⟩ | omega) (by omega)) ?_
          rintro IhB16 _ hB16 fhB16 ⟨rfl, hz15, g0z15⟩
          have t17 := fhB16 741 0 (by decide +kernel)
          have t18 := fhB16 741 13 (by decide +kernel)
          exact fcutJ (I := IhB16) (j := (jc_M_come_3ca41_4 I)) (lv' := [(0, .inr (.inr (some 740))), (1, .inl _), (2, .inl _)]) (And.intro rfl (And.intro rfl (And.intro rfl True.intro))) ⟨_, _, rfl, rfl, ⟨by omega, (cmr_old hx0 (by omega) (by omega) v32 (by omega) v38 (by omega) (by omega) g0z15 v48 (by omega) v60 (by omega) (fun _ => congrArg (gt (mR I1)) (by omega)))⟩, rfl⟩ (by omega)
    · rintro m _ _ I1 hB1 ⟨y1, y2, y3, y4, rfl, rfl, ⟨hb, hx0, hx1, hx2⟩, hm⟩
      have b19 := fBd fb_741_13 (fBz h0 hB1)
      have b20 := fBd fb_741_13 (fBz h0 hB1)
      refine And.intro (And.intro (by first | exact fi_ hb.2.2.2.1.1 hb.2.2.2.1.2 rfl | omega) (by first | exact ⟨by decide, by decide⟩ | omega)) (And.intro ?_ ?_)
      · intro c21
        intro z22 hz22 bz22
        have bz22 := bz22 (by omega)
        exact fcutJ (I := I1) (j := (jc_M_come_3ca41_4 I)) (lv' := [(0, .inr (.inr (some 740))), (1, .inl _), (2, .inl _)]) (And.intro rfl (And.intro rfl (And.intro rfl True.intro))) ⟨_, _, rfl, rfl, ⟨by omega, (cmr_new0 hx0 hx1 hx2 (by omega) (by omega) (by omega) (by omega))⟩, rfl⟩ (by omega)
      · intro c23
        refine And.intro ⟨rfl, by decide, by decide⟩ ?_
        intro z24 hz24 ez24 bz24
        clear ez24
        have bz24 := bz24 (by omega)
        intro z25 hz25 ez25 bz25
        clear ez25
        have bz25 := bz25 (by omega)
        intro z26 hz26 ez26 bz26
        clear ez26
        have bz26 := bz26 (by omega)
        refine And.intro ⟨rfl, by decide, by decide⟩ ?_
        refine fload rL_741_741_3610_4329_8_7 h0 hB1 (by omega) ?_
        intro z27 lz27 uz27 qz27
        have v100 := mL_r (i0 := 3610) (i1 := 4329) (m := 8) (q := 7) (by decide +kernel) qz27 (by omega) rfl
        refine fstoreX (fzs_sub (by decide +kernel) hW) (rep_st (fBz h0 hB1) qz27 (by omega) (by omega)) ?_
        intro IhB28 ehB28 hB28
        have t29 := fup_self ehB28
        have t30 : IhB28 741 13 = I1 741 13 := (congrFun (congrFun ehB28 741) 13).trans (fup_ne (by first | exact Or.inl (by decide) | omega))
        have r101 := mS_r (i0 := 3610) (i1 := 4329) (m := 1) (q := 0) (by decide +kernel) ehB28 (by omega) rfl
        exact fcutJ (I := IhB28) (j := (jc_M_come_3ca41_70 I)) (lv' := [(0, .inr (.inr (some 740))), (1, .inl _), (2, .inl _), (3, .inl _), (4, .inl _)]) (And.intro rfl (And.intro rfl (And.intro rfl (And.intro rfl (And.intro rfl True.intro))))) ⟨_, _, _, _, rfl, rfl, ⟨by omega, hx0, (by rw [r101]; exact (cpy_go (a := 3610 + 8 * y2) hx1 (by omega) (by omega) (by omega) v100 (by omega) (by omega) (by omega) (fun _ => rfl) (by omega) (by omega))), hx2⟩, rfl⟩ (by omega)
  · have hB0 := fB_self (zn := znJ) (K := fKc wz_24e16) h0
    have b31 := fBd fb_741_13 (fBz h0 hB0)
    have b32 := fBd fb_741_13 (fBz h0 hB0)
    exact fcutJ (I := I) (j := (jc_M_come_3ca41_4 I)) (lv' := [(0, .inr (.inr (some 740))), (1, .inl _), (2, .inl _)]) (And.intro rfl (And.intro rfl (And.intro rfl True.intro))) ⟨_, _, rfl, rfl, ⟨by omega, rfl⟩, rfl⟩ (by omega)
set_option maxRecDepth 8000 in
theorem ct_M_least_31c1d {I : fH} {x0 : Int} {x1 : Int} (h0 : fB bsJ I) (ha0 : (0 ≤ x0 ∧ x0 ≤ 2147483647)) (ha1 : ((-2147483648) ≤ x1 ∧ x1 ≤ 2147483647)) : fC ρ base n F xTc vwCl xTys D dA la gJ (fbz bsJ znJ (fKc []) I) xm_291 [.inl x0, .inl x1] I (fun _ r => ∃ z, r = some (.inl z) ∧ (((-2147483648) ≤ z ∧ z ≤ 2147483647) ∧ (z ≤ x0 ∧ z ≤ x1 ∧ (z = x0 ∨ z = x1)))) := by
  have hW : fzs [] (fKc []) := fKc_ok _
  refine f_meth (rb := rbJ) (J := []) 1 400 xG xin_291 x6_291 okJ (fB_self h0) ?_ ?_
  · exact fun q h => absurd h List.not_mem_nil
  · have hB0 := fB_self (zn := znJ) (K := fKc []) h0
    refine And.intro (And.intro (by first | exact fi_ ha0.1 ha0.2 rfl | omega) (by first | exact fi_ ha1.1 ha1.2 rfl | omega)) (And.intro ?_ ?_)
    · intro c1
      refine And.intro (True.intro) ?_
      exact ⟨_, rfl, by omega⟩
    · intro c2
      refine And.intro (True.intro) ?_
      exact ⟨_, rfl, by omega⟩
set_option maxRecDepth 8000 in
theorem ct_M_floats_933b1 {I : fH}  (h0 : fB bsJ I)  : fC ρ base n F xTc vwCl xTys D dA la gJ (fbz bsJ znJ (fKc wz_fa024) I) xm_301 [.inr (.inr (some 740))] I (fun I' r => r = none ∧ True ∧ (mR I' = sRi (mR I))) := by
  have hW : fzs wz_fa024 (fKc wz_fa024) := fKc_ok _
  refine f_meth (rb := rbJ) (J := []) 1 400 xG xin_301 x6_301 okJ (fB_self h0) ?_ ?_
  · exact fun q h => absurd h List.not_mem_nil
  · have hB0 := fB_self (zn := znJ) (K := fKc wz_fa024) h0
    refine Exists.intro xm_280 (And.intro mi_280 (And.intro ⟨rfl, rfl, rfl, rfl⟩ (And.intro rfl ?_)))
    refine fcallp hB0 (ct_M_lift_1d7b0 (fBz h0 hB0)) ?_
    rintro _ ⟨z1, rfl, hz1, g0z1⟩
    refine Exists.intro xm_282 (And.intro mi_282 (And.intro ⟨rfl, rfl, rfl, rfl⟩ (And.intro rfl ?_)))
    refine fcallp hB0 (ct_M_weight_47499 (fBz h0 hB0)) ?_
    rintro _ ⟨z2, rfl, hz2, g0z2⟩
    intro z3 hz3 ez3 bz3
    refine And.intro (And.intro (by omega) (by omega)) ?_
    intro z4 hz4 ez4
    have d12 := xldv_t (by omega) (by omega) (by decide) hz4 ez4
    refine And.intro (And.intro (by omega) (by first | exact ⟨by decide, by decide⟩ | omega)) ?_
    intro z5 hz5
    refine And.intro (by omega) (And.intro ?_ ?_)
    · intro c6
      refine And.intro (And.intro (by omega) (by first | exact ⟨by decide, by decide⟩ | omega)) ?_
      intro z7 hz7
      refine And.intro (by omega) (And.intro ?_ ?_)
      · intro c8
        intro z9 hz9 ez9 bz9
        clear ez9
        skip
        refine And.intro ⟨rfl, by decide, by decide⟩ ?_
        refine fload1 rL_741_741_1_1_1_0 h0 hB0 ⟨by decide, by decide⟩ (by first | exact ⟨by decide, by decide⟩ | omega) ?_
        intro z10 lz10 uz10 qz10
        have pz10 := fld_at qz10 1 (by omega)
        have v48 := mL_r (i0 := 1) (i1 := 1) (m := 1) (q := 0) (by decide +kernel) qz10 (by omega) rfl
        intro z11 hz11 ez11 bz11
        clear ez11
        try replace bz11 := bz11 (by omega)
        refine And.intro ⟨rfl, by decide, by decide⟩ ?_
        refine And.intro (by omega) (And.intro ?_ ?_)
        · intro c12
          refine Exists.intro xm_291 (And.intro mi_291 (And.intro ⟨rfl, rfl, rfl, rfl⟩ (And.intro True.intro ?_)))
          refine fcallp hB0 (ct_M_least_31c1d (fBz h0 hB0) (by first | exact ⟨by decide, by decide⟩ | omega) (by omega)) ?_
          rintro _ ⟨z13, rfl, hz13⟩
          refine fstore1 rS_741_741_1_1_1_0 (fzs_sub (by decide +kernel) hW) ⟨by decide, by decide⟩ (by first | exact ⟨by decide, by decide⟩ | omega) (by omega) ?_
          intro IhB14 ehB14 hB14
          have t15 := fup_self ehB14
          have t16 := fup_at ehB14 1 (by first | rfl | omega)
          have r75 := mS_r (i0 := 1) (i1 := 1) (m := 1) (q := 0) (by decide +kernel) ehB14 (by omega) rfl
          exact ⟨rfl, True.intro, (by rw [r75]; exact (sRi_of g0z1 g0z2 (by omega) d12 (n := z9) (by (repeat' split) <;> omega) v48 (by omega) (by omega) (by unfold mn; (repeat' split) <;> omega)))⟩
        · intro c17
          refine fstore1 rS_741_741_1_1_1_0 (fzs_sub (by decide +kernel) hW) ⟨by decide, by decide⟩ (by first | exact ⟨by decide, by decide⟩ | omega) (by first | exact ⟨by decide, by decide⟩ | omega) ?_
          intro IhB18 ehB18 hB18
          have t19 := fup_self ehB18
          have t20 := fup_at ehB18 1 (by first | rfl | omega)
          have r75 := mS_r (i0 := 1) (i1 := 1) (m := 1) (q := 0) (by decide +kernel) ehB18 (by omega) rfl
          exact ⟨rfl, True.intro, (by rw [r75]; exact (sRi_of g0z1 g0z2 (by omega) d12 (n := z9) (by (repeat' split) <;> omega) v48 (by omega) (by omega) (by unfold mn; (repeat' split) <;> omega)))⟩
      · intro c21
        refine And.intro ⟨rfl, by decide, by decide⟩ ?_
        refine fload1 rL_741_741_1_1_1_0 h0 hB0 ⟨by decide, by decide⟩ (by first | exact ⟨by decide, by decide⟩ | omega) ?_
        intro z22 lz22 uz22 qz22
        have pz22 := fld_at qz22 1 (by omega)
        have v48 := mL_r (i0 := 1) (i1 := 1) (m := 1) (q := 0) (by decide +kernel) qz22 (by omega) rfl
        intro z23 hz23 ez23 bz23
        clear ez23
        try replace bz23 := bz23 (by omega)
        refine And.intro ⟨rfl, by decide, by decide⟩ ?_
        refine And.intro (by omega) (And.intro ?_ ?_)
        · intro c24
          refine Exists.intro xm_291 (And.intro mi_291 (And.intro ⟨rfl, rfl, rfl, rfl⟩ (And.intro True.intro ?_)))
          refine fcallp hB0 (ct_M_least_31c1d (fBz h0 hB0) (by first | exact ⟨by decide, by decide⟩ | omega) (by omega)) ?_
          rintro _ ⟨z25, rfl, hz25⟩
          refine fstore1 rS_741_741_1_1_1_0 (fzs_sub (by decide +kernel) hW) ⟨by decide, by decide⟩ (by first | exact ⟨by decide, by decide⟩ | omega) (by omega) ?_
          intro IhB26 ehB26 hB26
          have t27 := fup_self ehB26
          have t28 := fup_at ehB26 1 (by first | rfl | omega)
          have r75 := mS_r (i0 := 1) (i1 := 1) (m := 1) (q := 0) (by decide +kernel) ehB26 (by omega) rfl
          exact ⟨rfl, True.intro, (by rw [r75]; exact (sRi_of g0z1 g0z2 (by omega) d12 (n := -9) (by (repeat' split) <;> omega) v48 (by omega) (by omega) (by unfold mn; (repeat' split) <;> omega)))⟩
        · intro c29
          refine fstore1 rS_741_741_1_1_1_0 (fzs_sub (by decide +kernel) hW) ⟨by decide, by decide⟩ (by first | exact ⟨by decide, by decide⟩ | omega) (by first | exact ⟨by decide, by decide⟩ | omega) ?_
          intro IhB30 ehB30 hB30
          have t31 := fup_self ehB30
          have t32 := fup_at ehB30 1 (by first | rfl | omega)
          have r75 := mS_r (i0 := 1) (i1 := 1) (m := 1) (q := 0) (by decide +kernel) ehB30 (by omega) rfl
          exact ⟨rfl, True.intro, (by rw [r75]; exact (sRi_of g0z1 g0z2 (by omega) d12 (n := -9) (by (repeat' split) <;> omega) v48 (by omega) (by omega) (by unfold mn; (repeat' split) <;> omega)))⟩
    · intro c33
      refine And.intro ⟨rfl, by decide, by decide⟩ ?_
      refine fload1 rL_741_741_1_1_1_0 h0 hB0 ⟨by decide, by decide⟩ (by first | exact ⟨by decide, by decide⟩ | omega) ?_
      intro z34 lz34 uz34 qz34
      have pz34 := fld_at qz34 1 (by omega)
      have v48 := mL_r (i0 := 1) (i1 := 1) (m := 1) (q := 0) (by decide +kernel) qz34 (by omega) rfl
      intro z35 hz35 ez35 bz35
      clear ez35
      try replace bz35 := bz35 (by omega)
      refine And.intro ⟨rfl, by decide, by decide⟩ ?_
      refine And.intro (by omega) (And.intro ?_ ?_)
      · intro c36
        refine Exists.intro xm_291 (And.intro mi_291 (And.intro ⟨rfl, rfl, rfl, rfl⟩ (And.intro True.intro ?_)))
        refine fcallp hB0 (ct_M_least_31c1d (fBz h0 hB0) (by first | exact ⟨by decide, by decide⟩ | omega) (by omega)) ?_
        rintro _ ⟨z37, rfl, hz37⟩
        refine fstore1 rS_741_741_1_1_1_0 (fzs_sub (by decide +kernel) hW) ⟨by decide, by decide⟩ (by first | exact ⟨by decide, by decide⟩ | omega) (by omega) ?_
        intro IhB38 ehB38 hB38
        have t39 := fup_self ehB38
        have t40 := fup_at ehB38 1 (by first | rfl | omega)
        have r75 := mS_r (i0 := 1) (i1 := 1) (m := 1) (q := 0) (by decide +kernel) ehB38 (by omega) rfl
        exact ⟨rfl, True.intro, (by rw [r75]; exact (sRi_of g0z1 g0z2 (by omega) d12 (n := 9) (by (repeat' split) <;> omega) v48 (by omega) (by omega) (by unfold mn; (repeat' split) <;> omega)))⟩
      · intro c41
        refine fstore1 rS_741_741_1_1_1_0 (fzs_sub (by decide +kernel) hW) ⟨by decide, by decide⟩ (by first | exact ⟨by decide, by decide⟩ | omega) (by first | exact ⟨by decide, by decide⟩ | omega) ?_
        intro IhB42 ehB42 hB42
        have t43 := fup_self ehB42
        have t44 := fup_at ehB42 1 (by first | rfl | omega)
        have r75 := mS_r (i0 := 1) (i1 := 1) (m := 1) (q := 0) (by decide +kernel) ehB42 (by omega) rfl
        exact ⟨rfl, True.intro, (by rw [r75]; exact (sRi_of g0z1 g0z2 (by omega) d12 (n := 9) (by (repeat' split) <;> omega) v48 (by omega) (by omega) (by unfold mn; (repeat' split) <;> omega)))⟩
set_option maxRecDepth 8000 in
theorem ct_M_comes_305fc {I : fH} {x1 : Int} {x2 : Int} {x3 : Int} (h0 : fB bsJ I) (ha1 : (0 ≤ x1 ∧ x1 ≤ 19)) (ha2 : (0 ≤ x2 ∧ x2 ≤ 4)) (ha3 : ((-49999) ≤ x3 ∧ x3 ≤ 999999)) (hp0 : 0 ≤ x3) (hp1 : x3 ≤ 999999) : fC ρ base n F xTc vwCl xTys D dA la gJ (fbz bsJ znJ (fKc wz_e4f60) I) xm_292 [.inr (.inr (some 740)), .inl x1, .inl x2, .inl x3] I (fun I' r => r = none ∧ True ∧ (mR I' = sCo (mR I) x1 x2 x3)) := by
  have hW : fzs wz_e4f60 (fKc wz_e4f60) := fKc_ok _
  refine f_meth (rb := rbJ) (J := []) 1 400 xG xin_292 x6_292 okJ (fB_self h0) ?_ ?_
  · exact fun q h => absurd h List.not_mem_nil
  · have hB0 := fB_self (zn := znJ) (K := fKc wz_e4f60) h0
    refine Exists.intro xm_239 (And.intro mi_239 (And.intro ⟨rfl, rfl, rfl, rfl⟩ (And.intro rfl ?_)))
    refine fcallp hB0 (ct_M_cellAt_c15f4 (fBz h0 hB0) (by first | exact ⟨ha1.1, ha1.2⟩ | omega)) ?_
    rintro _ ⟨_, rfl, rfl⟩
    refine And.intro ⟨rfl, by decide, by decide⟩ ?_
    refine fload rL_741_741_31_415_20_4 h0 hB0 (by omega) ?_
    intro z2 lz2 uz2 qz2
    have v17 := mL_r (i0 := 31) (i1 := 415) (m := 20) (q := 4) (by decide +kernel) qz2 (by omega) rfl
    intro z3 hz3 ez3 bz3
    have bz3 := bz3 (by omega)
    intro z4 hz4 ez4 bz4
    have bz4 := bz4 (by omega)
    refine And.intro ⟨rfl, by decide, by decide⟩ ?_
    refine And.intro (by omega) (And.intro ?_ ?_)
    · intro c5
      refine And.intro ⟨rfl, by decide, by decide⟩ ?_
      refine fload rL_741_741_31_415_20_4 h0 hB0 (by omega) ?_
      intro z6 lz6 uz6 qz6
      have v47 := mL_r (i0 := 31) (i1 := 415) (m := 20) (q := 4) (by decide +kernel) qz6 (by omega) rfl
      intro z7 hz7 ez7 bz7
      have bz7 := bz7 (by omega)
      refine fstore rS_741_741_31_415_20_4 (fzs_sub (by decide +kernel) hW) (by omega) (by omega) ?_
      intro IhB8 ehB8 hB8
      have t9 := fup_self ehB8
      have r50 := mS_r (i0 := 31) (i1 := 415) (m := 20) (q := 4) (by decide +kernel) ehB8 (by omega) rfl
      refine And.intro ⟨rfl, by decide, by decide⟩ ?_
      refine Exists.intro xm_239 (And.intro mi_239 (And.intro ⟨rfl, rfl, rfl, rfl⟩ (And.intro rfl ?_)))
      refine fcallp hB8 (ct_M_cellAt_c15f4 (fBz h0 hB8) (by first | exact ⟨ha1.1, ha1.2⟩ | omega)) ?_
      rintro _ ⟨_, rfl, rfl⟩
      refine fload rL_741_741_37_421_20_4 h0 hB8 (by omega) ?_
      intro z11 lz11 uz11 qz11
      have v66 := mL_r (i0 := 37) (i1 := 421) (m := 20) (q := 4) (by decide +kernel) qz11 (by omega) rfl
      rw [r50] at v66
      refine And.intro (by omega) (And.intro ?_ ?_)
      · intro c12
        intro z13 hz13 ez13 bz13
        try replace bz13 := bz13 (by omega)
        refine fstore rS_741_741_37_421_20_4 (fzs_sub (by decide +kernel) hW) (by omega) (by omega) ?_
        intro IhB14 ehB14 hB14
        have t15 := fup_self ehB14
        have r79 := mS_r (i0 := 37) (i1 := 421) (m := 20) (q := 4) (by decide +kernel) ehB14 (by omega) rfl
        exact ⟨rfl, True.intro, (by rw [r79, r50]; exact sCo_C (by omega) (by omega) (by omega) (by omega) (by omega) (by omega) hz13 ez13 v66 (by omega))⟩
      · intro c16
        intro z17 hz17 ez17 bz17
        try replace bz17 := bz17 (by omega)
        refine fstore rS_741_741_37_421_20_4 (fzs_sub (by decide +kernel) hW) (by omega) (by omega) ?_
        intro IhB18 ehB18 hB18
        have t19 := fup_self ehB18
        have r79 := mS_r (i0 := 37) (i1 := 421) (m := 20) (q := 4) (by decide +kernel) ehB18 (by omega) rfl
        exact ⟨rfl, True.intro, (by exfalso; omega)⟩
    · intro c20
      refine fstore rS_741_741_31_415_20_4 (fzs_sub (by decide +kernel) hW) (by omega) (by first | exact ⟨by decide, by decide⟩ | omega) ?_
      intro IhB21 ehB21 hB21
      have t22 := fup_self ehB21
      have r50 := mS_r (i0 := 31) (i1 := 415) (m := 20) (q := 4) (by decide +kernel) ehB21 (by omega) rfl
      refine And.intro ⟨rfl, by decide, by decide⟩ ?_
      refine Exists.intro xm_239 (And.intro mi_239 (And.intro ⟨rfl, rfl, rfl, rfl⟩ (And.intro rfl ?_)))
      refine fcallp hB21 (ct_M_cellAt_c15f4 (fBz h0 hB21) (by first | exact ⟨ha1.1, ha1.2⟩ | omega)) ?_
      rintro _ ⟨_, rfl, rfl⟩
      refine fload rL_741_741_37_421_20_4 h0 hB21 (by omega) ?_
      intro z24 lz24 uz24 qz24
      have v66 := mL_r (i0 := 37) (i1 := 421) (m := 20) (q := 4) (by decide +kernel) qz24 (by omega) rfl
      rw [r50] at v66
      refine And.intro (by omega) (And.intro ?_ ?_)
      · intro c25
        intro z26 hz26 ez26 bz26
        try replace bz26 := bz26 (by omega)
        refine fstore rS_741_741_37_421_20_4 (fzs_sub (by decide +kernel) hW) (by omega) (by omega) ?_
        intro IhB27 ehB27 hB27
        have t28 := fup_self ehB27
        have r79 := mS_r (i0 := 37) (i1 := 421) (m := 20) (q := 4) (by decide +kernel) ehB27 (by omega) rfl
        exact ⟨rfl, True.intro, (by exfalso; omega)⟩
      · intro c29
        intro z30 hz30 ez30 bz30
        try replace bz30 := bz30 (by omega)
        refine fstore rS_741_741_37_421_20_4 (fzs_sub (by decide +kernel) hW) (by omega) (by omega) ?_
        intro IhB31 ehB31 hB31
        have t32 := fup_self ehB31
        have r79 := mS_r (i0 := 37) (i1 := 421) (m := 20) (q := 4) (by decide +kernel) ehB31 (by omega) rfl
        exact ⟨rfl, True.intro, (by rw [r79, r50]; exact sCo_B (by omega) (by omega) (by omega) (by omega) (by omega) (by omega) hz30 ez30 v66 (by omega))⟩
abbrev jc_M_flows_1ceaa_48 (x1 : Int) (I0 : fH) : Nat → fL → List fV → fH → Prop := fun m lv st I => ∃ (y2 : Int) (y3 : Int) (y4 : Int) (y5 : Int), lv = [(0, .inr (.inr (some 740))), (2, .inl y2), (3, .inl y3), (4, .inl y4), (5, .inl y5)] ∧ st = [] ∧ ((((430 ≤ y2 ∧ y2 ≤ 522) ∧ (y2 - 430) % 4 ≤ 0) ∧ ((30 ≤ y3 ∧ y3 ≤ 410) ∧ (y3 - 30) % 20 ≤ 0) ∧ ((30 ≤ y4 ∧ y4 ≤ 410) ∧ (y4 - 30) % 20 ≤ 0) ∧ (0 ≤ y5 ∧ y5 ≤ 5) ∧ (y3 = 30 + 20 * I0 741 (430 + 4 * x1.toNat)) ∧ (y4 = 30 + 20 * I0 741 (431 + 4 * x1.toNat)) ∧ (y2 = 430 + 4 * x1) ∧ (I0 741 (433 + 4 * x1.toNat) = 1)) ∧ (mR I = nf (sFg x1) (mR I0) y5.toNat)) ∧ m = (1 + 1 * (5 - y5) : Int).toNat
set_option maxRecDepth 8000 in
theorem ct_M_flows_1ceaa {I : fH} {x1 : Int} (h0 : fB bsJ I) (ha1 : (0 ≤ x1 ∧ x1 ≤ 23)) (hp0 : sI I 741) (hp1 : x1 < I 741 6) : fC ρ base n F xTc vwCl xTys D dA la gJ (fbz bsJ znJ (fKc wz_e4f60) I) xm_297 [.inr (.inr (some 740)), .inl x1] I (fun I' r => r = none ∧ True ∧ (mR I' = sFl1 x1.toNat (mR I))) := by
  have hW : fzs wz_e4f60 (fKc wz_e4f60) := fKc_ok _
  refine f_meth (rb := rbJ) (J := [(48, (jc_M_flows_1ceaa_48 x1 I))]) 7 400 xG xin_297 x6_297 okJ (fB_self h0) ?_ ?_
  · refine List.forall_mem_cons.mpr ⟨?_, fun q h => absurd h List.not_mem_nil⟩
    · rintro m _ _ I1 hB1 ⟨y2, y3, y4, y5, rfl, rfl, ⟨hb, hx0⟩, hm⟩
      have wa : gt (mR I1) (430 + 4 * x1) = I 741 (430 + 4 * x1.toNat) := (mG_fr (i0 := 430) (i1 := 525) (m := 1) (q := 0) (by decide +kernel) (fFr_of hB1) (by omega)).trans (mG_at (i0 := 430) (i1 := 525) (m := 1) (q := 0) (by decide +kernel) (by omega) (by omega))
      have wb : gt (mR I1) (431 + 4 * x1) = I 741 (431 + 4 * x1.toNat) := (mG_fr (i0 := 430) (i1 := 525) (m := 1) (q := 0) (by decide +kernel) (fFr_of hB1) (by omega)).trans (mG_at (i0 := 430) (i1 := 525) (m := 1) (q := 0) (by decide +kernel) (by omega) (by omega))
      refine And.intro (And.intro (by first | exact fi_ hb.2.2.2.1.1 hb.2.2.2.1.2 rfl | omega) (by first | exact ⟨by decide, by decide⟩ | omega)) (And.intro ?_ ?_)
      · intro c1
        exact ⟨rfl, True.intro, (by have e5 : y5 = 5 := (by omega); have q := hx0; rw [e5] at q; exact q.trans (sFl1_y (p := 433 + 4 * x1) (x := I 741 (433 + 4 * x1.toNat)) (mG_at (i0 := 430) (i1 := 525) (m := 1) (q := 0) (by decide +kernel) (by omega) (by omega)).symm rfl (by omega) (by omega)))⟩
      · intro c2
        refine And.intro ⟨rfl, by decide, by decide⟩ ?_
        refine fload rL_741_741_31_415_20_4 h0 hB1 (by omega) ?_
        intro z3 lz3 uz3 qz3
        have v64 := mL_r (i0 := 31) (i1 := 415) (m := 20) (q := 4) (by decide +kernel) qz3 (by omega) rfl
        refine And.intro (by first | exact fi_ lz3 uz3 rfl | omega) ?_
        refine And.intro ⟨rfl, by decide, by decide⟩ ?_
        refine fload rL_741_741_30_410_20_0 h0 hB1 (by omega) ?_
        intro z4 lz4 uz4 qz4
        have v74 := mL_r (i0 := 30) (i1 := 410) (m := 20) (q := 0) (by decide +kernel) qz4 (by omega) rfl
        refine And.intro (by first | exact fi_ lz4 uz4 rfl | omega) ?_
        intro z5 hz5 ez5 bz5
        have m76 := mul_rng lz3 uz3 lz4 uz4
        have k76 := bz5 ⟨by omega, by omega⟩
        refine And.intro ⟨rfl, by decide, by decide⟩ ?_
        refine fload rL_741_741_31_415_20_4 h0 hB1 (by omega) ?_
        intro z6 lz6 uz6 qz6
        have v88 := mL_r (i0 := 31) (i1 := 415) (m := 20) (q := 4) (by decide +kernel) qz6 (by omega) rfl
        refine And.intro (by first | exact fi_ lz6 uz6 rfl | omega) ?_
        refine And.intro ⟨rfl, by decide, by decide⟩ ?_
        refine fload rL_741_741_30_410_20_0 h0 hB1 (by omega) ?_
        intro z7 lz7 uz7 qz7
        have v97 := mL_r (i0 := 30) (i1 := 410) (m := 20) (q := 0) (by decide +kernel) qz7 (by omega) rfl
        refine And.intro (by first | exact fi_ lz7 uz7 rfl | omega) ?_
        intro z8 hz8 ez8 bz8
        have m99 := mul_rng lz6 uz6 lz7 uz7
        have k99 := bz8 ⟨by omega, by omega⟩
        intro z9 hz9 ez9 bz9
        have k100 := bz9 ⟨by omega, by omega⟩
        refine And.intro ⟨rfl, by decide, by decide⟩ ?_
        refine fload rL_741_741_30_410_20_0 h0 hB1 (by omega) ?_
        intro z10 lz10 uz10 qz10
        have v108 := mL_r (i0 := 30) (i1 := 410) (m := 20) (q := 0) (by decide +kernel) qz10 (by omega) rfl
        have w108 := fld_at qz10 (30 + 20 * (I 741 (430 + 4 * x1.toNat)).toNat) (by omega)
        refine And.intro ⟨rfl, by decide, by decide⟩ ?_
        refine fload rL_741_741_30_410_20_0 h0 hB1 (by omega) ?_
        intro z11 lz11 uz11 qz11
        have v117 := mL_r (i0 := 30) (i1 := 410) (m := 20) (q := 0) (by decide +kernel) qz11 (by omega) rfl
        have w117 := fld_at qz11 (30 + 20 * (I 741 (431 + 4 * x1.toNat)).toNat) (by omega)
        have wv := sI_vol hp0 h0 hB1 (by decide +kernel) (l := x1.toNat) (by omega)
        refine And.intro (by omega) ?_
        refine And.intro (And.intro (by omega) (by omega)) ?_
        intro z12 hz12 ez12
        have d120 := xldv_t (by omega) (by omega) (by omega) hz12 ez12
        have f120 := fl_al lz3 lz6 lz7 lz4 (show 0 < z7 + z4 by omega) rfl (show z9 = z3 * z4 - z6 * z7 by omega)
        rw [show z7 + z4 = z10 + z11 by omega, ← d120] at f120
        refine And.intro ⟨rfl, by decide, by decide⟩ ?_
        refine fload rL_741_741_432_524_4_0 h0 hB1 (by omega) ?_
        intro z13 lz13 uz13 qz13
        have v132 := mL_r (i0 := 432) (i1 := 524) (m := 4) (q := 0) (by decide +kernel) qz13 (by omega) rfl
        refine And.intro (by first | exact fi_ lz13 uz13 rfl | omega) ?_
        intro z14 hz14 ez14 bz14
        have g134 := fl_go lz3 lz6 f120 ⟨lz13, uz13⟩
        have k134 := bz14 ⟨by omega, by omega⟩
        refine And.intro (And.intro (by omega) (by omega)) ?_
        intro z15 hz15 ez15
        have d138 := xldv_t (by omega) (by omega) (by decide) hz15 ez15
        have f138 : -z6 ≤ z15 ∧ z15 ≤ z3 := by
              rw [d138, k134]
              exact g134.2
        intro z16 hz16 ez16 bz16
        clear ez16
        have bz16 := bz16 (by omega)
        refine And.intro (by omega) (And.intro ?_ ?_)
        · intro c17
          refine And.intro ⟨rfl, by decide, by decide⟩ ?_
          refine fload rL_741_741_31_415_20_4 h0 hB1 (by omega) ?_
          intro z18 lz18 uz18 qz18
          have v194 := mL_r (i0 := 31) (i1 := 415) (m := 20) (q := 4) (by decide +kernel) qz18 (by omega) rfl
          intro z19 hz19 ez19 bz19
          clear ez19
          have bz19 := bz19 (by omega)
          refine fstore rS_741_741_31_415_20_4 (fzs_sub (by decide +kernel) hW) (by omega) (by omega) ?_
          intro IhB20 ehB20 hB20
          have t21 := fup_self ehB20
          have r198 := mS_r (i0 := 31) (i1 := 415) (m := 20) (q := 4) (by decide +kernel) ehB20 (by omega) rfl
          refine And.intro ⟨rfl, by decide, by decide⟩ ?_
          refine fload rL_741_741_430_522_4_0 h0 hB20 (by omega) ?_
          intro z22 lz22 uz22 qz22
          have v205 := mL_r (i0 := 430) (i1 := 522) (m := 4) (q := 0) (by decide +kernel) qz22 (by omega) rfl
          rw [r198] at v205
          intro z23 hz23 ez23 bz23
          clear ez23
          have bz23 := bz23 rfl (by omega)
          refine Exists.intro xm_292 (And.intro mi_292 (And.intro ⟨rfl, rfl, rfl, rfl⟩ (And.intro rfl ?_)))
          refine fcall _ h0 (fzs_sub (by decide +kernel) hW) hB20 (ct_M_comes_305fc (fBz h0 hB20) (by first | exact ⟨lz22, uz22⟩ | omega) (by first | exact ⟨hb.2.2.2.1.1, Int.le_trans (Int.le_sub_one_of_lt (Int.lt_of_lt_of_le c2 (Int.le_refl _))) (by decide)⟩ | omega) (by omega) (by omega) (by omega)) ?_
          rintro IhB25 _ hB25 fhB25 ⟨rfl, hz24, g0z24⟩
          exact fcutJ (I := IhB25) (j := (jc_M_flows_1ceaa_48 x1 I)) (lv' := [(0, .inr (.inr (some 740))), (2, .inl _), (3, .inl _), (4, .inl _), (5, .inl _)]) (And.intro rfl (And.intro rfl (And.intro rfl (And.intro rfl (And.intro rfl True.intro))))) ⟨_, _, _, _, rfl, rfl, ⟨by omega, (nf_row hx0 (by omega) (by omega) (by rw [g0z24, r198]; exact sFg_neg (gt_at (gt_n (by omega) (by omega) v205) (by omega)).symm wb (sFx_of wa wb v64 (by omega) v74 (by omega) v88 (by omega) v97 (by omega) v132 (by omega) (show z9 = z3 * z4 - z6 * z7 by omega) (show _ = z7 + z4 by omega) d120 k134 (bz16.trans d138)) (by omega) (by omega) (by omega) (by omega) (by omega)))⟩, rfl⟩ (by omega)
        · intro c26
          refine And.intro ⟨rfl, by decide, by decide⟩ ?_
          refine fload rL_741_741_31_415_20_4 h0 hB1 (by omega) ?_
          intro z27 lz27 uz27 qz27
          have v158 := mL_r (i0 := 31) (i1 := 415) (m := 20) (q := 4) (by decide +kernel) qz27 (by omega) rfl
          intro z28 hz28 ez28 bz28
          clear ez28
          have bz28 := bz28 (by omega)
          refine fstore rS_741_741_31_415_20_4 (fzs_sub (by decide +kernel) hW) (by omega) (by omega) ?_
          intro IhB29 ehB29 hB29
          have t30 := fup_self ehB29
          have r162 := mS_r (i0 := 31) (i1 := 415) (m := 20) (q := 4) (by decide +kernel) ehB29 (by omega) rfl
          refine And.intro ⟨rfl, by decide, by decide⟩ ?_
          refine fload rL_741_741_431_523_4_0 h0 hB29 (by omega) ?_
          intro z31 lz31 uz31 qz31
          have v171 := mL_r (i0 := 431) (i1 := 523) (m := 4) (q := 0) (by decide +kernel) qz31 (by omega) rfl
          rw [r162] at v171
          refine Exists.intro xm_292 (And.intro mi_292 (And.intro ⟨rfl, rfl, rfl, rfl⟩ (And.intro rfl ?_)))
          refine fcall _ h0 (fzs_sub (by decide +kernel) hW) hB29 (ct_M_comes_305fc (fBz h0 hB29) (by first | exact ⟨lz31, uz31⟩ | omega) (by first | exact ⟨hb.2.2.2.1.1, Int.le_trans (Int.le_sub_one_of_lt (Int.lt_of_lt_of_le c2 (Int.le_refl _))) (by decide)⟩ | omega) (by omega) (by omega) (by omega)) ?_
          rintro IhB33 _ hB33 fhB33 ⟨rfl, hz32, g0z32⟩
          exact fcutJ (I := IhB33) (j := (jc_M_flows_1ceaa_48 x1 I)) (lv' := [(0, .inr (.inr (some 740))), (2, .inl _), (3, .inl _), (4, .inl _), (5, .inl _)]) (And.intro rfl (And.intro rfl (And.intro rfl (And.intro rfl (And.intro rfl True.intro))))) ⟨_, _, _, _, rfl, rfl, ⟨by omega, (nf_row hx0 (by omega) (by omega) (by rw [g0z32, r162]; exact sFg_pos wa (gt_at (gt_n (by omega) (by omega) v171) (by omega)).symm (sFx_of wa wb v64 (by omega) v74 (by omega) v88 (by omega) v97 (by omega) v132 (by omega) (show z9 = z3 * z4 - z6 * z7 by omega) (show _ = z7 + z4 by omega) d120 k134 (bz16.trans d138)) (by omega) (by omega) (by omega) (by omega)))⟩, rfl⟩ (by omega)
  · have hB0 := fB_self (zn := znJ) (K := fKc wz_e4f60) h0
    refine And.intro ⟨rfl, by decide, by decide⟩ ?_
    refine fload rL_741_741_433_525_4_0 h0 hB0 (by omega) ?_
    intro z34 lz34 uz34 qz34
    have v15 := mL_r (i0 := 433) (i1 := 525) (m := 4) (q := 0) (by decide +kernel) qz34 (by omega) rfl
    have w15 := fld_at qz34 (433 + 4 * x1.toNat) (by omega)
    refine And.intro (by first | exact fi_ lz34 uz34 rfl | omega) (And.intro ?_ ?_)
    · intro c35
      refine And.intro ⟨rfl, by decide, by decide⟩ ?_
      refine fload rL_741_741_430_522_4_0 h0 hB0 (by omega) ?_
      intro z36 lz36 uz36 qz36
      have v26 := mL_r (i0 := 430) (i1 := 522) (m := 4) (q := 0) (by decide +kernel) qz36 (by omega) rfl
      have w26 := fld_at qz36 (430 + 4 * x1.toNat) (by omega)
      refine Exists.intro xm_239 (And.intro mi_239 (And.intro ⟨rfl, rfl, rfl, rfl⟩ (And.intro rfl ?_)))
      refine fcallp hB0 (ct_M_cellAt_c15f4 (fBz h0 hB0) (by first | exact ⟨lz36, uz36⟩ | omega)) ?_
      rintro _ ⟨_, rfl, rfl⟩
      refine And.intro ⟨rfl, by decide, by decide⟩ ?_
      refine fload rL_741_741_431_523_4_0 h0 hB0 (by omega) ?_
      intro z38 lz38 uz38 qz38
      have v39 := mL_r (i0 := 431) (i1 := 523) (m := 4) (q := 0) (by decide +kernel) qz38 (by omega) rfl
      have w39 := fld_at qz38 (431 + 4 * x1.toNat) (by omega)
      refine Exists.intro xm_239 (And.intro mi_239 (And.intro ⟨rfl, rfl, rfl, rfl⟩ (And.intro rfl ?_)))
      refine fcallp hB0 (ct_M_cellAt_c15f4 (fBz h0 hB0) (by first | exact ⟨lz38, uz38⟩ | omega)) ?_
      rintro _ ⟨_, rfl, rfl⟩
      exact fcutJ (I := I) (j := (jc_M_flows_1ceaa_48 x1 I)) (lv' := [(0, .inr (.inr (some 740))), (2, .inl _), (3, .inl _), (4, .inl _), (5, .inl _)]) (And.intro rfl (And.intro rfl (And.intro rfl (And.intro rfl (And.intro rfl True.intro))))) ⟨_, _, _, _, rfl, rfl, ⟨by omega, rfl⟩, rfl⟩ (by omega)
    · intro c40
      exact ⟨rfl, True.intro, (sFl1_n (u := x1) v15 (by omega) (by omega) (by omega))⟩
set_option maxRecDepth 8000 in
theorem ct_M_part_9aaa8 {I : fH} {x1 : Int} {x2 : Int} (h0 : fB bsJ I) (ha1 : (0 ≤ x1 ∧ x1 ≤ 23)) (ha2 : (0 ≤ x2 ∧ x2 ≤ 99999)) : fC ρ base n F xTc vwCl xTys D dA la gJ (fbz bsJ znJ (fKc []) I) xm_290 [.inr (.inr (some 740)), .inl x1, .inl x2] I (fun _ r => ∃ z, r = some (.inl z) ∧ (0 ≤ z ∧ z ≤ 99999) ∧ (x2 = gt (mR I) (535 + 14 * x1) → z = sPt (mR I) x1)) := by
  have hW : fzs [] (fKc []) := fKc_ok _
  refine f_meth (rb := rbJ) (J := []) 1 400 xG xin_290 x6_290 okJ (fB_self h0) ?_ ?_
  · exact fun q h => absurd h List.not_mem_nil
  · have hB0 := fB_self (zn := znJ) (K := fKc []) h0
    refine And.intro ⟨rfl, by decide, by decide⟩ ?_
    refine Exists.intro xm_244 (And.intro mi_244 (And.intro ⟨rfl, rfl, rfl, rfl⟩ (And.intro rfl ?_)))
    refine fcallp hB0 (ct_M_workAt_83d38 (fBz h0 hB0) (by first | exact ⟨ha1.1, ha1.2⟩ | omega)) ?_
    rintro _ ⟨_, rfl, rfl⟩
    refine fload rL_741_741_534_856_14_0 h0 hB0 (by omega) ?_
    intro z2 lz2 uz2 qz2
    have v14 := mL_r (i0 := 534) (i1 := 856) (m := 14) (q := 0) (by decide +kernel) qz2 (by omega) rfl
    intro z3 hz3 ez3 bz3
    clear ez3
    have bz3 := bz3 (by omega)
    intro z4 hz4 ez4 bz4
    clear ez4
    try replace bz4 := bz4 (by omega)
    have m16 := mul_rng (x := x2) (A := 99999) (by omega) (by omega) (y := z3) (B := 100) (by omega) (by omega)
    have k16 := bz4 ⟨by omega, by omega⟩
    refine And.intro (And.intro (by omega) (And.intro (by first | exact ⟨by decide, by decide⟩ | omega) (And.intro (by first | exact by decide | omega) rfl))) ?_
    intro z5 hz5 ez5 dz5
    have dz5 := dz5 (by omega) (by omega)
    change _ = _ / _ at dz5
    refine And.intro (True.intro) ?_
    exact ⟨_, rfl, by omega, (fun q => sPt_of q rfl v14 (by omega) k16 (by omega) (by omega))⟩
set_option maxRecDepth 8000 in
theorem ct_M_still_f4bbc {I : fH} {x1 : Int} (h0 : fB bsJ I) (ha1 : (0 ≤ x1 ∧ x1 ≤ 23)) : fC ρ base n F xTc vwCl xTys D dA la gJ (fbz bsJ znJ (fKc wz_76090) I) xm_293 [.inr (.inr (some 740)), .inl x1] I (fun I' r => r = none ∧ True ∧ (mR I' = sSti (mR I) x1)) := by
  have hW : fzs wz_76090 (fKc wz_76090) := fKc_ok _
  refine f_meth (rb := rbJ) (J := []) 1 400 xG xin_293 x6_293 okJ (fB_self h0) ?_ ?_
  · exact fun q h => absurd h List.not_mem_nil
  · have hB0 := fB_self (zn := znJ) (K := fKc wz_76090) h0
    refine Exists.intro xm_244 (And.intro mi_244 (And.intro ⟨rfl, rfl, rfl, rfl⟩ (And.intro rfl ?_)))
    refine fcallp hB0 (ct_M_workAt_83d38 (fBz h0 hB0) (by first | exact ⟨ha1.1, ha1.2⟩ | omega)) ?_
    rintro _ ⟨_, rfl, rfl⟩
    refine And.intro ⟨rfl, by decide, by decide⟩ ?_
    refine fload1 rL_741_741_22_22_1_0 h0 hB0 ⟨by decide, by decide⟩ (by first | exact ⟨by decide, by decide⟩ | omega) ?_
    intro z2 lz2 uz2 qz2
    have pz2 := fld_at qz2 22 (by omega)
    have v12 := mL_r (i0 := 22) (i1 := 22) (m := 1) (q := 0) (by decide +kernel) qz2 (by omega) rfl
    refine And.intro (by first | exact fi_ lz2 uz2 rfl | omega) (And.intro ?_ ?_)
    · intro c3
      refine And.intro ⟨rfl, by decide, by decide⟩ ?_
      refine fload1 rL_741_741_22_22_1_0 h0 hB0 ⟨by decide, by decide⟩ (by first | exact ⟨by decide, by decide⟩ | omega) ?_
      intro z4 lz4 uz4 qz4
      have pz4 := fld_at qz4 22 (by omega)
      have v24 := mL_r (i0 := 22) (i1 := 22) (m := 1) (q := 0) (by decide +kernel) qz4 (by omega) rfl
      intro z5 hz5 ez5 bz5
      clear ez5
      have bz5 := bz5 (by omega)
      refine fstore1 rS_741_741_22_22_1_0 (fzs_sub (by decide +kernel) hW) ⟨by decide, by decide⟩ (by first | exact ⟨by decide, by decide⟩ | omega) (by omega) ?_
      intro IhB6 ehB6 hB6
      have t7 := fup_self ehB6
      have t8 := fup_at ehB6 22 (by first | rfl | omega)
      have r27 := mS_r (i0 := 22) (i1 := 22) (m := 1) (q := 0) (by decide +kernel) ehB6 (by omega) rfl
      refine And.intro ⟨rfl, by decide, by decide⟩ ?_
      refine fload rL_741_741_531_853_14_0 h0 hB6 (by omega) ?_
      intro z9 lz9 uz9 qz9
      have v36 := mL_r (i0 := 531) (i1 := 853) (m := 14) (q := 0) (by decide +kernel) qz9 (by omega) rfl
      rw [r27] at v36
      have w36 : z9 = gt (mR I) (531 + 14 * x1) := gt_at (gt_n (by omega) (by omega) v36) (by omega)
      refine Exists.intro xm_239 (And.intro mi_239 (And.intro ⟨rfl, rfl, rfl, rfl⟩ (And.intro rfl ?_)))
      refine fcallp hB6 (ct_M_cellAt_c15f4 (fBz h0 hB6) (by first | exact ⟨lz9, uz9⟩ | omega)) ?_
      rintro _ ⟨_, rfl, rfl⟩
      refine And.intro ⟨rfl, by decide, by decide⟩ ?_
      refine fload rL_741_741_535_857_14_0 h0 hB6 (by omega) ?_
      intro z11 lz11 uz11 qz11
      have v54 := mL_r (i0 := 535) (i1 := 857) (m := 14) (q := 0) (by decide +kernel) qz11 (by omega) rfl
      rw [r27] at v54
      refine Exists.intro xm_290 (And.intro mi_290 (And.intro ⟨rfl, rfl, rfl, rfl⟩ (And.intro rfl ?_)))
      refine fcallp hB6 (ct_M_part_9aaa8 (fBz h0 hB6) (by first | exact ⟨ha1.1, ha1.2⟩ | omega) (by first | exact ⟨lz11, uz11⟩ | omega)) ?_
      rintro _ ⟨z12, rfl, hz12, g0z12⟩
      try rw [r27] at g0z12
      have s55 := g0z12 (gt_at v54 (by omega))
      refine And.intro ⟨rfl, by decide, by decide⟩ ?_
      refine fload rL_741_741_34_414_20_0 h0 hB6 (by omega) ?_
      intro z13 lz13 uz13 qz13
      have v63 := mL_r (i0 := 34) (i1 := 414) (m := 20) (q := 0) (by decide +kernel) qz13 (by omega) rfl
      rw [r27] at v63
      refine Exists.intro xm_291 (And.intro mi_291 (And.intro ⟨rfl, rfl, rfl, rfl⟩ (And.intro True.intro ?_)))
      refine fcallp hB6 (ct_M_least_31c1d (fBz h0 hB6) (by first | exact ⟨hz12.1, Int.le_trans hz12.2 (by decide)⟩ | omega) (by first | exact ⟨Int.le_trans (by decide) lz13, Int.le_trans uz13 (by decide)⟩ | omega)) ?_
      rintro _ ⟨z14, rfl, hz14⟩
      refine And.intro ⟨rfl, by decide, by decide⟩ ?_
      refine fload rL_741_741_34_414_20_0 h0 hB6 (by omega) ?_
      intro z15 lz15 uz15 qz15
      have v75 := mL_r (i0 := 34) (i1 := 414) (m := 20) (q := 0) (by decide +kernel) qz15 (by omega) rfl
      rw [r27] at v75
      intro z16 hz16 ez16 bz16
      clear ez16
      have bz16 := bz16 (by omega)
      refine fstore rS_741_741_34_414_20_0 (fzs_sub (by decide +kernel) hW) (by omega) (by omega) ?_
      intro IhB17 ehB17 hB17
      have t18 := fup_self ehB17
      have t19 : IhB17 741 22 = IhB6 741 22 := (congrFun (congrFun ehB17 741) 22).trans (fup_ne (by first | exact Or.inl (by decide) | omega))
      have r79 := mS_r (i0 := 34) (i1 := 414) (m := 20) (q := 0) (by decide +kernel) ehB17 (by omega) rfl
      refine And.intro ⟨rfl, by decide, by decide⟩ ?_
      refine fload rL_741_741_531_853_14_0 h0 hB17 (by omega) ?_
      intro z20 lz20 uz20 qz20
      have v88 := mL_r (i0 := 531) (i1 := 853) (m := 14) (q := 0) (by decide +kernel) qz20 (by omega) rfl
      rw [r79, r27] at v88
      have w88 : z20 = gt (mR I) (531 + 14 * x1) := gt_at (gt_n (by omega) (by omega) (gt_n (by omega) (by omega) v88)) (by omega)
      refine And.intro (And.intro (by first | exact fi_ hz14.1.1 hz14.1.2 rfl | omega) (And.intro (by first | exact ⟨by decide, by decide⟩ | omega) (And.intro (by first | exact by decide | omega) rfl))) ?_
      intro z21 hz21 ez21 dz21
      have dz21 := dz21 (by omega) (by omega)
      change _ = _ / _ at dz21
      refine Exists.intro xm_292 (And.intro mi_292 (And.intro ⟨rfl, rfl, rfl, rfl⟩ (And.intro rfl ?_)))
      refine fcall _ h0 (fzs_sub (by decide +kernel) hW) hB17 (ct_M_comes_305fc (fBz h0 hB17) (by first | exact ⟨lz20, uz20⟩ | omega) (by first | exact ⟨by decide, by decide⟩ | omega) (by omega) (by omega) (by omega)) ?_
      rintro IhB23 _ hB23 fhB23 ⟨rfl, hz22, g0z22⟩
      have t24 := fhB23 741 22 (by decide +kernel)
      refine And.intro ⟨rfl, by decide, by decide⟩ ?_
      refine fload rL_741_741_531_853_14_0 h0 hB23 (by omega) ?_
      intro z25 lz25 uz25 qz25
      have v105 := mL_r (i0 := 531) (i1 := 853) (m := 14) (q := 0) (by decide +kernel) qz25 (by omega) rfl
      rw [g0z22, r79, r27] at v105
      have w105 : z25 = gt (mR I) (531 + 14 * x1) := gt_at (gt_n (by omega) (by omega) (gt_n (by omega) (by omega) (gt_co v105 (by omega) (by omega) (by omega) (by omega) (by omega)))) (by omega)
      refine And.intro (And.intro (by first | exact fi_ hz14.1.1 hz14.1.2 rfl | omega) (And.intro (by first | exact ⟨by decide, by decide⟩ | omega) (And.intro (by first | exact by decide | omega) rfl))) ?_
      intro z26 hz26 ez26 dz26
      have dz26 := dz26 (by omega) (by omega)
      change _ = _ / _ at dz26
      intro z27 hz27 ez27 bz27
      clear ez27
      have bz27 := bz27 (by omega)
      refine Exists.intro xm_292 (And.intro mi_292 (And.intro ⟨rfl, rfl, rfl, rfl⟩ (And.intro rfl ?_)))
      refine fcall _ h0 (fzs_sub (by decide +kernel) hW) hB23 (ct_M_comes_305fc (fBz h0 hB23) (by first | exact ⟨lz25, uz25⟩ | omega) (by first | exact ⟨by decide, by decide⟩ | omega) (by omega) (by omega) (by omega)) ?_
      rintro IhB29 _ hB29 fhB29 ⟨rfl, hz28, g0z28⟩
      have t30 := fhB29 741 22 (by decide +kernel)
      exact ⟨rfl, True.intro, (by rw [g0z28, g0z22, r79, r27]; exact (sSt_y (n := z14) (by omega) v12 (by omega) (by omega) (by omega) v36 (by omega) (by omega) (by omega) (mn_of (mn_le (by omega) (by omega) (by omega)) s55 v63) (by omega) (by omega) (by omega) (by omega) (by omega) (by omega) (by omega)))⟩
    · intro c31
      exact ⟨rfl, True.intro, (sSt_n v12 (by omega) (by omega))⟩
set_option maxRecDepth 8000 in
theorem ct_M_garden_cfd54 {I : fH} {x1 : Int} (h0 : fB bsJ I) (ha1 : (0 ≤ x1 ∧ x1 ≤ 23)) : fC ρ base n F xTc vwCl xTys D dA la gJ (fbz bsJ znJ (fKc wz_e4f60) I) xm_289 [.inr (.inr (some 740)), .inl x1] I (fun I' r => r = none ∧ True ∧ (mR I' = sGa (mR I) x1)) := by
  have hW : fzs wz_e4f60 (fKc wz_e4f60) := fKc_ok _
  refine f_meth (rb := rbJ) (J := []) 1 400 xG xin_289 x6_289 okJ (fB_self h0) ?_ ?_
  · exact fun q h => absurd h List.not_mem_nil
  · have hB0 := fB_self (zn := znJ) (K := fKc wz_e4f60) h0
    refine Exists.intro xm_244 (And.intro mi_244 (And.intro ⟨rfl, rfl, rfl, rfl⟩ (And.intro rfl ?_)))
    refine fcallp hB0 (ct_M_workAt_83d38 (fBz h0 hB0) (by first | exact ⟨ha1.1, ha1.2⟩ | omega)) ?_
    rintro _ ⟨_, rfl, rfl⟩
    refine And.intro ⟨rfl, by decide, by decide⟩ ?_
    refine fload rL_741_741_531_853_14_0 h0 hB0 (by omega) ?_
    intro z2 lz2 uz2 qz2
    have v14 := mL_r (i0 := 531) (i1 := 853) (m := 14) (q := 0) (by decide +kernel) qz2 (by omega) rfl
    have w14 : z2 = gt (mR I) (531 + 14 * x1) := gt_at v14 (by omega)
    refine Exists.intro xm_239 (And.intro mi_239 (And.intro ⟨rfl, rfl, rfl, rfl⟩ (And.intro rfl ?_)))
    refine fcallp hB0 (ct_M_cellAt_c15f4 (fBz h0 hB0) (by first | exact ⟨lz2, uz2⟩ | omega)) ?_
    rintro _ ⟨_, rfl, rfl⟩
    refine And.intro ⟨rfl, by decide, by decide⟩ ?_
    refine fload1 rL_741_741_2_2_1_0 h0 hB0 ⟨by decide, by decide⟩ (by first | exact ⟨by decide, by decide⟩ | omega) ?_
    intro z4 lz4 uz4 qz4
    have pz4 := fld_at qz4 2 (by omega)
    have v29 := mL_r (i0 := 2) (i1 := 2) (m := 1) (q := 0) (by decide +kernel) qz4 (by omega) rfl
    refine Exists.intro xm_283 (And.intro mi_283 (And.intro ⟨rfl, rfl, rfl, rfl⟩ (And.intro rfl ?_)))
    refine fcallp hB0 (ct_M_isDay_57f71 (fBz h0 hB0) (by first | exact ⟨lz4, uz4⟩ | omega)) ?_
    rintro _ ⟨z5, rfl, hz5, g0z5⟩
    have d30 := dy_ph g0z5 v29 (by omega)
    refine And.intro (by omega) (And.intro ?_ ?_)
    · intro c6
      refine And.intro ⟨rfl, by decide, by decide⟩ ?_
      refine fload rL_741_741_33_413_20_0 h0 hB0 (by omega) ?_
      intro z7 lz7 uz7 qz7
      have v70 := mL_r (i0 := 33) (i1 := 413) (m := 20) (q := 0) (by decide +kernel) qz7 (by omega) rfl
      intro z8 hz8 ez8 bz8
      clear ez8
      have bz8 := bz8 (by omega)
      refine fstore rS_741_741_33_413_20_0 (fzs_sub (by decide +kernel) hW) (by omega) (by omega) ?_
      intro IhB9 ehB9 hB9
      have t10 := fup_self ehB9
      have t11 : IhB9 741 2 = I 741 2 := (congrFun (congrFun ehB9 741) 2).trans (fup_ne (by first | exact Or.inl (by decide) | omega))
      have r74 := mS_r (i0 := 33) (i1 := 413) (m := 20) (q := 0) (by decide +kernel) ehB9 (by omega) rfl
      refine And.intro ⟨rfl, by decide, by decide⟩ ?_
      refine fload rL_741_741_531_853_14_0 h0 hB9 (by omega) ?_
      intro z12 lz12 uz12 qz12
      have v83 := mL_r (i0 := 531) (i1 := 853) (m := 14) (q := 0) (by decide +kernel) qz12 (by omega) rfl
      rw [r74] at v83
      have w83 : z12 = gt (mR I) (531 + 14 * x1) := gt_at (gt_n (by omega) (by omega) v83) (by omega)
      refine Exists.intro xm_292 (And.intro mi_292 (And.intro ⟨rfl, rfl, rfl, rfl⟩ (And.intro rfl ?_)))
      refine fcall _ h0 (fzs_sub (by decide +kernel) hW) hB9 (ct_M_comes_305fc (fBz h0 hB9) (by first | exact ⟨lz12, uz12⟩ | omega) (by first | exact ⟨by decide, by decide⟩ | omega) (by omega) (by omega) (by omega)) ?_
      rintro IhB14 _ hB14 fhB14 ⟨rfl, hz13, g0z13⟩
      have t15 := fhB14 741 2 (by decide +kernel)
      exact ⟨rfl, True.intro, (by rw [g0z13, r74]; exact (sGa_z (d30.elim (fun q => absurd q.1 (by omega)) (fun q => q.2)) (by omega) (by omega) (by omega) (by omega) (by omega) (mR_fin h0 _) ((mR_rng (i0 := 31) (i1 := 415) (m := 20) (q := 4) (lo := 0) (hi := 999999) (by decide +kernel) h0 (by omega)).2)))⟩
    · intro c16
      refine And.intro ⟨rfl, by decide, by decide⟩ ?_
      refine fload rL_741_741_535_857_14_0 h0 hB0 (by omega) ?_
      intro z17 lz17 uz17 qz17
      have v45 := mL_r (i0 := 535) (i1 := 857) (m := 14) (q := 0) (by decide +kernel) qz17 (by omega) rfl
      refine Exists.intro xm_290 (And.intro mi_290 (And.intro ⟨rfl, rfl, rfl, rfl⟩ (And.intro rfl ?_)))
      refine fcallp hB0 (ct_M_part_9aaa8 (fBz h0 hB0) (by first | exact ⟨ha1.1, ha1.2⟩ | omega) (by first | exact ⟨lz17, uz17⟩ | omega)) ?_
      rintro _ ⟨z18, rfl, hz18, g0z18⟩
      have s46 := g0z18 (gt_at v45 (by omega))
      refine And.intro ⟨rfl, by decide, by decide⟩ ?_
      refine fload rL_741_741_33_413_20_0 h0 hB0 (by omega) ?_
      intro z19 lz19 uz19 qz19
      have v54 := mL_r (i0 := 33) (i1 := 413) (m := 20) (q := 0) (by decide +kernel) qz19 (by omega) rfl
      refine Exists.intro xm_291 (And.intro mi_291 (And.intro ⟨rfl, rfl, rfl, rfl⟩ (And.intro True.intro ?_)))
      refine fcallp hB0 (ct_M_least_31c1d (fBz h0 hB0) (by first | exact ⟨hz18.1, Int.le_trans hz18.2 (by decide)⟩ | omega) (by first | exact ⟨Int.le_trans (by decide) lz19, Int.le_trans uz19 (by decide)⟩ | omega)) ?_
      rintro _ ⟨z20, rfl, hz20⟩
      refine And.intro ⟨rfl, by decide, by decide⟩ ?_
      refine fload rL_741_741_33_413_20_0 h0 hB0 (by omega) ?_
      intro z21 lz21 uz21 qz21
      have v70 := mL_r (i0 := 33) (i1 := 413) (m := 20) (q := 0) (by decide +kernel) qz21 (by omega) rfl
      intro z22 hz22 ez22 bz22
      clear ez22
      have bz22 := bz22 (by omega)
      refine fstore rS_741_741_33_413_20_0 (fzs_sub (by decide +kernel) hW) (by omega) (by omega) ?_
      intro IhB23 ehB23 hB23
      have t24 := fup_self ehB23
      have t25 : IhB23 741 2 = I 741 2 := (congrFun (congrFun ehB23 741) 2).trans (fup_ne (by first | exact Or.inl (by decide) | omega))
      have r74 := mS_r (i0 := 33) (i1 := 413) (m := 20) (q := 0) (by decide +kernel) ehB23 (by omega) rfl
      refine And.intro ⟨rfl, by decide, by decide⟩ ?_
      refine fload rL_741_741_531_853_14_0 h0 hB23 (by omega) ?_
      intro z26 lz26 uz26 qz26
      have v83 := mL_r (i0 := 531) (i1 := 853) (m := 14) (q := 0) (by decide +kernel) qz26 (by omega) rfl
      rw [r74] at v83
      have w83 : z26 = gt (mR I) (531 + 14 * x1) := gt_at (gt_n (by omega) (by omega) v83) (by omega)
      refine Exists.intro xm_292 (And.intro mi_292 (And.intro ⟨rfl, rfl, rfl, rfl⟩ (And.intro rfl ?_)))
      refine fcall _ h0 (fzs_sub (by decide +kernel) hW) hB23 (ct_M_comes_305fc (fBz h0 hB23) (by first | exact ⟨lz26, uz26⟩ | omega) (by first | exact ⟨by decide, by decide⟩ | omega) (by omega) (by omega) (by omega)) ?_
      rintro IhB28 _ hB28 fhB28 ⟨rfl, hz27, g0z27⟩
      have t29 := fhB28 741 2 (by decide +kernel)
      exact ⟨rfl, True.intro, (by rw [g0z27, r74]; exact (sGa_y (d30.elim (fun q => q.2) (fun q => absurd q.1 (by omega))) (gt_n (by omega) (by omega) v83) (by omega) (by omega) (mn_of (mn_le (by omega) (by omega) (by omega)) s46 v54) (by omega) (by omega)))⟩
abbrev jc_M_isCovered_bfece_4 (x1 : Int) (I0 : fH) : Nat → fL → List fV → fH → Prop := fun m lv st I => ∃ (y1 : Int) (y2 : Int) (y3 : Int), lv = [(0, .inr (.inr (some 740))), (1, .inl y1), (2, .inl y2), (3, .inl y3)] ∧ st = [] ∧ (((0 ≤ y1 ∧ y1 ≤ 23) ∧ (0 ≤ y2 ∧ y2 ≤ 1) ∧ (0 ≤ y3 ∧ y3 ≤ 24) ∧ (y1 = x1) ∧ (y3 ≤ I0 741 7)) ∧ (cvU (mR I0) x1 y3 y2)) ∧ m = (1 + 1 * (24 - y3) : Int).toNat
set_option maxRecDepth 8000 in
theorem ct_M_isCovered_bfece {I : fH} {x1 : Int} (h0 : fB bsJ I) (ha1 : (0 ≤ x1 ∧ x1 ≤ 23)) : fC ρ base n F xTc vwCl xTys D dA la gJ (fbz bsJ znJ (fKc []) I) xm_294 [.inr (.inr (some 740)), .inl x1] I (fun _ r => ∃ z, r = some (.inl z) ∧ (0 ≤ z ∧ z ≤ 1) ∧ ((z = 1 ∧ sCv (mR I) x1) ∨ (z = 0 ∧ ¬ sCv (mR I) x1))) := by
  have hW : fzs [] (fKc []) := fKc_ok _
  refine f_meth (rb := rbJ) (J := [(4, (jc_M_isCovered_bfece_4 x1 I))]) 26 400 xG xin_294 x6_294 okJ (fB_self h0) ?_ ?_
  · refine List.forall_mem_cons.mpr ⟨?_, fun q h => absurd h List.not_mem_nil⟩
    · rintro m _ _ I1 hB1 ⟨y1, y2, y3, rfl, rfl, ⟨hb, hx0⟩, hm⟩
      have eJ : I1 = I := fFr_nil (fFr_of hB1)
      have k1 := fBz_eq hB1 (a := 741) (j := 7) (by decide +kernel)
      have b2 := fBd fb_741_7 (fBz h0 hB1)
      refine And.intro ⟨rfl, by decide, by decide⟩ ?_
      refine fload1 rL_741_741_7_7_1_0 h0 hB1 ⟨by decide, by decide⟩ (by first | exact ⟨by decide, by decide⟩ | omega) ?_
      intro z3 lz3 uz3 qz3
      have pz3 := fld_at qz3 7 (by omega)
      have v11 := mL_r (i0 := 7) (i1 := 7) (m := 1) (q := 0) (by decide +kernel) qz3 (by omega) rfl
      rw [eJ] at v11
      have w11 : z3 = gt (mR I) 7 := gt_at v11 (by omega)
      refine And.intro (And.intro (by first | exact fi_ hb.2.2.1.1 hb.2.2.1.2 rfl | omega) (by first | exact fi_ lz3 uz3 rfl | omega)) (And.intro ?_ ?_)
      · intro c4
        refine And.intro (⟨by omega, by omega⟩) ?_
        exact ⟨_, rfl, (by first | exact ⟨hb.2.1.1, hb.2.1.2⟩ | omega), (cvU_end hx0 (by omega))⟩
      · intro c5
        refine And.intro (by first | exact fi_ hb.2.1.1 hb.2.1.2 rfl | omega) (And.intro ?_ ?_)
        · intro c6
          exact fcutJ (I := I1) (j := (jc_M_isCovered_bfece_4 x1 I)) (lv' := [(0, .inr (.inr (some 740))), (1, .inl _), (2, .inl _), (3, .inl _)]) (And.intro rfl (And.intro rfl (And.intro rfl (And.intro rfl True.intro)))) ⟨_, _, _, rfl, rfl, ⟨by omega, (cvU_was hx0 (by omega) (by omega) rfl)⟩, rfl⟩ (by omega)
        · intro c7
          refine Exists.intro xm_267 (And.intro mi_267 (And.intro ⟨rfl, rfl, rfl, rfl⟩ (And.intro rfl ?_)))
          refine fcallp hB1 (ct_M_kindOf_31275 (fBz h0 hB1) (by first | exact ⟨hb.2.2.1.1, Int.le_trans (Int.le_sub_one_of_lt (Int.lt_of_lt_of_le c5 uz3)) (by decide)⟩ | omega)) ?_
          rintro _ ⟨z8, rfl, hz8, g0z8, g1z8⟩
          try rw [eJ] at g0z8
          try rw [eJ] at g1z8
          refine And.intro (And.intro (by first | exact fi_ hz8.1 hz8.2 rfl | omega) (by first | exact ⟨by decide, by decide⟩ | omega)) (And.intro ?_ ?_)
          · intro c9
            exact fcutJ (I := I1) (j := (jc_M_isCovered_bfece_4 x1 I)) (lv' := [(0, .inr (.inr (some 740))), (1, .inl _), (2, .inl _), (3, .inl _)]) (And.intro rfl (And.intro rfl (And.intro rfl (And.intro rfl True.intro)))) ⟨_, _, _, rfl, rfl, ⟨by omega, (cvU_no hx0 (by omega) (by omega) (by omega) (cv1_a (u := y3) (by omega) g1z8 (by omega)))⟩, rfl⟩ (by omega)
          · intro c10
            refine And.intro ⟨rfl, by decide, by decide⟩ ?_
            refine Exists.intro xm_244 (And.intro mi_244 (And.intro ⟨rfl, rfl, rfl, rfl⟩ (And.intro rfl ?_)))
            refine fcallp hB1 (ct_M_workAt_83d38 (fBz h0 hB1) (by first | exact ⟨hb.2.2.1.1, Int.le_trans (Int.le_sub_one_of_lt (Int.lt_of_lt_of_le c5 uz3)) (by decide)⟩ | omega)) ?_
            rintro _ ⟨_, rfl, rfl⟩
            refine fload rL_741_741_535_857_14_0 h0 hB1 (by omega) ?_
            intro z12 lz12 uz12 qz12
            have v39 := mL_r (i0 := 535) (i1 := 857) (m := 14) (q := 0) (by decide +kernel) qz12 (by omega) rfl
            rw [eJ] at v39
            refine And.intro (And.intro (by first | exact fi_ lz12 uz12 rfl | omega) (by first | exact fi_ hb.1.1 hb.1.2 rfl | omega)) (And.intro ?_ ?_)
            · intro c13
              exact fcutJ (I := I1) (j := (jc_M_isCovered_bfece_4 x1 I)) (lv' := [(0, .inr (.inr (some 740))), (1, .inl _), (2, .inl _), (3, .inl _)]) (And.intro rfl (And.intro rfl (And.intro rfl (And.intro rfl True.intro)))) ⟨_, _, _, rfl, rfl, ⟨by omega, (cvU_no hx0 (by omega) (by omega) (by omega) (cv1_a (u := y3) (by omega) v39 (by omega)))⟩, rfl⟩ (by omega)
            · intro c14
              refine And.intro ⟨rfl, by decide, by decide⟩ ?_
              refine Exists.intro xm_244 (And.intro mi_244 (And.intro ⟨rfl, rfl, rfl, rfl⟩ (And.intro rfl ?_)))
              refine fcallp hB1 (ct_M_workAt_83d38 (fBz h0 hB1) (by first | exact ⟨hb.2.2.1.1, Int.le_trans (Int.le_sub_one_of_lt (Int.lt_of_lt_of_le c5 uz3)) (by decide)⟩ | omega)) ?_
              rintro _ ⟨_, rfl, rfl⟩
              refine fload rL_741_741_533_855_14_0 h0 hB1 (by omega) ?_
              intro z16 lz16 uz16 qz16
              have v55 := mL_r (i0 := 533) (i1 := 855) (m := 14) (q := 0) (by decide +kernel) qz16 (by omega) rfl
              rw [eJ] at v55
              refine And.intro (And.intro (by first | exact fi_ lz16 uz16 rfl | omega) (by first | exact ⟨by decide, by decide⟩ | omega)) (And.intro ?_ ?_)
              · intro c17
                exact fcutJ (I := I1) (j := (jc_M_isCovered_bfece_4 x1 I)) (lv' := [(0, .inr (.inr (some 740))), (1, .inl _), (2, .inl _), (3, .inl _)]) (And.intro rfl (And.intro rfl (And.intro rfl (And.intro rfl True.intro)))) ⟨_, _, _, rfl, rfl, ⟨by omega, (cvU_no hx0 (by omega) (by omega) (by omega) (cv1_a (u := y3) (by omega) v55 (by omega)))⟩, rfl⟩ (by omega)
              · intro c18
                refine Exists.intro xm_245 (And.intro mi_245 (And.intro ⟨rfl, rfl, rfl, rfl⟩ (And.intro rfl ?_)))
                refine fcallp hB1 (ct_M_isGone_0de37 (fBz h0 hB1) (by first | exact ⟨hb.2.2.1.1, Int.le_trans (Int.le_sub_one_of_lt (Int.lt_of_lt_of_le c5 uz3)) (by decide)⟩ | omega)) ?_
                rintro _ ⟨z19, rfl, hz19, g0z19⟩
                try rw [eJ] at g0z19
                refine And.intro (by omega) (And.intro ?_ ?_)
                · intro c20
                  exact fcutJ (I := I1) (j := (jc_M_isCovered_bfece_4 x1 I)) (lv' := [(0, .inr (.inr (some 740))), (1, .inl _), (2, .inl _), (3, .inl _)]) (And.intro rfl (And.intro rfl (And.intro rfl (And.intro rfl True.intro)))) ⟨_, _, _, rfl, rfl, ⟨by omega, (cvU_no hx0 (by omega) (by omega) (by omega) (cv1_a (u := y3) (by omega) ((g0z19.elim (fun q => q.2) (fun q => absurd q.1 (by omega))).symm) (Or.inr (Or.inr (Or.inr ⟨rfl, by omega⟩)))))⟩, rfl⟩ (by omega)
                · intro c21
                  exact fcutJ (I := I1) (j := (jc_M_isCovered_bfece_4 x1 I)) (lv' := [(0, .inr (.inr (some 740))), (1, .inl _), (2, .inl _), (3, .inl _)]) (And.intro rfl (And.intro rfl (And.intro rfl (And.intro rfl True.intro)))) ⟨_, _, _, rfl, rfl, ⟨by omega, (cvU_yes (y := y3) (by omega) (by omega) rfl (cv1_of (u := y3) (by omega) g1z8 (by omega) v39 (by omega) v55 (by omega) ((g0z19.elim (fun q => absurd q.1 (by omega)) (fun q => q.2)).symm) rfl (by omega)))⟩, rfl⟩ (by omega)
  · have hB0 := fB_self (zn := znJ) (K := fKc []) h0
    have b22 := fBd fb_741_7 (fBz h0 hB0)
    exact fcutJ (I := I) (j := (jc_M_isCovered_bfece_4 x1 I)) (lv' := [(0, .inr (.inr (some 740))), (1, .inl _), (2, .inl _), (3, .inl _)]) (And.intro rfl (And.intro rfl (And.intro rfl (And.intro rfl True.intro)))) ⟨_, _, _, rfl, rfl, ⟨by omega, (cvU_0 (by omega) rfl)⟩, rfl⟩ (by omega)
end CT

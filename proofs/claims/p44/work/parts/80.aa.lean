set_option linter.all false
/-! contracts (written by gen95.py) -/
abbrev wz_90a3a : List Nat := [704, 705]
theorem x6_15 : f60c xTc xTys xm_15 = true := by decide +kernel
theorem rS_704_704_0_19_1_0 : frS gJ bsJ znJ [704] 100 ((704, 704), (0, 19), (1, 0), ((-2147483648), 2147483647)) := frS_dflt (by decide) (by decide +kernel)
theorem rS_705_705_0_19_1_0 : frS gJ bsJ znJ [705] 100 ((705, 705), (0, 19), (1, 0), (0, 30)) := frS_of (by decide +kernel)
abbrev wz_7c5fd : List Nat := [26]
theorem x6_498 : f60c xTc xTys xm_498 = true := by decide +kernel
theorem rS_27_46_0_4_1_0 : frS gJ bsJ znJ [26] 100 ((27, 46), (0, 4), (1, 0), ((-2147483648), 2147483647)) := frS_dflt (by decide) (by decide +kernel)
theorem rgG_27_46 {o : Nat} (h1 : 27 ≤ o) (h2 : o ≤ 46) : gJ.1 o = some (100, 5) ∧ ∀ j, j < 5 → gJ.2 o j = none := frG_of (a0 := 27) (a1 := 46) (by decide +kernel) h1 h2
abbrev wz_ef877 : List Nat := [47]
theorem rS_48_67_0_5_1_0 : frS gJ bsJ znJ [47] 100 ((48, 67), (0, 5), (1, 0), ((-2147483648), 2147483647)) := frS_dflt (by decide) (by decide +kernel)
theorem rgG_48_67 {o : Nat} (h1 : 48 ≤ o) (h2 : o ≤ 67) : gJ.1 o = some (100, 6) ∧ ∀ j, j < 6 → gJ.2 o j = none := frG_of (a0 := 48) (a1 := 67) (by decide +kernel) h1 h2
abbrev wz_ce9a0 : List Nat := [5]
theorem rS_6_25_0_4_1_0 : frS gJ bsJ znJ [5] 100 ((6, 25), (0, 4), (1, 0), ((-2147483648), 2147483647)) := frS_dflt (by decide) (by decide +kernel)
theorem rgG_6_25 {o : Nat} (h1 : 6 ≤ o) (h2 : o ≤ 25) : gJ.1 o = some (100, 5) ∧ ∀ j, j < 5 → gJ.2 o j = none := frG_of (a0 := 6) (a1 := 25) (by decide +kernel) h1 h2
abbrev wz_44365 : List Nat := [3, 4, 5, 26, 47, 10205]
theorem x6_14 : f60c xTc xTys xm_14 = true := by decide +kernel
theorem fb_2_5 : bsJ 2 5 = (0, 20) := by decide +kernel
theorem rS_3_3_0_19_1_0 : frS gJ bsJ znJ [3] 100 ((3, 3), (0, 19), (1, 0), ((-2147483648), 2147483647)) := frS_dflt (by decide) (by decide +kernel)
theorem rS_4_4_0_19_1_0 : frS gJ bsJ znJ [4] 100 ((4, 4), (0, 19), (1, 0), ((-2147483648), 2147483647)) := frS_dflt (by decide) (by decide +kernel)
theorem x6_13 : f60c xTc xTys xm_13 = true := by decide +kernel
abbrev wz_35ab2 : List Nat := [3, 4, 5, 26, 47, 704, 705, 10205]
theorem x6_12 : f60c xTc xTys xm_12 = true := by decide +kernel
theorem x6_238 : f60c xTc xTys xm_238 = true := by decide +kernel
theorem x6_239 : f60c xTc xTys xm_239 = true := by decide +kernel
abbrev wz_97606 : List Nat := [20005, 20100, 20101, 20102, 20103, 20104, 20105, 20106, 20107, 20108, 20109, 20110, 20111, 20112, 20113, 20114, 20115, 20116, 20117, 20118, 20119]
theorem x6_237 : f60c xTc xTys xm_237 = true := by decide +kernel
theorem fb_741_5 : bsJ 741 5 = (0, 20) := by decide +kernel
theorem rS_741_741_30_410_20_0 : frS gJ bsJ znJ [20100] 100 ((741, 741), (30, 410), (20, 0), (0, 999)) := frS_of (by decide +kernel)
theorem rS_741_741_47_427_20_0 : frS gJ bsJ znJ [20117] 100 ((741, 741), (47, 427), (20, 0), ((-2147483648), 2147483647)) := frS_of (by decide +kernel)
theorem rL_741_741_5_5_1_0 : frL gJ bsJ 100 ((741, 741), (5, 5), (1, 0), (0, 20)) := frL_of (by decide +kernel)
theorem rS_741_741_5_5_1_0 : frS gJ bsJ znJ [20005] 100 ((741, 741), (5, 5), (1, 0), (0, 20)) := frS_of (by decide +kernel)
theorem rS_741_741_30_429_20_19 : frS gJ bsJ znJ [20100, 20101, 20102, 20103, 20104, 20105, 20106, 20107, 20108, 20109, 20110, 20111, 20112, 20113, 20114, 20115, 20116, 20117, 20118, 20119] 100 ((741, 741), (30, 429), (20, 19), (0, 999)) := frS_of (by decide +kernel)
theorem x6_17 : f60c xTc xTys xm_17 = true := by decide +kernel
theorem x6_18 : f60c xTc xTys xm_18 = true := by decide +kernel
theorem rL_6_25_0_4_1_0 : frL gJ bsJ 100 ((6, 25), (0, 4), (1, 0), ((-2147483648), 2147483647)) := frL_hull (by decide) (by decide +kernel)
abbrev wz_5cd95 : List Nat := [4]
theorem rL_4_4_0_19_1_0 : frL gJ bsJ 100 ((4, 4), (0, 19), (1, 0), ((-2147483648), 2147483647)) := frL_hull (by decide) (by decide +kernel)
abbrev wz_f8ef0 : List Nat := [4, 5]
theorem x6_16 : f60c xTc xTys xm_16 = true := by decide +kernel
theorem x6_241 : f60c xTc xTys xm_241 = true := by decide +kernel
abbrev wz_4b79b : List Nat := [20101, 20102, 20103, 20104, 20105, 20106]
theorem rL_741_741_31_416_20_5 : frL gJ bsJ 100 ((741, 741), (31, 416), (20, 5), ((-2147483648), 2147483647)) := frL_hull (by decide) (by decide +kernel)
theorem rS_741_741_31_416_20_5 : frS gJ bsJ znJ [20101, 20102, 20103, 20104, 20105, 20106] 100 ((741, 741), (31, 416), (20, 5), ((-2147483648), 2147483647)) := frS_of (by decide +kernel)
theorem x6_240 : f60c xTc xTys xm_240 = true := by decide +kernel
theorem x6_22 : f60c xTc xTys xm_22 = true := by decide +kernel
theorem fb_163_13 : bsJ 163 13 = (0, 24) := by decide +kernel
theorem rL_165_165_0_23_1_0 : frL gJ bsJ 100 ((165, 165), (0, 23), (1, 0), (0, 19)) := frL_of (by decide +kernel)
theorem rL_174_174_0_23_1_0 : frL gJ bsJ 100 ((174, 174), (0, 23), (1, 0), ((-2147483648), 2147483647)) := frL_hull (by decide) (by decide +kernel)
theorem x6_21 : f60c xTc xTys xm_21 = true := by decide +kernel
theorem rL_181_181_0_23_1_0 : frL gJ bsJ 100 ((181, 181), (0, 23), (1, 0), ((-2147483648), 2147483647)) := frL_hull (by decide) (by decide +kernel)
theorem x6_20 : f60c xTc xTys xm_20 = true := by decide +kernel
theorem fb_177_4 : bsJ 177 4 = (0, 24) := by decide +kernel
theorem rL_180_180_0_23_1_0 : frL gJ bsJ 100 ((180, 180), (0, 23), (1, 0), (0, 19)) := frL_of (by decide +kernel)
theorem x6_19 : f60c xTc xTys xm_19 = true := by decide +kernel
theorem rL_3_3_0_19_1_0 : frL gJ bsJ 100 ((3, 3), (0, 19), (1, 0), ((-2147483648), 2147483647)) := frL_hull (by decide) (by decide +kernel)
theorem rL_27_46_0_4_1_0 : frL gJ bsJ 100 ((27, 46), (0, 4), (1, 0), ((-2147483648), 2147483647)) := frL_hull (by decide) (by decide +kernel)
theorem x6_244 : f60c xTc xTys xm_244 = true := by decide +kernel
theorem x6_247 : f60c xTc xTys xm_247 = true := by decide +kernel
theorem x6_248 : f60c xTc xTys xm_248 = true := by decide +kernel
theorem rL_741_741_873_1011_6_0 : frL gJ bsJ 100 ((741, 741), (873, 1011), (6, 0), ((-2147483648), 2147483647)) := frL_hull (by decide) (by decide +kernel)
theorem x6_246 : f60c xTc xTys xm_246 = true := by decide +kernel
theorem rL_741_741_8_8_1_0 : frL gJ bsJ 100 ((741, 741), (8, 8), (1, 0), (0, 24)) := frL_of (by decide +kernel)
theorem rL_741_741_872_1010_6_0 : frL gJ bsJ 100 ((741, 741), (872, 1010), (6, 0), (0, 19)) := frL_of (by decide +kernel)
theorem x6_245 : f60c xTc xTys xm_245 = true := by decide +kernel
theorem rL_741_741_538_860_14_0 : frL gJ bsJ 100 ((741, 741), (538, 860), (14, 0), ((-2147483648), 2147483647)) := frL_hull (by decide) (by decide +kernel)
theorem x6_243 : f60c xTc xTys xm_243 = true := by decide +kernel
theorem rL_741_741_7_7_1_0 : frL gJ bsJ 100 ((741, 741), (7, 7), (1, 0), (0, 24)) := frL_of (by decide +kernel)
theorem rL_741_741_531_853_14_0 : frL gJ bsJ 100 ((741, 741), (531, 853), (14, 0), (0, 19)) := frL_of (by decide +kernel)
theorem rL_741_741_30_410_20_0 : frL gJ bsJ 100 ((741, 741), (30, 410), (20, 0), (0, 999)) := frL_of (by decide +kernel)
theorem rL_741_741_36_416_20_0 : frL gJ bsJ 100 ((741, 741), (36, 416), (20, 0), ((-2147483648), 2147483647)) := frL_hull (by decide) (by decide +kernel)
theorem rL_741_741_31_415_20_4 : frL gJ bsJ 100 ((741, 741), (31, 415), (20, 4), ((-2147483648), 2147483647)) := frL_hull (by decide) (by decide +kernel)
theorem rL_741_741_37_421_20_4 : frL gJ bsJ 100 ((741, 741), (37, 421), (20, 4), ((-2147483648), 2147483647)) := frL_hull (by decide) (by decide +kernel)
abbrev wz_cb3a6 : List Nat := [68, 69, 70, 71, 10210]
theorem x6_24 : f60c xTc xTys xm_24 = true := by decide +kernel
theorem fb_2_10 : bsJ 2 10 = (0, 24) := by decide +kernel
theorem rS_68_68_0_23_1_0 : frS gJ bsJ znJ [68] 100 ((68, 68), (0, 23), (1, 0), (0, 19)) := frS_of (by decide +kernel)
theorem rS_69_69_0_23_1_0 : frS gJ bsJ znJ [69] 100 ((69, 69), (0, 23), (1, 0), (0, 19)) := frS_of (by decide +kernel)
theorem rS_70_70_0_23_1_0 : frS gJ bsJ znJ [70] 100 ((70, 70), (0, 23), (1, 0), ((-2147483648), 2147483647)) := frS_dflt (by decide) (by decide +kernel)
theorem rS_71_71_0_23_1_0 : frS gJ bsJ znJ [71] 100 ((71, 71), (0, 23), (1, 0), ((-2147483648), 2147483647)) := frS_dflt (by decide) (by decide +kernel)
theorem x6_23 : f60c xTc xTys xm_23 = true := by decide +kernel
abbrev wz_6b8d1 : List Nat := [20006, 20200, 20201, 20202, 20203]
theorem x6_249 : f60c xTc xTys xm_249 = true := by decide +kernel
theorem fb_741_6 : bsJ 741 6 = (0, 24) := by decide +kernel
theorem rL_741_741_6_6_1_0 : frL gJ bsJ 100 ((741, 741), (6, 6), (1, 0), (0, 24)) := frL_of (by decide +kernel)
theorem rS_741_741_430_522_4_0 : frS gJ bsJ znJ [20200] 100 ((741, 741), (430, 522), (4, 0), (0, 19)) := frS_of (by decide +kernel)
theorem rS_741_741_431_523_4_0 : frS gJ bsJ znJ [20201] 100 ((741, 741), (431, 523), (4, 0), (0, 19)) := frS_of (by decide +kernel)
theorem rS_741_741_432_524_4_0 : frS gJ bsJ znJ [20202] 100 ((741, 741), (432, 524), (4, 0), ((-2147483648), 2147483647)) := frS_of (by decide +kernel)
theorem rS_741_741_433_525_4_0 : frS gJ bsJ znJ [20203] 100 ((741, 741), (433, 525), (4, 0), ((-2147483648), 2147483647)) := frS_of (by decide +kernel)
theorem rS_741_741_6_6_1_0 : frS gJ bsJ znJ [20006] 100 ((741, 741), (6, 6), (1, 0), (0, 24)) := frS_of (by decide +kernel)
abbrev wz_e505f : List Nat := [71]
theorem rL_71_71_0_23_1_0 : frL gJ bsJ 100 ((71, 71), (0, 23), (1, 0), ((-2147483648), 2147483647)) := frL_hull (by decide) (by decide +kernel)
theorem x6_26 : f60c xTc xTys xm_26 = true := by decide +kernel
theorem x6_27 : f60c xTc xTys xm_27 = true := by decide +kernel
theorem x6_32 : f60c xTc xTys xm_32 = true := by decide +kernel
theorem fb_1_9 : bsJ 1 9 = ((-2147483648), 2147483647) := by decide +kernel
theorem x6_38 : f60c xTc xTys xm_38 = true := by decide +kernel
theorem x6_37 : f60c xTc xTys xm_37 = true := by decide +kernel
theorem rL_207_207_0_25_1_0 : frL gJ bsJ 100 ((207, 207), (0, 25), (1, 0), ((-2147483648), 2147483647)) := frL_hull (by decide) (by decide +kernel)
abbrev wz_5557d : List Nat := [208]
theorem x6_36 : f60c xTc xTys xm_36 = true := by decide +kernel
theorem rL_192_192_0_11_1_0 : frL gJ bsJ 100 ((192, 192), (0, 11), (1, 0), (0, 96)) := frL_of (by decide +kernel)
theorem rL_208_208_0_95_1_0 : frL gJ bsJ 100 ((208, 208), (0, 95), (1, 0), ((-2147483648), 2147483647)) := frL_hull (by decide) (by decide +kernel)
theorem rL_194_205_0_95_1_0 : frL gJ bsJ 100 ((194, 205), (0, 95), (1, 0), ((-2147483648), 2147483647)) := frL_hull (by decide) (by decide +kernel)
theorem rS_208_208_0_95_1_0 : frS gJ bsJ znJ [208] 100 ((208, 208), (0, 95), (1, 0), ((-2147483648), 2147483647)) := frS_dflt (by decide) (by decide +kernel)
theorem x6_35 : f60c xTc xTys xm_35 = true := by decide +kernel
theorem rL_189_189_0_11_1_0 : frL gJ bsJ 100 ((189, 189), (0, 11), (1, 0), ((-2147483648), 2147483647)) := frL_hull (by decide) (by decide +kernel)
theorem rL_190_190_0_11_1_0 : frL gJ bsJ 100 ((190, 190), (0, 11), (1, 0), ((-2147483648), 2147483647)) := frL_hull (by decide) (by decide +kernel)
theorem x6_34 : f60c xTc xTys xm_34 = true := by decide +kernel
theorem fb_187_6 : bsJ 187 6 = (0, 12) := by decide +kernel
theorem rL_188_188_0_11_1_0 : frL gJ bsJ 100 ((188, 188), (0, 11), (1, 0), ((-2147483648), 2147483647)) := frL_hull (by decide) (by decide +kernel)
theorem x6_33 : f60c xTc xTys xm_33 = true := by decide +kernel
abbrev wz_56c9a : List Nat := [207]
theorem x6_30 : f60c xTc xTys xm_30 = true := by decide +kernel
theorem rS_207_207_0_25_1_0 : frS gJ bsJ znJ [207] 100 ((207, 207), (0, 25), (1, 0), ((-2147483648), 2147483647)) := frS_dflt (by decide) (by decide +kernel)
theorem x6_31 : f60c xTc xTys xm_31 = true := by decide +kernel
theorem fb_1_5 : bsJ 1 5 = (0, 600) := by decide +kernel
theorem x6_29 : f60c xTc xTys xm_29 = true := by decide +kernel
theorem rL_178_178_0_23_1_0 : frL gJ bsJ 100 ((178, 178), (0, 23), (1, 0), ((-2147483648), 2147483647)) := frL_hull (by decide) (by decide +kernel)
theorem rL_179_179_0_23_1_0 : frL gJ bsJ 100 ((179, 179), (0, 23), (1, 0), ((-2147483648), 2147483647)) := frL_hull (by decide) (by decide +kernel)
abbrev wz_7d09b : List Nat := [207, 208]
theorem x6_28 : f60c xTc xTys xm_28 = true := by decide +kernel
abbrev wz_4d11d : List Nat := [71, 207, 208]
theorem x6_25 : f60c xTc xTys xm_25 = true := by decide +kernel
theorem x6_251 : f60c xTc xTys xm_251 = true := by decide +kernel
abbrev wz_7d2d3 : List Nat := [20203]
theorem rL_741_741_433_525_4_0 : frL gJ bsJ 100 ((741, 741), (433, 525), (4, 0), ((-2147483648), 2147483647)) := frL_hull (by decide) (by decide +kernel)
theorem x6_261 : f60c xTc xTys xm_261 = true := by decide +kernel
theorem x6_260 : f60c xTc xTys xm_260 = true := by decide +kernel
theorem rL_741_741_1_1_1_0 : frL gJ bsJ 100 ((741, 741), (1, 1), (1, 0), (0, 600)) := frL_of (by decide +kernel)
theorem x6_255 : f60c xTc xTys xm_255 = true := by decide +kernel
abbrev wz_5ef89 : List Nat := [748, 749]
theorem x6_259 : f60c xTc xTys xm_259 = true := by decide +kernel
theorem rL_741_741_1214_3414_200_0 : frL gJ bsJ 100 ((741, 741), (1214, 3414), (200, 0), ((-2147483648), 2147483647)) := frL_hull (by decide) (by decide +kernel)
theorem rL_749_749_0_99_1_0 : frL gJ bsJ 100 ((749, 749), (0, 99), (1, 0), ((-2147483648), 2147483647)) := frL_hull (by decide) (by decide +kernel)
theorem rL_741_741_1215_3609_200_194 : frL gJ bsJ 100 ((741, 741), (1215, 3609), (200, 194), ((-2147483648), 2147483647)) := frL_hull (by decide) (by decide +kernel)
theorem rS_749_749_0_99_1_0 : frS gJ bsJ znJ [749] 100 ((749, 749), (0, 99), (1, 0), ((-2147483648), 2147483647)) := frS_dflt (by decide) (by decide +kernel)
theorem rL_748_748_0_127_1_0 : frL gJ bsJ 100 ((748, 748), (0, 127), (1, 0), ((-2147483648), 2147483647)) := frL_hull (by decide) (by decide +kernel)
theorem rS_748_748_0_127_1_0 : frS gJ bsJ znJ [748] 100 ((748, 748), (0, 127), (1, 0), ((-2147483648), 2147483647)) := frS_dflt (by decide) (by decide +kernel)
theorem x6_257 : f60c xTc xTys xm_257 = true := by decide +kernel
theorem rL_741_741_0_0_1_0 : frL gJ bsJ 100 ((741, 741), (0, 0), (1, 0), (0, 22000)) := frL_of (by decide +kernel)
theorem x6_256 : f60c xTc xTys xm_256 = true := by decide +kernel
theorem rL_741_741_1211_3411_200_0 : frL gJ bsJ 100 ((741, 741), (1211, 3411), (200, 0), ((-2147483648), 2147483647)) := frL_hull (by decide) (by decide +kernel)
theorem rL_741_741_1212_3412_200_0 : frL gJ bsJ 100 ((741, 741), (1212, 3412), (200, 0), ((-2147483648), 2147483647)) := frL_hull (by decide) (by decide +kernel)
theorem x6_254 : f60c xTc xTys xm_254 = true := by decide +kernel
theorem fb_741_9 : bsJ 741 9 = (0, 12) := by decide +kernel
theorem rL_741_741_9_9_1_0 : frL gJ bsJ 100 ((741, 741), (9, 9), (1, 0), (0, 12)) := frL_of (by decide +kernel)
theorem rL_741_741_1210_3410_200_0 : frL gJ bsJ 100 ((741, 741), (1210, 3410), (200, 0), ((-2147483648), 2147483647)) := frL_hull (by decide) (by decide +kernel)
abbrev wz_3c4d3 : List Nat := [748]
theorem x6_258 : f60c xTc xTys xm_258 = true := by decide +kernel
theorem rL_741_741_870_1008_6_0 : frL gJ bsJ 100 ((741, 741), (870, 1008), (6, 0), ((-2147483648), 2147483647)) := frL_hull (by decide) (by decide +kernel)
theorem rL_741_741_871_1009_6_0 : frL gJ bsJ 100 ((741, 741), (871, 1009), (6, 0), ((-2147483648), 2147483647)) := frL_hull (by decide) (by decide +kernel)
theorem x6_253 : f60c xTc xTys xm_253 = true := by decide +kernel
section CT
variable {ρ : Nat → Int32} {base n : Nat} {F : Nat → Prop} {D : va_G} {dA : Nat → ClassId} {la : Launch}
set_option maxRecDepth 8000 in
theorem ct_Gauges_forget_a5150 {I : fH} {x1 : Int} (h0 : fB bsJ I) (ha1 : (0 ≤ x1 ∧ x1 ≤ 19)) : fC ρ base n F xTc vwCl xTys D dA la gJ (fbz bsJ znJ (fKc wz_90a3a) I) xm_15 [.inr (.inr (some 703)), .inl x1] I (fun _ r => r = none) := by
  have hW : fzs wz_90a3a (fKc wz_90a3a) := fKc_ok _
  refine f_meth (rb := rbJ) (J := []) 1 400 xG xin_15 x6_15 okJ (fB_self h0) ?_ ?_
  · exact fun q h => absurd h List.not_mem_nil
  · have hB0 := fB_self (zn := znJ) (K := fKc wz_90a3a) h0
    refine And.intro ⟨rfl, by decide, by decide⟩ ?_
    refine fstore1 rS_704_704_0_19_1_0 (fzs_sub (by decide +kernel) hW) ⟨by decide, by decide⟩ (by first | exact ⟨ha1.1, ha1.2⟩ | omega) (by first | exact ⟨by decide, by decide⟩ | omega) ?_
    intro IhB1 ehB1 hB1
    have t2 := fup_self ehB1
    refine And.intro ⟨rfl, by decide, by decide⟩ ?_
    refine fstore1 rS_705_705_0_19_1_0 (fzs_sub (by decide +kernel) hW) ⟨by decide, by decide⟩ (by first | exact ⟨ha1.1, ha1.2⟩ | omega) (by first | exact ⟨by decide, by decide⟩ | omega) ?_
    intro IhB3 ehB3 hB3
    have t4 := fup_self ehB3
    exact rfl
abbrev jc_Arrays_fill_794a9_5 : Nat → fL → List fV → fH → Prop := fun m lv st I => ∃ (y0 : Nat) (y1 : Int) (y2 : Int) (y3 : Int), lv = [(0, .inr (.inr (some y0))), (1, .inl y1), (2, .inl y2), (3, .inl y3)] ∧ st = [] ∧ (((27 ≤ y0 ∧ y0 ≤ 46) ∧ (0 ≤ y1 ∧ y1 ≤ 0) ∧ (0 ≤ y2 ∧ y2 ≤ 5) ∧ (5 ≤ y3 ∧ y3 ≤ 5))) ∧ m = (1 + 1 * (5 - y2) : Int).toNat
set_option maxRecDepth 8000 in
theorem ct_Arrays_fill_794a9 {I : fH} {x0 : Nat} {x1 : Int} (h0 : fB bsJ I) (ha0 : (27 ≤ x0 ∧ x0 ≤ 46)) (ha1 : (0 ≤ x1 ∧ x1 ≤ 0)) : fC ρ base n F xTc vwCl xTys D dA la gJ (fbz bsJ znJ (fKc wz_7c5fd) I) xm_498 [.inr (.inr (some x0)), .inl x1] I (fun _ r => r = none) := by
  have hW : fzs wz_7c5fd (fKc wz_7c5fd) := fKc_ok _
  refine f_meth (rb := rbJ) (J := [(5, jc_Arrays_fill_794a9_5)]) 7 400 xG xin_498 x6_498 okJ (fB_self h0) ?_ ?_
  · refine List.forall_mem_cons.mpr ⟨?_, fun q h => absurd h List.not_mem_nil⟩
    · rintro m _ _ I1 hB1 ⟨y0, y1, y2, y3, rfl, rfl, hb, hm⟩
      refine And.intro (And.intro (by first | exact fi_ hb.2.2.1.1 hb.2.2.1.2 rfl | omega) (by first | exact fi_ hb.2.2.2.1 hb.2.2.2.2 rfl | omega)) (And.intro ?_ ?_)
      · intro c1
        exact rfl
      · intro c2
        refine fstore rS_27_46_0_4_1_0 (fzs_sub (by decide +kernel) hW) (by omega) (by first | exact ⟨Int.le_trans (by decide) hb.2.1.1, Int.le_trans hb.2.1.2 (by decide)⟩ | omega) ?_
        intro IhB3 ehB3 hB3
        have t4 := fup_self ehB3
        exact fcutJ (I := IhB3) (j := jc_Arrays_fill_794a9_5) (lv' := [(0, .inr (.inr (some _))), (1, .inl _), (2, .inl _), (3, .inl _)]) (And.intro rfl (And.intro rfl (And.intro rfl (And.intro rfl True.intro)))) ⟨_, _, _, _, rfl, rfl, by omega, rfl⟩ (by omega)
  · have hB0 := fB_self (zn := znJ) (K := fKc wz_7c5fd) h0
    refine Exists.intro 100 (Exists.intro 5 (And.intro (rgG_27_46 (by omega) (by omega)).1 (And.intro ⟨by decide, by decide, by decide⟩ ?_)))
    exact fcutJ (I := I) (j := jc_Arrays_fill_794a9_5) (lv' := [(0, .inr (.inr (some _))), (1, .inl _), (2, .inl _), (3, .inl _)]) (And.intro rfl (And.intro rfl (And.intro rfl (And.intro rfl True.intro)))) ⟨_, _, _, _, rfl, rfl, by omega, rfl⟩ (by omega)
abbrev jc_Arrays_fill_044b3_5 : Nat → fL → List fV → fH → Prop := fun m lv st I => ∃ (y0 : Nat) (y1 : Int) (y2 : Int) (y3 : Int), lv = [(0, .inr (.inr (some y0))), (1, .inl y1), (2, .inl y2), (3, .inl y3)] ∧ st = [] ∧ (((48 ≤ y0 ∧ y0 ≤ 67) ∧ ((-1000000005) ≤ y1 ∧ y1 ≤ (-1000000005)) ∧ (0 ≤ y2 ∧ y2 ≤ 6) ∧ (6 ≤ y3 ∧ y3 ≤ 6))) ∧ m = (1 + 1 * (6 - y2) : Int).toNat
set_option maxRecDepth 8000 in
theorem ct_Arrays_fill_044b3 {I : fH} {x0 : Nat} {x1 : Int} (h0 : fB bsJ I) (ha0 : (48 ≤ x0 ∧ x0 ≤ 67)) (ha1 : ((-1000000005) ≤ x1 ∧ x1 ≤ (-1000000005))) : fC ρ base n F xTc vwCl xTys D dA la gJ (fbz bsJ znJ (fKc wz_ef877) I) xm_498 [.inr (.inr (some x0)), .inl x1] I (fun _ r => r = none) := by
  have hW : fzs wz_ef877 (fKc wz_ef877) := fKc_ok _
  refine f_meth (rb := rbJ) (J := [(5, jc_Arrays_fill_044b3_5)]) 8 400 xG xin_498 x6_498 okJ (fB_self h0) ?_ ?_
  · refine List.forall_mem_cons.mpr ⟨?_, fun q h => absurd h List.not_mem_nil⟩
    · rintro m _ _ I1 hB1 ⟨y0, y1, y2, y3, rfl, rfl, hb, hm⟩
      refine And.intro (And.intro (by first | exact fi_ hb.2.2.1.1 hb.2.2.1.2 rfl | omega) (by first | exact fi_ hb.2.2.2.1 hb.2.2.2.2 rfl | omega)) (And.intro ?_ ?_)
      · intro c1
        exact rfl
      · intro c2
        refine fstore rS_48_67_0_5_1_0 (fzs_sub (by decide +kernel) hW) (by omega) (by first | exact ⟨Int.le_trans (by decide) hb.2.1.1, Int.le_trans hb.2.1.2 (by decide)⟩ | omega) ?_
        intro IhB3 ehB3 hB3
        have t4 := fup_self ehB3
        exact fcutJ (I := IhB3) (j := jc_Arrays_fill_044b3_5) (lv' := [(0, .inr (.inr (some _))), (1, .inl _), (2, .inl _), (3, .inl _)]) (And.intro rfl (And.intro rfl (And.intro rfl (And.intro rfl True.intro)))) ⟨_, _, _, _, rfl, rfl, by omega, rfl⟩ (by omega)
  · have hB0 := fB_self (zn := znJ) (K := fKc wz_ef877) h0
    refine Exists.intro 100 (Exists.intro 6 (And.intro (rgG_48_67 (by omega) (by omega)).1 (And.intro ⟨by decide, by decide, by decide⟩ ?_)))
    exact fcutJ (I := I) (j := jc_Arrays_fill_044b3_5) (lv' := [(0, .inr (.inr (some _))), (1, .inl _), (2, .inl _), (3, .inl _)]) (And.intro rfl (And.intro rfl (And.intro rfl (And.intro rfl True.intro)))) ⟨_, _, _, _, rfl, rfl, by omega, rfl⟩ (by omega)
abbrev jc_Arrays_fill_74cb9_5 : Nat → fL → List fV → fH → Prop := fun m lv st I => ∃ (y0 : Nat) (y1 : Int) (y2 : Int) (y3 : Int), lv = [(0, .inr (.inr (some y0))), (1, .inl y1), (2, .inl y2), (3, .inl y3)] ∧ st = [] ∧ (((6 ≤ y0 ∧ y0 ≤ 25) ∧ (0 ≤ y1 ∧ y1 ≤ 0) ∧ (0 ≤ y2 ∧ y2 ≤ 5) ∧ (5 ≤ y3 ∧ y3 ≤ 5))) ∧ m = (1 + 1 * (5 - y2) : Int).toNat
set_option maxRecDepth 8000 in
theorem ct_Arrays_fill_74cb9 {I : fH} {x0 : Nat} {x1 : Int} (h0 : fB bsJ I) (ha0 : (6 ≤ x0 ∧ x0 ≤ 25)) (ha1 : (0 ≤ x1 ∧ x1 ≤ 0)) : fC ρ base n F xTc vwCl xTys D dA la gJ (fbz bsJ znJ (fKc wz_ce9a0) I) xm_498 [.inr (.inr (some x0)), .inl x1] I (fun _ r => r = none) := by
  have hW : fzs wz_ce9a0 (fKc wz_ce9a0) := fKc_ok _
  refine f_meth (rb := rbJ) (J := [(5, jc_Arrays_fill_74cb9_5)]) 7 400 xG xin_498 x6_498 okJ (fB_self h0) ?_ ?_
  · refine List.forall_mem_cons.mpr ⟨?_, fun q h => absurd h List.not_mem_nil⟩
    · rintro m _ _ I1 hB1 ⟨y0, y1, y2, y3, rfl, rfl, hb, hm⟩
      refine And.intro (And.intro (by first | exact fi_ hb.2.2.1.1 hb.2.2.1.2 rfl | omega) (by first | exact fi_ hb.2.2.2.1 hb.2.2.2.2 rfl | omega)) (And.intro ?_ ?_)
      · intro c1
        exact rfl
      · intro c2
        refine fstore rS_6_25_0_4_1_0 (fzs_sub (by decide +kernel) hW) (by omega) (by first | exact ⟨Int.le_trans (by decide) hb.2.1.1, Int.le_trans hb.2.1.2 (by decide)⟩ | omega) ?_
        intro IhB3 ehB3 hB3
        have t4 := fup_self ehB3
        exact fcutJ (I := IhB3) (j := jc_Arrays_fill_74cb9_5) (lv' := [(0, .inr (.inr (some _))), (1, .inl _), (2, .inl _), (3, .inl _)]) (And.intro rfl (And.intro rfl (And.intro rfl (And.intro rfl True.intro)))) ⟨_, _, _, _, rfl, rfl, by omega, rfl⟩ (by omega)
  · have hB0 := fB_self (zn := znJ) (K := fKc wz_ce9a0) h0
    refine Exists.intro 100 (Exists.intro 5 (And.intro (rgG_6_25 (by omega) (by omega)).1 (And.intro ⟨by decide, by decide, by decide⟩ ?_)))
    exact fcutJ (I := I) (j := jc_Arrays_fill_74cb9_5) (lv' := [(0, .inr (.inr (some _))), (1, .inl _), (2, .inl _), (3, .inl _)]) (And.intro rfl (And.intro rfl (And.intro rfl (And.intro rfl True.intro)))) ⟨_, _, _, _, rfl, rfl, by omega, rfl⟩ (by omega)
set_option maxRecDepth 8000 in
theorem ct_Cells_addCell_f167a {I : fH} {x1 : Int} (h0 : fB bsJ I) (ha1 : (1 ≤ x1 ∧ x1 ≤ 999)) : fC ρ base n F xTc vwCl xTys D dA la gJ (fbz bsJ znJ (fKc wz_44365) I) xm_14 [.inr (.inr (some 2)), .inl x1] I (fun I' r => ∃ z, r = some (.inl z) ∧ (((0 ≤ z ∧ z ≤ 19) ∨ z = (-1000000003)) ∧ ((I 2 5 < 20 → z = I 2 5 ∧ I' 2 5 = I 2 5 + 1) ∧ (20 ≤ I 2 5 → z = (-1000000003) ∧ I' 2 5 = I 2 5)))) := by
  have hW : fzs wz_44365 (fKc wz_44365) := fKc_ok _
  refine f_meth (rb := rbJ) (J := []) 1 400 xG xin_14 x6_14 okJ (fB_self h0) ?_ ?_
  · exact fun q h => absurd h List.not_mem_nil
  · have hB0 := fB_self (zn := znJ) (K := fKc wz_44365) h0
    refine And.intro ⟨rfl, by decide, by decide⟩ (fgetf fb_2_5 h0 hB0 ?_)
    intro z1 lz1 uz1 qz1
    refine And.intro (And.intro (by first | exact fi_ lz1 uz1 rfl | omega) (by first | exact ⟨by decide, by decide⟩ | omega)) (And.intro ?_ ?_)
    · intro c2
      refine And.intro ⟨rfl, by decide, by decide⟩ ?_
      refine fstore1 rS_3_3_0_19_1_0 (fzs_sub (by decide +kernel) hW) ⟨by decide, by decide⟩ (by first | exact ⟨lz1, Int.le_trans (Int.le_sub_one_of_lt (Int.lt_of_lt_of_le c2 (Int.le_refl _))) (by decide)⟩ | omega) (by first | exact ⟨Int.le_trans (by decide) ha1.1, Int.le_trans ha1.2 (by decide)⟩ | omega) ?_
      intro IhB3 ehB3 hB3
      have t4 := fup_self ehB3
      have t5 : IhB3 2 5 = I 2 5 := (congrFun (congrFun ehB3 2) 5).trans (fup_ne (by first | exact Or.inl (by decide) | omega))
      refine And.intro ⟨rfl, by decide, by decide⟩ ?_
      refine fstore1 rS_4_4_0_19_1_0 (fzs_sub (by decide +kernel) hW) ⟨by decide, by decide⟩ (by first | exact ⟨lz1, Int.le_trans (Int.le_sub_one_of_lt (Int.lt_of_lt_of_le c2 (Int.le_refl _))) (by decide)⟩ | omega) (by first | exact ⟨by decide, by decide⟩ | omega) ?_
      intro IhB6 ehB6 hB6
      have t7 := fup_self ehB6
      have t8 : IhB6 2 5 = IhB3 2 5 := (congrFun (congrFun ehB6 2) 5).trans (fup_ne (by first | exact Or.inl (by decide) | omega))
      refine And.intro ⟨rfl, by decide, by decide⟩ ?_
      refine And.intro ⟨rfl, by decide⟩ (And.intro (by first | exact ⟨lz1, Int.lt_of_le_of_lt (Int.le_sub_one_of_lt (Int.lt_of_lt_of_le c2 (Int.le_refl _))) (by decide)⟩ | omega) ?_)
      refine Exists.intro xm_498 (And.intro mi_498 (And.intro ⟨rfl, rfl, rfl, rfl⟩ (And.intro True.intro ?_)))
      refine fcall _ h0 (fzs_sub (by decide +kernel) hW) hB6 (ct_Arrays_fill_74cb9 (fBz h0 hB6) (by omega) (by first | exact ⟨by decide, by decide⟩ | omega)) ?_
      rintro IhB10 _ hB10 fhB10 rfl
      have t11 := fhB10 2 5 (by decide +kernel)
      refine And.intro ⟨rfl, by decide, by decide⟩ ?_
      refine And.intro ⟨rfl, by decide⟩ (And.intro (by first | exact ⟨lz1, Int.lt_of_le_of_lt (Int.le_sub_one_of_lt (Int.lt_of_lt_of_le c2 (Int.le_refl _))) (by decide)⟩ | omega) ?_)
      refine Exists.intro xm_498 (And.intro mi_498 (And.intro ⟨rfl, rfl, rfl, rfl⟩ (And.intro True.intro ?_)))
      refine fcall _ h0 (fzs_sub (by decide +kernel) hW) hB10 (ct_Arrays_fill_794a9 (fBz h0 hB10) (by omega) (by first | exact ⟨by decide, by decide⟩ | omega)) ?_
      rintro IhB13 _ hB13 fhB13 rfl
      have t14 := fhB13 2 5 (by decide +kernel)
      refine And.intro ⟨rfl, by decide, by decide⟩ ?_
      refine And.intro ⟨rfl, by decide⟩ (And.intro (by first | exact ⟨lz1, Int.lt_of_le_of_lt (Int.le_sub_one_of_lt (Int.lt_of_lt_of_le c2 (Int.le_refl _))) (by decide)⟩ | omega) ?_)
      refine Exists.intro xm_498 (And.intro mi_498 (And.intro ⟨rfl, rfl, rfl, rfl⟩ (And.intro True.intro ?_)))
      refine fcall _ h0 (fzs_sub (by decide +kernel) hW) hB13 (ct_Arrays_fill_044b3 (fBz h0 hB13) (by omega) (by first | exact ⟨by decide, by decide⟩ | omega)) ?_
      rintro IhB16 _ hB16 fhB16 rfl
      have t17 := fhB16 2 5 (by decide +kernel)
      refine And.intro ⟨rfl, by decide, by decide⟩ (And.intro rfl (And.intro (Or.inl rfl) (fputf fb_2_5 (by decide +kernel) hW (by omega) ?_)))
      intro IhB18 ehB18 hB18
      have t19 := fup_at ehB18 5 (by first | rfl | omega)
      refine And.intro (True.intro) ?_
      exact ⟨_, rfl, by omega⟩
    · intro c20
      refine And.intro (True.intro) ?_
      exact ⟨_, rfl, by omega⟩
set_option maxRecDepth 8000 in
theorem ct_X_within_c27b1 {I : fH} {x0 : Int} {x1 : Int} {x2 : Int} (h0 : fB bsJ I) (ha0 : ((-2147483648) ≤ x0 ∧ x0 ≤ 2147483647)) (ha1 : ((-1000000001) ≤ x1 ∧ x1 ≤ 10)) (ha2 : ((-1000000001) ≤ x2 ∧ x2 ≤ 999999)) : fC ρ base n F xTc vwCl xTys D dA la gJ (fbz bsJ znJ (fKc []) I) xm_13 [.inl x0, .inl x1, .inl x2] I (fun _ r => ∃ z, r = some (.inl z) ∧ ((z = 1 ∧ x1 ≤ x0 ∧ x0 ≤ x2) ∨ (z = 0 ∧ (x0 < x1 ∨ x2 < x0)))) := by
  have hW : fzs [] (fKc []) := fKc_ok _
  refine f_meth (rb := rbJ) (J := []) 1 400 xG xin_13 x6_13 okJ (fB_self h0) ?_ ?_
  · exact fun q h => absurd h List.not_mem_nil
  · have hB0 := fB_self (zn := znJ) (K := fKc []) h0
    refine And.intro (And.intro (by first | exact fi_ ha0.1 ha0.2 rfl | omega) (by first | exact fi_ ha1.1 ha1.2 rfl | omega)) (And.intro ?_ ?_)
    · intro c1
      refine And.intro (⟨by omega, by omega⟩) ?_
      exact ⟨_, rfl, by omega⟩
    · intro c2
      refine And.intro (And.intro (by first | exact fi_ (Int.le_trans ha1.1 c2) ha0.2 rfl | omega) (by first | exact fi_ ha2.1 ha2.2 rfl | omega)) (And.intro ?_ ?_)
      · intro c3
        refine And.intro (⟨by omega, by omega⟩) ?_
        exact ⟨_, rfl, by omega⟩
      · intro c4
        refine And.intro (⟨by decide, by decide⟩) ?_
        exact ⟨_, rfl, by omega⟩
set_option maxRecDepth 8000 in
theorem ct_X_cell_2a5f0 {I : fH} {x1 : Int} (h0 : fB bsJ I) (ha1 : ((-2147483648) ≤ x1 ∧ x1 ≤ 2147483647)) : fC ρ base n F xTc vwCl xTys D dA la gJ (fbz bsJ znJ (fKc wz_35ab2) I) xm_12 [.inr (.inr (some 0)), .inl x1] I (fun I' r => ∃ z, r = some (.inl z) ∧ (((-1000000005) ≤ z ∧ z ≤ 19) ∧ ((1 ≤ x1 ∧ x1 ≤ 999 ∧ I 2 5 < 20 → z = I 2 5 ∧ I' 2 5 = I 2 5 + 1) ∧ (1 ≤ x1 ∧ x1 ≤ 999 ∧ 20 ≤ I 2 5 → z = (-1000000003) ∧ I' 2 5 = I 2 5) ∧ (¬ (1 ≤ x1 ∧ x1 ≤ 999) → z = (-1000000001) ∧ I' 2 5 = I 2 5)))) := by
  have hW : fzs wz_35ab2 (fKc wz_35ab2) := fKc_ok _
  refine f_meth (rb := rbJ) (J := []) 1 400 xG xin_12 x6_12 okJ (fB_self h0) ?_ ?_
  · exact fun q h => absurd h List.not_mem_nil
  · have hB0 := fB_self (zn := znJ) (K := fKc wz_35ab2) h0
    have b1 := fBd fb_2_5 (fBz h0 hB0)
    refine Exists.intro xm_13 (And.intro mi_13 (And.intro ⟨rfl, rfl, rfl, rfl⟩ (And.intro True.intro ?_)))
    refine fcallp hB0 (ct_X_within_c27b1 (fBz h0 hB0) (by first | exact ⟨ha1.1, ha1.2⟩ | omega) (by first | exact ⟨by decide, by decide⟩ | omega) (by first | exact ⟨by decide, by decide⟩ | omega)) ?_
    rintro _ ⟨z2, rfl, hz2⟩
    refine And.intro (by omega) (And.intro ?_ ?_)
    · intro c3
      refine And.intro ⟨rfl, by decide, by decide⟩ ?_
      refine And.intro ⟨rfl, by decide, by decide⟩ ?_
      refine Exists.intro xm_14 (And.intro mi_14 (And.intro ⟨rfl, rfl, rfl, rfl⟩ (And.intro rfl ?_)))
      refine fcall _ h0 (fzs_sub (by decide +kernel) hW) hB0 (ct_Cells_addCell_f167a (fBz h0 hB0) (by first | exact ⟨Int.le_trans (by decide) (Int.le_trans (Int.le_refl _) hz2.1), Int.le_trans (Int.le_trans hz2.2 (Int.le_refl _)) (by decide)⟩ | omega)) ?_
      rintro IhB5 _ hB5 fhB5 ⟨z4, rfl, hz4⟩
      refine And.intro (by omega) (And.intro ?_ ?_)
      · intro c6
        refine And.intro (True.intro) ?_
        exact ⟨_, rfl, by omega⟩
      · intro c7
        refine And.intro ⟨rfl, by decide, by decide⟩ ?_
        refine Exists.intro xm_15 (And.intro mi_15 (And.intro ⟨rfl, rfl, rfl, rfl⟩ (And.intro rfl ?_)))
        refine fcall _ h0 (fzs_sub (by decide +kernel) hW) hB5 (ct_Gauges_forget_a5150 (fBz h0 hB5) (by omega)) ?_
        rintro IhB9 _ hB9 fhB9 rfl
        have t10 := fhB9 2 5 (by decide +kernel)
        refine And.intro (True.intro) ?_
        exact ⟨_, rfl, by omega⟩
    · intro c11
      refine And.intro (True.intro) ?_
      exact ⟨_, rfl, by omega⟩
set_option maxRecDepth 8000 in
theorem ct_M_isIn_27230 {I : fH} {x0 : Int} {x1 : Int} {x2 : Int} (h0 : fB bsJ I) (ha0 : ((-2147483648) ≤ x0 ∧ x0 ≤ 2147483647)) (ha1 : ((-100000) ≤ x1 ∧ x1 ≤ 97)) (ha2 : ((-1) ≤ x2 ∧ x2 ≤ 999999)) : fC ρ base n F xTc vwCl xTys D dA la gJ (fbz bsJ znJ (fKc []) I) xm_238 [.inr (.inl x0), .inr (.inl x1), .inr (.inl x2)] I (fun _ r => ∃ z, r = some (.inl z) ∧ ((z = 1 ∧ x1 ≤ x0 ∧ x0 ≤ x2) ∨ (z = 0 ∧ (x0 < x1 ∨ x2 < x0)))) := by
  have hW : fzs [] (fKc []) := fKc_ok _
  refine f_meth (rb := rbJ) (J := []) 1 400 xG xin_238 x6_238 okJ (fB_self h0) ?_ ?_
  · exact fun q h => absurd h List.not_mem_nil
  · have hB0 := fB_self (zn := znJ) (K := fKc []) h0
    refine And.intro (And.intro (by first | exact fl_ ha0.1 ha0.2 rfl | omega) (by first | exact fl_ ha1.1 ha1.2 rfl | omega)) ?_
    intro z1 hz1
    refine And.intro (by omega) (And.intro ?_ ?_)
    · intro c2
      refine And.intro (⟨by omega, by omega⟩) ?_
      exact ⟨_, rfl, by omega⟩
    · intro c3
      refine And.intro (And.intro (by first | exact fl_ ha0.1 ha0.2 rfl | omega) (by first | exact fl_ ha2.1 ha2.2 rfl | omega)) ?_
      intro z4 hz4
      refine And.intro (by omega) (And.intro ?_ ?_)
      · intro c5
        refine And.intro (⟨by omega, by omega⟩) ?_
        exact ⟨_, rfl, by omega⟩
      · intro c6
        refine And.intro (⟨by decide, by decide⟩) ?_
        exact ⟨_, rfl, by omega⟩
set_option maxRecDepth 8000 in
theorem ct_M_cellAt_c15f4 {I : fH} {x1 : Int} (h0 : fB bsJ I) (ha1 : (0 ≤ x1 ∧ x1 ≤ 19)) : fC ρ base n F xTc vwCl xTys D dA la gJ (fbz bsJ znJ (fKc []) I) xm_239 [.inr (.inr (some 740)), .inl x1] I (fun _ r => ∃ z, r = some (.inl z) ∧ (z = 30 + 20 * x1)) := by
  have hW : fzs [] (fKc []) := fKc_ok _
  refine f_meth (rb := rbJ) (J := []) 1 400 xG xin_239 x6_239 okJ (fB_self h0) ?_ ?_
  · exact fun q h => absurd h List.not_mem_nil
  · have hB0 := fB_self (zn := znJ) (K := fKc []) h0
    refine And.intro (True.intro) ?_
    exact ⟨_, rfl, by omega⟩
abbrev jc_M_cell_185e1_42 (x1 : Int) (I0 : fH) : Nat → fL → List fV → fH → Prop := fun m lv st I => ∃ (y1 : Int) (y2 : Int) (y3 : Int), lv = [(0, .inr (.inr (some 740))), (1, .inl y1), (2, .inl y2), (3, .inl y3)] ∧ st = [] ∧ (((1 ≤ y1 ∧ y1 ≤ 999) ∧ ((30 ≤ y2 ∧ y2 ≤ 410) ∧ (y2 - 30) % 20 ≤ 0) ∧ (0 ≤ y3 ∧ y3 ≤ 20) ∧ (0 ≤ I 741 5 ∧ I 741 5 ≤ 19) ∧ (y2 = 30 + 20 * I0 741 5) ∧ (0 ≤ I0 741 5) ∧ (I0 741 5 ≤ 19) ∧ (1 ≤ x1) ∧ (x1 ≤ 999) ∧ (y1 = x1)) ∧ (∀ j : Nat, ((j : Int) < 30 + 20 * I0 741 5 ∨ 50 + 20 * I0 741 5 ≤ (j : Int)) → I 741 j = I0 741 j)) ∧ m = (1 + 1 * (20 - y3) : Int).toNat
set_option maxRecDepth 8000 in
theorem ct_M_cell_185e1 {I : fH} {x1 : Int} (h0 : fB bsJ I) (ha1 : ((-2147483648) ≤ x1 ∧ x1 ≤ 2147483647)) (hp0 : sI I 741) : fC ρ base n F xTc vwCl xTys D dA la gJ (fbz bsJ znJ (fKc wz_97606) I) xm_237 [.inr (.inr (some 740)), .inl x1] I (fun I' r => ∃ z, r = some (.inl z) ∧ (((0 ≤ z ∧ z ≤ 19) ∨ z = (-1000000003) ∨ z = (-1000000001)) ∧ ((1 ≤ x1 ∧ x1 ≤ 999 ∧ I 741 5 < 20 → z = I 741 5 ∧ I' 741 5 = I 741 5 + 1) ∧ (1 ≤ x1 ∧ x1 ≤ 999 ∧ 20 ≤ I 741 5 → z = (-1000000003) ∧ I' 741 5 = I 741 5) ∧ (¬ (1 ≤ x1 ∧ x1 ≤ 999) → z = (-1000000001) ∧ I' 741 5 = I 741 5))) ∧ (sI I' 741)) := by
  have hW : fzs wz_97606 (fKc wz_97606) := fKc_ok _
  refine f_meth (rb := rbJ) (J := [(42, (jc_M_cell_185e1_42 x1 I))]) 22 400 xG xin_237 x6_237 okJ (fB_self h0) ?_ ?_
  · refine List.forall_mem_cons.mpr ⟨?_, fun q h => absurd h List.not_mem_nil⟩
    · rintro m _ _ I1 hB1 ⟨y1, y2, y3, rfl, rfl, ⟨hb, hx0⟩, hm⟩
      have b1 := fBd fb_741_5 (fBz h0 hB1)
      refine And.intro (And.intro (by first | exact fi_ hb.2.2.1.1 hb.2.2.1.2 rfl | omega) (by first | exact ⟨by decide, by decide⟩ | omega)) (And.intro ?_ ?_)
      · intro c2
        have w5 := hx0 5 (by omega)
        refine And.intro ⟨rfl, by decide, by decide⟩ ?_
        refine fstore rS_741_741_30_410_20_0 (fzs_sub (by decide +kernel) hW) (by omega) (by first | exact ⟨Int.le_trans (by decide) hb.1.1, hb.1.2⟩ | omega) ?_
        intro IhB3 ehB3 hB3
        have t4 := fup_self ehB3
        have t5 : IhB3 741 5 = I1 741 5 := (congrFun (congrFun ehB3 741) 5).trans (fup_ne (by first | exact Or.inl (by decide) | omega))
        refine And.intro ⟨rfl, by decide, by decide⟩ ?_
        refine fstore rS_741_741_47_427_20_0 (fzs_sub (by decide +kernel) hW) (by omega) (by first | exact ⟨by decide, by decide⟩ | omega) ?_
        intro IhB6 ehB6 hB6
        have t7 := fup_self ehB6
        have t8 : IhB6 741 5 = IhB3 741 5 := (congrFun (congrFun ehB6 741) 5).trans (fup_ne (by first | exact Or.inl (by decide) | omega))
        refine And.intro ⟨rfl, by decide, by decide⟩ ?_
        refine fload1 rL_741_741_5_5_1_0 h0 hB6 ⟨by decide, by decide⟩ (by first | exact ⟨by decide, by decide⟩ | omega) ?_
        intro z9 lz9 uz9 qz9
        have pz9 := fld_at qz9 5 (by omega)
        refine fstore1 rS_741_741_5_5_1_0 (fzs_sub (by decide +kernel) hW) ⟨by decide, by decide⟩ (by first | exact ⟨by decide, by decide⟩ | omega) (by omega) ?_
        intro IhB10 ehB10 hB10
        have t11 := fup_self ehB10
        have t12 := fup_at ehB10 5 (by first | rfl | omega)
        refine And.intro ⟨rfl, by decide, by decide⟩ ?_
        refine fload1 rL_741_741_5_5_1_0 h0 hB10 ⟨by decide, by decide⟩ (by first | exact ⟨by decide, by decide⟩ | omega) ?_
        intro z13 lz13 uz13 qz13
        have pz13 := fld_at qz13 5 (by omega)
        refine And.intro (True.intro) ?_
        exact ⟨_, rfl, by omega, (sI_cell (sBd_of h0) (by omega) (fun j h hj => ((fup_other ehB10 741 j (Or.inr (by omega))).trans ((fup_other ehB6 741 j (Or.inr (by omega))).trans ((fup_other ehB3 741 j (Or.inr (by omega))).trans (hx0 j h))))) (by rw [(fup_other ehB10 741 (30 + 20 * I 741 5).toNat (Or.inr (by omega))), (fup_other ehB6 741 (30 + 20 * I 741 5).toNat (Or.inr (by omega))), fup_at ehB3 (30 + 20 * I 741 5).toNat (by omega)]; omega) (by omega) hp0)⟩
      · intro c14
        refine And.intro ⟨rfl, by decide, by decide⟩ ?_
        refine fstore rS_741_741_30_429_20_19 (fzs_sub (by decide +kernel) hW) (by omega) (by first | exact ⟨by decide, by decide⟩ | omega) ?_
        intro IhB15 ehB15 hB15
        have t16 := fup_self ehB15
        have t17 : IhB15 741 5 = I1 741 5 := (congrFun (congrFun ehB15 741) 5).trans (fup_ne (by first | exact Or.inl (by decide) | omega))
        exact fcutJ (I := IhB15) (j := (jc_M_cell_185e1_42 x1 I)) (lv' := [(0, .inr (.inr (some 740))), (1, .inl _), (2, .inl _), (3, .inl _)]) (And.intro rfl (And.intro rfl (And.intro rfl (And.intro rfl True.intro)))) ⟨_, _, _, rfl, rfl, ⟨by omega, (fun j h => (fup_other ehB15 741 j (Or.inr (by omega))).trans (hx0 j h))⟩, rfl⟩ (by omega)
  · have hB0 := fB_self (zn := znJ) (K := fKc wz_97606) h0
    have b18 := fBd fb_741_5 (fBz h0 hB0)
    refine And.intro (by first | exact fi_ ha1.1 ha1.2 rfl | omega) ?_
    refine Exists.intro xm_238 (And.intro mi_238 (And.intro ⟨rfl, rfl, rfl, rfl⟩ (And.intro True.intro ?_)))
    refine fcallp hB0 (ct_M_isIn_27230 (fBz h0 hB0) (by first | exact ⟨ha1.1, ha1.2⟩ | omega) (by first | exact ⟨by decide, by decide⟩ | omega) (by first | exact ⟨by decide, by decide⟩ | omega)) ?_
    rintro _ ⟨z19, rfl, hz19⟩
    refine And.intro (by omega) (And.intro ?_ ?_)
    · intro c20
      refine And.intro ⟨rfl, by decide, by decide⟩ ?_
      refine fload1 rL_741_741_5_5_1_0 h0 hB0 ⟨by decide, by decide⟩ (by first | exact ⟨by decide, by decide⟩ | omega) ?_
      intro z21 lz21 uz21 qz21
      have pz21 := fld_at qz21 5 (by omega)
      refine And.intro (And.intro (by first | exact fi_ lz21 uz21 rfl | omega) (by first | exact ⟨by decide, by decide⟩ | omega)) (And.intro ?_ ?_)
      · intro c22
        refine And.intro ⟨rfl, by decide, by decide⟩ ?_
        refine fload1 rL_741_741_5_5_1_0 h0 hB0 ⟨by decide, by decide⟩ (by first | exact ⟨by decide, by decide⟩ | omega) ?_
        intro z23 lz23 uz23 qz23
        have pz23 := fld_at qz23 5 (by omega)
        refine Exists.intro xm_239 (And.intro mi_239 (And.intro ⟨rfl, rfl, rfl, rfl⟩ (And.intro rfl ?_)))
        refine fcallp hB0 (ct_M_cellAt_c15f4 (fBz h0 hB0) (by omega)) ?_
        rintro _ ⟨_, rfl, rfl⟩
        exact fcutJ (I := I) (j := (jc_M_cell_185e1_42 x1 I)) (lv' := [(0, .inr (.inr (some 740))), (1, .inl _), (2, .inl _), (3, .inl _)]) (And.intro rfl (And.intro rfl (And.intro rfl (And.intro rfl True.intro)))) ⟨_, _, _, rfl, rfl, ⟨by omega, (fun j _ => rfl)⟩, rfl⟩ (by omega)
      · intro c25
        refine And.intro (True.intro) ?_
        exact ⟨_, rfl, by omega, hp0⟩
    · intro c26
      refine And.intro (True.intro) ?_
      exact ⟨_, rfl, by omega, hp0⟩
set_option maxRecDepth 8000 in
theorem ct_City_isCell_46f02 {I : fH} {x1 : Int} (h0 : fB bsJ I) (ha1 : ((-2147483648) ≤ x1 ∧ x1 ≤ 2147483647)) : fC ρ base n F xTc vwCl xTys D dA la gJ (fbz bsJ znJ (fKc []) I) xm_17 [.inr (.inr (some 1)), .inl x1] I (fun _ r => ∃ z, r = some (.inl z) ∧ (((z = 1 ∧ 0 ≤ x1 ∧ x1 ≤ 19) ∨ z = 0) ∧ ((z = 1 ∧ 0 ≤ x1 ∧ x1 < I 2 5) ∨ (z = 0 ∧ ¬ (0 ≤ x1 ∧ x1 < I 2 5))))) := by
  have hW : fzs [] (fKc []) := fKc_ok _
  refine f_meth (rb := rbJ) (J := []) 1 400 xG xin_17 x6_17 okJ (fB_self h0) ?_ ?_
  · exact fun q h => absurd h List.not_mem_nil
  · have hB0 := fB_self (zn := znJ) (K := fKc []) h0
    refine And.intro ⟨rfl, by decide, by decide⟩ ?_
    refine And.intro ⟨rfl, by decide, by decide⟩ (fgetf fb_2_5 h0 hB0 ?_)
    intro z1 lz1 uz1 qz1
    refine Exists.intro xm_13 (And.intro mi_13 (And.intro ⟨rfl, rfl, rfl, rfl⟩ (And.intro True.intro ?_)))
    refine fcallp hB0 (ct_X_within_c27b1 (fBz h0 hB0) (by first | exact ⟨ha1.1, ha1.2⟩ | omega) (by first | exact ⟨by decide, by decide⟩ | omega) (by omega)) ?_
    rintro _ ⟨z2, rfl, hz2⟩
    refine And.intro (⟨by omega, by omega⟩) ?_
    exact ⟨_, rfl, by omega⟩
set_option maxRecDepth 8000 in
theorem ct_X_swap_f0c2e {I : fH} {x0 : Nat} {x1 : Int} {x2 : Int} (h0 : fB bsJ I) (ha0 : (6 ≤ x0 ∧ x0 ≤ 25)) (ha1 : (0 ≤ x1 ∧ x1 ≤ 4)) (ha2 : (0 ≤ x2 ∧ x2 ≤ 999999)) : fC ρ base n F xTc vwCl xTys D dA la gJ (fbz bsJ znJ (fKc wz_ce9a0) I) xm_18 [.inr (.inr (some x0)), .inl x1, .inl x2] I (fun I' r => ∃ z, r = some (.inl z) ∧ ((-2147483648) ≤ z ∧ z ≤ 2147483647) ∧ (I' = fupd I x0 x1.toNat x2) ∧ (z = I x0 x1.toNat)) := by
  have hW : fzs wz_ce9a0 (fKc wz_ce9a0) := fKc_ok _
  refine f_meth (rb := rbJ) (J := []) 1 400 xG xin_18 x6_18 okJ (fB_self h0) ?_ ?_
  · exact fun q h => absurd h List.not_mem_nil
  · have hB0 := fB_self (zn := znJ) (K := fKc wz_ce9a0) h0
    refine fload rL_6_25_0_4_1_0 h0 hB0 (by omega) ?_
    intro z1 lz1 uz1 qz1
    refine fstore rS_6_25_0_4_1_0 (fzs_sub (by decide +kernel) hW) (by omega) (by first | exact ⟨Int.le_trans (by decide) ha2.1, Int.le_trans ha2.2 (by decide)⟩ | omega) ?_
    intro IhB2 ehB2 hB2
    have t3 := fup_self ehB2
    refine And.intro (True.intro) ?_
    exact ⟨_, rfl, (by first | exact ⟨lz1, uz1⟩ | omega), ehB2, qz1⟩
set_option maxRecDepth 8000 in
theorem ct_X_swap_c1c62 {I : fH} {x1 : Int} {x2 : Int} (h0 : fB bsJ I) (ha1 : (0 ≤ x1 ∧ x1 ≤ 19)) (ha2 : (0 ≤ x2 ∧ x2 ≤ 99)) : fC ρ base n F xTc vwCl xTys D dA la gJ (fbz bsJ znJ (fKc wz_5cd95) I) xm_18 [.inr (.inr (some 4)), .inl x1, .inl x2] I (fun I' r => ∃ z, r = some (.inl z) ∧ ((-2147483648) ≤ z ∧ z ≤ 2147483647) ∧ (I' = fupd I 4 x1.toNat x2) ∧ (z = I 4 x1.toNat)) := by
  have hW : fzs wz_5cd95 (fKc wz_5cd95) := fKc_ok _
  refine f_meth (rb := rbJ) (J := []) 1 400 xG xin_18 x6_18 okJ (fB_self h0) ?_ ?_
  · exact fun q h => absurd h List.not_mem_nil
  · have hB0 := fB_self (zn := znJ) (K := fKc wz_5cd95) h0
    refine fload1 rL_4_4_0_19_1_0 h0 hB0 ⟨by decide, by decide⟩ (by first | exact ⟨ha1.1, ha1.2⟩ | omega) ?_
    intro z1 lz1 uz1 qz1
    refine fstore1 rS_4_4_0_19_1_0 (fzs_sub (by decide +kernel) hW) ⟨by decide, by decide⟩ (by first | exact ⟨ha1.1, ha1.2⟩ | omega) (by first | exact ⟨Int.le_trans (by decide) ha2.1, Int.le_trans ha2.2 (by decide)⟩ | omega) ?_
    intro IhB2 ehB2 hB2
    have t3 := fup_self ehB2
    refine And.intro (True.intro) ?_
    exact ⟨_, rfl, (by first | exact ⟨lz1, uz1⟩ | omega), ehB2, qz1⟩
set_option maxRecDepth 8000 in
theorem ct_X_air_0ab97 {I : fH} {x1 : Int} {x2 : Int} {x3 : Int} (h0 : fB bsJ I) (ha1 : ((-2147483648) ≤ x1 ∧ x1 ≤ 2147483647)) (ha2 : ((-2147483648) ≤ x2 ∧ x2 ≤ 2147483647)) (ha3 : ((-2147483648) ≤ x3 ∧ x3 ≤ 2147483647)) : fC ρ base n F xTc vwCl xTys D dA la gJ (fbz bsJ znJ (fKc wz_f8ef0) I) xm_16 [.inr (.inr (some 0)), .inl x1, .inl x2, .inl x3] I (fun _ r => ∃ z, r = some (.inl z) ∧ ((-2147483648) ≤ z ∧ z ≤ 2147483647)) := by
  have hW : fzs wz_f8ef0 (fKc wz_f8ef0) := fKc_ok _
  refine f_meth (rb := rbJ) (J := []) 1 400 xG xin_16 x6_16 okJ (fB_self h0) ?_ ?_
  · exact fun q h => absurd h List.not_mem_nil
  · have hB0 := fB_self (zn := znJ) (K := fKc wz_f8ef0) h0
    refine And.intro ⟨rfl, by decide, by decide⟩ ?_
    refine Exists.intro xm_17 (And.intro mi_17 (And.intro ⟨rfl, rfl, rfl, rfl⟩ (And.intro rfl ?_)))
    refine fcallp hB0 (ct_City_isCell_46f02 (fBz h0 hB0) (by first | exact ⟨ha1.1, ha1.2⟩ | omega)) ?_
    rintro _ ⟨z1, rfl, hz1⟩
    refine And.intro (by omega) (And.intro ?_ ?_)
    · intro c2
      refine And.intro (True.intro) ?_
      exact ⟨_, rfl, (by first | exact ⟨by decide, by decide⟩ | omega)⟩
    · intro c3
      refine Exists.intro xm_13 (And.intro mi_13 (And.intro ⟨rfl, rfl, rfl, rfl⟩ (And.intro True.intro ?_)))
      refine fcallp hB0 (ct_X_within_c27b1 (fBz h0 hB0) (by first | exact ⟨ha2.1, ha2.2⟩ | omega) (by first | exact ⟨by decide, by decide⟩ | omega) (by first | exact ⟨by decide, by decide⟩ | omega)) ?_
      rintro _ ⟨z4, rfl, hz4⟩
      refine And.intro (by omega) (And.intro ?_ ?_)
      · intro c5
        refine And.intro (And.intro (by first | exact fi_ (Int.le_trans (Int.le_refl _) hz4.1) (Int.le_trans hz4.2 (Int.le_refl _)) rfl | omega) (by first | exact ⟨by decide, by decide⟩ | omega)) (And.intro ?_ ?_)
        · intro c6
          refine Exists.intro xm_13 (And.intro mi_13 (And.intro ⟨rfl, rfl, rfl, rfl⟩ (And.intro True.intro ?_)))
          refine fcallp hB0 (ct_X_within_c27b1 (fBz h0 hB0) (by first | exact ⟨ha3.1, ha3.2⟩ | omega) (by first | exact ⟨by decide, by decide⟩ | omega) (by first | exact ⟨by decide, by decide⟩ | omega)) ?_
          rintro _ ⟨z7, rfl, hz7⟩
          refine And.intro (by omega) (And.intro ?_ ?_)
          · intro c8
            refine And.intro (True.intro) ?_
            exact ⟨_, rfl, by omega⟩
          · intro c9
            refine And.intro ⟨rfl, by decide, by decide⟩ ?_
            refine And.intro ⟨rfl, by decide, by decide⟩ ?_
            refine And.intro ⟨rfl, by decide, by decide⟩ ?_
            refine And.intro ⟨rfl, by decide⟩ (And.intro (by omega) ?_)
            refine Exists.intro xm_18 (And.intro mi_18 (And.intro ⟨rfl, rfl, rfl, rfl⟩ (And.intro True.intro ?_)))
            refine fcall _ h0 (fzs_sub (by decide +kernel) hW) hB0 (ct_X_swap_f0c2e (fBz h0 hB0) (by omega) (by omega) (by first | exact ⟨Int.le_trans (by decide) (Int.le_trans (Int.le_refl _) hz7.1), Int.le_trans (Int.le_trans hz7.2 (Int.le_refl _)) (by decide)⟩ | omega)) ?_
            rintro IhB11 _ hB11 fhB11 ⟨z10, rfl, hz10, g0z10, g1z10⟩
            refine And.intro (True.intro) ?_
            exact ⟨_, rfl, (by first | exact ⟨hz10.1, hz10.2⟩ | omega)⟩
        · intro c12
          refine Exists.intro xm_13 (And.intro mi_13 (And.intro ⟨rfl, rfl, rfl, rfl⟩ (And.intro True.intro ?_)))
          refine fcallp hB0 (ct_X_within_c27b1 (fBz h0 hB0) (by first | exact ⟨ha3.1, ha3.2⟩ | omega) (by first | exact ⟨by decide, by decide⟩ | omega) (by first | exact ⟨by decide, by decide⟩ | omega)) ?_
          rintro _ ⟨z13, rfl, hz13⟩
          refine And.intro (by omega) (And.intro ?_ ?_)
          · intro c14
            refine And.intro (True.intro) ?_
            exact ⟨_, rfl, by omega⟩
          · intro c15
            refine And.intro ⟨rfl, by decide, by decide⟩ ?_
            refine And.intro ⟨rfl, by decide, by decide⟩ ?_
            refine And.intro ⟨rfl, by decide, by decide⟩ ?_
            refine Exists.intro xm_18 (And.intro mi_18 (And.intro ⟨rfl, rfl, rfl, rfl⟩ (And.intro True.intro ?_)))
            refine fcall _ h0 (fzs_sub (by decide +kernel) hW) hB0 (ct_X_swap_c1c62 (fBz h0 hB0) (by omega) (by first | exact ⟨Int.le_trans (by decide) (Int.le_trans (Int.le_refl _) hz13.1), Int.le_trans (Int.le_trans hz13.2 (Int.le_refl _)) (by decide)⟩ | omega)) ?_
            rintro IhB17 _ hB17 fhB17 ⟨z16, rfl, hz16, g0z16, g1z16⟩
            refine And.intro (True.intro) ?_
            exact ⟨_, rfl, (by first | exact ⟨hz16.1, hz16.2⟩ | omega)⟩
      · intro c18
        refine And.intro (True.intro) ?_
        exact ⟨_, rfl, (by first | exact ⟨by decide, by decide⟩ | omega)⟩
set_option maxRecDepth 8000 in
theorem ct_M_isCell_45859 {I : fH} {x1 : Int} (h0 : fB bsJ I) (ha1 : ((-2147483648) ≤ x1 ∧ x1 ≤ 2147483647)) : fC ρ base n F xTc vwCl xTys D dA la gJ (fbz bsJ znJ (fKc []) I) xm_241 [.inr (.inr (some 740)), .inl x1] I (fun _ r => ∃ z, r = some (.inl z) ∧ (((z = 1 ∧ 0 ≤ x1 ∧ x1 ≤ 19) ∨ z = 0) ∧ ((z = 1 ∧ 0 ≤ x1 ∧ x1 < I 741 5) ∨ (z = 0 ∧ ¬ (0 ≤ x1 ∧ x1 < I 741 5))))) := by
  have hW : fzs [] (fKc []) := fKc_ok _
  refine f_meth (rb := rbJ) (J := []) 1 400 xG xin_241 x6_241 okJ (fB_self h0) ?_ ?_
  · exact fun q h => absurd h List.not_mem_nil
  · have hB0 := fB_self (zn := znJ) (K := fKc []) h0
    refine And.intro (by first | exact fi_ ha1.1 ha1.2 rfl | omega) ?_
    refine And.intro ⟨rfl, by decide, by decide⟩ ?_
    refine fload1 rL_741_741_5_5_1_0 h0 hB0 ⟨by decide, by decide⟩ (by first | exact ⟨by decide, by decide⟩ | omega) ?_
    intro z1 lz1 uz1 qz1
    have pz1 := fld_at qz1 5 (by omega)
    refine And.intro (by omega) ?_
    refine Exists.intro xm_238 (And.intro mi_238 (And.intro ⟨rfl, rfl, rfl, rfl⟩ (And.intro True.intro ?_)))
    refine fcallp hB0 (ct_M_isIn_27230 (fBz h0 hB0) (by first | exact ⟨ha1.1, ha1.2⟩ | omega) (by first | exact ⟨by decide, by decide⟩ | omega) (by omega)) ?_
    rintro _ ⟨z2, rfl, hz2⟩
    refine And.intro (⟨by omega, by omega⟩) ?_
    exact ⟨_, rfl, by omega⟩
set_option maxRecDepth 8000 in
theorem ct_M_put_84228 {I : fH} {x1 : Int} {x2 : Int} (h0 : fB bsJ I) (ha1 : ((31 ≤ x1 ∧ x1 ≤ 416) ∧ (x1 - 31) % 20 ≤ 5)) (ha2 : ((-2147483648) ≤ x2 ∧ x2 ≤ 2147483647)) : fC ρ base n F xTc vwCl xTys D dA la gJ (fbz bsJ znJ (fKc wz_4b79b) I) xm_242 [.inr (.inr (some 740)), .inl x1, .inl x2] I (fun I' r => ∃ z, r = some (.inl z) ∧ ((-2147483648) ≤ z ∧ z ≤ 2147483647) ∧ (I' = fupd I 741 x1.toNat x2) ∧ (z = I 741 x1.toNat)) := by
  have hW : fzs wz_4b79b (fKc wz_4b79b) := fKc_ok _
  refine f_meth (rb := rbJ) (J := []) 1 400 xG xin_242 x6_242 okJ (fB_self h0) ?_ ?_
  · exact fun q h => absurd h List.not_mem_nil
  · have hB0 := fB_self (zn := znJ) (K := fKc wz_4b79b) h0
    refine And.intro ⟨rfl, by decide, by decide⟩ ?_
    refine fload rL_741_741_31_416_20_5 h0 hB0 (by omega) ?_
    intro z1 lz1 uz1 qz1
    refine And.intro ⟨rfl, by decide, by decide⟩ ?_
    refine fstore rS_741_741_31_416_20_5 (fzs_sub (by decide +kernel) hW) (by omega) (by first | exact ⟨ha2.1, ha2.2⟩ | omega) ?_
    intro IhB2 ehB2 hB2
    have t3 := fup_self ehB2
    refine And.intro (True.intro) ?_
    exact ⟨_, rfl, (by first | exact ⟨lz1, uz1⟩ | omega), ehB2, qz1⟩
set_option maxRecDepth 8000 in
theorem ct_M_air_7df55 {I : fH} {x1 : Int} {x2 : Int} {x3 : Int} (h0 : fB bsJ I) (ha1 : ((-2147483648) ≤ x1 ∧ x1 ≤ 2147483647)) (ha2 : ((-2147483648) ≤ x2 ∧ x2 ≤ 2147483647)) (ha3 : ((-2147483648) ≤ x3 ∧ x3 ≤ 2147483647)) : fC ρ base n F xTc vwCl xTys D dA la gJ (fbz bsJ znJ (fKc wz_4b79b) I) xm_240 [.inr (.inr (some 740)), .inl x1, .inl x2, .inl x3] I (fun _ r => ∃ z, r = some (.inl z) ∧ ((-2147483648) ≤ z ∧ z ≤ 2147483647)) := by
  have hW : fzs wz_4b79b (fKc wz_4b79b) := fKc_ok _
  refine f_meth (rb := rbJ) (J := []) 1 400 xG xin_240 x6_240 okJ (fB_self h0) ?_ ?_
  · exact fun q h => absurd h List.not_mem_nil
  · have hB0 := fB_self (zn := znJ) (K := fKc wz_4b79b) h0
    refine Exists.intro xm_241 (And.intro mi_241 (And.intro ⟨rfl, rfl, rfl, rfl⟩ (And.intro rfl ?_)))
    refine fcallp hB0 (ct_M_isCell_45859 (fBz h0 hB0) (by first | exact ⟨ha1.1, ha1.2⟩ | omega)) ?_
    rintro _ ⟨z1, rfl, hz1⟩
    refine And.intro (by omega) (And.intro ?_ ?_)
    · intro c2
      refine And.intro (True.intro) ?_
      exact ⟨_, rfl, (by first | exact ⟨by decide, by decide⟩ | omega)⟩
    · intro c3
      refine And.intro (by first | exact fi_ ha2.1 ha2.2 rfl | omega) ?_
      refine Exists.intro xm_238 (And.intro mi_238 (And.intro ⟨rfl, rfl, rfl, rfl⟩ (And.intro True.intro ?_)))
      refine fcallp hB0 (ct_M_isIn_27230 (fBz h0 hB0) (by first | exact ⟨ha2.1, ha2.2⟩ | omega) (by first | exact ⟨by decide, by decide⟩ | omega) (by first | exact ⟨by decide, by decide⟩ | omega)) ?_
      rintro _ ⟨z4, rfl, hz4⟩
      refine And.intro (by omega) (And.intro ?_ ?_)
      · intro c5
        refine And.intro (True.intro) ?_
        exact ⟨_, rfl, (by first | exact ⟨by decide, by decide⟩ | omega)⟩
      · intro c6
        refine And.intro (by first | exact fi_ ha3.1 ha3.2 rfl | omega) ?_
        refine And.intro (And.intro (by first | exact fi_ (Int.le_trans (Int.le_refl _) hz4.1) (Int.le_trans hz4.2 (Int.le_refl _)) rfl | omega) (by first | exact ⟨by decide, by decide⟩ | omega)) (And.intro ?_ ?_)
        · intro c7
          refine Exists.intro xm_238 (And.intro mi_238 (And.intro ⟨rfl, rfl, rfl, rfl⟩ (And.intro True.intro ?_)))
          refine fcallp hB0 (ct_M_isIn_27230 (fBz h0 hB0) (by first | exact ⟨ha3.1, ha3.2⟩ | omega) (by first | exact ⟨by decide, by decide⟩ | omega) (by omega)) ?_
          rintro _ ⟨z8, rfl, hz8⟩
          refine And.intro (by omega) (And.intro ?_ ?_)
          · intro c9
            refine Exists.intro xm_239 (And.intro mi_239 (And.intro ⟨rfl, rfl, rfl, rfl⟩ (And.intro rfl ?_)))
            refine fcallp hB0 (ct_M_cellAt_c15f4 (fBz h0 hB0) (by omega)) ?_
            rintro _ ⟨_, rfl, rfl⟩
            refine And.intro (And.intro (by first | exact fi_ (Int.le_trans (Int.le_refl _) hz4.1) (Int.le_trans hz4.2 (Int.le_refl _)) rfl | omega) (by first | exact ⟨by decide, by decide⟩ | omega)) (And.intro ?_ ?_)
            · intro c11
              refine Exists.intro xm_242 (And.intro mi_242 (And.intro ⟨rfl, rfl, rfl, rfl⟩ (And.intro rfl ?_)))
              refine fcall _ h0 (fzs_sub (by decide +kernel) hW) hB0 (ct_M_put_84228 (fBz h0 hB0) (by omega) (by first | exact ⟨Int.le_trans (by decide) (Int.le_trans (Int.le_refl _) hz8.1), ha3.2⟩ | omega)) ?_
              rintro IhB13 _ hB13 fhB13 ⟨z12, rfl, hz12, g0z12, g1z12⟩
              refine And.intro (True.intro) ?_
              exact ⟨_, rfl, (by first | exact ⟨hz12.1, hz12.2⟩ | omega)⟩
            · intro c14
              refine Exists.intro xm_242 (And.intro mi_242 (And.intro ⟨rfl, rfl, rfl, rfl⟩ (And.intro rfl ?_)))
              refine fcall _ h0 (fzs_sub (by decide +kernel) hW) hB0 (ct_M_put_84228 (fBz h0 hB0) (by omega) (by first | exact ⟨Int.le_trans (by decide) (Int.le_trans (Int.le_refl _) hz8.1), ha3.2⟩ | omega)) ?_
              rintro IhB16 _ hB16 fhB16 ⟨z15, rfl, hz15, g0z15, g1z15⟩
              refine And.intro (True.intro) ?_
              exact ⟨_, rfl, (by first | exact ⟨hz15.1, hz15.2⟩ | omega)⟩
          · intro c17
            refine And.intro (True.intro) ?_
            exact ⟨_, rfl, (by first | exact ⟨by decide, by decide⟩ | omega)⟩
        · intro c18
          refine Exists.intro xm_238 (And.intro mi_238 (And.intro ⟨rfl, rfl, rfl, rfl⟩ (And.intro True.intro ?_)))
          refine fcallp hB0 (ct_M_isIn_27230 (fBz h0 hB0) (by first | exact ⟨ha3.1, ha3.2⟩ | omega) (by first | exact ⟨by decide, by decide⟩ | omega) (by first | exact ⟨by decide, by decide⟩ | omega)) ?_
          rintro _ ⟨z19, rfl, hz19⟩
          refine And.intro (by omega) (And.intro ?_ ?_)
          · intro c20
            refine Exists.intro xm_239 (And.intro mi_239 (And.intro ⟨rfl, rfl, rfl, rfl⟩ (And.intro rfl ?_)))
            refine fcallp hB0 (ct_M_cellAt_c15f4 (fBz h0 hB0) (by omega)) ?_
            rintro _ ⟨_, rfl, rfl⟩
            refine And.intro (And.intro (by first | exact fi_ (Int.le_trans (Int.le_refl _) (Int.le_of_eq c18.symm)) (Int.le_trans hz4.2 (Int.le_refl _)) rfl | omega) (by first | exact ⟨by decide, by decide⟩ | omega)) (And.intro ?_ ?_)
            · intro c22
              refine Exists.intro xm_242 (And.intro mi_242 (And.intro ⟨rfl, rfl, rfl, rfl⟩ (And.intro rfl ?_)))
              refine fcall _ h0 (fzs_sub (by decide +kernel) hW) hB0 (ct_M_put_84228 (fBz h0 hB0) (by omega) (by first | exact ⟨Int.le_trans (by decide) (Int.le_trans (Int.le_refl _) hz19.1), Int.le_trans (Int.le_trans hz19.2 (Int.le_refl _)) (by decide)⟩ | omega)) ?_
              rintro IhB24 _ hB24 fhB24 ⟨z23, rfl, hz23, g0z23, g1z23⟩
              refine And.intro (True.intro) ?_
              exact ⟨_, rfl, (by first | exact ⟨hz23.1, hz23.2⟩ | omega)⟩
            · intro c25
              refine Exists.intro xm_242 (And.intro mi_242 (And.intro ⟨rfl, rfl, rfl, rfl⟩ (And.intro rfl ?_)))
              refine fcall _ h0 (fzs_sub (by decide +kernel) hW) hB0 (ct_M_put_84228 (fBz h0 hB0) (by omega) (by first | exact ⟨Int.le_trans (by decide) (Int.le_trans (Int.le_refl _) hz19.1), Int.le_trans (Int.le_trans hz19.2 (Int.le_refl _)) (by decide)⟩ | omega)) ?_
              rintro IhB27 _ hB27 fhB27 ⟨z26, rfl, hz26, g0z26, g1z26⟩
              refine And.intro (True.intro) ?_
              exact ⟨_, rfl, (by first | exact ⟨hz26.1, hz26.2⟩ | omega)⟩
          · intro c28
            refine And.intro (True.intro) ?_
            exact ⟨_, rfl, (by first | exact ⟨by decide, by decide⟩ | omega)⟩
abbrev jc_Works_standingIn_46df0_4 : Nat → fL → List fV → fH → Prop := fun m lv st I => ∃ (y1 : Int) (y2 : Int) (y3 : Int), lv = [(0, .inr (.inr (some 163))), (1, .inl y1), (2, .inl y2), (3, .inl y3)] ∧ st = [] ∧ (((0 ≤ y1 ∧ y1 ≤ 19) ∧ ((-2147483648) ≤ y2 ∧ y2 ≤ 2147483647) ∧ (0 ≤ y3 ∧ y3 ≤ 24))) ∧ m = (1 + 1 * (24 - y3) : Int).toNat
set_option maxRecDepth 8000 in
theorem ct_Works_standingIn_46df0 {I : fH} {x1 : Int} (h0 : fB bsJ I) (ha1 : (0 ≤ x1 ∧ x1 ≤ 19)) : fC ρ base n F xTc vwCl xTys D dA la gJ (fbz bsJ znJ (fKc []) I) xm_22 [.inr (.inr (some 163)), .inl x1] I (fun _ r => ∃ z, r = some (.inl z) ∧ ((-2147483648) ≤ z ∧ z ≤ 2147483647)) := by
  have hW : fzs [] (fKc []) := fKc_ok _
  refine f_meth (rb := rbJ) (J := [(4, jc_Works_standingIn_46df0_4)]) 26 400 xG xin_22 x6_22 okJ (fB_self h0) ?_ ?_
  · refine List.forall_mem_cons.mpr ⟨?_, fun q h => absurd h List.not_mem_nil⟩
    · rintro m _ _ I1 hB1 ⟨y1, y2, y3, rfl, rfl, hb, hm⟩
      refine And.intro ⟨rfl, by decide, by decide⟩ (fgetf fb_163_13 h0 hB1 ?_)
      intro z1 lz1 uz1 qz1
      refine And.intro (And.intro (by first | exact fi_ hb.2.2.1 hb.2.2.2 rfl | omega) (by first | exact fi_ lz1 uz1 rfl | omega)) (And.intro ?_ ?_)
      · intro c2
        refine And.intro (True.intro) ?_
        exact ⟨_, rfl, (by first | exact ⟨hb.2.1.1, hb.2.1.2⟩ | omega)⟩
      · intro c3
        refine And.intro ⟨rfl, by decide, by decide⟩ ?_
        refine fload1 rL_165_165_0_23_1_0 h0 hB1 ⟨by decide, by decide⟩ (by first | exact ⟨hb.2.2.1, Int.le_trans (Int.le_sub_one_of_lt (Int.lt_of_lt_of_le c3 uz1)) (by decide)⟩ | omega) ?_
        intro z4 lz4 uz4 qz4
        refine And.intro (And.intro (by first | exact fi_ lz4 uz4 rfl | omega) (by first | exact fi_ hb.1.1 hb.1.2 rfl | omega)) (And.intro ?_ ?_)
        · intro c5
          exact fcutJ (I := I1) (j := jc_Works_standingIn_46df0_4) (lv' := [(0, .inr (.inr (some 163))), (1, .inl _), (2, .inl _), (3, .inl _)]) (And.intro rfl (And.intro rfl (And.intro rfl (And.intro rfl True.intro)))) ⟨_, _, _, rfl, rfl, by omega, rfl⟩ (by omega)
        · intro c6
          refine And.intro ⟨rfl, by decide, by decide⟩ ?_
          refine fload1 rL_174_174_0_23_1_0 h0 hB1 ⟨by decide, by decide⟩ (by first | exact ⟨hb.2.2.1, Int.le_trans (Int.le_sub_one_of_lt (Int.lt_of_lt_of_le c3 uz1)) (by decide)⟩ | omega) ?_
          intro z7 lz7 uz7 qz7
          refine And.intro (by first | exact fi_ lz7 uz7 rfl | omega) (And.intro ?_ ?_)
          · intro c8
            exact fcutJ (I := I1) (j := jc_Works_standingIn_46df0_4) (lv' := [(0, .inr (.inr (some 163))), (1, .inl _), (2, .inl _), (3, .inl _)]) (And.intro rfl (And.intro rfl (And.intro rfl (And.intro rfl True.intro)))) ⟨_, _, _, rfl, rfl, by omega, rfl⟩ (by omega)
          · intro c9
            intro z10 hz10 bz10
            clear bz10
            exact fcutJ (I := I1) (j := jc_Works_standingIn_46df0_4) (lv' := [(0, .inr (.inr (some 163))), (1, .inl _), (2, .inl _), (3, .inl _)]) (And.intro rfl (And.intro rfl (And.intro rfl (And.intro rfl True.intro)))) ⟨_, _, _, rfl, rfl, by omega, rfl⟩ (by omega)
  · have hB0 := fB_self (zn := znJ) (K := fKc []) h0
    exact fcutJ (I := I) (j := jc_Works_standingIn_46df0_4) (lv' := [(0, .inr (.inr (some 163))), (1, .inl _), (2, .inl _), (3, .inl _)]) (And.intro rfl (And.intro rfl (And.intro rfl (And.intro rfl True.intro)))) ⟨_, _, _, rfl, rfl, by omega, rfl⟩ (by omega)
set_option maxRecDepth 8000 in
theorem ct_People_isDead_edb17 {I : fH} {x1 : Int} (h0 : fB bsJ I) (ha1 : (0 ≤ x1 ∧ x1 ≤ 23)) : fC ρ base n F xTc vwCl xTys D dA la gJ (fbz bsJ znJ (fKc []) I) xm_21 [.inr (.inr (some 177)), .inl x1] I (fun _ r => ∃ z, r = some (.inl z) ∧ (0 ≤ z ∧ z ≤ 1)) := by
  have hW : fzs [] (fKc []) := fKc_ok _
  refine f_meth (rb := rbJ) (J := []) 1 400 xG xin_21 x6_21 okJ (fB_self h0) ?_ ?_
  · exact fun q h => absurd h List.not_mem_nil
  · have hB0 := fB_self (zn := znJ) (K := fKc []) h0
    refine And.intro ⟨rfl, by decide, by decide⟩ ?_
    refine fload1 rL_181_181_0_23_1_0 h0 hB0 ⟨by decide, by decide⟩ (by first | exact ⟨ha1.1, ha1.2⟩ | omega) ?_
    intro z1 lz1 uz1 qz1
    refine And.intro (And.intro (by first | exact fi_ lz1 uz1 rfl | omega) (by first | exact ⟨by decide, by decide⟩ | omega)) (And.intro ?_ ?_)
    · intro c2
      refine And.intro (⟨by omega, by omega⟩) ?_
      exact ⟨_, rfl, by omega⟩
    · intro c3
      refine And.intro (⟨by decide, by decide⟩) ?_
      exact ⟨_, rfl, (by first | exact ⟨by decide, by decide⟩ | omega)⟩
abbrev jc_People_livingIn_ff6d0_4 : Nat → fL → List fV → fH → Prop := fun m lv st I => ∃ (y1 : Int) (y2 : Int) (y3 : Int), lv = [(0, .inr (.inr (some 177))), (1, .inl y1), (2, .inl y2), (3, .inl y3)] ∧ st = [] ∧ (((0 ≤ y1 ∧ y1 ≤ 19) ∧ ((-2147483648) ≤ y2 ∧ y2 ≤ 2147483647) ∧ (0 ≤ y3 ∧ y3 ≤ 24))) ∧ m = (1 + 1 * (24 - y3) : Int).toNat
set_option maxRecDepth 8000 in
theorem ct_People_livingIn_ff6d0 {I : fH} {x1 : Int} (h0 : fB bsJ I) (ha1 : (0 ≤ x1 ∧ x1 ≤ 19)) : fC ρ base n F xTc vwCl xTys D dA la gJ (fbz bsJ znJ (fKc []) I) xm_20 [.inr (.inr (some 177)), .inl x1] I (fun _ r => ∃ z, r = some (.inl z) ∧ ((-2147483648) ≤ z ∧ z ≤ 2147483647)) := by
  have hW : fzs [] (fKc []) := fKc_ok _
  refine f_meth (rb := rbJ) (J := [(4, jc_People_livingIn_ff6d0_4)]) 26 400 xG xin_20 x6_20 okJ (fB_self h0) ?_ ?_
  · refine List.forall_mem_cons.mpr ⟨?_, fun q h => absurd h List.not_mem_nil⟩
    · rintro m _ _ I1 hB1 ⟨y1, y2, y3, rfl, rfl, hb, hm⟩
      refine And.intro ⟨rfl, by decide, by decide⟩ (fgetf fb_177_4 h0 hB1 ?_)
      intro z1 lz1 uz1 qz1
      refine And.intro (And.intro (by first | exact fi_ hb.2.2.1 hb.2.2.2 rfl | omega) (by first | exact fi_ lz1 uz1 rfl | omega)) (And.intro ?_ ?_)
      · intro c2
        refine And.intro (True.intro) ?_
        exact ⟨_, rfl, (by first | exact ⟨hb.2.1.1, hb.2.1.2⟩ | omega)⟩
      · intro c3
        refine And.intro ⟨rfl, by decide, by decide⟩ ?_
        refine fload1 rL_180_180_0_23_1_0 h0 hB1 ⟨by decide, by decide⟩ (by first | exact ⟨hb.2.2.1, Int.le_trans (Int.le_sub_one_of_lt (Int.lt_of_lt_of_le c3 uz1)) (by decide)⟩ | omega) ?_
        intro z4 lz4 uz4 qz4
        refine And.intro (And.intro (by first | exact fi_ lz4 uz4 rfl | omega) (by first | exact fi_ hb.1.1 hb.1.2 rfl | omega)) (And.intro ?_ ?_)
        · intro c5
          exact fcutJ (I := I1) (j := jc_People_livingIn_ff6d0_4) (lv' := [(0, .inr (.inr (some 177))), (1, .inl _), (2, .inl _), (3, .inl _)]) (And.intro rfl (And.intro rfl (And.intro rfl (And.intro rfl True.intro)))) ⟨_, _, _, rfl, rfl, by omega, rfl⟩ (by omega)
        · intro c6
          refine Exists.intro xm_21 (And.intro mi_21 (And.intro ⟨rfl, rfl, rfl, rfl⟩ (And.intro rfl ?_)))
          refine fcallp hB1 (ct_People_isDead_edb17 (fBz h0 hB1) (by first | exact ⟨hb.2.2.1, Int.le_trans (Int.le_sub_one_of_lt (Int.lt_of_lt_of_le c3 uz1)) (by decide)⟩ | omega)) ?_
          rintro _ ⟨z7, rfl, hz7⟩
          refine And.intro (by omega) (And.intro ?_ ?_)
          · intro c8
            exact fcutJ (I := I1) (j := jc_People_livingIn_ff6d0_4) (lv' := [(0, .inr (.inr (some 177))), (1, .inl _), (2, .inl _), (3, .inl _)]) (And.intro rfl (And.intro rfl (And.intro rfl (And.intro rfl True.intro)))) ⟨_, _, _, rfl, rfl, by omega, rfl⟩ (by omega)
          · intro c9
            intro z10 hz10 bz10
            clear bz10
            exact fcutJ (I := I1) (j := jc_People_livingIn_ff6d0_4) (lv' := [(0, .inr (.inr (some 177))), (1, .inl _), (2, .inl _), (3, .inl _)]) (And.intro rfl (And.intro rfl (And.intro rfl (And.intro rfl True.intro)))) ⟨_, _, _, rfl, rfl, by omega, rfl⟩ (by omega)
  · have hB0 := fB_self (zn := znJ) (K := fKc []) h0
    exact fcutJ (I := I) (j := jc_People_livingIn_ff6d0_4) (lv' := [(0, .inr (.inr (some 177))), (1, .inl _), (2, .inl _), (3, .inl _)]) (And.intro rfl (And.intro rfl (And.intro rfl (And.intro rfl True.intro)))) ⟨_, _, _, rfl, rfl, by omega, rfl⟩ (by omega)
set_option maxRecDepth 8000 in
theorem ct_X_told_6cf86 {I : fH} {x1 : Int} {x2 : Int} (h0 : fB bsJ I) (ha1 : ((-2147483648) ≤ x1 ∧ x1 ≤ 2147483647)) (ha2 : ((-2147483648) ≤ x2 ∧ x2 ≤ 2147483647)) : fC ρ base n F xTc vwCl xTys D dA la gJ (fbz bsJ znJ (fKc []) I) xm_19 [.inr (.inr (some 0)), .inl x1, .inl x2] I (fun _ r => ∃ z, r = some (.inl z) ∧ ((-2147483648) ≤ z ∧ z ≤ 2147483647)) := by
  have hW : fzs [] (fKc []) := fKc_ok _
  refine f_meth (rb := rbJ) (J := []) 1 400 xG xin_19 x6_19 okJ (fB_self h0) ?_ ?_
  · exact fun q h => absurd h List.not_mem_nil
  · have hB0 := fB_self (zn := znJ) (K := fKc []) h0
    refine And.intro ⟨rfl, by decide, by decide⟩ ?_
    refine Exists.intro xm_17 (And.intro mi_17 (And.intro ⟨rfl, rfl, rfl, rfl⟩ (And.intro rfl ?_)))
    refine fcallp hB0 (ct_City_isCell_46f02 (fBz h0 hB0) (by first | exact ⟨ha1.1, ha1.2⟩ | omega)) ?_
    rintro _ ⟨z1, rfl, hz1⟩
    refine And.intro (by omega) (And.intro ?_ ?_)
    · intro c2
      refine Exists.intro xm_13 (And.intro mi_13 (And.intro ⟨rfl, rfl, rfl, rfl⟩ (And.intro True.intro ?_)))
      refine fcallp hB0 (ct_X_within_c27b1 (fBz h0 hB0) (by first | exact ⟨ha2.1, ha2.2⟩ | omega) (by first | exact ⟨by decide, by decide⟩ | omega) (by first | exact ⟨by decide, by decide⟩ | omega)) ?_
      rintro _ ⟨z3, rfl, hz3⟩
      refine And.intro (by omega) (And.intro ?_ ?_)
      · intro c4
        refine Exists.intro xm_13 (And.intro mi_13 (And.intro ⟨rfl, rfl, rfl, rfl⟩ (And.intro True.intro ?_)))
        refine fcallp hB0 (ct_X_within_c27b1 (fBz h0 hB0) (by first | exact ⟨ha2.1, ha2.2⟩ | omega) (by first | exact ⟨by decide, by decide⟩ | omega) (by first | exact ⟨by decide, by decide⟩ | omega)) ?_
        rintro _ ⟨z5, rfl, hz5⟩
        refine And.intro (by omega) (And.intro ?_ ?_)
        · intro c6
          refine And.intro (by first | exact fi_ ha2.1 ha2.2 rfl | omega) (And.intro ?_ ?_)
          · refine And.intro (fun ex => ?_) (And.intro (fun ex => ?_) (And.intro (fun ex => ?_) (And.intro (fun ex => ?_) (True.intro))))
            · skip
              refine And.intro ⟨rfl, by decide, by decide⟩ ?_
              refine And.intro ⟨rfl, by decide, by decide⟩ ?_
              refine And.intro ⟨rfl, by decide, by decide⟩ ?_
              refine fload rL_4_4_0_19_1_0 h0 hB0 (by omega) ?_
              intro z7 lz7 uz7 qz7
              refine And.intro (True.intro) ?_
              exact ⟨_, rfl, (by first | exact ⟨lz7, uz7⟩ | omega)⟩
            · skip
              refine And.intro ⟨rfl, by decide, by decide⟩ ?_
              refine And.intro ⟨rfl, by decide, by decide⟩ ?_
              refine And.intro ⟨rfl, by decide, by decide⟩ ?_
              refine fload rL_3_3_0_19_1_0 h0 hB0 (by omega) ?_
              intro z8 lz8 uz8 qz8
              refine And.intro (True.intro) ?_
              exact ⟨_, rfl, (by first | exact ⟨lz8, uz8⟩ | omega)⟩
            · skip
              refine And.intro ⟨rfl, by decide, by decide⟩ ?_
              refine And.intro ⟨rfl, by decide, by decide⟩ ?_
              refine Exists.intro xm_20 (And.intro mi_20 (And.intro ⟨rfl, rfl, rfl, rfl⟩ (And.intro rfl ?_)))
              refine fcallp hB0 (ct_People_livingIn_ff6d0 (fBz h0 hB0) (by omega)) ?_
              rintro _ ⟨z9, rfl, hz9⟩
              refine And.intro (True.intro) ?_
              exact ⟨_, rfl, (by first | exact ⟨hz9.1, hz9.2⟩ | omega)⟩
            · skip
              refine And.intro ⟨rfl, by decide, by decide⟩ ?_
              refine And.intro ⟨rfl, by decide, by decide⟩ ?_
              refine Exists.intro xm_22 (And.intro mi_22 (And.intro ⟨rfl, rfl, rfl, rfl⟩ (And.intro rfl ?_)))
              refine fcallp hB0 (ct_Works_standingIn_46df0 (fBz h0 hB0) (by omega)) ?_
              rintro _ ⟨z10, rfl, hz10⟩
              refine And.intro (True.intro) ?_
              exact ⟨_, rfl, (by first | exact ⟨hz10.1, hz10.2⟩ | omega)⟩
          · intro c11
            refine And.intro (True.intro) ?_
            exact ⟨_, rfl, (by first | exact ⟨by decide, by decide⟩ | omega)⟩
        · intro c12
          refine And.intro ⟨rfl, by decide, by decide⟩ ?_
          refine And.intro ⟨rfl, by decide, by decide⟩ ?_
          refine And.intro ⟨rfl, by decide, by decide⟩ ?_
          refine And.intro ⟨rfl, by decide⟩ (And.intro (by omega) ?_)
          refine fload rL_27_46_0_4_1_0 h0 hB0 (by omega) ?_
          intro z13 lz13 uz13 qz13
          refine And.intro (True.intro) ?_
          exact ⟨_, rfl, (by first | exact ⟨lz13, uz13⟩ | omega)⟩
      · intro c14
        refine And.intro ⟨rfl, by decide, by decide⟩ ?_
        refine And.intro ⟨rfl, by decide, by decide⟩ ?_
        refine And.intro ⟨rfl, by decide, by decide⟩ ?_
        refine And.intro ⟨rfl, by decide⟩ (And.intro (by omega) ?_)
        refine fload rL_6_25_0_4_1_0 h0 hB0 (by omega) ?_
        intro z15 lz15 uz15 qz15
        refine And.intro (True.intro) ?_
        exact ⟨_, rfl, (by first | exact ⟨lz15, uz15⟩ | omega)⟩
    · intro c16
      refine And.intro (True.intro) ?_
      exact ⟨_, rfl, (by first | exact ⟨by decide, by decide⟩ | omega)⟩
set_option maxRecDepth 8000 in
theorem ct_M_workAt_83d38 {I : fH} {x1 : Int} (h0 : fB bsJ I) (ha1 : (0 ≤ x1 ∧ x1 ≤ 23)) : fC ρ base n F xTc vwCl xTys D dA la gJ (fbz bsJ znJ (fKc []) I) xm_244 [.inr (.inr (some 740)), .inl x1] I (fun _ r => ∃ z, r = some (.inl z) ∧ (z = 530 + 14 * x1)) := by
  have hW : fzs [] (fKc []) := fKc_ok _
  refine f_meth (rb := rbJ) (J := []) 1 400 xG xin_244 x6_244 okJ (fB_self h0) ?_ ?_
  · exact fun q h => absurd h List.not_mem_nil
  · have hB0 := fB_self (zn := znJ) (K := fKc []) h0
    refine And.intro (True.intro) ?_
    exact ⟨_, rfl, by omega⟩
set_option maxRecDepth 8000 in
theorem ct_M_personAt_9b331 {I : fH} {x1 : Int} (h0 : fB bsJ I) (ha1 : (0 ≤ x1 ∧ x1 ≤ 23)) : fC ρ base n F xTc vwCl xTys D dA la gJ (fbz bsJ znJ (fKc []) I) xm_247 [.inr (.inr (some 740)), .inl x1] I (fun _ r => ∃ z, r = some (.inl z) ∧ (z = 870 + 6 * x1)) := by
  have hW : fzs [] (fKc []) := fKc_ok _
  refine f_meth (rb := rbJ) (J := []) 1 400 xG xin_247 x6_247 okJ (fB_self h0) ?_ ?_
  · exact fun q h => absurd h List.not_mem_nil
  · have hB0 := fB_self (zn := znJ) (K := fKc []) h0
    intro z1 hz1 ez1 bz1
    clear ez1
    have bz1 := bz1 (by omega)
    intro z2 hz2 ez2 bz2
    clear ez2
    have bz2 := bz2 (by omega)
    refine And.intro (True.intro) ?_
    exact ⟨_, rfl, by omega⟩
set_option maxRecDepth 8000 in
theorem ct_M_isDead_21e1a {I : fH} {x1 : Int} (h0 : fB bsJ I) (ha1 : (0 ≤ x1 ∧ x1 ≤ 23)) : fC ρ base n F xTc vwCl xTys D dA la gJ (fbz bsJ znJ (fKc []) I) xm_248 [.inr (.inr (some 740)), .inl x1] I (fun _ r => ∃ z, r = some (.inl z) ∧ (0 ≤ z ∧ z ≤ 1)) := by
  have hW : fzs [] (fKc []) := fKc_ok _
  refine f_meth (rb := rbJ) (J := []) 1 400 xG xin_248 x6_248 okJ (fB_self h0) ?_ ?_
  · exact fun q h => absurd h List.not_mem_nil
  · have hB0 := fB_self (zn := znJ) (K := fKc []) h0
    refine And.intro ⟨rfl, by decide, by decide⟩ ?_
    refine Exists.intro xm_247 (And.intro mi_247 (And.intro ⟨rfl, rfl, rfl, rfl⟩ (And.intro rfl ?_)))
    refine fcallp hB0 (ct_M_personAt_9b331 (fBz h0 hB0) (by first | exact ⟨ha1.1, ha1.2⟩ | omega)) ?_
    rintro _ ⟨_, rfl, rfl⟩
    refine fload rL_741_741_873_1011_6_0 h0 hB0 (by omega) ?_
    intro z2 lz2 uz2 qz2
    refine And.intro (And.intro (by first | exact fi_ lz2 uz2 rfl | omega) (by first | exact ⟨by decide, by decide⟩ | omega)) (And.intro ?_ ?_)
    · intro c3
      refine And.intro (⟨by omega, by omega⟩) ?_
      exact ⟨_, rfl, by omega⟩
    · intro c4
      refine And.intro (⟨by decide, by decide⟩) ?_
      exact ⟨_, rfl, (by first | exact ⟨by decide, by decide⟩ | omega)⟩
abbrev jc_M_peopleIn_76ab1_4 : Nat → fL → List fV → fH → Prop := fun m lv st I => ∃ (y1 : Int) (y2 : Int) (y3 : Int), lv = [(0, .inr (.inr (some 740))), (1, .inl y1), (2, .inl y2), (3, .inl y3)] ∧ st = [] ∧ (((0 ≤ y1 ∧ y1 ≤ 19) ∧ ((-2147483648) ≤ y2 ∧ y2 ≤ 2147483647) ∧ (0 ≤ y3 ∧ y3 ≤ 24))) ∧ m = (1 + 1 * (24 - y3) : Int).toNat
set_option maxRecDepth 8000 in
theorem ct_M_peopleIn_76ab1 {I : fH} {x1 : Int} (h0 : fB bsJ I) (ha1 : (0 ≤ x1 ∧ x1 ≤ 19)) : fC ρ base n F xTc vwCl xTys D dA la gJ (fbz bsJ znJ (fKc []) I) xm_246 [.inr (.inr (some 740)), .inl x1] I (fun _ r => ∃ z, r = some (.inl z) ∧ ((-2147483648) ≤ z ∧ z ≤ 2147483647)) := by
  have hW : fzs [] (fKc []) := fKc_ok _
  refine f_meth (rb := rbJ) (J := [(4, jc_M_peopleIn_76ab1_4)]) 26 400 xG xin_246 x6_246 okJ (fB_self h0) ?_ ?_
  · refine List.forall_mem_cons.mpr ⟨?_, fun q h => absurd h List.not_mem_nil⟩
    · rintro m _ _ I1 hB1 ⟨y1, y2, y3, rfl, rfl, hb, hm⟩
      refine And.intro ⟨rfl, by decide, by decide⟩ ?_
      refine fload1 rL_741_741_8_8_1_0 h0 hB1 ⟨by decide, by decide⟩ (by first | exact ⟨by decide, by decide⟩ | omega) ?_
      intro z1 lz1 uz1 qz1
      have pz1 := fld_at qz1 8 (by omega)
      refine And.intro (And.intro (by first | exact fi_ hb.2.2.1 hb.2.2.2 rfl | omega) (by first | exact fi_ lz1 uz1 rfl | omega)) (And.intro ?_ ?_)
      · intro c2
        refine And.intro (True.intro) ?_
        exact ⟨_, rfl, (by first | exact ⟨hb.2.1.1, hb.2.1.2⟩ | omega)⟩
      · intro c3
        refine And.intro ⟨rfl, by decide, by decide⟩ ?_
        refine Exists.intro xm_247 (And.intro mi_247 (And.intro ⟨rfl, rfl, rfl, rfl⟩ (And.intro rfl ?_)))
        refine fcallp hB1 (ct_M_personAt_9b331 (fBz h0 hB1) (by first | exact ⟨hb.2.2.1, Int.le_trans (Int.le_sub_one_of_lt (Int.lt_of_lt_of_le c3 uz1)) (by decide)⟩ | omega)) ?_
        rintro _ ⟨_, rfl, rfl⟩
        refine fload rL_741_741_872_1010_6_0 h0 hB1 (by omega) ?_
        intro z5 lz5 uz5 qz5
        refine And.intro (And.intro (by first | exact fi_ lz5 uz5 rfl | omega) (by first | exact fi_ hb.1.1 hb.1.2 rfl | omega)) (And.intro ?_ ?_)
        · intro c6
          intro z7 hz7 ez7 bz7
          clear ez7
          clear bz7
          exact fcutJ (I := I1) (j := jc_M_peopleIn_76ab1_4) (lv' := [(0, .inr (.inr (some 740))), (1, .inl _), (2, .inl _), (3, .inl _)]) (And.intro rfl (And.intro rfl (And.intro rfl (And.intro rfl True.intro)))) ⟨_, _, _, rfl, rfl, by omega, rfl⟩ (by omega)
        · intro c8
          refine Exists.intro xm_248 (And.intro mi_248 (And.intro ⟨rfl, rfl, rfl, rfl⟩ (And.intro rfl ?_)))
          refine fcallp hB1 (ct_M_isDead_21e1a (fBz h0 hB1) (by first | exact ⟨hb.2.2.1, Int.le_trans (Int.le_sub_one_of_lt (Int.lt_of_lt_of_le c3 uz1)) (by decide)⟩ | omega)) ?_
          rintro _ ⟨z9, rfl, hz9⟩
          refine And.intro (by omega) (And.intro ?_ ?_)
          · intro c10
            intro z11 hz11 ez11 bz11
            clear ez11
            clear bz11
            exact fcutJ (I := I1) (j := jc_M_peopleIn_76ab1_4) (lv' := [(0, .inr (.inr (some 740))), (1, .inl _), (2, .inl _), (3, .inl _)]) (And.intro rfl (And.intro rfl (And.intro rfl (And.intro rfl True.intro)))) ⟨_, _, _, rfl, rfl, by omega, rfl⟩ (by omega)
          · intro c12
            intro z13 hz13 ez13 bz13
            clear ez13
            clear bz13
            exact fcutJ (I := I1) (j := jc_M_peopleIn_76ab1_4) (lv' := [(0, .inr (.inr (some 740))), (1, .inl _), (2, .inl _), (3, .inl _)]) (And.intro rfl (And.intro rfl (And.intro rfl (And.intro rfl True.intro)))) ⟨_, _, _, rfl, rfl, by omega, rfl⟩ (by omega)
  · have hB0 := fB_self (zn := znJ) (K := fKc []) h0
    exact fcutJ (I := I) (j := jc_M_peopleIn_76ab1_4) (lv' := [(0, .inr (.inr (some 740))), (1, .inl _), (2, .inl _), (3, .inl _)]) (And.intro rfl (And.intro rfl (And.intro rfl (And.intro rfl True.intro)))) ⟨_, _, _, rfl, rfl, by omega, rfl⟩ (by omega)
set_option maxRecDepth 8000 in
theorem ct_M_isGone_0de37 {I : fH} {x1 : Int} (h0 : fB bsJ I) (ha1 : (0 ≤ x1 ∧ x1 ≤ 23)) : fC ρ base n F xTc vwCl xTys D dA la gJ (fbz bsJ znJ (fKc []) I) xm_245 [.inr (.inr (some 740)), .inl x1] I (fun _ r => ∃ z, r = some (.inl z) ∧ (0 ≤ z ∧ z ≤ 1)) := by
  have hW : fzs [] (fKc []) := fKc_ok _
  refine f_meth (rb := rbJ) (J := []) 1 400 xG xin_245 x6_245 okJ (fB_self h0) ?_ ?_
  · exact fun q h => absurd h List.not_mem_nil
  · have hB0 := fB_self (zn := znJ) (K := fKc []) h0
    refine And.intro ⟨rfl, by decide, by decide⟩ ?_
    refine Exists.intro xm_244 (And.intro mi_244 (And.intro ⟨rfl, rfl, rfl, rfl⟩ (And.intro rfl ?_)))
    refine fcallp hB0 (ct_M_workAt_83d38 (fBz h0 hB0) (by first | exact ⟨ha1.1, ha1.2⟩ | omega)) ?_
    rintro _ ⟨_, rfl, rfl⟩
    refine fload rL_741_741_538_860_14_0 h0 hB0 (by omega) ?_
    intro z2 lz2 uz2 qz2
    refine And.intro (And.intro (by first | exact fi_ lz2 uz2 rfl | omega) (by first | exact ⟨by decide, by decide⟩ | omega)) (And.intro ?_ ?_)
    · intro c3
      refine And.intro (⟨by omega, by omega⟩) ?_
      exact ⟨_, rfl, by omega⟩
    · intro c4
      refine And.intro (⟨by decide, by decide⟩) ?_
      exact ⟨_, rfl, (by first | exact ⟨by decide, by decide⟩ | omega)⟩
abbrev jc_M_told_3fceb_68 : Nat → fL → List fV → fH → Prop := fun m lv st I => ∃ (y1 : Int) (y4 : Int) (y5 : Int), lv = [(0, .inr (.inr (some 740))), (1, .inl y1), (4, .inl y4), (5, .inl y5)] ∧ st = [] ∧ (((0 ≤ y1 ∧ y1 ≤ 19) ∧ ((-2147483648) ≤ y4 ∧ y4 ≤ 2147483647) ∧ (0 ≤ y5 ∧ y5 ≤ 24))) ∧ m = (1 + 1 * (24 - y5) : Int).toNat
set_option maxRecDepth 8000 in
theorem ct_M_told_3fceb {I : fH} {x1 : Int} {x2 : Int} (h0 : fB bsJ I) (ha1 : ((-2147483648) ≤ x1 ∧ x1 ≤ 2147483647)) (ha2 : ((-2147483648) ≤ x2 ∧ x2 ≤ 2147483647)) : fC ρ base n F xTc vwCl xTys D dA la gJ (fbz bsJ znJ (fKc []) I) xm_243 [.inr (.inr (some 740)), .inl x1, .inl x2] I (fun _ r => ∃ z, r = some (.inl z) ∧ ((-2147483648) ≤ z ∧ z ≤ 2147483647)) := by
  have hW : fzs [] (fKc []) := fKc_ok _
  refine f_meth (rb := rbJ) (J := [(68, jc_M_told_3fceb_68)]) 26 400 xG xin_243 x6_243 okJ (fB_self h0) ?_ ?_
  · refine List.forall_mem_cons.mpr ⟨?_, fun q h => absurd h List.not_mem_nil⟩
    · rintro m _ _ I1 hB1 ⟨y1, y4, y5, rfl, rfl, hb, hm⟩
      refine And.intro ⟨rfl, by decide, by decide⟩ ?_
      refine fload1 rL_741_741_7_7_1_0 h0 hB1 ⟨by decide, by decide⟩ (by first | exact ⟨by decide, by decide⟩ | omega) ?_
      intro z1 lz1 uz1 qz1
      have pz1 := fld_at qz1 7 (by omega)
      refine And.intro (And.intro (by first | exact fi_ hb.2.2.1 hb.2.2.2 rfl | omega) (by first | exact fi_ lz1 uz1 rfl | omega)) (And.intro ?_ ?_)
      · intro c2
        refine And.intro (True.intro) ?_
        exact ⟨_, rfl, (by first | exact ⟨hb.2.1.1, hb.2.1.2⟩ | omega)⟩
      · intro c3
        refine And.intro ⟨rfl, by decide, by decide⟩ ?_
        refine Exists.intro xm_244 (And.intro mi_244 (And.intro ⟨rfl, rfl, rfl, rfl⟩ (And.intro rfl ?_)))
        refine fcallp hB1 (ct_M_workAt_83d38 (fBz h0 hB1) (by first | exact ⟨hb.2.2.1, Int.le_trans (Int.le_sub_one_of_lt (Int.lt_of_lt_of_le c3 uz1)) (by decide)⟩ | omega)) ?_
        rintro _ ⟨_, rfl, rfl⟩
        refine fload rL_741_741_531_853_14_0 h0 hB1 (by omega) ?_
        intro z5 lz5 uz5 qz5
        refine And.intro (And.intro (by first | exact fi_ lz5 uz5 rfl | omega) (by first | exact fi_ hb.1.1 hb.1.2 rfl | omega)) (And.intro ?_ ?_)
        · intro c6
          intro z7 hz7 ez7 bz7
          clear ez7
          clear bz7
          exact fcutJ (I := I1) (j := jc_M_told_3fceb_68) (lv' := [(0, .inr (.inr (some 740))), (1, .inl _), (4, .inl _), (5, .inl _)]) (And.intro rfl (And.intro rfl (And.intro rfl (And.intro rfl True.intro)))) ⟨_, _, _, rfl, rfl, by omega, rfl⟩ (by omega)
        · intro c8
          refine Exists.intro xm_245 (And.intro mi_245 (And.intro ⟨rfl, rfl, rfl, rfl⟩ (And.intro rfl ?_)))
          refine fcallp hB1 (ct_M_isGone_0de37 (fBz h0 hB1) (by first | exact ⟨hb.2.2.1, Int.le_trans (Int.le_sub_one_of_lt (Int.lt_of_lt_of_le c3 uz1)) (by decide)⟩ | omega)) ?_
          rintro _ ⟨z9, rfl, hz9⟩
          refine And.intro (by omega) (And.intro ?_ ?_)
          · intro c10
            intro z11 hz11 ez11 bz11
            clear ez11
            clear bz11
            exact fcutJ (I := I1) (j := jc_M_told_3fceb_68) (lv' := [(0, .inr (.inr (some 740))), (1, .inl _), (4, .inl _), (5, .inl _)]) (And.intro rfl (And.intro rfl (And.intro rfl (And.intro rfl True.intro)))) ⟨_, _, _, rfl, rfl, by omega, rfl⟩ (by omega)
          · intro c12
            intro z13 hz13 ez13 bz13
            clear ez13
            clear bz13
            exact fcutJ (I := I1) (j := jc_M_told_3fceb_68) (lv' := [(0, .inr (.inr (some 740))), (1, .inl _), (4, .inl _), (5, .inl _)]) (And.intro rfl (And.intro rfl (And.intro rfl (And.intro rfl True.intro)))) ⟨_, _, _, rfl, rfl, by omega, rfl⟩ (by omega)
  · have hB0 := fB_self (zn := znJ) (K := fKc []) h0
    refine Exists.intro xm_241 (And.intro mi_241 (And.intro ⟨rfl, rfl, rfl, rfl⟩ (And.intro rfl ?_)))
    refine fcallp hB0 (ct_M_isCell_45859 (fBz h0 hB0) (by first | exact ⟨ha1.1, ha1.2⟩ | omega)) ?_
    rintro _ ⟨z14, rfl, hz14⟩
    refine And.intro (by omega) (And.intro ?_ ?_)
    · intro c15
      refine And.intro (True.intro) ?_
      exact ⟨_, rfl, (by first | exact ⟨by decide, by decide⟩ | omega)⟩
    · intro c16
      refine And.intro (by first | exact fi_ ha2.1 ha2.2 rfl | omega) ?_
      refine Exists.intro xm_238 (And.intro mi_238 (And.intro ⟨rfl, rfl, rfl, rfl⟩ (And.intro True.intro ?_)))
      refine fcallp hB0 (ct_M_isIn_27230 (fBz h0 hB0) (by first | exact ⟨ha2.1, ha2.2⟩ | omega) (by first | exact ⟨by decide, by decide⟩ | omega) (by first | exact ⟨by decide, by decide⟩ | omega)) ?_
      rintro _ ⟨z17, rfl, hz17⟩
      refine And.intro (by omega) (And.intro ?_ ?_)
      · intro c18
        refine And.intro (True.intro) ?_
        exact ⟨_, rfl, (by first | exact ⟨by decide, by decide⟩ | omega)⟩
      · intro c19
        refine And.intro (And.intro (by first | exact fi_ (Int.le_trans (Int.le_refl _) hz17.1) (Int.le_trans hz17.2 (Int.le_refl _)) rfl | omega) (by first | exact ⟨by decide, by decide⟩ | omega)) (And.intro ?_ ?_)
        · intro c20
          refine Exists.intro xm_239 (And.intro mi_239 (And.intro ⟨rfl, rfl, rfl, rfl⟩ (And.intro rfl ?_)))
          refine fcallp hB0 (ct_M_cellAt_c15f4 (fBz h0 hB0) (by omega)) ?_
          rintro _ ⟨_, rfl, rfl⟩
          refine And.intro (And.intro (by first | exact fi_ (Int.le_trans (Int.le_refl _) hz17.1) (Int.le_trans hz17.2 (Int.le_refl _)) rfl | omega) (by first | exact ⟨by decide, by decide⟩ | omega)) (And.intro ?_ ?_)
          · intro c22
            refine And.intro (And.intro (by first | exact fi_ (Int.le_trans (Int.le_refl _) hz17.1) (Int.le_sub_one_of_lt (Int.lt_of_lt_of_le c22 (Int.le_refl _))) rfl | omega) (by first | exact ⟨by decide, by decide⟩ | omega)) (And.intro ?_ ?_)
            · intro c23
              refine And.intro (And.intro (by first | exact fi_ (Int.le_trans (Int.le_refl _) hz17.1) (Int.le_sub_one_of_lt (Int.lt_of_lt_of_le c22 (Int.le_refl _))) rfl | omega) (by first | exact ⟨by decide, by decide⟩ | omega)) (And.intro ?_ ?_)
              · intro c24
                refine And.intro (And.intro (by first | exact fi_ (Int.le_trans (Int.le_refl _) c24) (Int.le_sub_one_of_lt (Int.lt_of_lt_of_le c22 (Int.le_refl _))) rfl | omega) (by first | exact ⟨by decide, by decide⟩ | omega)) (And.intro ?_ ?_)
                · intro c25
                  refine And.intro (And.intro (by first | exact fi_ (Int.le_trans (Int.le_refl _) c24) (Int.le_sub_one_of_lt (Int.lt_of_lt_of_le c22 (Int.le_refl _))) rfl | omega) (by first | exact ⟨by decide, by decide⟩ | omega)) (And.intro ?_ ?_)
                  · intro c26
                    refine Exists.intro xm_246 (And.intro mi_246 (And.intro ⟨rfl, rfl, rfl, rfl⟩ (And.intro rfl ?_)))
                    refine fcallp hB0 (ct_M_peopleIn_76ab1 (fBz h0 hB0) (by omega)) ?_
                    rintro _ ⟨z27, rfl, hz27⟩
                    refine And.intro (True.intro) ?_
                    exact ⟨_, rfl, (by first | exact ⟨hz27.1, hz27.2⟩ | omega)⟩
                  · intro c28
                    refine And.intro ⟨rfl, by decide, by decide⟩ ?_
                    refine fload rL_741_741_30_410_20_0 h0 hB0 (by omega) ?_
                    intro z29 lz29 uz29 qz29
                    refine And.intro (True.intro) ?_
                    exact ⟨_, rfl, (by first | exact ⟨Int.le_trans (by decide) lz29, Int.le_trans uz29 (by decide)⟩ | omega)⟩
                · intro c30
                  refine And.intro ⟨rfl, by decide, by decide⟩ ?_
                  refine fload rL_741_741_36_416_20_0 h0 hB0 (by omega) ?_
                  intro z31 lz31 uz31 qz31
                  refine And.intro (True.intro) ?_
                  exact ⟨_, rfl, (by first | exact ⟨lz31, uz31⟩ | omega)⟩
              · intro c32
                refine And.intro ⟨rfl, by decide, by decide⟩ ?_
                refine fload rL_741_741_31_415_20_4 h0 hB0 (by omega) ?_
                intro z33 lz33 uz33 qz33
                refine And.intro (True.intro) ?_
                exact ⟨_, rfl, (by first | exact ⟨lz33, uz33⟩ | omega)⟩
            · intro c34
              exact fcutJ (I := I) (j := jc_M_told_3fceb_68) (lv' := [(0, .inr (.inr (some 740))), (1, .inl _), (4, .inl _), (5, .inl _)]) (And.intro rfl (And.intro rfl (And.intro rfl (And.intro rfl True.intro)))) ⟨_, _, _, rfl, rfl, by omega, rfl⟩ (by omega)
          · intro c35
            refine And.intro ⟨rfl, by decide, by decide⟩ ?_
            refine fload rL_741_741_37_421_20_4 h0 hB0 (by omega) ?_
            intro z36 lz36 uz36 qz36
            refine And.intro (True.intro) ?_
            exact ⟨_, rfl, (by first | exact ⟨lz36, uz36⟩ | omega)⟩
        · intro c37
          refine And.intro (True.intro) ?_
          exact ⟨_, rfl, (by first | exact ⟨by decide, by decide⟩ | omega)⟩
set_option maxRecDepth 8000 in
theorem ct_Cells_addLock_12978 {I : fH} {x1 : Int} {x2 : Int} {x3 : Int} (h0 : fB bsJ I) (ha1 : (0 ≤ x1 ∧ x1 ≤ 19)) (ha2 : (0 ≤ x2 ∧ x2 ≤ 19)) (ha3 : (1 ≤ x3 ∧ x3 ≤ 9)) : fC ρ base n F xTc vwCl xTys D dA la gJ (fbz bsJ znJ (fKc wz_cb3a6) I) xm_24 [.inr (.inr (some 2)), .inl x1, .inl x2, .inl x3] I (fun I' r => ∃ z, r = some (.inl z) ∧ (((0 ≤ z ∧ z ≤ 23) ∨ z = (-1000000003)) ∧ ((I 2 10 < 24 → z = I 2 10 ∧ I' 2 10 = I 2 10 + 1) ∧ (24 ≤ I 2 10 → z = (-1000000003) ∧ I' 2 10 = I 2 10)))) := by
  have hW : fzs wz_cb3a6 (fKc wz_cb3a6) := fKc_ok _
  refine f_meth (rb := rbJ) (J := []) 1 400 xG xin_24 x6_24 okJ (fB_self h0) ?_ ?_
  · exact fun q h => absurd h List.not_mem_nil
  · have hB0 := fB_self (zn := znJ) (K := fKc wz_cb3a6) h0
    refine And.intro ⟨rfl, by decide, by decide⟩ (fgetf fb_2_10 h0 hB0 ?_)
    intro z1 lz1 uz1 qz1
    refine And.intro (And.intro (by first | exact fi_ lz1 uz1 rfl | omega) (by first | exact ⟨by decide, by decide⟩ | omega)) (And.intro ?_ ?_)
    · intro c2
      refine And.intro ⟨rfl, by decide, by decide⟩ ?_
      refine fstore1 rS_68_68_0_23_1_0 (fzs_sub (by decide +kernel) hW) ⟨by decide, by decide⟩ (by first | exact ⟨lz1, Int.le_trans (Int.le_sub_one_of_lt (Int.lt_of_lt_of_le c2 (Int.le_refl _))) (by decide)⟩ | omega) (by first | exact ⟨ha1.1, ha1.2⟩ | omega) ?_
      intro IhB3 ehB3 hB3
      have t4 := fup_self ehB3
      have t5 : IhB3 2 10 = I 2 10 := (congrFun (congrFun ehB3 2) 10).trans (fup_ne (by first | exact Or.inl (by decide) | omega))
      refine And.intro ⟨rfl, by decide, by decide⟩ ?_
      refine fstore1 rS_69_69_0_23_1_0 (fzs_sub (by decide +kernel) hW) ⟨by decide, by decide⟩ (by first | exact ⟨lz1, Int.le_trans (Int.le_sub_one_of_lt (Int.lt_of_lt_of_le c2 (Int.le_refl _))) (by decide)⟩ | omega) (by first | exact ⟨ha2.1, ha2.2⟩ | omega) ?_
      intro IhB6 ehB6 hB6
      have t7 := fup_self ehB6
      have t8 : IhB6 2 10 = IhB3 2 10 := (congrFun (congrFun ehB6 2) 10).trans (fup_ne (by first | exact Or.inl (by decide) | omega))
      refine And.intro ⟨rfl, by decide, by decide⟩ ?_
      refine fstore1 rS_70_70_0_23_1_0 (fzs_sub (by decide +kernel) hW) ⟨by decide, by decide⟩ (by first | exact ⟨lz1, Int.le_trans (Int.le_sub_one_of_lt (Int.lt_of_lt_of_le c2 (Int.le_refl _))) (by decide)⟩ | omega) (by first | exact ⟨Int.le_trans (by decide) ha3.1, Int.le_trans ha3.2 (by decide)⟩ | omega) ?_
      intro IhB9 ehB9 hB9
      have t10 := fup_self ehB9
      have t11 : IhB9 2 10 = IhB6 2 10 := (congrFun (congrFun ehB9 2) 10).trans (fup_ne (by first | exact Or.inl (by decide) | omega))
      refine And.intro ⟨rfl, by decide, by decide⟩ ?_
      refine fstore1 rS_71_71_0_23_1_0 (fzs_sub (by decide +kernel) hW) ⟨by decide, by decide⟩ (by first | exact ⟨lz1, Int.le_trans (Int.le_sub_one_of_lt (Int.lt_of_lt_of_le c2 (Int.le_refl _))) (by decide)⟩ | omega) (by first | exact ⟨by decide, by decide⟩ | omega) ?_
      intro IhB12 ehB12 hB12
      have t13 := fup_self ehB12
      have t14 : IhB12 2 10 = IhB9 2 10 := (congrFun (congrFun ehB12 2) 10).trans (fup_ne (by first | exact Or.inl (by decide) | omega))
      refine And.intro ⟨rfl, by decide, by decide⟩ (And.intro rfl (And.intro (Or.inl rfl) (fputf fb_2_10 (by decide +kernel) hW (by omega) ?_)))
      intro IhB15 ehB15 hB15
      have t16 := fup_at ehB15 10 (by first | rfl | omega)
      refine And.intro (True.intro) ?_
      exact ⟨_, rfl, by omega⟩
    · intro c17
      refine And.intro (True.intro) ?_
      exact ⟨_, rfl, by omega⟩
set_option maxRecDepth 8000 in
theorem ct_X_lock_50d55 {I : fH} {x1 : Int} {x2 : Int} {x3 : Int} (h0 : fB bsJ I) (ha1 : ((-2147483648) ≤ x1 ∧ x1 ≤ 2147483647)) (ha2 : ((-2147483648) ≤ x2 ∧ x2 ≤ 2147483647)) (ha3 : ((-2147483648) ≤ x3 ∧ x3 ≤ 2147483647)) : fC ρ base n F xTc vwCl xTys D dA la gJ (fbz bsJ znJ (fKc wz_cb3a6) I) xm_23 [.inr (.inr (some 0)), .inl x1, .inl x2, .inl x3] I (fun I' r => ∃ z, r = some (.inl z) ∧ (((0 ≤ z ∧ z ≤ 23) ∨ z = (-1000000003) ∨ z = (-1000000001)) ∧ ((0 ≤ x1 ∧ x1 < I 2 5 ∧ 0 ≤ x2 ∧ x2 < I 2 5 ∧ x1 ≠ x2 ∧ 1 ≤ x3 ∧ x3 ≤ 9 ∧ I 2 10 < 24 → z = I 2 10 ∧ I' 2 10 = I 2 10 + 1) ∧ (0 ≤ x1 ∧ x1 < I 2 5 ∧ 0 ≤ x2 ∧ x2 < I 2 5 ∧ x1 ≠ x2 ∧ 1 ≤ x3 ∧ x3 ≤ 9 ∧ 24 ≤ I 2 10 → z = (-1000000003) ∧ I' 2 10 = I 2 10) ∧ (¬ (0 ≤ x1 ∧ x1 < I 2 5 ∧ 0 ≤ x2 ∧ x2 < I 2 5 ∧ x1 ≠ x2 ∧ 1 ≤ x3 ∧ x3 ≤ 9) → z = (-1000000001) ∧ I' 2 10 = I 2 10)))) := by
  have hW : fzs wz_cb3a6 (fKc wz_cb3a6) := fKc_ok _
  refine f_meth (rb := rbJ) (J := []) 1 400 xG xin_23 x6_23 okJ (fB_self h0) ?_ ?_
  · exact fun q h => absurd h List.not_mem_nil
  · have hB0 := fB_self (zn := znJ) (K := fKc wz_cb3a6) h0
    have b1 := fBd fb_2_10 (fBz h0 hB0)
    refine And.intro ⟨rfl, by decide, by decide⟩ ?_
    refine Exists.intro xm_17 (And.intro mi_17 (And.intro ⟨rfl, rfl, rfl, rfl⟩ (And.intro rfl ?_)))
    refine fcallp hB0 (ct_City_isCell_46f02 (fBz h0 hB0) (by first | exact ⟨ha1.1, ha1.2⟩ | omega)) ?_
    rintro _ ⟨z2, rfl, hz2⟩
    refine And.intro (by omega) (And.intro ?_ ?_)
    · intro c3
      refine And.intro (True.intro) ?_
      exact ⟨_, rfl, by omega⟩
    · intro c4
      refine And.intro ⟨rfl, by decide, by decide⟩ ?_
      refine Exists.intro xm_17 (And.intro mi_17 (And.intro ⟨rfl, rfl, rfl, rfl⟩ (And.intro rfl ?_)))
      refine fcallp hB0 (ct_City_isCell_46f02 (fBz h0 hB0) (by first | exact ⟨ha2.1, ha2.2⟩ | omega)) ?_
      rintro _ ⟨z5, rfl, hz5⟩
      refine And.intro (by omega) (And.intro ?_ ?_)
      · intro c6
        refine And.intro (True.intro) ?_
        exact ⟨_, rfl, by omega⟩
      · intro c7
        refine And.intro (And.intro (by first | exact fi_ ha1.1 ha1.2 rfl | omega) (by first | exact fi_ ha2.1 ha2.2 rfl | omega)) (And.intro ?_ ?_)
        · intro c8
          refine And.intro (True.intro) ?_
          exact ⟨_, rfl, by omega⟩
        · intro c9
          refine Exists.intro xm_13 (And.intro mi_13 (And.intro ⟨rfl, rfl, rfl, rfl⟩ (And.intro True.intro ?_)))
          refine fcallp hB0 (ct_X_within_c27b1 (fBz h0 hB0) (by first | exact ⟨ha3.1, ha3.2⟩ | omega) (by first | exact ⟨by decide, by decide⟩ | omega) (by first | exact ⟨by decide, by decide⟩ | omega)) ?_
          rintro _ ⟨z10, rfl, hz10⟩
          refine And.intro (by omega) (And.intro ?_ ?_)
          · intro c11
            refine And.intro ⟨rfl, by decide, by decide⟩ ?_
            refine And.intro ⟨rfl, by decide, by decide⟩ ?_
            refine Exists.intro xm_24 (And.intro mi_24 (And.intro ⟨rfl, rfl, rfl, rfl⟩ (And.intro rfl ?_)))
            refine fcall _ h0 (fzs_sub (by decide +kernel) hW) hB0 (ct_Cells_addLock_12978 (fBz h0 hB0) (by omega) (by omega) (by first | exact ⟨Int.le_trans (by decide) (Int.le_trans (Int.le_refl _) hz10.1), Int.le_trans (Int.le_trans hz10.2 (Int.le_refl _)) (by decide)⟩ | omega)) ?_
            rintro IhB13 _ hB13 fhB13 ⟨z12, rfl, hz12⟩
            refine And.intro (True.intro) ?_
            exact ⟨_, rfl, by omega⟩
          · intro c14
            refine And.intro (True.intro) ?_
            exact ⟨_, rfl, by omega⟩
set_option maxRecDepth 8000 in
theorem ct_M_lock_29b98 {I : fH} {x1 : Int} {x2 : Int} {x3 : Int} (h0 : fB bsJ I) (ha1 : ((-2147483648) ≤ x1 ∧ x1 ≤ 2147483647)) (ha2 : ((-2147483648) ≤ x2 ∧ x2 ≤ 2147483647)) (ha3 : ((-2147483648) ≤ x3 ∧ x3 ≤ 2147483647)) (hp0 : sI I 741) : fC ρ base n F xTc vwCl xTys D dA la gJ (fbz bsJ znJ (fKc wz_6b8d1) I) xm_249 [.inr (.inr (some 740)), .inl x1, .inl x2, .inl x3] I (fun I' r => ∃ z, r = some (.inl z) ∧ (((0 ≤ z ∧ z ≤ 23) ∨ z = (-1000000003) ∨ z = (-1000000001)) ∧ ((0 ≤ x1 ∧ x1 < I 741 5 ∧ 0 ≤ x2 ∧ x2 < I 741 5 ∧ x1 ≠ x2 ∧ 1 ≤ x3 ∧ x3 ≤ 9 ∧ I 741 6 < 24 → z = I 741 6 ∧ I' 741 6 = I 741 6 + 1) ∧ (0 ≤ x1 ∧ x1 < I 741 5 ∧ 0 ≤ x2 ∧ x2 < I 741 5 ∧ x1 ≠ x2 ∧ 1 ≤ x3 ∧ x3 ≤ 9 ∧ 24 ≤ I 741 6 → z = (-1000000003) ∧ I' 741 6 = I 741 6) ∧ (¬ (0 ≤ x1 ∧ x1 < I 741 5 ∧ 0 ≤ x2 ∧ x2 < I 741 5 ∧ x1 ≠ x2 ∧ 1 ≤ x3 ∧ x3 ≤ 9) → z = (-1000000001) ∧ I' 741 6 = I 741 6))) ∧ (sI I' 741)) := by
  have hW : fzs wz_6b8d1 (fKc wz_6b8d1) := fKc_ok _
  refine f_meth (rb := rbJ) (J := []) 1 400 xG xin_249 x6_249 okJ (fB_self h0) ?_ ?_
  · exact fun q h => absurd h List.not_mem_nil
  · have hB0 := fB_self (zn := znJ) (K := fKc wz_6b8d1) h0
    have b1 := fBd fb_741_6 (fBz h0 hB0)
    refine Exists.intro xm_241 (And.intro mi_241 (And.intro ⟨rfl, rfl, rfl, rfl⟩ (And.intro rfl ?_)))
    refine fcallp hB0 (ct_M_isCell_45859 (fBz h0 hB0) (by first | exact ⟨ha1.1, ha1.2⟩ | omega)) ?_
    rintro _ ⟨z2, rfl, hz2⟩
    refine And.intro (by omega) (And.intro ?_ ?_)
    · intro c3
      refine And.intro (True.intro) ?_
      exact ⟨_, rfl, by omega, hp0⟩
    · intro c4
      refine Exists.intro xm_241 (And.intro mi_241 (And.intro ⟨rfl, rfl, rfl, rfl⟩ (And.intro rfl ?_)))
      refine fcallp hB0 (ct_M_isCell_45859 (fBz h0 hB0) (by first | exact ⟨ha2.1, ha2.2⟩ | omega)) ?_
      rintro _ ⟨z5, rfl, hz5⟩
      refine And.intro (by omega) (And.intro ?_ ?_)
      · intro c6
        refine And.intro (True.intro) ?_
        exact ⟨_, rfl, by omega, hp0⟩
      · intro c7
        refine And.intro (And.intro (by first | exact fi_ ha1.1 ha1.2 rfl | omega) (by first | exact fi_ ha2.1 ha2.2 rfl | omega)) (And.intro ?_ ?_)
        · intro c8
          refine And.intro (True.intro) ?_
          exact ⟨_, rfl, by omega, hp0⟩
        · intro c9
          refine And.intro (by first | exact fi_ ha3.1 ha3.2 rfl | omega) ?_
          refine Exists.intro xm_238 (And.intro mi_238 (And.intro ⟨rfl, rfl, rfl, rfl⟩ (And.intro True.intro ?_)))
          refine fcallp hB0 (ct_M_isIn_27230 (fBz h0 hB0) (by first | exact ⟨ha3.1, ha3.2⟩ | omega) (by first | exact ⟨by decide, by decide⟩ | omega) (by first | exact ⟨by decide, by decide⟩ | omega)) ?_
          rintro _ ⟨z10, rfl, hz10⟩
          refine And.intro (by omega) (And.intro ?_ ?_)
          · intro c11
            refine And.intro ⟨rfl, by decide, by decide⟩ ?_
            refine fload1 rL_741_741_6_6_1_0 h0 hB0 ⟨by decide, by decide⟩ (by first | exact ⟨by decide, by decide⟩ | omega) ?_
            intro z12 lz12 uz12 qz12
            have pz12 := fld_at qz12 6 (by omega)
            refine And.intro (And.intro (by first | exact fi_ lz12 uz12 rfl | omega) (by first | exact ⟨by decide, by decide⟩ | omega)) (And.intro ?_ ?_)
            · intro c13
              refine And.intro ⟨rfl, by decide, by decide⟩ ?_
              refine fload1 rL_741_741_6_6_1_0 h0 hB0 ⟨by decide, by decide⟩ (by first | exact ⟨by decide, by decide⟩ | omega) ?_
              intro z14 lz14 uz14 qz14
              have pz14 := fld_at qz14 6 (by omega)
              refine And.intro ⟨rfl, by decide, by decide⟩ ?_
              refine fstore rS_741_741_430_522_4_0 (fzs_sub (by decide +kernel) hW) (by omega) (by omega) ?_
              intro IhB15 ehB15 hB15
              have t16 := fup_self ehB15
              have t17 : IhB15 741 5 = I 741 5 := (congrFun (congrFun ehB15 741) 5).trans (fup_ne (by first | exact Or.inl (by decide) | omega))
              have t18 : IhB15 741 6 = I 741 6 := (congrFun (congrFun ehB15 741) 6).trans (fup_ne (by first | exact Or.inl (by decide) | omega))
              refine And.intro ⟨rfl, by decide, by decide⟩ ?_
              refine fstore rS_741_741_431_523_4_0 (fzs_sub (by decide +kernel) hW) (by omega) (by omega) ?_
              intro IhB19 ehB19 hB19
              have t20 := fup_self ehB19
              have t21 : IhB19 741 5 = IhB15 741 5 := (congrFun (congrFun ehB19 741) 5).trans (fup_ne (by first | exact Or.inl (by decide) | omega))
              have t22 : IhB19 741 6 = IhB15 741 6 := (congrFun (congrFun ehB19 741) 6).trans (fup_ne (by first | exact Or.inl (by decide) | omega))
              refine And.intro ⟨rfl, by decide, by decide⟩ ?_
              refine fstore rS_741_741_432_524_4_0 (fzs_sub (by decide +kernel) hW) (by omega) (by first | exact ⟨Int.le_trans (by decide) (Int.le_trans (Int.le_refl _) hz10.1), Int.le_trans (Int.le_trans hz10.2 (Int.le_refl _)) (by decide)⟩ | omega) ?_
              intro IhB23 ehB23 hB23
              have t24 := fup_self ehB23
              have t25 : IhB23 741 5 = IhB19 741 5 := (congrFun (congrFun ehB23 741) 5).trans (fup_ne (by first | exact Or.inl (by decide) | omega))
              have t26 : IhB23 741 6 = IhB19 741 6 := (congrFun (congrFun ehB23 741) 6).trans (fup_ne (by first | exact Or.inl (by decide) | omega))
              refine And.intro ⟨rfl, by decide, by decide⟩ ?_
              refine fstore rS_741_741_433_525_4_0 (fzs_sub (by decide +kernel) hW) (by omega) (by first | exact ⟨by decide, by decide⟩ | omega) ?_
              intro IhB27 ehB27 hB27
              have t28 := fup_self ehB27
              have t29 : IhB27 741 5 = IhB23 741 5 := (congrFun (congrFun ehB27 741) 5).trans (fup_ne (by first | exact Or.inl (by decide) | omega))
              have t30 : IhB27 741 6 = IhB23 741 6 := (congrFun (congrFun ehB27 741) 6).trans (fup_ne (by first | exact Or.inl (by decide) | omega))
              refine And.intro ⟨rfl, by decide, by decide⟩ ?_
              refine fload1 rL_741_741_6_6_1_0 h0 hB27 ⟨by decide, by decide⟩ (by first | exact ⟨by decide, by decide⟩ | omega) ?_
              intro z31 lz31 uz31 qz31
              have pz31 := fld_at qz31 6 (by omega)
              refine fstore1 rS_741_741_6_6_1_0 (fzs_sub (by decide +kernel) hW) ⟨by decide, by decide⟩ (by first | exact ⟨by decide, by decide⟩ | omega) (by omega) ?_
              intro IhB32 ehB32 hB32
              have t33 := fup_self ehB32
              have t34 : IhB32 741 5 = IhB27 741 5 := (congrFun (congrFun ehB32 741) 5).trans (fup_ne (by first | decide | omega))
              have t35 := fup_at ehB32 6 (by first | rfl | omega)
              refine And.intro ⟨rfl, by decide, by decide⟩ ?_
              refine fload1 rL_741_741_6_6_1_0 h0 hB32 ⟨by decide, by decide⟩ (by first | exact ⟨by decide, by decide⟩ | omega) ?_
              intro z36 lz36 uz36 qz36
              have pz36 := fld_at qz36 6 (by omega)
              refine And.intro (True.intro) ?_
              exact ⟨_, rfl, by omega, (sI_lock (sBd_of h0) (by omega) (fun j h hj => ((fup_other ehB32 741 j (Or.inr (by omega))).trans ((fup_other ehB27 741 j (Or.inr (by omega))).trans ((fup_other ehB23 741 j (Or.inr (by omega))).trans ((fup_other ehB19 741 j (Or.inr (by omega))).trans (fup_other ehB15 741 j (Or.inr (by omega)))))))) (by rw [(fup_other ehB32 741 (430 + 4 * I 741 6).toNat (Or.inr (by omega))), (fup_other ehB27 741 (430 + 4 * I 741 6).toNat (Or.inr (by omega))), (fup_other ehB23 741 (430 + 4 * I 741 6).toNat (Or.inr (by omega))), (fup_other ehB19 741 (430 + 4 * I 741 6).toNat (Or.inr (by omega))), fup_at ehB15 (430 + 4 * I 741 6).toNat (by omega)]; omega) (by rw [(fup_other ehB32 741 (431 + 4 * I 741 6).toNat (Or.inr (by omega))), (fup_other ehB27 741 (431 + 4 * I 741 6).toNat (Or.inr (by omega))), (fup_other ehB23 741 (431 + 4 * I 741 6).toNat (Or.inr (by omega))), fup_at ehB19 (431 + 4 * I 741 6).toNat (by omega)]; omega) (by omega) hp0)⟩
            · intro c37
              refine And.intro (True.intro) ?_
              exact ⟨_, rfl, by omega, hp0⟩
          · intro c38
            refine And.intro (True.intro) ?_
            exact ⟨_, rfl, by omega, hp0⟩
set_option maxRecDepth 8000 in
theorem ct_X_swap_2ba73 {I : fH} {x1 : Int} {x2 : Int} (h0 : fB bsJ I) (ha1 : (0 ≤ x1 ∧ x1 ≤ 23)) (ha2 : (0 ≤ x2 ∧ x2 ≤ 1)) : fC ρ base n F xTc vwCl xTys D dA la gJ (fbz bsJ znJ (fKc wz_e505f) I) xm_18 [.inr (.inr (some 71)), .inl x1, .inl x2] I (fun I' r => ∃ z, r = some (.inl z) ∧ ((-2147483648) ≤ z ∧ z ≤ 2147483647) ∧ (I' = fupd I 71 x1.toNat x2) ∧ (z = I 71 x1.toNat)) := by
  have hW : fzs wz_e505f (fKc wz_e505f) := fKc_ok _
  refine f_meth (rb := rbJ) (J := []) 1 400 xG xin_18 x6_18 okJ (fB_self h0) ?_ ?_
  · exact fun q h => absurd h List.not_mem_nil
  · have hB0 := fB_self (zn := znJ) (K := fKc wz_e505f) h0
    refine fload1 rL_71_71_0_23_1_0 h0 hB0 ⟨by decide, by decide⟩ (by first | exact ⟨ha1.1, ha1.2⟩ | omega) ?_
    intro z1 lz1 uz1 qz1
    refine fstore1 rS_71_71_0_23_1_0 (fzs_sub (by decide +kernel) hW) ⟨by decide, by decide⟩ (by first | exact ⟨ha1.1, ha1.2⟩ | omega) (by first | exact ⟨Int.le_trans (by decide) ha2.1, Int.le_trans ha2.2 (by decide)⟩ | omega) ?_
    intro IhB2 ehB2 hB2
    have t3 := fup_self ehB2
    refine And.intro (True.intro) ?_
    exact ⟨_, rfl, (by first | exact ⟨lz1, uz1⟩ | omega), ehB2, qz1⟩
set_option maxRecDepth 8000 in
theorem ct_City_isLock_bc0fd {I : fH} {x1 : Int} (h0 : fB bsJ I) (ha1 : ((-2147483648) ≤ x1 ∧ x1 ≤ 2147483647)) : fC ρ base n F xTc vwCl xTys D dA la gJ (fbz bsJ znJ (fKc []) I) xm_26 [.inr (.inr (some 1)), .inl x1] I (fun _ r => ∃ z, r = some (.inl z) ∧ ((z = 1 ∧ 0 ≤ x1 ∧ x1 ≤ 23) ∨ z = 0)) := by
  have hW : fzs [] (fKc []) := fKc_ok _
  refine f_meth (rb := rbJ) (J := []) 1 400 xG xin_26 x6_26 okJ (fB_self h0) ?_ ?_
  · exact fun q h => absurd h List.not_mem_nil
  · have hB0 := fB_self (zn := znJ) (K := fKc []) h0
    refine And.intro ⟨rfl, by decide, by decide⟩ ?_
    refine And.intro ⟨rfl, by decide, by decide⟩ (fgetf fb_2_10 h0 hB0 ?_)
    intro z1 lz1 uz1 qz1
    refine Exists.intro xm_13 (And.intro mi_13 (And.intro ⟨rfl, rfl, rfl, rfl⟩ (And.intro True.intro ?_)))
    refine fcallp hB0 (ct_X_within_c27b1 (fBz h0 hB0) (by first | exact ⟨ha1.1, ha1.2⟩ | omega) (by first | exact ⟨by decide, by decide⟩ | omega) (by omega)) ?_
    rintro _ ⟨z2, rfl, hz2⟩
    refine And.intro (⟨by omega, by omega⟩) ?_
    exact ⟨_, rfl, by omega⟩
set_option maxRecDepth 8000 in
theorem ct_City_isPerson_ff059 {I : fH} {x1 : Int} (h0 : fB bsJ I) (ha1 : ((-2147483648) ≤ x1 ∧ x1 ≤ 2147483647)) : fC ρ base n F xTc vwCl xTys D dA la gJ (fbz bsJ znJ (fKc []) I) xm_27 [.inr (.inr (some 1)), .inl x1] I (fun _ r => ∃ z, r = some (.inl z) ∧ ((z = 1 ∧ 0 ≤ x1 ∧ x1 ≤ 23) ∨ z = 0)) := by
  have hW : fzs [] (fKc []) := fKc_ok _
  refine f_meth (rb := rbJ) (J := []) 1 400 xG xin_27 x6_27 okJ (fB_self h0) ?_ ?_
  · exact fun q h => absurd h List.not_mem_nil
  · have hB0 := fB_self (zn := znJ) (K := fKc []) h0
    refine And.intro ⟨rfl, by decide, by decide⟩ ?_
    refine And.intro ⟨rfl, by decide, by decide⟩ (fgetf fb_177_4 h0 hB0 ?_)
    intro z1 lz1 uz1 qz1
    refine Exists.intro xm_13 (And.intro mi_13 (And.intro ⟨rfl, rfl, rfl, rfl⟩ (And.intro True.intro ?_)))
    refine fcallp hB0 (ct_X_within_c27b1 (fBz h0 hB0) (by first | exact ⟨ha1.1, ha1.2⟩ | omega) (by first | exact ⟨by decide, by decide⟩ | omega) (by omega)) ?_
    rintro _ ⟨z2, rfl, hz2⟩
    refine And.intro (⟨by omega, by omega⟩) ?_
    exact ⟨_, rfl, by omega⟩
set_option maxRecDepth 8000 in
theorem ct_City_hour_b7a7b {I : fH}  (h0 : fB bsJ I)  : fC ρ base n F xTc vwCl xTys D dA la gJ (fbz bsJ znJ (fKc []) I) xm_32 [.inr (.inr (some 1))] I (fun _ r => ∃ z, r = some (.inl z) ∧ ((-2147483648) ≤ z ∧ z ≤ 2147483647)) := by
  have hW : fzs [] (fKc []) := fKc_ok _
  refine f_meth (rb := rbJ) (J := []) 1 400 xG xin_32 x6_32 okJ (fB_self h0) ?_ ?_
  · exact fun q h => absurd h List.not_mem_nil
  · have hB0 := fB_self (zn := znJ) (K := fKc []) h0
    refine And.intro ⟨rfl, by decide, by decide⟩ (fgetf fb_1_9 h0 hB0 ?_)
    intro z1 lz1 uz1 qz1
    refine And.intro (And.intro (by first | exact fi_ lz1 uz1 rfl | omega) (And.intro (by first | exact ⟨by decide, by decide⟩ | omega) (And.intro (by first | exact by decide | omega) rfl))) ?_
    intro z2 hz2 ez2 dz2
    refine And.intro (True.intro) ?_
    exact ⟨_, rfl, by omega⟩
abbrev jc_Charter_joined_ff93b_84 : Nat → fL → List fV → fH → Prop := fun m lv st I => lv = [] ∧ st = [] ∧ (True) ∧ m = (2 : Int).toNat
abbrev jc_Charter_joined_ff93b_102 : Nat → fL → List fV → fH → Prop := fun m lv st I => lv = [] ∧ st = [] ∧ (True) ∧ m = (1 : Int).toNat
set_option maxRecDepth 8000 in
theorem ct_Charter_joined_ff93b {I : fH} {x0 : Int} {x1 : Int} {x2 : Int} (h0 : fB bsJ I) (ha0 : ((-2147483648) ≤ x0 ∧ x0 ≤ 2147483647)) (ha1 : ((-2147483648) ≤ x1 ∧ x1 ≤ 2147483647)) (ha2 : ((-2147483648) ≤ x2 ∧ x2 ≤ 2147483647)) : fC ρ base n F xTc vwCl xTys D dA la gJ (fbz bsJ znJ (fKc []) I) xm_38 [.inl x0, .inl x1, .inl x2] I (fun _ r => ∃ z, r = some (.inl z) ∧ ((-2147483648) ≤ z ∧ z ≤ 2147483647)) := by
  have hW : fzs [] (fKc []) := fKc_ok _
  refine f_meth (rb := rbJ) (J := [(84, jc_Charter_joined_ff93b_84), (102, jc_Charter_joined_ff93b_102)]) 3 400 xG xin_38 x6_38 okJ (fB_self h0) ?_ ?_
  · refine List.forall_mem_cons.mpr ⟨?_, List.forall_mem_cons.mpr ⟨?_, fun q h => absurd h List.not_mem_nil⟩⟩
    · rintro m _ _ I1 hB1 ⟨rfl, rfl, hb, hm⟩
      refine And.intro (True.intro) ?_
      exact ⟨_, rfl, (by first | exact ⟨by decide, by decide⟩ | omega)⟩
    · rintro m _ _ I1 hB1 ⟨rfl, rfl, hb, hm⟩
      refine And.intro (True.intro) ?_
      exact ⟨_, rfl, by omega⟩
  · have hB0 := fB_self (zn := znJ) (K := fKc []) h0
    refine And.intro (by first | exact fi_ ha0.1 ha0.2 rfl | omega) ?_
    refine And.intro ?_ ?_
    · intro c1
      refine And.intro (by first | exact fi_ ha1.1 ha1.2 rfl | omega) (And.intro ?_ ?_)
      · intro c2
        exact fcutJ (I := I) (j := jc_Charter_joined_ff93b_102) (lv' := []) (True.intro) ⟨rfl, rfl, True.intro, rfl⟩ (by omega)
      · intro c3
        refine And.intro (by first | exact fi_ ha2.1 ha2.2 rfl | omega) (And.intro ?_ ?_)
        · intro c4
          exact fcutJ (I := I) (j := jc_Charter_joined_ff93b_102) (lv' := []) (True.intro) ⟨rfl, rfl, True.intro, rfl⟩ (by omega)
        · intro c5
          refine And.intro (True.intro) ?_
          exact ⟨_, rfl, (by first | exact ⟨by decide, by decide⟩ | omega)⟩
    intro c6
    refine And.intro ?_ ?_
    · intro c7
      intro z8 hz8 ez8 bz8
      clear ez8
      clear bz8
      refine And.intro (True.intro) ?_
      exact ⟨_, rfl, by omega⟩
    intro c9
    refine And.intro ?_ ?_
    · intro c10
      intro z11 hz11 ez11 bz11
      clear ez11
      clear bz11
      refine And.intro (True.intro) ?_
      exact ⟨_, rfl, by omega⟩
    intro c12
    refine And.intro ?_ ?_
    · intro c13
      intro z14 hz14 ez14 bz14
      clear ez14
      clear bz14
      refine And.intro (True.intro) ?_
      exact ⟨_, rfl, by omega⟩
    intro c15
    refine And.intro ?_ ?_
    · intro c16
      refine And.intro (And.intro (by first | exact fi_ ha1.1 ha1.2 rfl | omega) (by first | exact fi_ ha2.1 ha2.2 rfl | omega)) (And.intro ?_ ?_)
      · intro c17
        refine And.intro (True.intro) ?_
        exact ⟨_, rfl, by omega⟩
      · intro c18
        refine And.intro (True.intro) ?_
        exact ⟨_, rfl, (by first | exact ⟨by decide, by decide⟩ | omega)⟩
    intro c19
    refine And.intro ?_ ?_
    · intro c20
      refine And.intro (And.intro (by first | exact fi_ ha1.1 ha1.2 rfl | omega) (by first | exact fi_ ha2.1 ha2.2 rfl | omega)) (And.intro ?_ ?_)
      · intro c21
        refine And.intro (True.intro) ?_
        exact ⟨_, rfl, by omega⟩
      · intro c22
        refine And.intro (True.intro) ?_
        exact ⟨_, rfl, (by first | exact ⟨by decide, by decide⟩ | omega)⟩
    intro c23
    refine And.intro ?_ ?_
    · intro c24
      refine And.intro (And.intro (by first | exact fi_ ha1.1 ha1.2 rfl | omega) (by first | exact fi_ ha2.1 ha2.2 rfl | omega)) (And.intro ?_ ?_)
      · intro c25
        refine And.intro (True.intro) ?_
        exact ⟨_, rfl, by omega⟩
      · intro c26
        refine And.intro (True.intro) ?_
        exact ⟨_, rfl, (by first | exact ⟨by decide, by decide⟩ | omega)⟩
    intro c27
    refine And.intro ?_ ?_
    · intro c28
      refine And.intro (by first | exact fi_ ha1.1 ha1.2 rfl | omega) (And.intro ?_ ?_)
      · intro c29
        exact fcutJ (I := I) (j := jc_Charter_joined_ff93b_84) (lv' := []) (True.intro) ⟨rfl, rfl, True.intro, rfl⟩ (by omega)
      · intro c30
        refine And.intro (by first | exact fi_ ha2.1 ha2.2 rfl | omega) (And.intro ?_ ?_)
        · intro c31
          refine And.intro (True.intro) ?_
          exact ⟨_, rfl, by omega⟩
        · intro c32
          exact fcutJ (I := I) (j := jc_Charter_joined_ff93b_84) (lv' := []) (True.intro) ⟨rfl, rfl, True.intro, rfl⟩ (by omega)
    intro c33
    refine And.intro (by first | exact fi_ ha2.1 ha2.2 rfl | omega) (And.intro ?_ ?_)
    · intro c34
      refine And.intro (And.intro (by first | exact fi_ ha1.1 ha1.2 rfl | omega) (And.intro (by first | exact fi_ ha2.1 ha2.2 rfl | omega) (And.intro (by omega) rfl))) ?_
      intro z35 hz35 ez35 dz35
      refine And.intro (True.intro) ?_
      exact ⟨_, rfl, by omega⟩
    · intro c36
      refine And.intro (True.intro) ?_
      exact ⟨_, rfl, (by first | exact ⟨by decide, by decide⟩ | omega)⟩
set_option maxRecDepth 8000 in
theorem ct_Charter_nameAt_b28da {I : fH} {x1 : Int} (h0 : fB bsJ I) (ha1 : (0 ≤ x1 ∧ x1 ≤ 9999)) : fC ρ base n F xTc vwCl xTys D dA la gJ (fbz bsJ znJ (fKc []) I) xm_37 [.inr (.inr (some 187)), .inl x1] I (fun _ r => ∃ z, r = some (.inl z) ∧ ((-2147483648) ≤ z ∧ z ≤ 2147483647)) := by
  have hW : fzs [] (fKc []) := fKc_ok _
  refine f_meth (rb := rbJ) (J := []) 1 400 xG xin_37 x6_37 okJ (fB_self h0) ?_ ?_
  · exact fun q h => absurd h List.not_mem_nil
  · have hB0 := fB_self (zn := znJ) (K := fKc []) h0
    refine And.intro (by first | exact fi_ ha1.1 ha1.2 rfl | omega) (And.intro ?_ ?_)
    · intro c1
      refine And.intro (True.intro) ?_
      exact ⟨_, rfl, by omega⟩
    · intro c2
      refine And.intro ⟨rfl, by decide, by decide⟩ ?_
      refine Exists.intro 100 (Exists.intro 26 (And.intro rfl (And.intro ⟨by decide, by decide, by decide⟩ ?_)))
      refine And.intro (And.intro (by first | exact fi_ ha1.1 ha1.2 rfl | omega) (by first | exact ⟨by decide, by decide⟩ | omega)) (And.intro ?_ ?_)
      · intro c3
        refine And.intro (True.intro) ?_
        exact ⟨_, rfl, by omega⟩
      · intro c4
        refine And.intro ⟨rfl, by decide, by decide⟩ ?_
        refine fload1 rL_207_207_0_25_1_0 h0 hB0 ⟨by decide, by decide⟩ (by first | exact ⟨ha1.1, Int.le_trans (Int.le_sub_one_of_lt (Int.lt_of_lt_of_le c4 (Int.le_refl _))) (by decide)⟩ | omega) ?_
        intro z5 lz5 uz5 qz5
        refine And.intro (True.intro) ?_
        exact ⟨_, rfl, (by first | exact ⟨lz5, uz5⟩ | omega)⟩
abbrev jc_Charter_worth_04d20_4 : Nat → fL → List fV → fH → Prop := fun m lv st I => ∃ (y1 : Int) (y2 : Int) (y3 : Int), lv = [(0, .inr (.inr (some 187))), (1, .inl y1), (2, .inl y2), (3, .inl y3)] ∧ st = [] ∧ (((0 ≤ y1 ∧ y1 ≤ 11) ∧ (0 ≤ y2 ∧ y2 ≤ 96) ∧ (0 ≤ y3 ∧ y3 ≤ 96))) ∧ m = (4 + 4 * (96 - y3) : Int).toNat
abbrev jc_Charter_worth_04d20_76 : Nat → fL → List fV → fH → Prop := fun m lv st I => ∃ (y1 : Int) (y2 : Int) (y3 : Int) (y4 : Int), lv = [(0, .inr (.inr (some 187))), (1, .inl y1), (2, .inl y2), (3, .inl y3), (4, .inl y4)] ∧ st = [] ∧ (((0 ≤ y1 ∧ y1 ≤ 11) ∧ (0 ≤ y2 ∧ y2 ≤ 96) ∧ (0 ≤ y3 ∧ y3 ≤ 95) ∧ ((-2147483648) ≤ y4 ∧ y4 ≤ 2147483647))) ∧ m = (3 + 4 * (96 - y3) : Int).toNat
abbrev jc_Charter_worth_04d20_116 : Nat → fL → List fV → fH → Prop := fun m lv st I => ∃ (y1 : Int) (y2 : Int) (y3 : Int) (y4 : Int), lv = [(0, .inr (.inr (some 187))), (1, .inl y1), (2, .inl y2), (3, .inl y3), (4, .inl y4)] ∧ st = [] ∧ (((0 ≤ y1 ∧ y1 ≤ 11) ∧ (0 ≤ y2 ∧ y2 ≤ 96) ∧ (0 ≤ y3 ∧ y3 ≤ 95) ∧ ((-2147483648) ≤ y4 ∧ y4 ≤ 2147483647))) ∧ m = (2 + 4 * (96 - y3) : Int).toNat
abbrev jc_Charter_worth_04d20_155 : Nat → fL → List fV → fH → Prop := fun m lv st I => ∃ (y1 : Int) (y2 : Int) (y3 : Int), lv = [(0, .inr (.inr (some 187))), (1, .inl y1), (2, .inl y2), (3, .inl y3)] ∧ st = [] ∧ (((0 ≤ y1 ∧ y1 ≤ 11) ∧ (0 ≤ y2 ∧ y2 ≤ 96) ∧ (0 ≤ y3 ∧ y3 ≤ 95))) ∧ m = (1 + 4 * (96 - y3) : Int).toNat
set_option maxRecDepth 8000 in
theorem ct_Charter_worth_04d20 {I : fH} {x1 : Int} (h0 : fB bsJ I) (ha1 : (0 ≤ x1 ∧ x1 ≤ 11)) : fC ρ base n F xTc vwCl xTys D dA la gJ (fbz bsJ znJ (fKc wz_5557d) I) xm_36 [.inr (.inr (some 187)), .inl x1] I (fun _ r => ∃ z, r = some (.inl z) ∧ ((-2147483648) ≤ z ∧ z ≤ 2147483647)) := by
  have hW : fzs wz_5557d (fKc wz_5557d) := fKc_ok _
  refine f_meth (rb := rbJ) (J := [(4, jc_Charter_worth_04d20_4), (76, jc_Charter_worth_04d20_76), (116, jc_Charter_worth_04d20_116), (155, jc_Charter_worth_04d20_155)]) 389 400 xG xin_36 x6_36 okJ (fB_self h0) ?_ ?_
  · refine List.forall_mem_cons.mpr ⟨?_, List.forall_mem_cons.mpr ⟨?_, List.forall_mem_cons.mpr ⟨?_, List.forall_mem_cons.mpr ⟨?_, fun q h => absurd h List.not_mem_nil⟩⟩⟩⟩
    · rintro m _ _ I1 hB1 ⟨y1, y2, y3, rfl, rfl, hb, hm⟩
      refine And.intro ⟨rfl, by decide, by decide⟩ ?_
      refine fload1 rL_192_192_0_11_1_0 h0 hB1 ⟨by decide, by decide⟩ (by first | exact ⟨hb.1.1, hb.1.2⟩ | omega) ?_
      intro z1 lz1 uz1 qz1
      refine And.intro (And.intro (by first | exact fi_ hb.2.2.1 hb.2.2.2 rfl | omega) (by first | exact fi_ lz1 uz1 rfl | omega)) (And.intro ?_ ?_)
      · intro c2
        refine And.intro ⟨rfl, by decide, by decide⟩ ?_
        refine fload1 rL_208_208_0_95_1_0 h0 hB1 ⟨by decide, by decide⟩ (by first | exact ⟨by decide, by decide⟩ | omega) ?_
        intro z3 lz3 uz3 qz3
        have pz3 := fld_at qz3 0 (by omega)
        refine And.intro (True.intro) ?_
        exact ⟨_, rfl, (by first | exact ⟨lz3, uz3⟩ | omega)⟩
      · intro c4
        refine And.intro ⟨rfl, by decide, by decide⟩ ?_
        refine And.intro ⟨rfl, by decide⟩ (And.intro (by first | exact ⟨hb.1.1, Int.lt_of_le_of_lt hb.1.2 (by decide)⟩ | omega) ?_)
        refine fload rL_194_205_0_95_1_0 h0 hB1 (by omega) ?_
        intro z5 lz5 uz5 qz5
        refine And.intro (And.intro (by first | exact fi_ lz5 uz5 rfl | omega) (by first | exact ⟨by decide, by decide⟩ | omega)) (And.intro ?_ ?_)
        · intro c6
          exact fcutJ (I := I1) (j := jc_Charter_worth_04d20_76) (lv' := [(0, .inr (.inr (some 187))), (1, .inl _), (2, .inl _), (3, .inl _), (4, .inl _)]) (And.intro rfl (And.intro rfl (And.intro rfl (And.intro rfl (And.intro rfl True.intro))))) ⟨_, _, _, _, rfl, rfl, by omega, rfl⟩ (by omega)
        · intro c7
          refine And.intro ⟨rfl, by decide, by decide⟩ ?_
          refine Exists.intro 100 (Exists.intro 96 (And.intro rfl (And.intro ⟨by decide, by decide, by decide⟩ ?_)))
          refine And.intro (And.intro (by first | exact fi_ hb.2.1.1 hb.2.1.2 rfl | omega) (by first | exact ⟨by decide, by decide⟩ | omega)) (And.intro ?_ ?_)
          · intro c8
            exact fcutJ (I := I1) (j := jc_Charter_worth_04d20_76) (lv' := [(0, .inr (.inr (some 187))), (1, .inl _), (2, .inl _), (3, .inl _), (4, .inl _)]) (And.intro rfl (And.intro rfl (And.intro rfl (And.intro rfl (And.intro rfl True.intro))))) ⟨_, _, _, _, rfl, rfl, by omega, rfl⟩ (by omega)
          · intro c9
            refine And.intro ⟨rfl, by decide, by decide⟩ ?_
            refine And.intro (And.intro (by first | exact fi_ lz5 (Int.le_sub_one_of_lt (Int.lt_of_lt_of_le c7 (Int.le_refl _))) rfl | omega) (by first | exact ⟨by decide, by decide⟩ | omega)) (And.intro ?_ ?_)
            · intro c10
              refine Exists.intro xm_37 (And.intro mi_37 (And.intro ⟨rfl, rfl, rfl, rfl⟩ (And.intro rfl ?_)))
              refine fcallp hB1 (ct_Charter_nameAt_b28da (fBz h0 hB1) (by omega)) ?_
              rintro _ ⟨z11, rfl, hz11⟩
              refine fstore1 rS_208_208_0_95_1_0 (fzs_sub (by decide +kernel) hW) ⟨by decide, by decide⟩ (by first | exact ⟨hb.2.1.1, Int.le_trans (Int.le_sub_one_of_lt (Int.lt_of_lt_of_le c9 (Int.le_refl _))) (by decide)⟩ | omega) (by first | exact ⟨hz11.1, hz11.2⟩ | omega) ?_
              intro IhB12 ehB12 hB12
              have t13 := fup_self ehB12
              exact fcutJ (I := IhB12) (j := jc_Charter_worth_04d20_155) (lv' := [(0, .inr (.inr (some 187))), (1, .inl _), (2, .inl _), (3, .inl _)]) (And.intro rfl (And.intro rfl (And.intro rfl (And.intro rfl True.intro)))) ⟨_, _, _, rfl, rfl, by omega, rfl⟩ (by omega)
            · intro c14
              refine fstore1 rS_208_208_0_95_1_0 (fzs_sub (by decide +kernel) hW) ⟨by decide, by decide⟩ (by first | exact ⟨hb.2.1.1, Int.le_trans (Int.le_sub_one_of_lt (Int.lt_of_lt_of_le c9 (Int.le_refl _))) (by decide)⟩ | omega) (by first | exact ⟨lz5, Int.le_trans (Int.le_sub_one_of_lt (Int.lt_of_lt_of_le c14 (Int.le_refl _))) (by decide)⟩ | omega) ?_
              intro IhB15 ehB15 hB15
              have t16 := fup_self ehB15
              exact fcutJ (I := IhB15) (j := jc_Charter_worth_04d20_155) (lv' := [(0, .inr (.inr (some 187))), (1, .inl _), (2, .inl _), (3, .inl _)]) (And.intro rfl (And.intro rfl (And.intro rfl (And.intro rfl True.intro)))) ⟨_, _, _, rfl, rfl, by omega, rfl⟩ (by omega)
    · rintro m _ _ I1 hB1 ⟨y1, y2, y3, y4, rfl, rfl, hb, hm⟩
      refine And.intro (And.intro (by first | exact fi_ hb.2.2.2.1 hb.2.2.2.2 rfl | omega) (by first | exact ⟨by decide, by decide⟩ | omega)) (And.intro ?_ ?_)
      · intro c17
        exact fcutJ (I := I1) (j := jc_Charter_worth_04d20_116) (lv' := [(0, .inr (.inr (some 187))), (1, .inl _), (2, .inl _), (3, .inl _), (4, .inl _)]) (And.intro rfl (And.intro rfl (And.intro rfl (And.intro rfl (And.intro rfl True.intro))))) ⟨_, _, _, _, rfl, rfl, by omega, rfl⟩ (by omega)
      · intro c18
        refine And.intro (And.intro (by first | exact fi_ hb.2.1.1 hb.2.1.2 rfl | omega) (by first | exact ⟨by decide, by decide⟩ | omega)) (And.intro ?_ ?_)
        · intro c19
          exact fcutJ (I := I1) (j := jc_Charter_worth_04d20_116) (lv' := [(0, .inr (.inr (some 187))), (1, .inl _), (2, .inl _), (3, .inl _), (4, .inl _)]) (And.intro rfl (And.intro rfl (And.intro rfl (And.intro rfl (And.intro rfl True.intro))))) ⟨_, _, _, _, rfl, rfl, by omega, rfl⟩ (by omega)
        · intro c20
          refine And.intro ⟨rfl, by decide, by decide⟩ ?_
          refine And.intro ⟨rfl, by decide, by decide⟩ ?_
          refine fload rL_208_208_0_95_1_0 h0 hB1 (by omega) ?_
          intro z21 lz21 uz21 qz21
          refine And.intro (by first | exact fi_ lz21 uz21 rfl | omega) (And.intro ?_ ?_)
          · intro c22
            refine fstore rS_208_208_0_95_1_0 (fzs_sub (by decide +kernel) hW) (by omega) (by omega) ?_
            intro IhB23 ehB23 hB23
            have t24 := fup_self ehB23
            exact fcutJ (I := IhB23) (j := jc_Charter_worth_04d20_155) (lv' := [(0, .inr (.inr (some 187))), (1, .inl _), (2, .inl _), (3, .inl _)]) (And.intro rfl (And.intro rfl (And.intro rfl (And.intro rfl True.intro)))) ⟨_, _, _, rfl, rfl, by omega, rfl⟩ (by omega)
          · intro c25
            refine fstore rS_208_208_0_95_1_0 (fzs_sub (by decide +kernel) hW) (by omega) (by first | exact ⟨by decide, by decide⟩ | omega) ?_
            intro IhB26 ehB26 hB26
            have t27 := fup_self ehB26
            exact fcutJ (I := IhB26) (j := jc_Charter_worth_04d20_155) (lv' := [(0, .inr (.inr (some 187))), (1, .inl _), (2, .inl _), (3, .inl _)]) (And.intro rfl (And.intro rfl (And.intro rfl (And.intro rfl True.intro)))) ⟨_, _, _, rfl, rfl, by omega, rfl⟩ (by omega)
    · rintro m _ _ I1 hB1 ⟨y1, y2, y3, y4, rfl, rfl, hb, hm⟩
      refine And.intro (And.intro (by first | exact fi_ hb.2.1.1 hb.2.1.2 rfl | omega) (by first | exact ⟨by decide, by decide⟩ | omega)) (And.intro ?_ ?_)
      · intro c28
        exact fcutJ (I := I1) (j := jc_Charter_worth_04d20_155) (lv' := [(0, .inr (.inr (some 187))), (1, .inl _), (2, .inl _), (3, .inl _)]) (And.intro rfl (And.intro rfl (And.intro rfl (And.intro rfl True.intro)))) ⟨_, _, _, rfl, rfl, by omega, rfl⟩ (by omega)
      · intro c29
        refine And.intro ⟨rfl, by decide, by decide⟩ ?_
        intro z30 hz30 ez30 bz30
        clear ez30
        clear bz30
        refine And.intro ⟨rfl, by decide, by decide⟩ ?_
        refine fload rL_208_208_0_95_1_0 h0 hB1 (by omega) ?_
        intro z31 lz31 uz31 qz31
        refine And.intro ⟨rfl, by decide, by decide⟩ ?_
        refine fload rL_208_208_0_95_1_0 h0 hB1 (by omega) ?_
        intro z32 lz32 uz32 qz32
        refine Exists.intro xm_38 (And.intro mi_38 (And.intro ⟨rfl, rfl, rfl, rfl⟩ (And.intro True.intro ?_)))
        refine fcallp hB1 (ct_Charter_joined_ff93b (fBz h0 hB1) (by omega) (by first | exact ⟨lz31, uz31⟩ | omega) (by first | exact ⟨lz32, uz32⟩ | omega)) ?_
        rintro _ ⟨z33, rfl, hz33⟩
        refine fstore rS_208_208_0_95_1_0 (fzs_sub (by decide +kernel) hW) (by omega) (by first | exact ⟨hz33.1, hz33.2⟩ | omega) ?_
        intro IhB34 ehB34 hB34
        have t35 := fup_self ehB34
        exact fcutJ (I := IhB34) (j := jc_Charter_worth_04d20_155) (lv' := [(0, .inr (.inr (some 187))), (1, .inl _), (2, .inl _), (3, .inl _)]) (And.intro rfl (And.intro rfl (And.intro rfl (And.intro rfl True.intro)))) ⟨_, _, _, rfl, rfl, by omega, rfl⟩ (by omega)
    · rintro m _ _ I1 hB1 ⟨y1, y2, y3, rfl, rfl, hb, hm⟩
      exact fcutJ (I := I1) (j := jc_Charter_worth_04d20_4) (lv' := [(0, .inr (.inr (some 187))), (1, .inl _), (2, .inl _), (3, .inl _)]) (And.intro rfl (And.intro rfl (And.intro rfl (And.intro rfl True.intro)))) ⟨_, _, _, rfl, rfl, by omega, rfl⟩ (by omega)
  · have hB0 := fB_self (zn := znJ) (K := fKc wz_5557d) h0
    exact fcutJ (I := I) (j := jc_Charter_worth_04d20_4) (lv' := [(0, .inr (.inr (some 187))), (1, .inl _), (2, .inl _), (3, .inl _)]) (And.intro rfl (And.intro rfl (And.intro rfl (And.intro rfl True.intro)))) ⟨_, _, _, rfl, rfl, by omega, rfl⟩ (by omega)
set_option maxRecDepth 8000 in
theorem ct_Charter_isInForce_ea4ee {I : fH} {x1 : Int} {x2 : Int} (h0 : fB bsJ I) (ha1 : (0 ≤ x1 ∧ x1 ≤ 11)) (ha2 : ((-2147483648) ≤ x2 ∧ x2 ≤ 2147483647)) : fC ρ base n F xTc vwCl xTys D dA la gJ (fbz bsJ znJ (fKc []) I) xm_35 [.inr (.inr (some 187)), .inl x1, .inl x2] I (fun _ r => ∃ z, r = some (.inl z) ∧ (0 ≤ z ∧ z ≤ 1)) := by
  have hW : fzs [] (fKc []) := fKc_ok _
  refine f_meth (rb := rbJ) (J := []) 1 400 xG xin_35 x6_35 okJ (fB_self h0) ?_ ?_
  · exact fun q h => absurd h List.not_mem_nil
  · have hB0 := fB_self (zn := znJ) (K := fKc []) h0
    refine And.intro ⟨rfl, by decide, by decide⟩ ?_
    refine fload1 rL_189_189_0_11_1_0 h0 hB0 ⟨by decide, by decide⟩ (by first | exact ⟨ha1.1, ha1.2⟩ | omega) ?_
    intro z1 lz1 uz1 qz1
    refine And.intro (And.intro (by first | exact fi_ lz1 uz1 rfl | omega) (by first | exact ⟨by decide, by decide⟩ | omega)) (And.intro ?_ ?_)
    · intro c2
      refine And.intro (⟨by omega, by omega⟩) ?_
      exact ⟨_, rfl, by omega⟩
    · intro c3
      refine And.intro ⟨rfl, by decide, by decide⟩ ?_
      refine fload1 rL_189_189_0_11_1_0 h0 hB0 ⟨by decide, by decide⟩ (by first | exact ⟨ha1.1, ha1.2⟩ | omega) ?_
      intro z4 lz4 uz4 qz4
      refine And.intro (And.intro (by first | exact fi_ lz4 uz4 rfl | omega) (by first | exact fi_ ha2.1 ha2.2 rfl | omega)) (And.intro ?_ ?_)
      · intro c5
        refine And.intro (⟨by omega, by omega⟩) ?_
        exact ⟨_, rfl, by omega⟩
      · intro c6
        refine And.intro ⟨rfl, by decide, by decide⟩ ?_
        refine fload1 rL_190_190_0_11_1_0 h0 hB0 ⟨by decide, by decide⟩ (by first | exact ⟨ha1.1, ha1.2⟩ | omega) ?_
        intro z7 lz7 uz7 qz7
        refine And.intro (And.intro (by first | exact fi_ lz7 uz7 rfl | omega) (by first | exact ⟨by decide, by decide⟩ | omega)) (And.intro ?_ ?_)
        · intro c8
          refine And.intro (⟨by decide, by decide⟩) ?_
          exact ⟨_, rfl, (by first | exact ⟨by decide, by decide⟩ | omega)⟩
        · intro c9
          refine And.intro ⟨rfl, by decide, by decide⟩ ?_
          refine fload1 rL_190_190_0_11_1_0 h0 hB0 ⟨by decide, by decide⟩ (by first | exact ⟨ha1.1, ha1.2⟩ | omega) ?_
          intro z10 lz10 uz10 qz10
          refine And.intro (And.intro (by first | exact fi_ lz10 uz10 rfl | omega) (by first | exact fi_ ha2.1 ha2.2 rfl | omega)) (And.intro ?_ ?_)
          · intro c11
            refine And.intro (⟨by omega, by omega⟩) ?_
            exact ⟨_, rfl, by omega⟩
          · intro c12
            refine And.intro (⟨by decide, by decide⟩) ?_
            exact ⟨_, rfl, (by first | exact ⟨by decide, by decide⟩ | omega)⟩
abbrev jc_Charter_counting_8f92c_10 : Nat → fL → List fV → fH → Prop := fun m lv st I => ∃ (y1 : Int) (y2 : Int) (y3 : Int) (y4 : Int) (y5 : Int), lv = [(0, .inr (.inr (some 187))), (1, .inl y1), (2, .inl y2), (3, .inl y3), (4, .inl y4), (5, .inl y5)] ∧ st = [] ∧ (((0 ≤ y1 ∧ y1 ≤ 5) ∧ ((-2147483648) ≤ y2 ∧ y2 ≤ 2147483647) ∧ ((0 ≤ y3 ∧ y3 ≤ 11) ∨ y3 = (-1000000005)) ∧ ((-2147483648) ≤ y4 ∧ y4 ≤ 2147483647) ∧ (0 ≤ y5 ∧ y5 ≤ 12))) ∧ m = (1 + 1 * (12 - y5) : Int).toNat
set_option maxRecDepth 8000 in
theorem ct_Charter_counting_8f92c {I : fH} {x1 : Int} {x2 : Int} (h0 : fB bsJ I) (ha1 : (0 ≤ x1 ∧ x1 ≤ 5)) (ha2 : ((-2147483648) ≤ x2 ∧ x2 ≤ 2147483647)) : fC ρ base n F xTc vwCl xTys D dA la gJ (fbz bsJ znJ (fKc []) I) xm_34 [.inr (.inr (some 187)), .inl x1, .inl x2] I (fun _ r => ∃ z, r = some (.inl z) ∧ ((0 ≤ z ∧ z ≤ 11) ∨ z = (-1000000005))) := by
  have hW : fzs [] (fKc []) := fKc_ok _
  refine f_meth (rb := rbJ) (J := [(10, jc_Charter_counting_8f92c_10)]) 14 400 xG xin_34 x6_34 okJ (fB_self h0) ?_ ?_
  · refine List.forall_mem_cons.mpr ⟨?_, fun q h => absurd h List.not_mem_nil⟩
    · rintro m _ _ I1 hB1 ⟨y1, y2, y3, y4, y5, rfl, rfl, hb, hm⟩
      refine And.intro ⟨rfl, by decide, by decide⟩ (fgetf fb_187_6 h0 hB1 ?_)
      intro z1 lz1 uz1 qz1
      refine And.intro (And.intro (by first | exact fi_ hb.2.2.2.2.1 hb.2.2.2.2.2 rfl | omega) (by first | exact fi_ lz1 uz1 rfl | omega)) (And.intro ?_ ?_)
      · intro c2
        refine And.intro (True.intro) ?_
        exact ⟨_, rfl, by omega⟩
      · intro c3
        refine And.intro ⟨rfl, by decide, by decide⟩ ?_
        refine fload1 rL_188_188_0_11_1_0 h0 hB1 ⟨by decide, by decide⟩ (by first | exact ⟨hb.2.2.2.2.1, Int.le_trans (Int.le_sub_one_of_lt (Int.lt_of_lt_of_le c3 uz1)) (by decide)⟩ | omega) ?_
        intro z4 lz4 uz4 qz4
        refine And.intro (And.intro (by first | exact fi_ lz4 uz4 rfl | omega) (by first | exact fi_ hb.1.1 hb.1.2 rfl | omega)) (And.intro ?_ ?_)
        · intro c5
          exact fcutJ (I := I1) (j := jc_Charter_counting_8f92c_10) (lv' := [(0, .inr (.inr (some 187))), (1, .inl _), (2, .inl _), (3, .inl _), (4, .inl _), (5, .inl _)]) (And.intro rfl (And.intro rfl (And.intro rfl (And.intro rfl (And.intro rfl (And.intro rfl True.intro)))))) ⟨_, _, _, _, _, rfl, rfl, by omega, rfl⟩ (by omega)
        · intro c6
          refine Exists.intro xm_35 (And.intro mi_35 (And.intro ⟨rfl, rfl, rfl, rfl⟩ (And.intro rfl ?_)))
          refine fcallp hB1 (ct_Charter_isInForce_ea4ee (fBz h0 hB1) (by first | exact ⟨hb.2.2.2.2.1, Int.le_trans (Int.le_sub_one_of_lt (Int.lt_of_lt_of_le c3 uz1)) (by decide)⟩ | omega) (by first | exact ⟨hb.2.1.1, hb.2.1.2⟩ | omega)) ?_
          rintro _ ⟨z7, rfl, hz7⟩
          refine And.intro (by omega) (And.intro ?_ ?_)
          · intro c8
            exact fcutJ (I := I1) (j := jc_Charter_counting_8f92c_10) (lv' := [(0, .inr (.inr (some 187))), (1, .inl _), (2, .inl _), (3, .inl _), (4, .inl _), (5, .inl _)]) (And.intro rfl (And.intro rfl (And.intro rfl (And.intro rfl (And.intro rfl (And.intro rfl True.intro)))))) ⟨_, _, _, _, _, rfl, rfl, by omega, rfl⟩ (by omega)
          · intro c9
            refine And.intro ⟨rfl, by decide, by decide⟩ ?_
            refine fload1 rL_189_189_0_11_1_0 h0 hB1 ⟨by decide, by decide⟩ (by first | exact ⟨hb.2.2.2.2.1, Int.le_trans (Int.le_sub_one_of_lt (Int.lt_of_lt_of_le c3 uz1)) (by decide)⟩ | omega) ?_
            intro z10 lz10 uz10 qz10
            refine And.intro (And.intro (by first | exact fi_ lz10 uz10 rfl | omega) (by first | exact fi_ hb.2.2.2.1.1 hb.2.2.2.1.2 rfl | omega)) (And.intro ?_ ?_)
            · intro c11
              exact fcutJ (I := I1) (j := jc_Charter_counting_8f92c_10) (lv' := [(0, .inr (.inr (some 187))), (1, .inl _), (2, .inl _), (3, .inl _), (4, .inl _), (5, .inl _)]) (And.intro rfl (And.intro rfl (And.intro rfl (And.intro rfl (And.intro rfl (And.intro rfl True.intro)))))) ⟨_, _, _, _, _, rfl, rfl, by omega, rfl⟩ (by omega)
            · intro c12
              refine And.intro ⟨rfl, by decide, by decide⟩ ?_
              refine fload1 rL_189_189_0_11_1_0 h0 hB1 ⟨by decide, by decide⟩ (by first | exact ⟨hb.2.2.2.2.1, Int.le_trans (Int.le_sub_one_of_lt (Int.lt_of_lt_of_le c3 uz1)) (by decide)⟩ | omega) ?_
              intro z13 lz13 uz13 qz13
              exact fcutJ (I := I1) (j := jc_Charter_counting_8f92c_10) (lv' := [(0, .inr (.inr (some 187))), (1, .inl _), (2, .inl _), (3, .inl _), (4, .inl _), (5, .inl _)]) (And.intro rfl (And.intro rfl (And.intro rfl (And.intro rfl (And.intro rfl (And.intro rfl True.intro)))))) ⟨_, _, _, _, _, rfl, rfl, by omega, rfl⟩ (by omega)
  · have hB0 := fB_self (zn := znJ) (K := fKc []) h0
    exact fcutJ (I := I) (j := jc_Charter_counting_8f92c_10) (lv' := [(0, .inr (.inr (some 187))), (1, .inl _), (2, .inl _), (3, .inl _), (4, .inl _), (5, .inl _)]) (And.intro rfl (And.intro rfl (And.intro rfl (And.intro rfl (And.intro rfl (And.intro rfl True.intro)))))) ⟨_, _, _, _, _, rfl, rfl, by omega, rfl⟩ (by omega)
set_option maxRecDepth 8000 in
theorem ct_Charter_allows_3e335 {I : fH} {x1 : Int} {x2 : Int} (h0 : fB bsJ I) (ha1 : (1 ≤ x1 ∧ x1 ≤ 4)) (ha2 : ((-2147483648) ≤ x2 ∧ x2 ≤ 2147483647)) : fC ρ base n F xTc vwCl xTys D dA la gJ (fbz bsJ znJ (fKc wz_5557d) I) xm_33 [.inr (.inr (some 187)), .inl x1, .inl x2] I (fun _ r => ∃ z, r = some (.inl z) ∧ (0 ≤ z ∧ z ≤ 1)) := by
  have hW : fzs wz_5557d (fKc wz_5557d) := fKc_ok _
  refine f_meth (rb := rbJ) (J := []) 1 400 xG xin_33 x6_33 okJ (fB_self h0) ?_ ?_
  · exact fun q h => absurd h List.not_mem_nil
  · have hB0 := fB_self (zn := znJ) (K := fKc wz_5557d) h0
    refine Exists.intro xm_34 (And.intro mi_34 (And.intro ⟨rfl, rfl, rfl, rfl⟩ (And.intro rfl ?_)))
    refine fcallp hB0 (ct_Charter_counting_8f92c (fBz h0 hB0) (by first | exact ⟨Int.le_trans (by decide) ha1.1, Int.le_trans ha1.2 (by decide)⟩ | omega) (by first | exact ⟨ha2.1, ha2.2⟩ | omega)) ?_
    rintro _ ⟨z1, rfl, hz1⟩
    refine And.intro (by omega) (And.intro ?_ ?_)
    · intro c2
      refine And.intro (⟨by decide, by decide⟩) ?_
      exact ⟨_, rfl, (by first | exact ⟨by decide, by decide⟩ | omega)⟩
    · intro c3
      refine Exists.intro xm_36 (And.intro mi_36 (And.intro ⟨rfl, rfl, rfl, rfl⟩ (And.intro rfl ?_)))
      refine fcall _ h0 (fzs_sub (by decide +kernel) hW) hB0 (ct_Charter_worth_04d20 (fBz h0 hB0) (by omega)) ?_
      rintro IhB5 _ hB5 fhB5 ⟨z4, rfl, hz4⟩
      refine And.intro (by first | exact fi_ hz4.1 hz4.2 rfl | omega) (And.intro ?_ ?_)
      · intro c6
        refine And.intro (⟨by omega, by omega⟩) ?_
        exact ⟨_, rfl, by omega⟩
      · intro c7
        refine And.intro (⟨by decide, by decide⟩) ?_
        exact ⟨_, rfl, (by first | exact ⟨by decide, by decide⟩ | omega)⟩
set_option maxRecDepth 8000 in
theorem ct_Charter_put_c2709 {I : fH} {x1 : Int} {x2 : Int} (h0 : fB bsJ I) (ha1 : (97 ≤ x1 ∧ x1 ≤ 121)) (ha2 : ((-2147483648) ≤ x2 ∧ x2 ≤ 2147483647)) : fC ρ base n F xTc vwCl xTys D dA la gJ (fbz bsJ znJ (fKc wz_56c9a) I) xm_30 [.inr (.inr (some 187)), .inl x1, .inl x2] I (fun _ r => r = none) := by
  have hW : fzs wz_56c9a (fKc wz_56c9a) := fKc_ok _
  refine f_meth (rb := rbJ) (J := []) 1 400 xG xin_30 x6_30 okJ (fB_self h0) ?_ ?_
  · exact fun q h => absurd h List.not_mem_nil
  · have hB0 := fB_self (zn := znJ) (K := fKc wz_56c9a) h0
    refine And.intro ⟨rfl, by decide, by decide⟩ ?_
    refine fstore rS_207_207_0_25_1_0 (fzs_sub (by decide +kernel) hW) (by omega) (by first | exact ⟨ha2.1, ha2.2⟩ | omega) ?_
    intro IhB1 ehB1 hB1
    have t2 := fup_self ehB1
    exact rfl
set_option maxRecDepth 8000 in
theorem ct_City_level_61deb {I : fH}  (h0 : fB bsJ I)  : fC ρ base n F xTc vwCl xTys D dA la gJ (fbz bsJ znJ (fKc []) I) xm_31 [.inr (.inr (some 1))] I (fun _ r => ∃ z, r = some (.inl z) ∧ (0 ≤ z ∧ z ≤ 60)) := by
  have hW : fzs [] (fKc []) := fKc_ok _
  refine f_meth (rb := rbJ) (J := []) 1 400 xG xin_31 x6_31 okJ (fB_self h0) ?_ ?_
  · exact fun q h => absurd h List.not_mem_nil
  · have hB0 := fB_self (zn := znJ) (K := fKc []) h0
    refine And.intro ⟨rfl, by decide, by decide⟩ (fgetf fb_1_5 h0 hB0 ?_)
    intro z1 lz1 uz1 qz1
    refine And.intro (And.intro (by first | exact fi_ lz1 uz1 rfl | omega) (And.intro (by first | exact ⟨by decide, by decide⟩ | omega) (And.intro (by first | exact by decide | omega) rfl))) ?_
    intro z2 hz2 ez2 dz2
    have dz2 := dz2 (by omega) (by omega)
    change _ = _ / _ at dz2
    refine And.intro (True.intro) ?_
    exact ⟨_, rfl, by omega⟩
set_option maxRecDepth 8000 in
theorem ct_Charter_putOne_99949 {I : fH} {x2 : Int} (h0 : fB bsJ I) (ha2 : (0 ≤ x2 ∧ x2 ≤ 23)) : fC ρ base n F xTc vwCl xTys D dA la gJ (fbz bsJ znJ (fKc wz_56c9a) I) xm_29 [.inr (.inr (some 187)), .inr (.inr (some 1)), .inl x2] I (fun _ r => r = none) := by
  have hW : fzs wz_56c9a (fKc wz_56c9a) := fKc_ok _
  refine f_meth (rb := rbJ) (J := []) 1 400 xG xin_29 x6_29 okJ (fB_self h0) ?_ ?_
  · exact fun q h => absurd h List.not_mem_nil
  · have hB0 := fB_self (zn := znJ) (K := fKc wz_56c9a) h0
    refine And.intro ⟨rfl, by decide, by decide⟩ ?_
    refine And.intro ⟨rfl, by decide, by decide⟩ ?_
    refine fload1 rL_178_178_0_23_1_0 h0 hB0 ⟨by decide, by decide⟩ (by first | exact ⟨ha2.1, ha2.2⟩ | omega) ?_
    intro z1 lz1 uz1 qz1
    refine Exists.intro xm_30 (And.intro mi_30 (And.intro ⟨rfl, rfl, rfl, rfl⟩ (And.intro rfl ?_)))
    refine fcall _ h0 (fzs_sub (by decide +kernel) hW) hB0 (ct_Charter_put_c2709 (fBz h0 hB0) (by first | exact ⟨by decide, by decide⟩ | omega) (by first | exact ⟨lz1, uz1⟩ | omega)) ?_
    rintro IhB3 _ hB3 fhB3 rfl
    refine And.intro ⟨rfl, by decide, by decide⟩ ?_
    refine And.intro ⟨rfl, by decide, by decide⟩ ?_
    refine fload1 rL_179_179_0_23_1_0 h0 hB3 ⟨by decide, by decide⟩ (by first | exact ⟨ha2.1, ha2.2⟩ | omega) ?_
    intro z4 lz4 uz4 qz4
    refine Exists.intro xm_30 (And.intro mi_30 (And.intro ⟨rfl, rfl, rfl, rfl⟩ (And.intro rfl ?_)))
    refine fcall _ h0 (fzs_sub (by decide +kernel) hW) hB3 (ct_Charter_put_c2709 (fBz h0 hB3) (by first | exact ⟨by decide, by decide⟩ | omega) (by first | exact ⟨lz4, uz4⟩ | omega)) ?_
    rintro IhB6 _ hB6 fhB6 rfl
    refine And.intro ⟨rfl, by decide, by decide⟩ ?_
    refine And.intro ⟨rfl, by decide, by decide⟩ ?_
    refine fload1 rL_181_181_0_23_1_0 h0 hB6 ⟨by decide, by decide⟩ (by first | exact ⟨ha2.1, ha2.2⟩ | omega) ?_
    intro z7 lz7 uz7 qz7
    refine Exists.intro xm_30 (And.intro mi_30 (And.intro ⟨rfl, rfl, rfl, rfl⟩ (And.intro rfl ?_)))
    refine fcall _ h0 (fzs_sub (by decide +kernel) hW) hB6 (ct_Charter_put_c2709 (fBz h0 hB6) (by first | exact ⟨by decide, by decide⟩ | omega) (by first | exact ⟨lz7, uz7⟩ | omega)) ?_
    rintro IhB9 _ hB9 fhB9 rfl
    refine Exists.intro xm_31 (And.intro mi_31 (And.intro ⟨rfl, rfl, rfl, rfl⟩ (And.intro rfl ?_)))
    refine fcallp hB9 (ct_City_level_61deb (fBz h0 hB9)) ?_
    rintro _ ⟨z10, rfl, hz10⟩
    refine Exists.intro xm_30 (And.intro mi_30 (And.intro ⟨rfl, rfl, rfl, rfl⟩ (And.intro rfl ?_)))
    refine fcall _ h0 (fzs_sub (by decide +kernel) hW) hB9 (ct_Charter_put_c2709 (fBz h0 hB9) (by first | exact ⟨by decide, by decide⟩ | omega) (by first | exact ⟨Int.le_trans (by decide) hz10.1, Int.le_trans hz10.2 (by decide)⟩ | omega)) ?_
    rintro IhB12 _ hB12 fhB12 rfl
    exact rfl
set_option maxRecDepth 8000 in
theorem ct_Charter_mayOpen_c7558 {I : fH} {x2 : Int} {x3 : Int} (h0 : fB bsJ I) (ha2 : (0 ≤ x2 ∧ x2 ≤ 23)) (ha3 : (0 ≤ x3 ∧ x3 ≤ 23)) : fC ρ base n F xTc vwCl xTys D dA la gJ (fbz bsJ znJ (fKc wz_7d09b) I) xm_28 [.inr (.inr (some 187)), .inr (.inr (some 1)), .inl x2, .inl x3] I (fun _ r => ∃ z, r = some (.inl z) ∧ (0 ≤ z ∧ z ≤ 1)) := by
  have hW : fzs wz_7d09b (fKc wz_7d09b) := fKc_ok _
  refine f_meth (rb := rbJ) (J := []) 1 400 xG xin_28 x6_28 okJ (fB_self h0) ?_ ?_
  · exact fun q h => absurd h List.not_mem_nil
  · have hB0 := fB_self (zn := znJ) (K := fKc wz_7d09b) h0
    refine Exists.intro xm_29 (And.intro mi_29 (And.intro ⟨rfl, rfl, rfl, rfl⟩ (And.intro rfl ?_)))
    refine fcall _ h0 (fzs_sub (by decide +kernel) hW) hB0 (ct_Charter_putOne_99949 (fBz h0 hB0) (by first | exact ⟨ha2.1, ha2.2⟩ | omega)) ?_
    rintro IhB2 _ hB2 fhB2 rfl
    refine Exists.intro xm_30 (And.intro mi_30 (And.intro ⟨rfl, rfl, rfl, rfl⟩ (And.intro rfl ?_)))
    refine fcall _ h0 (fzs_sub (by decide +kernel) hW) hB2 (ct_Charter_put_c2709 (fBz h0 hB2) (by first | exact ⟨by decide, by decide⟩ | omega) (by first | exact ⟨Int.le_trans (by decide) ha3.1, Int.le_trans ha3.2 (by decide)⟩ | omega)) ?_
    rintro IhB4 _ hB4 fhB4 rfl
    refine Exists.intro xm_32 (And.intro mi_32 (And.intro ⟨rfl, rfl, rfl, rfl⟩ (And.intro rfl ?_)))
    refine fcallp hB4 (ct_City_hour_b7a7b (fBz h0 hB4)) ?_
    rintro _ ⟨z5, rfl, hz5⟩
    refine Exists.intro xm_33 (And.intro mi_33 (And.intro ⟨rfl, rfl, rfl, rfl⟩ (And.intro rfl ?_)))
    refine fcall _ h0 (fzs_sub (by decide +kernel) hW) hB4 (ct_Charter_allows_3e335 (fBz h0 hB4) (by first | exact ⟨by decide, by decide⟩ | omega) (by first | exact ⟨hz5.1, hz5.2⟩ | omega)) ?_
    rintro IhB7 _ hB7 fhB7 ⟨z6, rfl, hz6⟩
    refine And.intro (⟨by omega, by omega⟩) ?_
    exact ⟨_, rfl, by omega⟩
set_option maxRecDepth 8000 in
theorem ct_X_turn_bfb4a {I : fH} {x1 : Int} {x2 : Int} {x3 : Int} (h0 : fB bsJ I) (ha1 : ((-2147483648) ≤ x1 ∧ x1 ≤ 2147483647)) (ha2 : ((-2147483648) ≤ x2 ∧ x2 ≤ 2147483647)) (ha3 : ((-2147483648) ≤ x3 ∧ x3 ≤ 2147483647)) : fC ρ base n F xTc vwCl xTys D dA la gJ (fbz bsJ znJ (fKc wz_4d11d) I) xm_25 [.inr (.inr (some 0)), .inl x1, .inl x2, .inl x3] I (fun _ r => ∃ z, r = some (.inl z) ∧ ((-2147483648) ≤ z ∧ z ≤ 2147483647)) := by
  have hW : fzs wz_4d11d (fKc wz_4d11d) := fKc_ok _
  refine f_meth (rb := rbJ) (J := []) 1 400 xG xin_25 x6_25 okJ (fB_self h0) ?_ ?_
  · exact fun q h => absurd h List.not_mem_nil
  · have hB0 := fB_self (zn := znJ) (K := fKc wz_4d11d) h0
    refine And.intro ⟨rfl, by decide, by decide⟩ ?_
    refine Exists.intro xm_26 (And.intro mi_26 (And.intro ⟨rfl, rfl, rfl, rfl⟩ (And.intro rfl ?_)))
    refine fcallp hB0 (ct_City_isLock_bc0fd (fBz h0 hB0) (by first | exact ⟨ha1.1, ha1.2⟩ | omega)) ?_
    rintro _ ⟨z1, rfl, hz1⟩
    refine And.intro (by omega) (And.intro ?_ ?_)
    · intro c2
      refine And.intro (True.intro) ?_
      exact ⟨_, rfl, (by first | exact ⟨by decide, by decide⟩ | omega)⟩
    · intro c3
      refine And.intro ⟨rfl, by decide, by decide⟩ ?_
      refine Exists.intro xm_27 (And.intro mi_27 (And.intro ⟨rfl, rfl, rfl, rfl⟩ (And.intro rfl ?_)))
      refine fcallp hB0 (ct_City_isPerson_ff059 (fBz h0 hB0) (by first | exact ⟨ha2.1, ha2.2⟩ | omega)) ?_
      rintro _ ⟨z4, rfl, hz4⟩
      refine And.intro (by omega) (And.intro ?_ ?_)
      · intro c5
        refine And.intro (True.intro) ?_
        exact ⟨_, rfl, (by first | exact ⟨by decide, by decide⟩ | omega)⟩
      · intro c6
        refine Exists.intro xm_13 (And.intro mi_13 (And.intro ⟨rfl, rfl, rfl, rfl⟩ (And.intro True.intro ?_)))
        refine fcallp hB0 (ct_X_within_c27b1 (fBz h0 hB0) (by first | exact ⟨ha3.1, ha3.2⟩ | omega) (by first | exact ⟨by decide, by decide⟩ | omega) (by first | exact ⟨by decide, by decide⟩ | omega)) ?_
        rintro _ ⟨z7, rfl, hz7⟩
        refine And.intro (by omega) (And.intro ?_ ?_)
        · intro c8
          refine And.intro ⟨rfl, by decide, by decide⟩ ?_
          refine And.intro ⟨rfl, by decide, by decide⟩ ?_
          refine Exists.intro xm_21 (And.intro mi_21 (And.intro ⟨rfl, rfl, rfl, rfl⟩ (And.intro rfl ?_)))
          refine fcallp hB0 (ct_People_isDead_edb17 (fBz h0 hB0) (by omega)) ?_
          rintro _ ⟨z9, rfl, hz9⟩
          refine And.intro (by omega) (And.intro ?_ ?_)
          · intro c10
            refine And.intro (True.intro) ?_
            exact ⟨_, rfl, (by first | exact ⟨by decide, by decide⟩ | omega)⟩
          · intro c11
            refine And.intro ⟨rfl, by decide, by decide⟩ ?_
            refine And.intro ⟨rfl, by decide, by decide⟩ ?_
            refine Exists.intro xm_28 (And.intro mi_28 (And.intro ⟨rfl, rfl, rfl, rfl⟩ (And.intro rfl ?_)))
            refine fcall _ h0 (fzs_sub (by decide +kernel) hW) hB0 (ct_Charter_mayOpen_c7558 (fBz h0 hB0) (by omega) (by omega)) ?_
            rintro IhB13 _ hB13 fhB13 ⟨z12, rfl, hz12⟩
            refine And.intro (by omega) (And.intro ?_ ?_)
            · intro c14
              refine And.intro ⟨rfl, by decide, by decide⟩ ?_
              refine And.intro ⟨rfl, by decide, by decide⟩ ?_
              refine And.intro ⟨rfl, by decide, by decide⟩ ?_
              refine Exists.intro xm_18 (And.intro mi_18 (And.intro ⟨rfl, rfl, rfl, rfl⟩ (And.intro True.intro ?_)))
              refine fcall _ h0 (fzs_sub (by decide +kernel) hW) hB13 (ct_X_swap_2ba73 (fBz h0 hB13) (by omega) (by first | exact ⟨Int.le_trans (by decide) (Int.le_trans (Int.le_refl _) hz7.1), Int.le_trans (Int.le_trans hz7.2 (Int.le_refl _)) (by decide)⟩ | omega)) ?_
              rintro IhB16 _ hB16 fhB16 ⟨z15, rfl, hz15, g0z15, g1z15⟩
              refine And.intro (True.intro) ?_
              exact ⟨_, rfl, (by first | exact ⟨hz15.1, hz15.2⟩ | omega)⟩
            · intro c17
              refine And.intro (True.intro) ?_
              exact ⟨_, rfl, (by first | exact ⟨by decide, by decide⟩ | omega)⟩
        · intro c18
          refine And.intro (True.intro) ?_
          exact ⟨_, rfl, (by first | exact ⟨by decide, by decide⟩ | omega)⟩
set_option maxRecDepth 8000 in
theorem ct_M_isLock_5e2b8 {I : fH} {x1 : Int} (h0 : fB bsJ I) (ha1 : ((-2147483648) ≤ x1 ∧ x1 ≤ 2147483647)) : fC ρ base n F xTc vwCl xTys D dA la gJ (fbz bsJ znJ (fKc []) I) xm_251 [.inr (.inr (some 740)), .inl x1] I (fun _ r => ∃ z, r = some (.inl z) ∧ ((z = 1 ∧ 0 ≤ x1 ∧ x1 ≤ 23) ∨ z = 0)) := by
  have hW : fzs [] (fKc []) := fKc_ok _
  refine f_meth (rb := rbJ) (J := []) 1 400 xG xin_251 x6_251 okJ (fB_self h0) ?_ ?_
  · exact fun q h => absurd h List.not_mem_nil
  · have hB0 := fB_self (zn := znJ) (K := fKc []) h0
    refine And.intro (by first | exact fi_ ha1.1 ha1.2 rfl | omega) ?_
    refine And.intro ⟨rfl, by decide, by decide⟩ ?_
    refine fload1 rL_741_741_6_6_1_0 h0 hB0 ⟨by decide, by decide⟩ (by first | exact ⟨by decide, by decide⟩ | omega) ?_
    intro z1 lz1 uz1 qz1
    have pz1 := fld_at qz1 6 (by omega)
    refine And.intro (by omega) ?_
    refine Exists.intro xm_238 (And.intro mi_238 (And.intro ⟨rfl, rfl, rfl, rfl⟩ (And.intro True.intro ?_)))
    refine fcallp hB0 (ct_M_isIn_27230 (fBz h0 hB0) (by first | exact ⟨ha1.1, ha1.2⟩ | omega) (by first | exact ⟨by decide, by decide⟩ | omega) (by omega)) ?_
    rintro _ ⟨z2, rfl, hz2⟩
    refine And.intro (⟨by omega, by omega⟩) ?_
    exact ⟨_, rfl, by omega⟩
set_option maxRecDepth 8000 in
theorem ct_M_put_4fc33 {I : fH} {x1 : Int} {x2 : Int} (h0 : fB bsJ I) (ha1 : ((433 ≤ x1 ∧ x1 ≤ 525) ∧ (x1 - 433) % 4 ≤ 0)) (ha2 : (0 ≤ x2 ∧ x2 ≤ 1)) : fC ρ base n F xTc vwCl xTys D dA la gJ (fbz bsJ znJ (fKc wz_7d2d3) I) xm_242 [.inr (.inr (some 740)), .inl x1, .inl x2] I (fun I' r => ∃ z, r = some (.inl z) ∧ ((-2147483648) ≤ z ∧ z ≤ 2147483647) ∧ (I' = fupd I 741 x1.toNat x2) ∧ (z = I 741 x1.toNat)) := by
  have hW : fzs wz_7d2d3 (fKc wz_7d2d3) := fKc_ok _
  refine f_meth (rb := rbJ) (J := []) 1 400 xG xin_242 x6_242 okJ (fB_self h0) ?_ ?_
  · exact fun q h => absurd h List.not_mem_nil
  · have hB0 := fB_self (zn := znJ) (K := fKc wz_7d2d3) h0
    refine And.intro ⟨rfl, by decide, by decide⟩ ?_
    refine fload rL_741_741_433_525_4_0 h0 hB0 (by omega) ?_
    intro z1 lz1 uz1 qz1
    refine And.intro ⟨rfl, by decide, by decide⟩ ?_
    refine fstore rS_741_741_433_525_4_0 (fzs_sub (by decide +kernel) hW) (by omega) (by first | exact ⟨Int.le_trans (by decide) ha2.1, Int.le_trans ha2.2 (by decide)⟩ | omega) ?_
    intro IhB2 ehB2 hB2
    have t3 := fup_self ehB2
    refine And.intro (True.intro) ?_
    exact ⟨_, rfl, (by first | exact ⟨lz1, uz1⟩ | omega), ehB2, qz1⟩
abbrev jc_M_joined_15edc_195 : Nat → fL → List fV → fH → Prop := fun m lv st I => lv = [] ∧ st = [] ∧ (True) ∧ m = (2 : Int).toNat
abbrev jc_M_joined_15edc_205 : Nat → fL → List fV → fH → Prop := fun m lv st I => lv = [] ∧ st = [] ∧ (True) ∧ m = (1 : Int).toNat
set_option maxRecDepth 8000 in
theorem ct_M_joined_15edc {I : fH} {x0 : Int} {x1 : Int} {x2 : Int} (h0 : fB bsJ I) (ha0 : ((-2147483648) ≤ x0 ∧ x0 ≤ 2147483647)) (ha1 : ((-2147483648) ≤ x1 ∧ x1 ≤ 2147483647)) (ha2 : ((-2147483648) ≤ x2 ∧ x2 ≤ 2147483647)) : fC ρ base n F xTc vwCl xTys D dA la gJ (fbz bsJ znJ (fKc []) I) xm_261 [.inl x0, .inl x1, .inl x2] I (fun _ r => ∃ z, r = some (.inl z) ∧ ((-2147483648) ≤ z ∧ z ≤ 2147483647)) := by
  have hW : fzs [] (fKc []) := fKc_ok _
  refine f_meth (rb := rbJ) (J := [(195, jc_M_joined_15edc_195), (205, jc_M_joined_15edc_205)]) 3 400 xG xin_261 x6_261 okJ (fB_self h0) ?_ ?_
  · refine List.forall_mem_cons.mpr ⟨?_, List.forall_mem_cons.mpr ⟨?_, fun q h => absurd h List.not_mem_nil⟩⟩
    · rintro m _ _ I1 hB1 ⟨rfl, rfl, hb, hm⟩
      refine And.intro (True.intro) ?_
      exact ⟨_, rfl, by omega⟩
    · rintro m _ _ I1 hB1 ⟨rfl, rfl, hb, hm⟩
      refine And.intro (True.intro) ?_
      exact ⟨_, rfl, (by first | exact ⟨by decide, by decide⟩ | omega)⟩
  · have hB0 := fB_self (zn := znJ) (K := fKc []) h0
    refine And.intro (by first | exact fi_ ha0.1 ha0.2 rfl | omega) (And.intro ?_ ?_)
    · refine And.intro (fun ex => ?_) (And.intro (fun ex => ?_) (And.intro (fun ex => ?_) (And.intro (fun ex => ?_) (And.intro (fun ex => ?_) (And.intro (fun ex => ?_) (And.intro (fun ex => ?_) (And.intro (fun ex => ?_) (And.intro (fun ex => ?_) (And.intro (fun ex => ?_) (And.intro (fun ex => ?_) (And.intro (fun ex => ?_) (And.intro (fun ex => ?_) (And.intro (fun ex => ?_) (And.intro (fun ex => ?_) (And.intro (fun ex => ?_) (And.intro (fun ex => ?_) (And.intro (fun ex => ?_) (And.intro (fun ex => ?_) (And.intro (fun ex => ?_) (And.intro (fun ex => ?_) (And.intro (fun ex => ?_) (And.intro (fun ex => ?_) (And.intro (fun ex => ?_) (And.intro (fun ex => ?_) (True.intro)))))))))))))))))))))))))
      · skip
        refine And.intro (by first | exact fi_ ha1.1 ha1.2 rfl | omega) (And.intro ?_ ?_)
        · intro c1
          exact fcutJ (I := I) (j := jc_M_joined_15edc_195) (lv' := []) (True.intro) ⟨rfl, rfl, True.intro, rfl⟩ (by omega)
        · intro c2
          refine And.intro (by first | exact fi_ ha2.1 ha2.2 rfl | omega) (And.intro ?_ ?_)
          · intro c3
            exact fcutJ (I := I) (j := jc_M_joined_15edc_195) (lv' := []) (True.intro) ⟨rfl, rfl, True.intro, rfl⟩ (by omega)
          · intro c4
            refine And.intro (True.intro) ?_
            exact ⟨_, rfl, (by first | exact ⟨by decide, by decide⟩ | omega)⟩
      · skip
        refine And.intro (by first | exact fi_ ha1.1 ha1.2 rfl | omega) (And.intro ?_ ?_)
        · intro c5
          exact fcutJ (I := I) (j := jc_M_joined_15edc_205) (lv' := []) (True.intro) ⟨rfl, rfl, True.intro, rfl⟩ (by omega)
        · intro c6
          refine And.intro (by first | exact fi_ ha2.1 ha2.2 rfl | omega) (And.intro ?_ ?_)
          · intro c7
            refine And.intro (True.intro) ?_
            exact ⟨_, rfl, by omega⟩
          · intro c8
            exact fcutJ (I := I) (j := jc_M_joined_15edc_205) (lv' := []) (True.intro) ⟨rfl, rfl, True.intro, rfl⟩ (by omega)
      · skip
        refine And.intro (by first | exact fi_ ha1.1 ha1.2 rfl | omega) (And.intro ?_ ?_)
        · intro c9
          exact fcutJ (I := I) (j := jc_M_joined_15edc_205) (lv' := []) (True.intro) ⟨rfl, rfl, True.intro, rfl⟩ (by omega)
        · intro c10
          refine And.intro (by first | exact fi_ ha2.1 ha2.2 rfl | omega) (And.intro ?_ ?_)
          · intro c11
            refine And.intro (True.intro) ?_
            exact ⟨_, rfl, by omega⟩
          · intro c12
            exact fcutJ (I := I) (j := jc_M_joined_15edc_205) (lv' := []) (True.intro) ⟨rfl, rfl, True.intro, rfl⟩ (by omega)
      · skip
        refine And.intro (by first | exact fi_ ha1.1 ha1.2 rfl | omega) (And.intro ?_ ?_)
        · intro c13
          exact fcutJ (I := I) (j := jc_M_joined_15edc_205) (lv' := []) (True.intro) ⟨rfl, rfl, True.intro, rfl⟩ (by omega)
        · intro c14
          refine And.intro (by first | exact fi_ ha2.1 ha2.2 rfl | omega) (And.intro ?_ ?_)
          · intro c15
            refine And.intro (True.intro) ?_
            exact ⟨_, rfl, by omega⟩
          · intro c16
            exact fcutJ (I := I) (j := jc_M_joined_15edc_205) (lv' := []) (True.intro) ⟨rfl, rfl, True.intro, rfl⟩ (by omega)
      · skip
        intro z17 hz17 ez17 bz17
        clear ez17
        clear bz17
        refine And.intro (True.intro) ?_
        exact ⟨_, rfl, by omega⟩
      · skip
        intro z18 hz18 ez18 bz18
        clear ez18
        clear bz18
        refine And.intro (True.intro) ?_
        exact ⟨_, rfl, by omega⟩
      · skip
        refine And.intro (by first | exact fi_ ha1.1 ha1.2 rfl | omega) (And.intro ?_ ?_)
        · intro c19
          exact fcutJ (I := I) (j := jc_M_joined_15edc_205) (lv' := []) (True.intro) ⟨rfl, rfl, True.intro, rfl⟩ (by omega)
        · intro c20
          refine And.intro (by first | exact fi_ ha2.1 ha2.2 rfl | omega) (And.intro ?_ ?_)
          · intro c21
            refine And.intro (True.intro) ?_
            exact ⟨_, rfl, by omega⟩
          · intro c22
            exact fcutJ (I := I) (j := jc_M_joined_15edc_205) (lv' := []) (True.intro) ⟨rfl, rfl, True.intro, rfl⟩ (by omega)
      · skip
        intro z23 hz23 ez23 bz23
        clear ez23
        clear bz23
        refine And.intro (True.intro) ?_
        exact ⟨_, rfl, by omega⟩
      · skip
        refine And.intro (by first | exact fi_ ha1.1 ha1.2 rfl | omega) (And.intro ?_ ?_)
        · intro c24
          exact fcutJ (I := I) (j := jc_M_joined_15edc_205) (lv' := []) (True.intro) ⟨rfl, rfl, True.intro, rfl⟩ (by omega)
        · intro c25
          refine And.intro (by first | exact fi_ ha2.1 ha2.2 rfl | omega) (And.intro ?_ ?_)
          · intro c26
            refine And.intro (True.intro) ?_
            exact ⟨_, rfl, by omega⟩
          · intro c27
            exact fcutJ (I := I) (j := jc_M_joined_15edc_205) (lv' := []) (True.intro) ⟨rfl, rfl, True.intro, rfl⟩ (by omega)
      · skip
        refine And.intro (by first | exact fi_ ha2.1 ha2.2 rfl | omega) (And.intro ?_ ?_)
        · intro c28
          refine And.intro (And.intro (by first | exact fi_ ha2.1 ha2.2 rfl | omega) (by first | exact ⟨by decide, by decide⟩ | omega)) (And.intro ?_ ?_)
          · intro c29
            refine And.intro (And.intro (by first | exact fi_ ha1.1 ha1.2 rfl | omega) (And.intro (by first | exact fi_ ha2.1 ha2.2 rfl | omega) (And.intro (by omega) rfl))) ?_
            intro z30 hz30 ez30 dz30
            refine And.intro (True.intro) ?_
            exact ⟨_, rfl, by omega⟩
          · intro c31
            intro z32 hz32 ez32 bz32
            clear ez32
            clear bz32
            refine And.intro (True.intro) ?_
            exact ⟨_, rfl, by omega⟩
        · intro c33
          refine And.intro (True.intro) ?_
          exact ⟨_, rfl, (by first | exact ⟨by decide, by decide⟩ | omega)⟩
      · skip
        refine And.intro (by first | exact fi_ ha1.1 ha1.2 rfl | omega) (And.intro ?_ ?_)
        · intro c34
          exact fcutJ (I := I) (j := jc_M_joined_15edc_205) (lv' := []) (True.intro) ⟨rfl, rfl, True.intro, rfl⟩ (by omega)
        · intro c35
          refine And.intro (by first | exact fi_ ha2.1 ha2.2 rfl | omega) (And.intro ?_ ?_)
          · intro c36
            refine And.intro (True.intro) ?_
            exact ⟨_, rfl, by omega⟩
          · intro c37
            exact fcutJ (I := I) (j := jc_M_joined_15edc_205) (lv' := []) (True.intro) ⟨rfl, rfl, True.intro, rfl⟩ (by omega)
      · skip
        refine And.intro (by first | exact fi_ ha1.1 ha1.2 rfl | omega) (And.intro ?_ ?_)
        · intro c38
          exact fcutJ (I := I) (j := jc_M_joined_15edc_205) (lv' := []) (True.intro) ⟨rfl, rfl, True.intro, rfl⟩ (by omega)
        · intro c39
          refine And.intro (by first | exact fi_ ha2.1 ha2.2 rfl | omega) (And.intro ?_ ?_)
          · intro c40
            refine And.intro (True.intro) ?_
            exact ⟨_, rfl, by omega⟩
          · intro c41
            exact fcutJ (I := I) (j := jc_M_joined_15edc_205) (lv' := []) (True.intro) ⟨rfl, rfl, True.intro, rfl⟩ (by omega)
      · skip
        refine And.intro (by first | exact fi_ ha1.1 ha1.2 rfl | omega) (And.intro ?_ ?_)
        · intro c42
          exact fcutJ (I := I) (j := jc_M_joined_15edc_205) (lv' := []) (True.intro) ⟨rfl, rfl, True.intro, rfl⟩ (by omega)
        · intro c43
          refine And.intro (by first | exact fi_ ha2.1 ha2.2 rfl | omega) (And.intro ?_ ?_)
          · intro c44
            refine And.intro (True.intro) ?_
            exact ⟨_, rfl, by omega⟩
          · intro c45
            exact fcutJ (I := I) (j := jc_M_joined_15edc_205) (lv' := []) (True.intro) ⟨rfl, rfl, True.intro, rfl⟩ (by omega)
      · skip
        refine And.intro (by first | exact fi_ ha1.1 ha1.2 rfl | omega) (And.intro ?_ ?_)
        · intro c46
          exact fcutJ (I := I) (j := jc_M_joined_15edc_205) (lv' := []) (True.intro) ⟨rfl, rfl, True.intro, rfl⟩ (by omega)
        · intro c47
          refine And.intro (by first | exact fi_ ha2.1 ha2.2 rfl | omega) (And.intro ?_ ?_)
          · intro c48
            refine And.intro (True.intro) ?_
            exact ⟨_, rfl, by omega⟩
          · intro c49
            exact fcutJ (I := I) (j := jc_M_joined_15edc_205) (lv' := []) (True.intro) ⟨rfl, rfl, True.intro, rfl⟩ (by omega)
      · skip
        refine And.intro (by first | exact fi_ ha1.1 ha1.2 rfl | omega) (And.intro ?_ ?_)
        · intro c50
          exact fcutJ (I := I) (j := jc_M_joined_15edc_205) (lv' := []) (True.intro) ⟨rfl, rfl, True.intro, rfl⟩ (by omega)
        · intro c51
          refine And.intro (by first | exact fi_ ha2.1 ha2.2 rfl | omega) (And.intro ?_ ?_)
          · intro c52
            refine And.intro (True.intro) ?_
            exact ⟨_, rfl, by omega⟩
          · intro c53
            exact fcutJ (I := I) (j := jc_M_joined_15edc_205) (lv' := []) (True.intro) ⟨rfl, rfl, True.intro, rfl⟩ (by omega)
      · skip
        refine And.intro (by first | exact fi_ ha1.1 ha1.2 rfl | omega) (And.intro ?_ ?_)
        · intro c54
          exact fcutJ (I := I) (j := jc_M_joined_15edc_205) (lv' := []) (True.intro) ⟨rfl, rfl, True.intro, rfl⟩ (by omega)
        · intro c55
          refine And.intro (by first | exact fi_ ha2.1 ha2.2 rfl | omega) (And.intro ?_ ?_)
          · intro c56
            refine And.intro (True.intro) ?_
            exact ⟨_, rfl, by omega⟩
          · intro c57
            exact fcutJ (I := I) (j := jc_M_joined_15edc_205) (lv' := []) (True.intro) ⟨rfl, rfl, True.intro, rfl⟩ (by omega)
      · skip
        refine And.intro (by first | exact fi_ ha1.1 ha1.2 rfl | omega) (And.intro ?_ ?_)
        · intro c58
          exact fcutJ (I := I) (j := jc_M_joined_15edc_205) (lv' := []) (True.intro) ⟨rfl, rfl, True.intro, rfl⟩ (by omega)
        · intro c59
          refine And.intro (by first | exact fi_ ha2.1 ha2.2 rfl | omega) (And.intro ?_ ?_)
          · intro c60
            refine And.intro (True.intro) ?_
            exact ⟨_, rfl, by omega⟩
          · intro c61
            exact fcutJ (I := I) (j := jc_M_joined_15edc_205) (lv' := []) (True.intro) ⟨rfl, rfl, True.intro, rfl⟩ (by omega)
      · skip
        refine And.intro (by first | exact fi_ ha1.1 ha1.2 rfl | omega) (And.intro ?_ ?_)
        · intro c62
          exact fcutJ (I := I) (j := jc_M_joined_15edc_205) (lv' := []) (True.intro) ⟨rfl, rfl, True.intro, rfl⟩ (by omega)
        · intro c63
          refine And.intro (by first | exact fi_ ha2.1 ha2.2 rfl | omega) (And.intro ?_ ?_)
          · intro c64
            refine And.intro (True.intro) ?_
            exact ⟨_, rfl, by omega⟩
          · intro c65
            exact fcutJ (I := I) (j := jc_M_joined_15edc_205) (lv' := []) (True.intro) ⟨rfl, rfl, True.intro, rfl⟩ (by omega)
      · skip
        refine And.intro (by first | exact fi_ ha1.1 ha1.2 rfl | omega) (And.intro ?_ ?_)
        · intro c66
          exact fcutJ (I := I) (j := jc_M_joined_15edc_205) (lv' := []) (True.intro) ⟨rfl, rfl, True.intro, rfl⟩ (by omega)
        · intro c67
          refine And.intro (by first | exact fi_ ha2.1 ha2.2 rfl | omega) (And.intro ?_ ?_)
          · intro c68
            refine And.intro (True.intro) ?_
            exact ⟨_, rfl, by omega⟩
          · intro c69
            exact fcutJ (I := I) (j := jc_M_joined_15edc_205) (lv' := []) (True.intro) ⟨rfl, rfl, True.intro, rfl⟩ (by omega)
      · skip
        refine And.intro (by first | exact fi_ ha1.1 ha1.2 rfl | omega) (And.intro ?_ ?_)
        · intro c70
          exact fcutJ (I := I) (j := jc_M_joined_15edc_205) (lv' := []) (True.intro) ⟨rfl, rfl, True.intro, rfl⟩ (by omega)
        · intro c71
          refine And.intro (by first | exact fi_ ha2.1 ha2.2 rfl | omega) (And.intro ?_ ?_)
          · intro c72
            refine And.intro (True.intro) ?_
            exact ⟨_, rfl, by omega⟩
          · intro c73
            exact fcutJ (I := I) (j := jc_M_joined_15edc_205) (lv' := []) (True.intro) ⟨rfl, rfl, True.intro, rfl⟩ (by omega)
      · skip
        refine And.intro (by first | exact fi_ ha1.1 ha1.2 rfl | omega) (And.intro ?_ ?_)
        · intro c74
          exact fcutJ (I := I) (j := jc_M_joined_15edc_205) (lv' := []) (True.intro) ⟨rfl, rfl, True.intro, rfl⟩ (by omega)
        · intro c75
          refine And.intro (by first | exact fi_ ha2.1 ha2.2 rfl | omega) (And.intro ?_ ?_)
          · intro c76
            refine And.intro (True.intro) ?_
            exact ⟨_, rfl, by omega⟩
          · intro c77
            exact fcutJ (I := I) (j := jc_M_joined_15edc_205) (lv' := []) (True.intro) ⟨rfl, rfl, True.intro, rfl⟩ (by omega)
      · skip
        refine And.intro (by first | exact fi_ ha1.1 ha1.2 rfl | omega) (And.intro ?_ ?_)
        · intro c78
          exact fcutJ (I := I) (j := jc_M_joined_15edc_205) (lv' := []) (True.intro) ⟨rfl, rfl, True.intro, rfl⟩ (by omega)
        · intro c79
          refine And.intro (by first | exact fi_ ha2.1 ha2.2 rfl | omega) (And.intro ?_ ?_)
          · intro c80
            refine And.intro (True.intro) ?_
            exact ⟨_, rfl, by omega⟩
          · intro c81
            exact fcutJ (I := I) (j := jc_M_joined_15edc_205) (lv' := []) (True.intro) ⟨rfl, rfl, True.intro, rfl⟩ (by omega)
      · skip
        refine And.intro (And.intro (by first | exact fi_ ha1.1 ha1.2 rfl | omega) (by first | exact fi_ ha2.1 ha2.2 rfl | omega)) (And.intro ?_ ?_)
        · intro c82
          refine And.intro (True.intro) ?_
          exact ⟨_, rfl, by omega⟩
        · intro c83
          refine And.intro (True.intro) ?_
          exact ⟨_, rfl, (by first | exact ⟨by decide, by decide⟩ | omega)⟩
      · skip
        refine And.intro (And.intro (by first | exact fi_ ha1.1 ha1.2 rfl | omega) (by first | exact fi_ ha2.1 ha2.2 rfl | omega)) (And.intro ?_ ?_)
        · intro c84
          refine And.intro (True.intro) ?_
          exact ⟨_, rfl, by omega⟩
        · intro c85
          refine And.intro (True.intro) ?_
          exact ⟨_, rfl, (by first | exact ⟨by decide, by decide⟩ | omega)⟩
      · skip
        refine And.intro (And.intro (by first | exact fi_ ha1.1 ha1.2 rfl | omega) (by first | exact fi_ ha2.1 ha2.2 rfl | omega)) (And.intro ?_ ?_)
        · intro c86
          refine And.intro (True.intro) ?_
          exact ⟨_, rfl, by omega⟩
        · intro c87
          refine And.intro (True.intro) ?_
          exact ⟨_, rfl, (by first | exact ⟨by decide, by decide⟩ | omega)⟩
    · intro c88
      refine And.intro (by first | exact fi_ ha1.1 ha1.2 rfl | omega) (And.intro ?_ ?_)
      · intro c89
        exact fcutJ (I := I) (j := jc_M_joined_15edc_205) (lv' := []) (True.intro) ⟨rfl, rfl, True.intro, rfl⟩ (by omega)
      · intro c90
        refine And.intro (by first | exact fi_ ha2.1 ha2.2 rfl | omega) (And.intro ?_ ?_)
        · intro c91
          refine And.intro (True.intro) ?_
          exact ⟨_, rfl, by omega⟩
        · intro c92
          exact fcutJ (I := I) (j := jc_M_joined_15edc_205) (lv' := []) (True.intro) ⟨rfl, rfl, True.intro, rfl⟩ (by omega)
set_option maxRecDepth 8000 in
theorem ct_M_level_daf8a {I : fH}  (h0 : fB bsJ I)  : fC ρ base n F xTc vwCl xTys D dA la gJ (fbz bsJ znJ (fKc []) I) xm_260 [.inr (.inr (some 740))] I (fun _ r => ∃ z, r = some (.inl z) ∧ (0 ≤ z ∧ z ≤ 60)) := by
  have hW : fzs [] (fKc []) := fKc_ok _
  refine f_meth (rb := rbJ) (J := []) 1 400 xG xin_260 x6_260 okJ (fB_self h0) ?_ ?_
  · exact fun q h => absurd h List.not_mem_nil
  · have hB0 := fB_self (zn := znJ) (K := fKc []) h0
    refine And.intro ⟨rfl, by decide, by decide⟩ ?_
    refine fload1 rL_741_741_1_1_1_0 h0 hB0 ⟨by decide, by decide⟩ (by first | exact ⟨by decide, by decide⟩ | omega) ?_
    intro z1 lz1 uz1 qz1
    have pz1 := fld_at qz1 1 (by omega)
    refine And.intro (And.intro (by first | exact fi_ lz1 uz1 rfl | omega) (And.intro (by first | exact ⟨by decide, by decide⟩ | omega) (And.intro (by first | exact by decide | omega) rfl))) ?_
    intro z2 hz2 ez2 dz2
    have dz2 := dz2 (by omega) (by omega)
    change _ = _ / _ at dz2
    refine And.intro (True.intro) ?_
    exact ⟨_, rfl, by omega⟩
set_option maxRecDepth 8000 in
theorem ct_M_textAt_ea474 {I : fH} {x1 : Int} (h0 : fB bsJ I) (ha1 : (0 ≤ x1 ∧ x1 ≤ 11)) : fC ρ base n F xTc vwCl xTys D dA la gJ (fbz bsJ znJ (fKc []) I) xm_255 [.inr (.inr (some 740)), .inl x1] I (fun _ r => ∃ z, r = some (.inl z) ∧ (z = 1210 + 200 * x1)) := by
  have hW : fzs [] (fKc []) := fKc_ok _
  refine f_meth (rb := rbJ) (J := []) 1 400 xG xin_255 x6_255 okJ (fB_self h0) ?_ ?_
  · exact fun q h => absurd h List.not_mem_nil
  · have hB0 := fB_self (zn := znJ) (K := fKc []) h0
    refine And.intro (True.intro) ?_
    exact ⟨_, rfl, by omega⟩
abbrev jc_M_worked_0bc29_15 (x1 : Int) (I0 : fH) : Nat → fL → List fV → fH → Prop := fun m lv st I => ∃ (y1 : Int) (y2 : Int) (y3 : Int), lv = [(0, .inr (.inr (some 740))), (1, .inl y1), (2, .inl y2), (3, .inl y3)] ∧ st = [] ∧ (((0 ≤ y1 ∧ y1 ≤ 11) ∧ (0 ≤ y2 ∧ y2 ≤ 97) ∧ (0 ≤ y3 ∧ y3 ≤ 97) ∧ (0 ≤ I 748 104 ∧ I 748 104 ≤ 60) ∧ (y1 = x1) ∧ (y2 ≤ y3)) ∧ (hgt I0 741 (1215 + 200 * x1.toNat) 0 y3.toNat 0 = some y2.toNat)) ∧ m = (1 + 1 * (97 - y3) : Int).toNat
set_option maxRecDepth 8000 in
theorem ct_M_worked_0bc29 {I : fH} {x1 : Int} (h0 : fB bsJ I) (ha1 : (0 ≤ x1 ∧ x1 ≤ 11)) (hp0 : sI I 741) (hp1 : x1 < I 741 9) : fC ρ base n F xTc vwCl xTys D dA la gJ (fbz bsJ znJ (fKc wz_5ef89) I) xm_259 [.inr (.inr (some 740)), .inl x1] I (fun _ r => ∃ z, r = some (.inl z) ∧ ((-2147483648) ≤ z ∧ z ≤ 2147483647)) := by
  have hW : fzs wz_5ef89 (fKc wz_5ef89) := fKc_ok _
  refine f_meth (rb := rbJ) (J := [(15, (jc_M_worked_0bc29_15 x1 I))]) 99 400 xG xin_259 x6_259 okJ (fB_self h0) ?_ ?_
  · refine List.forall_mem_cons.mpr ⟨?_, fun q h => absurd h List.not_mem_nil⟩
    · rintro m _ _ I1 hB1 ⟨y1, y2, y3, rfl, rfl, ⟨hb, hx0⟩, hm⟩
      have hT := hp0.2.2.2 x1.toNat (by omega)
      have hT1 := hT.1
      have hT2 := hT.2.1
      refine And.intro ⟨rfl, by decide, by decide⟩ ?_
      refine Exists.intro xm_255 (And.intro mi_255 (And.intro ⟨rfl, rfl, rfl, rfl⟩ (And.intro rfl ?_)))
      refine fcallp hB1 (ct_M_textAt_ea474 (fBz h0 hB1) (by first | exact ⟨hb.1.1, hb.1.2⟩ | omega)) ?_
      rintro _ ⟨_, rfl, rfl⟩
      refine fload rL_741_741_1214_3414_200_0 h0 hB1 (by omega) ?_
      intro z2 lz2 uz2 qz2
      have w27 := (fld_at qz2 (1214 + 200 * x1.toNat) (by omega)).trans (sS_keep hB1 (by decide +kernel) _)
      refine And.intro (And.intro (by first | exact fi_ hb.2.2.1.1 hb.2.2.1.2 rfl | omega) (by first | exact fi_ lz2 uz2 rfl | omega)) (And.intro ?_ ?_)
      · intro c3
        refine And.intro ⟨rfl, by decide, by decide⟩ ?_
        refine fload1 rL_749_749_0_99_1_0 h0 hB1 ⟨by decide, by decide⟩ (by first | exact ⟨by decide, by decide⟩ | omega) ?_
        intro z4 lz4 uz4 qz4
        have pz4 := fld_at qz4 0 (by omega)
        refine And.intro (True.intro) ?_
        exact ⟨_, rfl, (by first | exact ⟨lz4, uz4⟩ | omega)⟩
      · intro c5
        refine And.intro ⟨rfl, by decide, by decide⟩ ?_
        refine Exists.intro xm_255 (And.intro mi_255 (And.intro ⟨rfl, rfl, rfl, rfl⟩ (And.intro rfl ?_)))
        refine fcallp hB1 (ct_M_textAt_ea474 (fBz h0 hB1) (by first | exact ⟨hb.1.1, hb.1.2⟩ | omega)) ?_
        rintro _ ⟨_, rfl, rfl⟩
        intro z7 hz7 ez7 bz7
        clear ez7
        have bz7 := bz7 (by omega)
        intro z8 hz8 ez8 bz8
        clear ez8
        have bz8 := bz8 (by omega)
        refine fload rL_741_741_1215_3609_200_194 h0 hB1 (by omega) ?_
        intro z9 lz9 uz9 qz9
        have w46 := (fld_at qz9 (1215 + 200 * x1.toNat + 2 * (0 + y3.toNat)) (by omega)).trans (sS_keep hB1 (by decide +kernel) _)
        refine And.intro ⟨rfl, by decide, by decide⟩ ?_
        refine Exists.intro xm_255 (And.intro mi_255 (And.intro ⟨rfl, rfl, rfl, rfl⟩ (And.intro rfl ?_)))
        refine fcallp hB1 (ct_M_textAt_ea474 (fBz h0 hB1) (by first | exact ⟨hb.1.1, hb.1.2⟩ | omega)) ?_
        rintro _ ⟨_, rfl, rfl⟩
        intro z11 hz11 ez11 bz11
        clear ez11
        have bz11 := bz11 (by omega)
        intro z12 hz12 ez12 bz12
        clear ez12
        have bz12 := bz12 (by omega)
        intro z13 hz13 ez13 bz13
        clear ez13
        have bz13 := bz13 (by omega)
        refine fload rL_741_741_1215_3609_200_194 h0 hB1 (by omega) ?_
        intro z14 lz14 uz14 qz14
        have w66 := (fld_at qz14 (1215 + 200 * x1.toNat + 2 * (0 + y3.toNat) + 1) (by omega)).trans (sS_keep hB1 (by decide +kernel) _)
        obtain ⟨hr0, hr⟩ : ∃ r, hgt I 741 (1215 + 200 * x1.toNat) 0 (y3.toNat + 1) 0 = some r := hgt_pre (l := (I 741 (1214 + 200 * x1.toNat)).toNat - (y3.toNat + 1)) (hgt_to hT.2.2 rfl rfl (by omega) rfl)
        obtain ⟨hh, he1, he2⟩ := Option.bind_eq_some_iff.mp hr
        have hh2 : hh = y2.toNat := Option.some.inj (he1.symm.trans hx0)
        have hc := hst_cases he2
        refine And.intro (And.intro (by first | exact fi_ lz9 uz9 rfl | omega) (by first | exact ⟨by decide, by decide⟩ | omega)) (And.intro ?_ ?_)
        · intro c15
          refine And.intro (And.intro (by first | exact fi_ lz14 uz14 rfl | omega) (by first | exact ⟨by decide, by decide⟩ | omega)) (And.intro ?_ ?_)
          · intro c16
            intro z17 hz17 bz17
            have bz17 := bz17 (by omega)
            refine And.intro ⟨rfl, by decide, by decide⟩ ?_
            intro z18 hz18 ez18 bz18
            clear ez18
            have bz18 := bz18 (by omega)
            refine And.intro ⟨rfl, by decide, by decide⟩ ?_
            intro z19 hz19 ez19 bz19
            clear ez19
            have bz19 := bz19 (by omega)
            refine fload rL_749_749_0_99_1_0 h0 hB1 (by omega) ?_
            intro z20 lz20 uz20 qz20
            refine And.intro ⟨rfl, by decide, by decide⟩ ?_
            refine fload rL_749_749_0_99_1_0 h0 hB1 (by omega) ?_
            intro z21 lz21 uz21 qz21
            refine Exists.intro xm_261 (And.intro mi_261 (And.intro ⟨rfl, rfl, rfl, rfl⟩ (And.intro True.intro ?_)))
            refine fcallp hB1 (ct_M_joined_15edc (fBz h0 hB1) (by first | exact ⟨lz14, uz14⟩ | omega) (by first | exact ⟨lz20, uz20⟩ | omega) (by first | exact ⟨lz21, uz21⟩ | omega)) ?_
            rintro _ ⟨z22, rfl, hz22⟩
            refine fstore rS_749_749_0_99_1_0 (fzs_sub (by decide +kernel) hW) (by omega) (by first | exact ⟨hz22.1, hz22.2⟩ | omega) ?_
            intro IhB23 ehB23 hB23
            have t24 := fup_self ehB23
            have t25 : IhB23 748 104 = I1 748 104 := (congrFun (congrFun ehB23 748) 104).trans (fup_ne (by first | exact Or.inl (by decide) | omega))
            exact fcutJ (I := IhB23) (j := (jc_M_worked_0bc29_15 x1 I)) (lv' := [(0, .inr (.inr (some 740))), (1, .inl _), (2, .inl _), (3, .inl _)]) (And.intro rfl (And.intro rfl (And.intro rfl (And.intro rfl True.intro)))) ⟨_, _, _, rfl, rfl, ⟨by omega, hgt_to hr rfl rfl (by omega) (by omega)⟩, rfl⟩ (by omega)
          · intro c26
            refine And.intro ⟨rfl, by decide, by decide⟩ ?_
            intro z27 hz27 ez27 bz27
            clear ez27
            have bz27 := bz27 (by omega)
            refine And.intro ⟨rfl, by decide, by decide⟩ ?_
            intro z28 hz28 ez28 bz28
            clear ez28
            have bz28 := bz28 (by omega)
            refine fload rL_749_749_0_99_1_0 h0 hB1 (by omega) ?_
            intro z29 lz29 uz29 qz29
            refine And.intro (by first | exact fi_ lz29 uz29 rfl | omega) (And.intro ?_ ?_)
            · intro c30
              refine fstore rS_749_749_0_99_1_0 (fzs_sub (by decide +kernel) hW) (by omega) (by omega) ?_
              intro IhB31 ehB31 hB31
              have t32 := fup_self ehB31
              have t33 : IhB31 748 104 = I1 748 104 := (congrFun (congrFun ehB31 748) 104).trans (fup_ne (by first | exact Or.inl (by decide) | omega))
              exact fcutJ (I := IhB31) (j := (jc_M_worked_0bc29_15 x1 I)) (lv' := [(0, .inr (.inr (some 740))), (1, .inl _), (2, .inl _), (3, .inl _)]) (And.intro rfl (And.intro rfl (And.intro rfl (And.intro rfl True.intro)))) ⟨_, _, _, rfl, rfl, ⟨by omega, hgt_to hr rfl rfl (by omega) (by omega)⟩, rfl⟩ (by omega)
            · intro c34
              refine fstore rS_749_749_0_99_1_0 (fzs_sub (by decide +kernel) hW) (by omega) (by first | exact ⟨by decide, by decide⟩ | omega) ?_
              intro IhB35 ehB35 hB35
              have t36 := fup_self ehB35
              have t37 : IhB35 748 104 = I1 748 104 := (congrFun (congrFun ehB35 748) 104).trans (fup_ne (by first | exact Or.inl (by decide) | omega))
              exact fcutJ (I := IhB35) (j := (jc_M_worked_0bc29_15 x1 I)) (lv' := [(0, .inr (.inr (some 740))), (1, .inl _), (2, .inl _), (3, .inl _)]) (And.intro rfl (And.intro rfl (And.intro rfl (And.intro rfl True.intro)))) ⟨_, _, _, rfl, rfl, ⟨by omega, hgt_to hr rfl rfl (by omega) (by omega)⟩, rfl⟩ (by omega)
        · intro c38
          refine And.intro ⟨rfl, by decide, by decide⟩ ?_
          refine And.intro (by first | exact fi_ lz9 uz9 rfl | omega) (And.intro ?_ ?_)
          · intro c39
            refine And.intro ⟨rfl, by decide, by decide⟩ ?_
            refine fload rL_748_748_0_127_1_0 h0 hB1 (by omega) ?_
            intro z40 lz40 uz40 qz40
            refine fstore1 rS_749_749_0_99_1_0 (fzs_sub (by decide +kernel) hW) ⟨by decide, by decide⟩ (by first | exact ⟨hb.2.1.1, Int.le_trans hb.2.1.2 (by decide)⟩ | omega) (by first | exact ⟨lz40, uz40⟩ | omega) ?_
            intro IhB41 ehB41 hB41
            have t42 := fup_self ehB41
            have t43 : IhB41 748 104 = I1 748 104 := (congrFun (congrFun ehB41 748) 104).trans (fup_ne (by first | exact Or.inl (by decide) | omega))
            intro z44 hz44 bz44
            have bz44 := bz44 (by omega)
            exact fcutJ (I := IhB41) (j := (jc_M_worked_0bc29_15 x1 I)) (lv' := [(0, .inr (.inr (some 740))), (1, .inl _), (2, .inl _), (3, .inl _)]) (And.intro rfl (And.intro rfl (And.intro rfl (And.intro rfl True.intro)))) ⟨_, _, _, rfl, rfl, ⟨by omega, hgt_to hr rfl rfl (by omega) (by omega)⟩, rfl⟩ (by omega)
          · intro c45
            refine fstore1 rS_749_749_0_99_1_0 (fzs_sub (by decide +kernel) hW) ⟨by decide, by decide⟩ (by first | exact ⟨hb.2.1.1, Int.le_trans hb.2.1.2 (by decide)⟩ | omega) (by first | exact ⟨lz14, uz14⟩ | omega) ?_
            intro IhB46 ehB46 hB46
            have t47 := fup_self ehB46
            have t48 : IhB46 748 104 = I1 748 104 := (congrFun (congrFun ehB46 748) 104).trans (fup_ne (by first | exact Or.inl (by decide) | omega))
            intro z49 hz49 bz49
            have bz49 := bz49 (by omega)
            exact fcutJ (I := IhB46) (j := (jc_M_worked_0bc29_15 x1 I)) (lv' := [(0, .inr (.inr (some 740))), (1, .inl _), (2, .inl _), (3, .inl _)]) (And.intro rfl (And.intro rfl (And.intro rfl (And.intro rfl True.intro)))) ⟨_, _, _, rfl, rfl, ⟨by omega, hgt_to hr rfl rfl (by omega) (by omega)⟩, rfl⟩ (by omega)
  · have hB0 := fB_self (zn := znJ) (K := fKc wz_5ef89) h0
    refine And.intro ⟨rfl, by decide, by decide⟩ ?_
    refine Exists.intro xm_260 (And.intro mi_260 (And.intro ⟨rfl, rfl, rfl, rfl⟩ (And.intro rfl ?_)))
    refine fcallp hB0 (ct_M_level_daf8a (fBz h0 hB0)) ?_
    rintro _ ⟨z50, rfl, hz50⟩
    refine fstore1 rS_748_748_0_127_1_0 (fzs_sub (by decide +kernel) hW) ⟨by decide, by decide⟩ (by first | exact ⟨by decide, by decide⟩ | omega) (by first | exact ⟨Int.le_trans (by decide) hz50.1, Int.le_trans hz50.2 (by decide)⟩ | omega) ?_
    intro IhB51 ehB51 hB51
    have t52 := fup_self ehB51
    have t53 := fup_at ehB51 104 (by first | rfl | omega)
    exact fcutJ (I := IhB51) (j := (jc_M_worked_0bc29_15 x1 I)) (lv' := [(0, .inr (.inr (some 740))), (1, .inl _), (2, .inl _), (3, .inl _)]) (And.intro rfl (And.intro rfl (And.intro rfl (And.intro rfl True.intro)))) ⟨_, _, _, rfl, rfl, ⟨by omega, hgt_to (k := 0) (r := 0) rfl rfl rfl (by omega) (by omega)⟩, rfl⟩ (by omega)
set_option maxRecDepth 8000 in
theorem ct_M_hour_9a688 {I : fH}  (h0 : fB bsJ I)  : fC ρ base n F xTc vwCl xTys D dA la gJ (fbz bsJ znJ (fKc []) I) xm_257 [.inr (.inr (some 740))] I (fun _ r => ∃ z, r = some (.inl z) ∧ (0 ≤ z ∧ z ≤ 366)) := by
  have hW : fzs [] (fKc []) := fKc_ok _
  refine f_meth (rb := rbJ) (J := []) 1 400 xG xin_257 x6_257 okJ (fB_self h0) ?_ ?_
  · exact fun q h => absurd h List.not_mem_nil
  · have hB0 := fB_self (zn := znJ) (K := fKc []) h0
    refine And.intro ⟨rfl, by decide, by decide⟩ ?_
    refine fload1 rL_741_741_0_0_1_0 h0 hB0 ⟨by decide, by decide⟩ (by first | exact ⟨by decide, by decide⟩ | omega) ?_
    intro z1 lz1 uz1 qz1
    have pz1 := fld_at qz1 0 (by omega)
    refine And.intro (And.intro (by first | exact fi_ lz1 uz1 rfl | omega) (And.intro (by first | exact ⟨by decide, by decide⟩ | omega) (And.intro (by first | exact by decide | omega) rfl))) ?_
    intro z2 hz2 ez2 dz2
    have dz2 := dz2 (by omega) (by omega)
    change _ = _ / _ at dz2
    refine And.intro (True.intro) ?_
    exact ⟨_, rfl, by omega⟩
set_option maxRecDepth 8000 in
theorem ct_M_isInForce_508bf {I : fH} {x1 : Int} (h0 : fB bsJ I) (ha1 : (0 ≤ x1 ∧ x1 ≤ 11)) : fC ρ base n F xTc vwCl xTys D dA la gJ (fbz bsJ znJ (fKc []) I) xm_256 [.inr (.inr (some 740)), .inl x1] I (fun _ r => ∃ z, r = some (.inl z) ∧ (0 ≤ z ∧ z ≤ 1)) := by
  have hW : fzs [] (fKc []) := fKc_ok _
  refine f_meth (rb := rbJ) (J := []) 1 400 xG xin_256 x6_256 okJ (fB_self h0) ?_ ?_
  · exact fun q h => absurd h List.not_mem_nil
  · have hB0 := fB_self (zn := znJ) (K := fKc []) h0
    refine Exists.intro xm_255 (And.intro mi_255 (And.intro ⟨rfl, rfl, rfl, rfl⟩ (And.intro rfl ?_)))
    refine fcallp hB0 (ct_M_textAt_ea474 (fBz h0 hB0) (by first | exact ⟨ha1.1, ha1.2⟩ | omega)) ?_
    rintro _ ⟨_, rfl, rfl⟩
    refine And.intro ⟨rfl, by decide, by decide⟩ ?_
    refine fload rL_741_741_1211_3411_200_0 h0 hB0 (by omega) ?_
    intro z2 lz2 uz2 qz2
    refine And.intro (by first | exact fi_ lz2 uz2 rfl | omega) (And.intro ?_ ?_)
    · intro c3
      refine And.intro (⟨by omega, by omega⟩) ?_
      exact ⟨_, rfl, by omega⟩
    · intro c4
      refine And.intro ⟨rfl, by decide, by decide⟩ ?_
      refine fload rL_741_741_1211_3411_200_0 h0 hB0 (by omega) ?_
      intro z5 lz5 uz5 qz5
      refine Exists.intro xm_257 (And.intro mi_257 (And.intro ⟨rfl, rfl, rfl, rfl⟩ (And.intro rfl ?_)))
      refine fcallp hB0 (ct_M_hour_9a688 (fBz h0 hB0)) ?_
      rintro _ ⟨z6, rfl, hz6⟩
      refine And.intro (And.intro (by first | exact fi_ lz5 uz5 rfl | omega) (by first | exact fi_ hz6.1 hz6.2 rfl | omega)) (And.intro ?_ ?_)
      · intro c7
        refine And.intro (⟨by omega, by omega⟩) ?_
        exact ⟨_, rfl, by omega⟩
      · intro c8
        refine And.intro ⟨rfl, by decide, by decide⟩ ?_
        refine fload rL_741_741_1212_3412_200_0 h0 hB0 (by omega) ?_
        intro z9 lz9 uz9 qz9
        refine And.intro (by first | exact fi_ lz9 uz9 rfl | omega) (And.intro ?_ ?_)
        · intro c10
          refine And.intro (⟨by decide, by decide⟩) ?_
          exact ⟨_, rfl, (by first | exact ⟨by decide, by decide⟩ | omega)⟩
        · intro c11
          refine And.intro ⟨rfl, by decide, by decide⟩ ?_
          refine fload rL_741_741_1212_3412_200_0 h0 hB0 (by omega) ?_
          intro z12 lz12 uz12 qz12
          refine Exists.intro xm_257 (And.intro mi_257 (And.intro ⟨rfl, rfl, rfl, rfl⟩ (And.intro rfl ?_)))
          refine fcallp hB0 (ct_M_hour_9a688 (fBz h0 hB0)) ?_
          rintro _ ⟨z13, rfl, hz13⟩
          refine And.intro (And.intro (by first | exact fi_ lz12 uz12 rfl | omega) (by first | exact fi_ hz13.1 hz13.2 rfl | omega)) (And.intro ?_ ?_)
          · intro c14
            refine And.intro (⟨by omega, by omega⟩) ?_
            exact ⟨_, rfl, by omega⟩
          · intro c15
            refine And.intro (⟨by decide, by decide⟩) ?_
            exact ⟨_, rfl, (by first | exact ⟨by decide, by decide⟩ | omega)⟩
abbrev jc_M_counts_1278f_4 : Nat → fL → List fV → fH → Prop := fun m lv st I => ∃ (y1 : Int) (y2 : Int) (y3 : Int), lv = [(0, .inr (.inr (some 740))), (1, .inl y1), (2, .inl y2), (3, .inl y3)] ∧ st = [] ∧ (((0 ≤ y1 ∧ y1 ≤ 5) ∧ ((-1) ≤ y2 ∧ y2 ≤ 11) ∧ (0 ≤ y3 ∧ y3 ≤ 12) ∧ (y2 < I 741 9))) ∧ m = (1 + 1 * (12 - y3) : Int).toNat
set_option maxRecDepth 8000 in
theorem ct_M_counts_1278f {I : fH} {x1 : Int} (h0 : fB bsJ I) (ha1 : (0 ≤ x1 ∧ x1 ≤ 5)) : fC ρ base n F xTc vwCl xTys D dA la gJ (fbz bsJ znJ (fKc []) I) xm_254 [.inr (.inr (some 740)), .inl x1] I (fun _ r => ∃ z, r = some (.inl z) ∧ (((-1) ≤ z ∧ z ≤ 11) ∧ (z < I 741 9))) := by
  have hW : fzs [] (fKc []) := fKc_ok _
  refine f_meth (rb := rbJ) (J := [(4, jc_M_counts_1278f_4)]) 14 400 xG xin_254 x6_254 okJ (fB_self h0) ?_ ?_
  · refine List.forall_mem_cons.mpr ⟨?_, fun q h => absurd h List.not_mem_nil⟩
    · rintro m _ _ I1 hB1 ⟨y1, y2, y3, rfl, rfl, hb, hm⟩
      have k1 := fBz_eq hB1 (a := 741) (j := 9) (by decide +kernel)
      have b2 := fBd fb_741_9 (fBz h0 hB1)
      refine And.intro ⟨rfl, by decide, by decide⟩ ?_
      refine fload1 rL_741_741_9_9_1_0 h0 hB1 ⟨by decide, by decide⟩ (by first | exact ⟨by decide, by decide⟩ | omega) ?_
      intro z3 lz3 uz3 qz3
      have pz3 := fld_at qz3 9 (by omega)
      refine And.intro (And.intro (by first | exact fi_ hb.2.2.1.1 hb.2.2.1.2 rfl | omega) (by first | exact fi_ lz3 uz3 rfl | omega)) (And.intro ?_ ?_)
      · intro c4
        refine And.intro (True.intro) ?_
        exact ⟨_, rfl, by omega⟩
      · intro c5
        refine And.intro ⟨rfl, by decide, by decide⟩ ?_
        refine Exists.intro xm_255 (And.intro mi_255 (And.intro ⟨rfl, rfl, rfl, rfl⟩ (And.intro rfl ?_)))
        refine fcallp hB1 (ct_M_textAt_ea474 (fBz h0 hB1) (by first | exact ⟨hb.2.2.1.1, Int.le_trans (Int.le_sub_one_of_lt (Int.lt_of_lt_of_le c5 uz3)) (by decide)⟩ | omega)) ?_
        rintro _ ⟨_, rfl, rfl⟩
        refine fload rL_741_741_1210_3410_200_0 h0 hB1 (by omega) ?_
        intro z7 lz7 uz7 qz7
        refine And.intro (And.intro (by first | exact fi_ lz7 uz7 rfl | omega) (by first | exact fi_ hb.1.1 hb.1.2 rfl | omega)) (And.intro ?_ ?_)
        · intro c8
          refine And.intro (by omega) (And.intro ?_ ?_)
          · intro c9
            exact fcutJ (I := I1) (j := jc_M_counts_1278f_4) (lv' := [(0, .inr (.inr (some 740))), (1, .inl _), (2, .inl _), (3, .inl _)]) (And.intro rfl (And.intro rfl (And.intro rfl (And.intro rfl True.intro)))) ⟨_, _, _, rfl, rfl, by omega, rfl⟩ (by omega)
          · intro c10
            refine And.intro (by first | exact fi_ hb.2.1.1 hb.2.1.2 rfl | omega) (And.intro ?_ ?_)
            · intro c11
              exact fcutJ (I := I1) (j := jc_M_counts_1278f_4) (lv' := [(0, .inr (.inr (some 740))), (1, .inl _), (2, .inl _), (3, .inl _)]) (And.intro rfl (And.intro rfl (And.intro rfl (And.intro rfl True.intro)))) ⟨_, _, _, rfl, rfl, by omega, rfl⟩ (by omega)
            · intro c12
              refine And.intro ⟨rfl, by decide, by decide⟩ ?_
              refine Exists.intro xm_255 (And.intro mi_255 (And.intro ⟨rfl, rfl, rfl, rfl⟩ (And.intro rfl ?_)))
              refine fcallp hB1 (ct_M_textAt_ea474 (fBz h0 hB1) (by first | exact ⟨hb.2.2.1.1, Int.le_trans (Int.le_sub_one_of_lt (Int.lt_of_lt_of_le c5 uz3)) (by decide)⟩ | omega)) ?_
              rintro _ ⟨_, rfl, rfl⟩
              refine fload rL_741_741_1211_3411_200_0 h0 hB1 (by omega) ?_
              intro z14 lz14 uz14 qz14
              refine And.intro ⟨rfl, by decide, by decide⟩ ?_
              refine Exists.intro xm_255 (And.intro mi_255 (And.intro ⟨rfl, rfl, rfl, rfl⟩ (And.intro rfl ?_)))
              refine fcallp hB1 (ct_M_textAt_ea474 (fBz h0 hB1) (by first | exact ⟨Int.le_trans (by decide) (Int.le_trans (Int.le_refl _) c12), hb.2.1.2⟩ | omega)) ?_
              rintro _ ⟨_, rfl, rfl⟩
              refine fload rL_741_741_1211_3411_200_0 h0 hB1 (by omega) ?_
              intro z16 lz16 uz16 qz16
              refine And.intro (And.intro (by first | exact fi_ lz14 uz14 rfl | omega) (by first | exact fi_ lz16 uz16 rfl | omega)) (And.intro ?_ ?_)
              · intro c17
                exact fcutJ (I := I1) (j := jc_M_counts_1278f_4) (lv' := [(0, .inr (.inr (some 740))), (1, .inl _), (2, .inl _), (3, .inl _)]) (And.intro rfl (And.intro rfl (And.intro rfl (And.intro rfl True.intro)))) ⟨_, _, _, rfl, rfl, by omega, rfl⟩ (by omega)
              · intro c18
                exact fcutJ (I := I1) (j := jc_M_counts_1278f_4) (lv' := [(0, .inr (.inr (some 740))), (1, .inl _), (2, .inl _), (3, .inl _)]) (And.intro rfl (And.intro rfl (And.intro rfl (And.intro rfl True.intro)))) ⟨_, _, _, rfl, rfl, by omega, rfl⟩ (by omega)
        · intro c19
          refine Exists.intro xm_256 (And.intro mi_256 (And.intro ⟨rfl, rfl, rfl, rfl⟩ (And.intro rfl ?_)))
          refine fcallp hB1 (ct_M_isInForce_508bf (fBz h0 hB1) (by first | exact ⟨hb.2.2.1.1, Int.le_trans (Int.le_sub_one_of_lt (Int.lt_of_lt_of_le c5 uz3)) (by decide)⟩ | omega)) ?_
          rintro _ ⟨z20, rfl, hz20⟩
          refine And.intro (by omega) (And.intro ?_ ?_)
          · intro c21
            refine And.intro (by omega) (And.intro ?_ ?_)
            · intro c22
              exact fcutJ (I := I1) (j := jc_M_counts_1278f_4) (lv' := [(0, .inr (.inr (some 740))), (1, .inl _), (2, .inl _), (3, .inl _)]) (And.intro rfl (And.intro rfl (And.intro rfl (And.intro rfl True.intro)))) ⟨_, _, _, rfl, rfl, by omega, rfl⟩ (by omega)
            · intro c23
              refine And.intro (by first | exact fi_ hb.2.1.1 hb.2.1.2 rfl | omega) (And.intro ?_ ?_)
              · intro c24
                exact fcutJ (I := I1) (j := jc_M_counts_1278f_4) (lv' := [(0, .inr (.inr (some 740))), (1, .inl _), (2, .inl _), (3, .inl _)]) (And.intro rfl (And.intro rfl (And.intro rfl (And.intro rfl True.intro)))) ⟨_, _, _, rfl, rfl, by omega, rfl⟩ (by omega)
              · intro c25
                refine And.intro ⟨rfl, by decide, by decide⟩ ?_
                refine Exists.intro xm_255 (And.intro mi_255 (And.intro ⟨rfl, rfl, rfl, rfl⟩ (And.intro rfl ?_)))
                refine fcallp hB1 (ct_M_textAt_ea474 (fBz h0 hB1) (by first | exact ⟨hb.2.2.1.1, Int.le_trans (Int.le_sub_one_of_lt (Int.lt_of_lt_of_le c5 uz3)) (by decide)⟩ | omega)) ?_
                rintro _ ⟨_, rfl, rfl⟩
                refine fload rL_741_741_1211_3411_200_0 h0 hB1 (by omega) ?_
                intro z27 lz27 uz27 qz27
                refine And.intro ⟨rfl, by decide, by decide⟩ ?_
                refine Exists.intro xm_255 (And.intro mi_255 (And.intro ⟨rfl, rfl, rfl, rfl⟩ (And.intro rfl ?_)))
                refine fcallp hB1 (ct_M_textAt_ea474 (fBz h0 hB1) (by first | exact ⟨Int.le_trans (by decide) (Int.le_trans (Int.le_refl _) c25), hb.2.1.2⟩ | omega)) ?_
                rintro _ ⟨_, rfl, rfl⟩
                refine fload rL_741_741_1211_3411_200_0 h0 hB1 (by omega) ?_
                intro z29 lz29 uz29 qz29
                refine And.intro (And.intro (by first | exact fi_ lz27 uz27 rfl | omega) (by first | exact fi_ lz29 uz29 rfl | omega)) (And.intro ?_ ?_)
                · intro c30
                  exact fcutJ (I := I1) (j := jc_M_counts_1278f_4) (lv' := [(0, .inr (.inr (some 740))), (1, .inl _), (2, .inl _), (3, .inl _)]) (And.intro rfl (And.intro rfl (And.intro rfl (And.intro rfl True.intro)))) ⟨_, _, _, rfl, rfl, by omega, rfl⟩ (by omega)
                · intro c31
                  exact fcutJ (I := I1) (j := jc_M_counts_1278f_4) (lv' := [(0, .inr (.inr (some 740))), (1, .inl _), (2, .inl _), (3, .inl _)]) (And.intro rfl (And.intro rfl (And.intro rfl (And.intro rfl True.intro)))) ⟨_, _, _, rfl, rfl, by omega, rfl⟩ (by omega)
          · intro c32
            refine And.intro (by first | exact ⟨by decide, by decide⟩ | omega) (And.intro ?_ ?_)
            · intro c33
              exact fcutJ (I := I1) (j := jc_M_counts_1278f_4) (lv' := [(0, .inr (.inr (some 740))), (1, .inl _), (2, .inl _), (3, .inl _)]) (And.intro rfl (And.intro rfl (And.intro rfl (And.intro rfl True.intro)))) ⟨_, _, _, rfl, rfl, by omega, rfl⟩ (by omega)
            · intro c34
              refine And.intro (by first | exact fi_ hb.2.1.1 hb.2.1.2 rfl | omega) (And.intro ?_ ?_)
              · intro c35
                exact fcutJ (I := I1) (j := jc_M_counts_1278f_4) (lv' := [(0, .inr (.inr (some 740))), (1, .inl _), (2, .inl _), (3, .inl _)]) (And.intro rfl (And.intro rfl (And.intro rfl (And.intro rfl True.intro)))) ⟨_, _, _, rfl, rfl, by omega, rfl⟩ (by omega)
              · intro c36
                refine And.intro ⟨rfl, by decide, by decide⟩ ?_
                refine Exists.intro xm_255 (And.intro mi_255 (And.intro ⟨rfl, rfl, rfl, rfl⟩ (And.intro rfl ?_)))
                refine fcallp hB1 (ct_M_textAt_ea474 (fBz h0 hB1) (by first | exact ⟨hb.2.2.1.1, Int.le_trans (Int.le_sub_one_of_lt (Int.lt_of_lt_of_le c5 uz3)) (by decide)⟩ | omega)) ?_
                rintro _ ⟨_, rfl, rfl⟩
                refine fload rL_741_741_1211_3411_200_0 h0 hB1 (by omega) ?_
                intro z38 lz38 uz38 qz38
                refine And.intro ⟨rfl, by decide, by decide⟩ ?_
                refine Exists.intro xm_255 (And.intro mi_255 (And.intro ⟨rfl, rfl, rfl, rfl⟩ (And.intro rfl ?_)))
                refine fcallp hB1 (ct_M_textAt_ea474 (fBz h0 hB1) (by first | exact ⟨Int.le_trans (by decide) (Int.le_trans (Int.le_refl _) c36), hb.2.1.2⟩ | omega)) ?_
                rintro _ ⟨_, rfl, rfl⟩
                refine fload rL_741_741_1211_3411_200_0 h0 hB1 (by omega) ?_
                intro z40 lz40 uz40 qz40
                refine And.intro (And.intro (by first | exact fi_ lz38 uz38 rfl | omega) (by first | exact fi_ lz40 uz40 rfl | omega)) (And.intro ?_ ?_)
                · intro c41
                  exact fcutJ (I := I1) (j := jc_M_counts_1278f_4) (lv' := [(0, .inr (.inr (some 740))), (1, .inl _), (2, .inl _), (3, .inl _)]) (And.intro rfl (And.intro rfl (And.intro rfl (And.intro rfl True.intro)))) ⟨_, _, _, rfl, rfl, by omega, rfl⟩ (by omega)
                · intro c42
                  exact fcutJ (I := I1) (j := jc_M_counts_1278f_4) (lv' := [(0, .inr (.inr (some 740))), (1, .inl _), (2, .inl _), (3, .inl _)]) (And.intro rfl (And.intro rfl (And.intro rfl (And.intro rfl True.intro)))) ⟨_, _, _, rfl, rfl, by omega, rfl⟩ (by omega)
  · have hB0 := fB_self (zn := znJ) (K := fKc []) h0
    have b43 := fBd fb_741_9 (fBz h0 hB0)
    exact fcutJ (I := I) (j := jc_M_counts_1278f_4) (lv' := [(0, .inr (.inr (some 740))), (1, .inl _), (2, .inl _), (3, .inl _)]) (And.intro rfl (And.intro rfl (And.intro rfl (And.intro rfl True.intro)))) ⟨_, _, _, rfl, rfl, by omega, rfl⟩ (by omega)
set_option maxRecDepth 8000 in
theorem ct_M_nameOne_43c7d {I : fH} {x1 : Int} (h0 : fB bsJ I) (ha1 : (0 ≤ x1 ∧ x1 ≤ 23)) : fC ρ base n F xTc vwCl xTys D dA la gJ (fbz bsJ znJ (fKc wz_3c4d3) I) xm_258 [.inr (.inr (some 740)), .inl x1] I (fun _ r => r = none) := by
  have hW : fzs wz_3c4d3 (fKc wz_3c4d3) := fKc_ok _
  refine f_meth (rb := rbJ) (J := []) 1 400 xG xin_258 x6_258 okJ (fB_self h0) ?_ ?_
  · exact fun q h => absurd h List.not_mem_nil
  · have hB0 := fB_self (zn := znJ) (K := fKc wz_3c4d3) h0
    refine And.intro ⟨rfl, by decide, by decide⟩ ?_
    refine And.intro ⟨rfl, by decide, by decide⟩ ?_
    refine Exists.intro xm_247 (And.intro mi_247 (And.intro ⟨rfl, rfl, rfl, rfl⟩ (And.intro rfl ?_)))
    refine fcallp hB0 (ct_M_personAt_9b331 (fBz h0 hB0) (by first | exact ⟨ha1.1, ha1.2⟩ | omega)) ?_
    rintro _ ⟨_, rfl, rfl⟩
    refine fload rL_741_741_870_1008_6_0 h0 hB0 (by omega) ?_
    intro z2 lz2 uz2 qz2
    refine fstore1 rS_748_748_0_127_1_0 (fzs_sub (by decide +kernel) hW) ⟨by decide, by decide⟩ (by first | exact ⟨by decide, by decide⟩ | omega) (by first | exact ⟨lz2, uz2⟩ | omega) ?_
    intro IhB3 ehB3 hB3
    have t4 := fup_self ehB3
    have t5 := fup_at ehB3 97 (by first | rfl | omega)
    refine And.intro ⟨rfl, by decide, by decide⟩ ?_
    refine And.intro ⟨rfl, by decide, by decide⟩ ?_
    refine Exists.intro xm_247 (And.intro mi_247 (And.intro ⟨rfl, rfl, rfl, rfl⟩ (And.intro rfl ?_)))
    refine fcallp hB3 (ct_M_personAt_9b331 (fBz h0 hB3) (by first | exact ⟨ha1.1, ha1.2⟩ | omega)) ?_
    rintro _ ⟨_, rfl, rfl⟩
    intro z7 hz7 ez7 bz7
    clear ez7
    have bz7 := bz7 (by omega)
    refine fload rL_741_741_871_1009_6_0 h0 hB3 (by omega) ?_
    intro z8 lz8 uz8 qz8
    refine fstore1 rS_748_748_0_127_1_0 (fzs_sub (by decide +kernel) hW) ⟨by decide, by decide⟩ (by first | exact ⟨by decide, by decide⟩ | omega) (by first | exact ⟨lz8, uz8⟩ | omega) ?_
    intro IhB9 ehB9 hB9
    have t10 := fup_self ehB9
    have t11 : IhB9 748 97 = IhB3 748 97 := (congrFun (congrFun ehB9 748) 97).trans (fup_ne (by first | decide | omega))
    have t12 := fup_at ehB9 99 (by first | rfl | omega)
    refine And.intro ⟨rfl, by decide, by decide⟩ ?_
    refine And.intro ⟨rfl, by decide, by decide⟩ ?_
    refine Exists.intro xm_247 (And.intro mi_247 (And.intro ⟨rfl, rfl, rfl, rfl⟩ (And.intro rfl ?_)))
    refine fcallp hB9 (ct_M_personAt_9b331 (fBz h0 hB9) (by first | exact ⟨ha1.1, ha1.2⟩ | omega)) ?_
    rintro _ ⟨_, rfl, rfl⟩
    intro z14 hz14 ez14 bz14
    clear ez14
    have bz14 := bz14 (by omega)
    refine fload rL_741_741_873_1011_6_0 h0 hB9 (by omega) ?_
    intro z15 lz15 uz15 qz15
    refine fstore1 rS_748_748_0_127_1_0 (fzs_sub (by decide +kernel) hW) ⟨by decide, by decide⟩ (by first | exact ⟨by decide, by decide⟩ | omega) (by first | exact ⟨lz15, uz15⟩ | omega) ?_
    intro IhB16 ehB16 hB16
    have t17 := fup_self ehB16
    have t18 : IhB16 748 97 = IhB9 748 97 := (congrFun (congrFun ehB16 748) 97).trans (fup_ne (by first | decide | omega))
    have t19 : IhB16 748 99 = IhB9 748 99 := (congrFun (congrFun ehB16 748) 99).trans (fup_ne (by first | decide | omega))
    have t20 := fup_at ehB16 115 (by first | rfl | omega)
    exact rfl
set_option maxRecDepth 8000 in
theorem ct_M_mayOpen_42d58 {I : fH} {x1 : Int} {x2 : Int} (h0 : fB bsJ I) (ha1 : (0 ≤ x1 ∧ x1 ≤ 23)) (ha2 : (0 ≤ x2 ∧ x2 ≤ 23)) (hp0 : sI I 741) : fC ρ base n F xTc vwCl xTys D dA la gJ (fbz bsJ znJ (fKc wz_5ef89) I) xm_253 [.inr (.inr (some 740)), .inl x1, .inl x2] I (fun _ r => ∃ z, r = some (.inl z) ∧ (0 ≤ z ∧ z ≤ 1)) := by
  have hW : fzs wz_5ef89 (fKc wz_5ef89) := fKc_ok _
  refine f_meth (rb := rbJ) (J := []) 1 400 xG xin_253 x6_253 okJ (fB_self h0) ?_ ?_
  · exact fun q h => absurd h List.not_mem_nil
  · have hB0 := fB_self (zn := znJ) (K := fKc wz_5ef89) h0
    refine Exists.intro xm_254 (And.intro mi_254 (And.intro ⟨rfl, rfl, rfl, rfl⟩ (And.intro rfl ?_)))
    refine fcallp hB0 (ct_M_counts_1278f (fBz h0 hB0) (by first | exact ⟨by decide, by decide⟩ | omega)) ?_
    rintro _ ⟨z1, rfl, hz1⟩
    refine Exists.intro xm_258 (And.intro mi_258 (And.intro ⟨rfl, rfl, rfl, rfl⟩ (And.intro rfl ?_)))
    refine fcall _ h0 (fzs_sub (by decide +kernel) hW) hB0 (ct_M_nameOne_43c7d (fBz h0 hB0) (by first | exact ⟨ha1.1, ha1.2⟩ | omega)) ?_
    rintro IhB3 _ hB3 fhB3 rfl
    have k4 := fBz_eq hB3 (a := 741) (j := 9) (by decide +kernel)
    refine And.intro ⟨rfl, by decide, by decide⟩ ?_
    refine fstore1 rS_748_748_0_127_1_0 (fzs_sub (by decide +kernel) hW) ⟨by decide, by decide⟩ (by first | exact ⟨by decide, by decide⟩ | omega) (by first | exact ⟨Int.le_trans (by decide) ha2.1, Int.le_trans ha2.2 (by decide)⟩ | omega) ?_
    intro IhB5 ehB5 hB5
    have t6 := fup_self ehB5
    have t7 := fup_at ehB5 110 (by first | rfl | omega)
    have k8 := fBz_eq hB5 (a := 741) (j := 9) (by decide +kernel)
    refine And.intro (by first | exact fi_ hz1.1.1 hz1.1.2 rfl | omega) (And.intro ?_ ?_)
    · intro c9
      refine And.intro (⟨by decide, by decide⟩) ?_
      exact ⟨_, rfl, (by first | exact ⟨by decide, by decide⟩ | omega)⟩
    · intro c10
      refine Exists.intro xm_259 (And.intro mi_259 (And.intro ⟨rfl, rfl, rfl, rfl⟩ (And.intro rfl ?_)))
      refine fcall _ h0 (fzs_sub (by decide +kernel) hW) hB5 (ct_M_worked_0bc29 (fBz h0 hB5) (by first | exact ⟨Int.le_trans (by decide) (Int.le_trans (Int.le_refl _) c10), hz1.1.2⟩ | omega) (sI_keep hp0 h0 hB5 (by decide +kernel)) (by omega)) ?_
      rintro IhB12 _ hB12 fhB12 ⟨z11, rfl, hz11⟩
      have k13 := fBz_eq hB12 (a := 741) (j := 9) (by decide +kernel)
      refine And.intro (by first | exact fi_ hz11.1 hz11.2 rfl | omega) (And.intro ?_ ?_)
      · intro c14
        refine And.intro (⟨by omega, by omega⟩) ?_
        exact ⟨_, rfl, by omega⟩
      · intro c15
        refine And.intro (⟨by decide, by decide⟩) ?_
        exact ⟨_, rfl, (by first | exact ⟨by decide, by decide⟩ | omega)⟩
end CT

/-! contracts (written by gen95.py) -/
theorem x6_282 : f60c xTc xTys xm_282 = true := by decide +kernel
theorem rL_741_741_532_854_14_0 : frL gJ bsJ 100 ((741, 741), (532, 854), (14, 0), ((-2147483648), 2147483647)) := frL_hull (by decide) (by decide +kernel)
theorem rL_741_741_17_21_1_0 : frL gJ bsJ 100 ((741, 741), (17, 21), (1, 0), ((-2147483648), 2147483647)) := frL_hull (by decide) (by decide +kernel)
theorem rL_741_741_31_414_1_0 : frL gJ bsJ 100 ((741, 741), (31, 414), (1, 0), ((-2147483648), 2147483647)) := frL_hull (by decide) (by decide +kernel)
theorem x6_279 : f60c xTc xTys xm_279 = true := by decide +kernel
theorem rL_741_741_37_420_1_0 : frL gJ bsJ 100 ((741, 741), (37, 420), (1, 0), ((-2147483648), 2147483647)) := frL_hull (by decide) (by decide +kernel)
theorem rL_741_741_2_2_1_0 : frL gJ bsJ 100 ((741, 741), (2, 2), (1, 0), ((-2147483648), 2147483647)) := frL_hull (by decide) (by decide +kernel)
abbrev wz_ed400 : List Nat := [5, 26]
theorem x6_90 : f60c xTc xTys xm_90 = true := by decide +kernel
theorem x6_84 : f60c xTc xTys xm_84 = true := by decide +kernel
theorem x6_83 : f60c xTc xTys xm_83 = true := by decide +kernel
abbrev wz_abae9 : List Nat := [5, 26, 182]
theorem x6_85 : f60c xTc xTys xm_85 = true := by decide +kernel
theorem x6_82 : f60c xTc xTys xm_82 = true := by decide +kernel
abbrev wz_4543e : List Nat := [174, 175, 176]
theorem x6_87 : f60c xTc xTys xm_87 = true := by decide +kernel
abbrev wz_1cc9b : List Nat := [182, 10106]
theorem x6_86 : f60c xTc xTys xm_86 = true := by decide +kernel
abbrev wz_de755 : List Nat := [26, 172]
theorem x6_81 : f60c xTc xTys xm_81 = true := by decide +kernel
theorem x6_79 : f60c xTc xTys xm_79 = true := by decide +kernel
abbrev wz_213b7 : List Nat := [171, 173]
theorem x6_80 : f60c xTc xTys xm_80 = true := by decide +kernel
abbrev wz_65a7b : List Nat := [26, 171, 172, 173]
theorem x6_78 : f60c xTc xTys xm_78 = true := by decide +kernel
theorem rL_186_186_0_60_1_0 : frL gJ bsJ 100 ((186, 186), (0, 60), (1, 0), ((-2147483648), 2147483647)) := frL_hull (by decide) (by decide +kernel)
abbrev wz_1f04a : List Nat := [5, 26, 171, 172, 173, 174, 175, 176, 182, 10106]
theorem x6_77 : f60c xTc xTys xm_77 = true := by decide +kernel
theorem x6_92 : f60c xTc xTys xm_92 = true := by decide +kernel
abbrev wz_b5181 : List Nat := [181]
theorem x6_93 : f60c xTc xTys xm_93 = true := by decide +kernel
theorem rS_181_181_0_23_1_0 : frS gJ bsJ znJ [181] 100 ((181, 181), (0, 23), (1, 0), ((-2147483648), 2147483647)) := frS_dflt (by decide) (by decide +kernel)
abbrev wz_e3569 : List Nat := [5, 26, 181]
theorem x6_91 : f60c xTc xTys xm_91 = true := by decide +kernel
abbrev wz_57158 : List Nat := [168, 170]
theorem x6_95 : f60c xTc xTys xm_95 = true := by decide +kernel
theorem rL_170_170_0_23_1_0 : frL gJ bsJ 100 ((170, 170), (0, 23), (1, 0), ((-2147483648), 2147483647)) := frL_hull (by decide) (by decide +kernel)
theorem x6_76 : f60c xTc xTys xm_76 = true := by decide +kernel
theorem rL_73_162_7_7_1_0 : frL gJ bsJ 100 ((73, 162), (7, 7), (1, 0), (0, 19)) := frL_of (by decide +kernel)
theorem rL_73_162_5_5_1_0 : frL gJ bsJ 100 ((73, 162), (5, 5), (1, 0), ((-2147483648), 2147483647)) := frL_hull (by decide) (by decide +kernel)
theorem rL_48_67_0_5_1_0 : frL gJ bsJ 100 ((48, 67), (0, 5), (1, 0), ((-2147483648), 2147483647)) := frL_hull (by decide) (by decide +kernel)
theorem rgG_73_162 {o : Nat} (h1 : 73 ≤ o) (h2 : o ≤ 162) : gJ.1 o = some (100, 8) ∧ ∀ j, j < 8 → gJ.2 o j = none := frG_of (a0 := 73) (a1 := 162) (by decide +kernel) h1 h2
theorem rL_73_162_0_5_1_0 : frL gJ bsJ 100 ((73, 162), (0, 5), (1, 0), ((-2147483648), 2147483647)) := frL_hull (by decide) (by decide +kernel)
abbrev wz_0cc09 : List Nat := [47, 72, 10212]
theorem x6_74 : f60c xTc xTys xm_74 = true := by decide +kernel
theorem fb_2_12 : bsJ 2 12 = (0, 90) := by decide +kernel
theorem rL_73_162_6_6_1_0 : frL gJ bsJ 100 ((73, 162), (6, 6), (1, 0), ((-2147483648), 2147483647)) := frL_hull (by decide) (by decide +kernel)
theorem x6_89 : f60c xTc xTys xm_89 = true := by decide +kernel
theorem rL_70_70_0_23_1_0 : frL gJ bsJ 100 ((70, 70), (0, 23), (1, 0), ((-2147483648), 2147483647)) := frL_hull (by decide) (by decide +kernel)
theorem rL_68_68_0_23_1_0 : frL gJ bsJ 100 ((68, 68), (0, 23), (1, 0), (0, 19)) := frL_of (by decide +kernel)
theorem rL_69_69_0_23_1_0 : frL gJ bsJ 100 ((69, 69), (0, 23), (1, 0), (0, 19)) := frL_of (by decide +kernel)
theorem x6_88 : f60c xTc xTys xm_88 = true := by decide +kernel
abbrev wz_fd6d1 : List Nat := [10105]
theorem x6_94 : f60c xTc xTys xm_94 = true := by decide +kernel
theorem x6_98 : f60c xTc xTys xm_98 = true := by decide +kernel
theorem rS_73_162_0_4_1_0 : frS gJ bsJ znJ [72] 100 ((73, 162), (0, 4), (1, 0), ((-2147483648), 2147483647)) := frS_of (by decide +kernel)
theorem rS_73_162_5_5_1_0 : frS gJ bsJ znJ [72] 100 ((73, 162), (5, 5), (1, 0), ((-2147483648), 2147483647)) := frS_of (by decide +kernel)
theorem rS_73_162_6_6_1_0 : frS gJ bsJ znJ [72] 100 ((73, 162), (6, 6), (1, 0), ((-2147483648), 2147483647)) := frS_of (by decide +kernel)
theorem rS_73_162_7_7_1_0 : frS gJ bsJ znJ [72] 100 ((73, 162), (7, 7), (1, 0), (0, 19)) := frS_of (by decide +kernel)
theorem x6_97 : f60c xTc xTys xm_97 = true := by decide +kernel
theorem x6_96 : f60c xTc xTys xm_96 = true := by decide +kernel
abbrev wz_c5d03 : List Nat := [5, 26, 47, 72, 168, 170, 171, 172, 173, 174, 175, 176, 181, 182, 10105, 10106, 10109, 10212]
theorem x6_73 : f60c xTc xTys xm_73 = true := by decide +kernel
theorem x6_72 : f60c xTc xTys xm_72 = true := by decide +kernel
abbrev wz_11492 : List Nat := [20308, 20309, 20310]
theorem x6_296 : f60c xTc xTys xm_296 = true := by decide +kernel
theorem rL_741_741_540_862_14_0 : frL gJ bsJ 100 ((741, 741), (540, 862), (14, 0), ((-2147483648), 2147483647)) := frL_hull (by decide) (by decide +kernel)
theorem rS_741_741_540_862_14_0 : frS gJ bsJ znJ [20310] 100 ((741, 741), (540, 862), (14, 0), ((-2147483648), 2147483647)) := frS_of (by decide +kernel)
theorem rS_741_741_538_860_14_0 : frS gJ bsJ znJ [20308] 100 ((741, 741), (538, 860), (14, 0), ((-2147483648), 2147483647)) := frS_of (by decide +kernel)
theorem x6_294 : f60c xTc xTys xm_294 = true := by decide +kernel
theorem rL_741_741_533_855_14_0 : frL gJ bsJ 100 ((741, 741), (533, 855), (14, 0), ((-2147483648), 2147483647)) := frL_hull (by decide) (by decide +kernel)
theorem x6_291 : f60c xTc xTys xm_291 = true := by decide +kernel
abbrev wz_ad13a : List Nat := [20108, 20305, 20306, 20307]
theorem x6_295 : f60c xTc xTys xm_295 = true := by decide +kernel
theorem rL_741_741_537_859_14_0 : frL gJ bsJ 100 ((741, 741), (537, 859), (14, 0), ((-2147483648), 2147483647)) := frL_hull (by decide) (by decide +kernel)
theorem rS_741_741_537_859_14_0 : frS gJ bsJ znJ [20307] 100 ((741, 741), (537, 859), (14, 0), ((-2147483648), 2147483647)) := frS_of (by decide +kernel)
theorem rL_741_741_38_418_20_0 : frL gJ bsJ 100 ((741, 741), (38, 418), (20, 0), ((-2147483648), 2147483647)) := frL_hull (by decide) (by decide +kernel)
theorem rS_741_741_38_418_20_0 : frS gJ bsJ znJ [20108] 100 ((741, 741), (38, 418), (20, 0), ((-2147483648), 2147483647)) := frS_of (by decide +kernel)
theorem x6_290 : f60c xTc xTys xm_290 = true := by decide +kernel
abbrev wz_e4f60 : List Nat := [20101, 20102, 20103, 20104, 20105, 20107, 20108, 20109, 20110, 20111]
theorem x6_292 : f60c xTc xTys xm_292 = true := by decide +kernel
theorem rS_741_741_37_421_20_4 : frS gJ bsJ znJ [20107, 20108, 20109, 20110, 20111] 100 ((741, 741), (37, 421), (20, 4), ((-2147483648), 2147483647)) := frS_of (by decide +kernel)
abbrev wz_76090 : List Nat := [20022, 20101, 20102, 20103, 20104, 20105, 20107, 20108, 20109, 20110, 20111]
theorem x6_293 : f60c xTc xTys xm_293 = true := by decide +kernel
theorem rL_741_741_22_22_1_0 : frL gJ bsJ 100 ((741, 741), (22, 22), (1, 0), ((-2147483648), 2147483647)) := frL_hull (by decide) (by decide +kernel)
theorem rS_741_741_22_22_1_0 : frS gJ bsJ znJ [20022] 100 ((741, 741), (22, 22), (1, 0), ((-2147483648), 2147483647)) := frS_of (by decide +kernel)
theorem rL_741_741_34_414_20_0 : frL gJ bsJ 100 ((741, 741), (34, 414), (20, 0), ((-2147483648), 2147483647)) := frL_hull (by decide) (by decide +kernel)
theorem rS_741_741_34_414_20_0 : frS gJ bsJ znJ [20104] 100 ((741, 741), (34, 414), (20, 0), ((-2147483648), 2147483647)) := frS_of (by decide +kernel)
theorem x6_289 : f60c xTc xTys xm_289 = true := by decide +kernel
theorem rL_741_741_33_413_20_0 : frL gJ bsJ 100 ((741, 741), (33, 413), (20, 0), ((-2147483648), 2147483647)) := frL_hull (by decide) (by decide +kernel)
theorem rS_741_741_33_413_20_0 : frS gJ bsJ znJ [20103] 100 ((741, 741), (33, 413), (20, 0), ((-2147483648), 2147483647)) := frS_of (by decide +kernel)
abbrev wz_40ea8 : List Nat := [20002, 20022, 20101, 20102, 20103, 20104, 20105, 20107, 20108, 20109, 20110, 20111, 20305, 20306, 20307, 20308, 20309, 20310]
theorem x6_288 : f60c xTc xTys xm_288 = true := by decide +kernel
theorem x6_297 : f60c xTc xTys xm_297 = true := by decide +kernel
theorem rL_741_741_432_524_4_0 : frL gJ bsJ 100 ((741, 741), (432, 524), (4, 0), ((-2147483648), 2147483647)) := frL_hull (by decide) (by decide +kernel)
theorem rL_741_741_430_522_4_0 : frL gJ bsJ 100 ((741, 741), (430, 522), (4, 0), (0, 19)) := frL_of (by decide +kernel)
theorem rL_741_741_431_523_4_0 : frL gJ bsJ 100 ((741, 741), (431, 523), (4, 0), (0, 19)) := frL_of (by decide +kernel)
abbrev wz_fa024 : List Nat := [20001]
theorem x6_301 : f60c xTc xTys xm_301 = true := by decide +kernel
abbrev wz_3cf37 : List Nat := [20112, 20113, 20114, 20115, 20116, 20117]
theorem x6_287 : f60c xTc xTys xm_287 = true := by decide +kernel
theorem rL_741_741_31_4327_1_0 : frL gJ bsJ 100 ((741, 741), (31, 4327), (1, 0), ((-2147483648), 2147483647)) := frL_hull (by decide) (by decide +kernel)
theorem rS_741_741_42_426_20_4 : frS gJ bsJ znJ [20112, 20113, 20114, 20115, 20116] 100 ((741, 741), (42, 426), (20, 4), ((-2147483648), 2147483647)) := frS_of (by decide +kernel)
theorem rL_741_741_47_427_20_0 : frL gJ bsJ 100 ((741, 741), (47, 427), (20, 0), ((-2147483648), 2147483647)) := frL_hull (by decide) (by decide +kernel)
abbrev wz_24e16 : List Nat := [20013, 20112, 20113, 20114, 20115, 20116, 20117, 20700, 20701, 20702, 20703, 20704, 20705, 20706, 20707]
theorem x6_286 : f60c xTc xTys xm_286 = true := by decide +kernel
theorem rL_741_741_13_13_1_0 : frL gJ bsJ 100 ((741, 741), (13, 13), (1, 0), (0, 90)) := frL_of (by decide +kernel)
theorem rS_741_741_13_13_1_0 : frS gJ bsJ znJ [20013] 100 ((741, 741), (13, 13), (1, 0), (0, 90)) := frS_of (by decide +kernel)
theorem rL_741_741_3617_4329_8_0 : frL gJ bsJ 100 ((741, 741), (3617, 4329), (8, 0), ((-2147483648), 2147483647)) := frL_hull (by decide) (by decide +kernel)
theorem rL_741_741_3610_4322_8_0 : frL gJ bsJ 100 ((741, 741), (3610, 4322), (8, 0), (0, 19)) := frL_of (by decide +kernel)
theorem rL_741_741_3616_4328_8_0 : frL gJ bsJ 100 ((741, 741), (3616, 4328), (8, 0), ((-2147483648), 2147483647)) := frL_hull (by decide) (by decide +kernel)
theorem rL_741_741_3610_4329_8_7 : frL gJ bsJ 100 ((741, 741), (3610, 4329), (8, 7), ((-2147483648), 2147483647)) := frL_hull (by decide) (by decide +kernel)
abbrev wz_d1017 : List Nat := [20304, 20312]
theorem x6_302 : f60c xTc xTys xm_302 = true := by decide +kernel
theorem rL_741_741_542_864_14_0 : frL gJ bsJ 100 ((741, 741), (542, 864), (14, 0), ((-2147483648), 2147483647)) := frL_hull (by decide) (by decide +kernel)
theorem rS_741_741_542_864_14_0 : frS gJ bsJ znJ [20312] 100 ((741, 741), (542, 864), (14, 0), ((-2147483648), 2147483647)) := frS_of (by decide +kernel)
theorem rL_741_741_541_863_14_0 : frL gJ bsJ 100 ((741, 741), (541, 863), (14, 0), ((-2147483648), 2147483647)) := frL_hull (by decide) (by decide +kernel)
theorem x6_304 : f60c xTc xTys xm_304 = true := by decide +kernel
theorem x6_303 : f60c xTc xTys xm_303 = true := by decide +kernel
theorem rL_741_741_4_4_1_0 : frL gJ bsJ 100 ((741, 741), (4, 4), (1, 0), (0, 99)) := frL_of (by decide +kernel)
theorem rS_741_741_3610_4322_8_0 : frS gJ bsJ znJ [20700] 100 ((741, 741), (3610, 4322), (8, 0), (0, 19)) := frS_of (by decide +kernel)
theorem rS_741_741_3616_4328_8_0 : frS gJ bsJ znJ [20706] 100 ((741, 741), (3616, 4328), (8, 0), ((-2147483648), 2147483647)) := frS_of (by decide +kernel)
theorem rS_741_741_3617_4329_8_0 : frS gJ bsJ znJ [20707] 100 ((741, 741), (3617, 4329), (8, 0), ((-2147483648), 2147483647)) := frS_of (by decide +kernel)
theorem rS_741_741_3611_4327_8_4 : frS gJ bsJ znJ [20701, 20702, 20703, 20704, 20705] 100 ((741, 741), (3611, 4327), (8, 4), ((-2147483648), 2147483647)) := frS_of (by decide +kernel)
theorem x6_298 : f60c xTc xTys xm_298 = true := by decide +kernel
theorem x6_300 : f60c xTc xTys xm_300 = true := by decide +kernel
abbrev wz_69747 : List Nat := [20101, 20102, 20103, 20104, 20105, 20107, 20108, 20109, 20110, 20111, 20403]
theorem x6_299 : f60c xTc xTys xm_299 = true := by decide +kernel
theorem rL_741_741_31_411_20_0 : frL gJ bsJ 100 ((741, 741), (31, 411), (20, 0), ((-2147483648), 2147483647)) := frL_hull (by decide) (by decide +kernel)
theorem rS_741_741_31_411_20_0 : frS gJ bsJ znJ [20101] 100 ((741, 741), (31, 411), (20, 0), ((-2147483648), 2147483647)) := frS_of (by decide +kernel)
theorem rS_741_741_873_1011_6_0 : frS gJ bsJ znJ [20403] 100 ((741, 741), (873, 1011), (6, 0), ((-2147483648), 2147483647)) := frS_of (by decide +kernel)
abbrev wz_f4290 : List Nat := [20000, 20001, 20002, 20013, 20022, 20101, 20102, 20103, 20104, 20105, 20107, 20108, 20109, 20110, 20111, 20112, 20113, 20114, 20115, 20116, 20117, 20304, 20305, 20306, 20307, 20308, 20309, 20310, 20312, 20403, 20700, 20701, 20702, 20703, 20704, 20705, 20706, 20707]
theorem x6_285 : f60c xTc xTys xm_285 = true := by decide +kernel
theorem rS_741_741_0_0_1_0 : frS gJ bsJ znJ [20000] 100 ((741, 741), (0, 0), (1, 0), (0, 22000)) := frS_of (by decide +kernel)
theorem x6_284 : f60c xTc xTys xm_284 = true := by decide +kernel
abbrev wz_4ceb6 : List Nat := [178, 179, 180, 181, 10404]
theorem x6_100 : f60c xTc xTys xm_100 = true := by decide +kernel
theorem rS_178_178_0_23_1_0 : frS gJ bsJ znJ [178] 100 ((178, 178), (0, 23), (1, 0), ((-2147483648), 2147483647)) := frS_dflt (by decide) (by decide +kernel)
theorem rS_179_179_0_23_1_0 : frS gJ bsJ znJ [179] 100 ((179, 179), (0, 23), (1, 0), ((-2147483648), 2147483647)) := frS_dflt (by decide) (by decide +kernel)
theorem rS_180_180_0_23_1_0 : frS gJ bsJ znJ [180] 100 ((180, 180), (0, 23), (1, 0), (0, 19)) := frS_of (by decide +kernel)
theorem x6_99 : f60c xTc xTys xm_99 = true := by decide +kernel
abbrev wz_e1d4d : List Nat := [20008, 20400, 20401, 20402, 20403, 20404]
theorem x6_305 : f60c xTc xTys xm_305 = true := by decide +kernel
theorem rS_741_741_870_1008_6_0 : frS gJ bsJ znJ [20400] 100 ((741, 741), (870, 1008), (6, 0), ((-2147483648), 2147483647)) := frS_of (by decide +kernel)
theorem rS_741_741_871_1009_6_0 : frS gJ bsJ znJ [20401] 100 ((741, 741), (871, 1009), (6, 0), ((-2147483648), 2147483647)) := frS_of (by decide +kernel)
theorem rS_741_741_872_1010_6_0 : frS gJ bsJ znJ [20402] 100 ((741, 741), (872, 1010), (6, 0), (0, 19)) := frS_of (by decide +kernel)
theorem rS_741_741_874_1012_6_0 : frS gJ bsJ znJ [20404] 100 ((741, 741), (874, 1012), (6, 0), ((-2147483648), 2147483647)) := frS_of (by decide +kernel)
theorem rS_741_741_8_8_1_0 : frS gJ bsJ znJ [20008] 100 ((741, 741), (8, 8), (1, 0), (0, 24)) := frS_of (by decide +kernel)
abbrev wz_23056 : List Nat := [180]
abbrev wz_acbb3 : List Nat := [179]
abbrev wz_389c2 : List Nat := [178]
abbrev wz_816f0 : List Nat := [178, 179, 180, 181]
theorem x6_101 : f60c xTc xTys xm_101 = true := by decide +kernel
abbrev wz_4df1d : List Nat := [20400, 20401, 20402, 20403]
theorem rS_741_741_870_1009_6_1 : frS gJ bsJ znJ [20400, 20401] 100 ((741, 741), (870, 1009), (6, 1), ((-2147483648), 2147483647)) := frS_of (by decide +kernel)
theorem x6_306 : f60c xTc xTys xm_306 = true := by decide +kernel
theorem x6_102 : f60c xTc xTys xm_102 = true := by decide +kernel
theorem x6_307 : f60c xTc xTys xm_307 = true := by decide +kernel
theorem rL_741_741_870_1011_6_3 : frL gJ bsJ 100 ((741, 741), (870, 1011), (6, 3), ((-2147483648), 2147483647)) := frL_hull (by decide) (by decide +kernel)
theorem x6_106 : f60c xTc xTys xm_106 = true := by decide +kernel
theorem x6_105 : f60c xTc xTys xm_105 = true := by decide +kernel
theorem x6_104 : f60c xTc xTys xm_104 = true := by decide +kernel
abbrev wz_7e5e0 : List Nat := [178, 179, 180, 181, 207, 208, 10404]
theorem x6_103 : f60c xTc xTys xm_103 = true := by decide +kernel
abbrev wz_b3a7d : List Nat := [700, 11701]
theorem x6_109 : f60c xTc xTys xm_109 = true := by decide +kernel
theorem fb_699_1 : bsJ 699 1 = (0, 96) := by decide +kernel
theorem rS_700_700_0_95_1_0 : frS gJ bsJ znJ [700] 100 ((700, 700), (0, 95), (1, 0), (0, 255)) := frS_of (by decide +kernel)
theorem x6_108 : f60c xTc xTys xm_108 = true := by decide +kernel
theorem x6_107 : f60c xTc xTys xm_107 = true := by decide +kernel
abbrev wz_68031 : List Nat := [747, 12208]
theorem x6_310 : f60c xTc xTys xm_310 = true := by decide +kernel
theorem fb_740_8 : bsJ 740 8 = (0, 96) := by decide +kernel
theorem rS_747_747_0_95_1_0 : frS gJ bsJ znJ [747] 100 ((747, 747), (0, 95), (1, 0), ((-2147483648), 2147483647)) := frS_dflt (by decide) (by decide +kernel)
abbrev wz_6427d : List Nat := [11701]
theorem x6_110 : f60c xTc xTys xm_110 = true := by decide +kernel
abbrev wz_9d31e : List Nat := [12208]
theorem x6_311 : f60c xTc xTys xm_311 = true := by decide +kernel
theorem x6_113 : f60c xTc xTys xm_113 = true := by decide +kernel
theorem rL_700_700_0_95_1_0 : frL gJ bsJ 100 ((700, 700), (0, 95), (1, 0), (0, 255)) := frL_of (by decide +kernel)
theorem x6_115 : f60c xTc xTys xm_115 = true := by decide +kernel
theorem x6_116 : f60c xTc xTys xm_116 = true := by decide +kernel
theorem x6_114 : f60c xTc xTys xm_114 = true := by decide +kernel
theorem x6_133 : f60c xTc xTys xm_133 = true := by decide +kernel
theorem x6_132 : f60c xTc xTys xm_132 = true := by decide +kernel
theorem rL_191_191_0_11_1_0 : frL gJ bsJ 100 ((191, 191), (0, 11), (1, 0), ((-2147483648), 2147483647)) := frL_hull (by decide) (by decide +kernel)
theorem x6_425 : f60c xTc xTys xm_425 = true := by decide +kernel
theorem rL_741_741_9_9_1_0 : frL gJ bsJ 100 ((741, 741), (9, 9), (1, 0), (0, 12)) := frL_of (by decide +kernel)
theorem x6_424 : f60c xTc xTys xm_424 = true := by decide +kernel
theorem rL_741_741_1210_3413_200_3 : frL gJ bsJ 100 ((741, 741), (1210, 3413), (200, 3), ((-2147483648), 2147483647)) := frL_hull (by decide) (by decide +kernel)
abbrev wz_60872 : List Nat := [206]
theorem rS_206_206_0_23_1_0 : frS gJ bsJ znJ [206] 100 ((206, 206), (0, 23), (1, 0), ((-2147483648), 2147483647)) := frS_dflt (by decide) (by decide +kernel)
abbrev wz_0f088 : List Nat := [206, 10507, 10508]
theorem x6_135 : f60c xTc xTys xm_135 = true := by decide +kernel
theorem fb_187_7 : bsJ 187 7 = ((-2147483648), 2147483647) := by decide +kernel
theorem fb_187_8 : bsJ 187 8 = (0, 1) := by decide +kernel
theorem x6_134 : f60c xTc xTys xm_134 = true := by decide +kernel
abbrev wz_8c264 : List Nat := [20014, 20015, 20016, 20404]
theorem x6_426 : f60c xTc xTys xm_426 = true := by decide +kernel
theorem rL_741_741_14_14_1_0 : frL gJ bsJ 100 ((741, 741), (14, 14), (1, 0), ((-1), 11)) := frL_of (by decide +kernel)
theorem rS_741_741_14_14_1_0 : frS gJ bsJ znJ [20014] 100 ((741, 741), (14, 14), (1, 0), ((-1), 11)) := frS_of (by decide +kernel)
theorem rS_741_741_15_15_1_0 : frS gJ bsJ znJ [20015] 100 ((741, 741), (15, 15), (1, 0), ((-2147483648), 2147483647)) := frS_of (by decide +kernel)
theorem rS_741_741_16_16_1_0 : frS gJ bsJ znJ [20016] 100 ((741, 741), (16, 16), (1, 0), ((-2147483648), 2147483647)) := frS_of (by decide +kernel)
theorem x6_137 : f60c xTc xTys xm_137 = true := by decide +kernel
theorem x6_138 : f60c xTc xTys xm_138 = true := by decide +kernel
theorem rL_206_206_0_23_1_0 : frL gJ bsJ 100 ((206, 206), (0, 23), (1, 0), ((-2147483648), 2147483647)) := frL_hull (by decide) (by decide +kernel)
abbrev wz_60f7b : List Nat := [206, 207, 208]
theorem x6_136 : f60c xTc xTys xm_136 = true := by decide +kernel
theorem x6_141 : f60c xTc xTys xm_141 = true := by decide +kernel
theorem x6_140 : f60c xTc xTys xm_140 = true := by decide +kernel
abbrev wz_9fced : List Nat := [189, 190, 10507]
theorem x6_142 : f60c xTc xTys xm_142 = true := by decide +kernel
theorem rS_189_189_0_11_1_0 : frS gJ bsJ znJ [189] 100 ((189, 189), (0, 11), (1, 0), ((-2147483648), 2147483647)) := frS_dflt (by decide) (by decide +kernel)
theorem rS_190_190_0_11_1_0 : frS gJ bsJ znJ [190] 100 ((190, 190), (0, 11), (1, 0), ((-2147483648), 2147483647)) := frS_dflt (by decide) (by decide +kernel)
abbrev wz_e2fc1 : List Nat := [189, 190, 207, 208, 10507]
theorem x6_139 : f60c xTc xTys xm_139 = true := by decide +kernel
section CT
variable {ρ : Nat → Int32} {base n : Nat} {F : Nat → Prop} {D : va_G} {dA : Nat → ClassId} {la : Launch}
abbrev jc_M_weight_47499_4 : Nat → fL → List fV → fH → Prop := fun m lv st I => ∃ (y1 : Int) (y3 : Int), lv = [(0, .inr (.inr (some 740))), (1, .inr (.inl y1)), (3, .inl y3)] ∧ st = [] ∧ ((((-9223372036854775808) ≤ y1 ∧ y1 ≤ 9223372036854775807) ∧ (0 ≤ y3 ∧ y3 ≤ 24))) ∧ m = (158 + 1 * (24 - y3) : Int).toNat
abbrev jc_M_weight_47499_67 : Nat → fL → List fV → fH → Prop := fun m lv st I => ∃ (y1 : Int) (y3 : Int), lv = [(0, .inr (.inr (some 740))), (1, .inr (.inl y1)), (3, .inl y3)] ∧ st = [] ∧ ((((-9223372036854775808) ≤ y1 ∧ y1 ≤ 9223372036854775807) ∧ (0 ≤ y3 ∧ y3 ≤ 24))) ∧ m = (133 + 1 * (24 - y3) : Int).toNat
abbrev jc_M_weight_47499_107 : Nat → fL → List fV → fH → Prop := fun m lv st I => ∃ (y1 : Int) (y3 : Int) (y5 : Int), lv = [(0, .inr (.inr (some 740))), (1, .inr (.inl y1)), (3, .inr (.inl y3)), (5, .inl y5)] ∧ st = [] ∧ ((((-9223372036854775808) ≤ y1 ∧ y1 ≤ 9223372036854775807) ∧ ((-9223372036854775808) ≤ y3 ∧ y3 ≤ 9223372036854775807) ∧ (0 ≤ y5 ∧ y5 ≤ 5))) ∧ m = (127 + 1 * (5 - y5) : Int).toNat
abbrev jc_M_weight_47499_136 : Nat → fL → List fV → fH → Prop := fun m lv st I => ∃ (y1 : Int) (y3 : Int) (y5 : Int), lv = [(0, .inr (.inr (some 740))), (1, .inr (.inl y1)), (3, .inr (.inl y3)), (5, .inl y5)] ∧ st = [] ∧ ((((-9223372036854775808) ≤ y1 ∧ y1 ≤ 9223372036854775807) ∧ ((-9223372036854775808) ≤ y3 ∧ y3 ≤ 9223372036854775807) ∧ (0 ≤ y5 ∧ y5 ≤ 20))) ∧ m = (6 + 6 * (20 - y5) : Int).toNat
abbrev jc_M_weight_47499_150 : Nat → fL → List fV → fH → Prop := fun m lv st I => ∃ (y1 : Int) (y3 : Int) (y5 : Int) (y6 : Int), lv = [(0, .inr (.inr (some 740))), (1, .inr (.inl y1)), (3, .inr (.inl y3)), (5, .inl y5), (6, .inl y6)] ∧ st = [] ∧ ((((-9223372036854775808) ≤ y1 ∧ y1 ≤ 9223372036854775807) ∧ ((-9223372036854775808) ≤ y3 ∧ y3 ≤ 9223372036854775807) ∧ (0 ≤ y5 ∧ y5 ≤ 19) ∧ (0 ≤ y6 ∧ y6 ≤ 4) ∧ (1 ≤ I 741 5 ∧ I 741 5 ≤ 20))) ∧ m = (1 + 6 * (20 - y5) + 1 * (4 - y6) : Int).toNat
set_option maxRecDepth 8000 in
theorem ct_M_weight_47499 {I : fH}  (h0 : fB bsJ I)  : fC ρ base n F xTc vwCl xTys D dA la gJ (fbz bsJ znJ (fKc []) I) xm_282 [.inr (.inr (some 740))] I (fun _ r => ∃ z, r = some (.inr (.inl z)) ∧ ((-9223372036854775808) ≤ z ∧ z ≤ 9223372036854775807)) := by
  have hW : fzs [] (fKc []) := fKc_ok _
  refine f_meth (rb := rbJ) (J := [(4, jc_M_weight_47499_4), (67, jc_M_weight_47499_67), (107, jc_M_weight_47499_107), (136, jc_M_weight_47499_136), (150, jc_M_weight_47499_150)]) 183 400 xG xin_282 x6_282 okJ (fB_self h0) ?_ ?_
  · refine List.forall_mem_cons.mpr ⟨?_, List.forall_mem_cons.mpr ⟨?_, List.forall_mem_cons.mpr ⟨?_, List.forall_mem_cons.mpr ⟨?_, List.forall_mem_cons.mpr ⟨?_, fun q h => absurd h List.not_mem_nil⟩⟩⟩⟩⟩
    · rintro m _ _ I1 hB1 ⟨y1, y3, rfl, rfl, hb, hm⟩
      refine And.intro ⟨rfl, by decide, by decide⟩ ?_
      refine fload rL_741_741_7_7_1_0 h0 hB1 (by omega) ?_
      intro z1 lz1 uz1 qz1
      have pz1 := fld_at qz1 7 (by omega)
      refine And.intro (by omega) (And.intro ?_ ?_)
      · intro c2
        exact fcutJ (I := I1) (j := jc_M_weight_47499_67) (lv' := [(0, .inr (.inr (some 740))), (1, .inr (.inl _)), (3, .inl _)]) (And.intro rfl (And.intro rfl (And.intro rfl True.intro))) ⟨_, _, rfl, rfl, by omega, rfl⟩ (by omega)
      · intro c3
        refine Exists.intro xm_245 (And.intro mi_245 (And.intro ⟨rfl, rfl, rfl, rfl⟩ (And.intro rfl ?_)))
        refine fcallp hB1 (ct_M_isGone_0de37 (fBz h0 hB1) (by omega)) ?_
        rintro _ ⟨z4, rfl, hz4⟩
        refine And.intro (by omega) (And.intro ?_ ?_)
        · intro c5
          intro z6 hz6 ez6 bz6
          exact fcutJ (I := I1) (j := jc_M_weight_47499_4) (lv' := [(0, .inr (.inr (some 740))), (1, .inr (.inl _)), (3, .inl _)]) (And.intro rfl (And.intro rfl (And.intro rfl True.intro))) ⟨_, _, rfl, rfl, by omega, rfl⟩ (by omega)
        · intro c7
          refine And.intro ⟨rfl, by decide, by decide⟩ ?_
          refine Exists.intro xm_244 (And.intro mi_244 (And.intro ⟨rfl, rfl, rfl, rfl⟩ (And.intro rfl ?_)))
          refine fcallp hB1 (ct_M_workAt_83d38 (fBz h0 hB1) (by omega)) ?_
          rintro _ ⟨_, rfl, rfl⟩
          refine fload rL_741_741_539_861_14_0 h0 hB1 (by omega) ?_
          intro z9 lz9 uz9 qz9
          refine And.intro (by omega) (And.intro ?_ ?_)
          · intro c10
            intro z11 hz11 ez11 bz11
            exact fcutJ (I := I1) (j := jc_M_weight_47499_4) (lv' := [(0, .inr (.inr (some 740))), (1, .inr (.inl _)), (3, .inl _)]) (And.intro rfl (And.intro rfl (And.intro rfl True.intro))) ⟨_, _, rfl, rfl, by omega, rfl⟩ (by omega)
          · intro c12
            refine And.intro ⟨rfl, by decide, by decide⟩ ?_
            refine Exists.intro xm_244 (And.intro mi_244 (And.intro ⟨rfl, rfl, rfl, rfl⟩ (And.intro rfl ?_)))
            refine fcallp hB1 (ct_M_workAt_83d38 (fBz h0 hB1) (by omega)) ?_
            rintro _ ⟨_, rfl, rfl⟩
            refine fload rL_741_741_532_854_14_0 h0 hB1 (by omega) ?_
            intro z14 lz14 uz14 qz14
            refine And.intro (by omega) ?_
            intro z15 hz15 ez15 bz15
            exact fcutJ (I := I1) (j := jc_M_weight_47499_4) (lv' := [(0, .inr (.inr (some 740))), (1, .inr (.inl _)), (3, .inl _)]) (And.intro rfl (And.intro rfl (And.intro rfl True.intro))) ⟨_, _, rfl, rfl, by omega, rfl⟩ (by omega)
    · rintro m _ _ I1 hB1 ⟨y1, y3, rfl, rfl, hb, hm⟩
      refine And.intro ⟨rfl, by decide, by decide⟩ ?_
      refine fload rL_741_741_8_8_1_0 h0 hB1 (by omega) ?_
      intro z16 lz16 uz16 qz16
      have pz16 := fld_at qz16 8 (by omega)
      refine And.intro (by omega) (And.intro ?_ ?_)
      · intro c17
        exact fcutJ (I := I1) (j := jc_M_weight_47499_107) (lv' := [(0, .inr (.inr (some 740))), (1, .inr (.inl _)), (3, .inr (.inl _)), (5, .inl _)]) (And.intro rfl (And.intro rfl (And.intro rfl (And.intro rfl True.intro)))) ⟨_, _, _, rfl, rfl, by omega, rfl⟩ (by omega)
      · intro c18
        refine Exists.intro xm_248 (And.intro mi_248 (And.intro ⟨rfl, rfl, rfl, rfl⟩ (And.intro rfl ?_)))
        refine fcallp hB1 (ct_M_isDead_21e1a (fBz h0 hB1) (by omega)) ?_
        rintro _ ⟨z19, rfl, hz19⟩
        refine And.intro (by omega) (And.intro ?_ ?_)
        · intro c20
          intro z21 hz21 ez21 bz21
          exact fcutJ (I := I1) (j := jc_M_weight_47499_67) (lv' := [(0, .inr (.inr (some 740))), (1, .inr (.inl _)), (3, .inl _)]) (And.intro rfl (And.intro rfl (And.intro rfl True.intro))) ⟨_, _, rfl, rfl, by omega, rfl⟩ (by omega)
        · intro c22
          intro z23 hz23 ez23 bz23
          exact fcutJ (I := I1) (j := jc_M_weight_47499_67) (lv' := [(0, .inr (.inr (some 740))), (1, .inr (.inl _)), (3, .inl _)]) (And.intro rfl (And.intro rfl (And.intro rfl True.intro))) ⟨_, _, rfl, rfl, by omega, rfl⟩ (by omega)
    · rintro m _ _ I1 hB1 ⟨y1, y3, y5, rfl, rfl, hb, hm⟩
      refine And.intro (by omega) (And.intro ?_ ?_)
      · intro c24
        exact fcutJ (I := I1) (j := jc_M_weight_47499_136) (lv' := [(0, .inr (.inr (some 740))), (1, .inr (.inl _)), (3, .inr (.inl _)), (5, .inl _)]) (And.intro rfl (And.intro rfl (And.intro rfl (And.intro rfl True.intro)))) ⟨_, _, _, rfl, rfl, by omega, rfl⟩ (by omega)
      · intro c25
        refine And.intro ⟨rfl, by decide, by decide⟩ ?_
        refine fload rL_741_741_17_21_1_0 h0 hB1 (by omega) ?_
        intro z26 lz26 uz26 qz26
        refine And.intro (by omega) ?_
        intro z27 hz27 ez27 bz27
        exact fcutJ (I := I1) (j := jc_M_weight_47499_107) (lv' := [(0, .inr (.inr (some 740))), (1, .inr (.inl _)), (3, .inr (.inl _)), (5, .inl _)]) (And.intro rfl (And.intro rfl (And.intro rfl (And.intro rfl True.intro)))) ⟨_, _, _, rfl, rfl, by omega, rfl⟩ (by omega)
    · rintro m _ _ I1 hB1 ⟨y1, y3, y5, rfl, rfl, hb, hm⟩
      refine And.intro ⟨rfl, by decide, by decide⟩ ?_
      refine fload rL_741_741_5_5_1_0 h0 hB1 (by omega) ?_
      intro z28 lz28 uz28 qz28
      have pz28 := fld_at qz28 5 (by omega)
      refine And.intro (by omega) (And.intro ?_ ?_)
      · intro c29
        refine And.intro (And.intro (by omega) (by omega)) ?_
        intro z30 hz30 ez30
        intro z31 hz31 ez31 bz31
        refine And.intro (True.intro) ?_
        exact ⟨_, rfl, by omega⟩
      · intro c32
        exact fcutJ (I := I1) (j := jc_M_weight_47499_150) (lv' := [(0, .inr (.inr (some 740))), (1, .inr (.inl _)), (3, .inr (.inl _)), (5, .inl _), (6, .inl _)]) (And.intro rfl (And.intro rfl (And.intro rfl (And.intro rfl (And.intro rfl True.intro))))) ⟨_, _, _, _, rfl, rfl, by omega, rfl⟩ (by omega)
    · rintro m _ _ I1 hB1 ⟨y1, y3, y5, y6, rfl, rfl, hb, hm⟩
      refine And.intro (by omega) (And.intro ?_ ?_)
      · intro c33
        exact fcutJ (I := I1) (j := jc_M_weight_47499_136) (lv' := [(0, .inr (.inr (some 740))), (1, .inr (.inl _)), (3, .inr (.inl _)), (5, .inl _)]) (And.intro rfl (And.intro rfl (And.intro rfl (And.intro rfl True.intro)))) ⟨_, _, _, rfl, rfl, by omega, rfl⟩ (by omega)
      · intro c34
        refine And.intro ⟨rfl, by decide, by decide⟩ ?_
        refine Exists.intro xm_239 (And.intro mi_239 (And.intro ⟨rfl, rfl, rfl, rfl⟩ (And.intro rfl ?_)))
        refine fcallp hB1 (ct_M_cellAt_c15f4 (fBz h0 hB1) (by omega)) ?_
        rintro _ ⟨_, rfl, rfl⟩
        refine fload rL_741_741_31_414_1_0 h0 hB1 (by omega) ?_
        intro z36 lz36 uz36 qz36
        refine And.intro (by omega) ?_
        intro z37 hz37 ez37 bz37
        exact fcutJ (I := I1) (j := jc_M_weight_47499_150) (lv' := [(0, .inr (.inr (some 740))), (1, .inr (.inl _)), (3, .inr (.inl _)), (5, .inl _), (6, .inl _)]) (And.intro rfl (And.intro rfl (And.intro rfl (And.intro rfl (And.intro rfl True.intro))))) ⟨_, _, _, _, rfl, rfl, by omega, rfl⟩ (by omega)
  · have hB0 := fB_self (zn := znJ) (K := fKc []) h0
    exact fcutJ (I := I) (j := jc_M_weight_47499_4) (lv' := [(0, .inr (.inr (some 740))), (1, .inr (.inl _)), (3, .inl _)]) (And.intro rfl (And.intro rfl (And.intro rfl True.intro))) ⟨_, _, rfl, rfl, by omega, rfl⟩ (by omega)
abbrev jc_M_city_467ce_109 : Nat → fL → List fV → fH → Prop := fun m lv st I => ∃ (y2 : Int) (y3 : Int), lv = [(0, .inr (.inr (some 740))), (2, .inl y2), (3, .inl y3)] ∧ st = [] ∧ ((((-2147483648) ≤ y2 ∧ y2 ≤ 2147483647) ∧ (0 ≤ y3 ∧ y3 ≤ 20))) ∧ m = (6 + 6 * (20 - y3) : Int).toNat
abbrev jc_M_city_467ce_122 : Nat → fL → List fV → fH → Prop := fun m lv st I => ∃ (y2 : Int) (y3 : Int) (y4 : Int), lv = [(0, .inr (.inr (some 740))), (2, .inl y2), (3, .inl y3), (4, .inl y4)] ∧ st = [] ∧ ((((-2147483648) ≤ y2 ∧ y2 ≤ 2147483647) ∧ (0 ≤ y3 ∧ y3 ≤ 19) ∧ (0 ≤ y4 ∧ y4 ≤ 4) ∧ (1 ≤ I 741 5 ∧ I 741 5 ≤ 20))) ∧ m = (1 + 6 * (20 - y3) + 1 * (4 - y4) : Int).toNat
set_option maxRecDepth 8000 in
theorem ct_M_city_467ce {I : fH} {x1 : Int} (h0 : fB bsJ I) (ha1 : ((-2147483648) ≤ x1 ∧ x1 ≤ 2147483647)) : fC ρ base n F xTc vwCl xTys D dA la gJ (fbz bsJ znJ (fKc []) I) xm_279 [.inr (.inr (some 740)), .inl x1] I (fun _ r => ∃ z, r = some (.inl z) ∧ ((-2147483648) ≤ z ∧ z ≤ 2147483647)) := by
  have hW : fzs [] (fKc []) := fKc_ok _
  refine f_meth (rb := rbJ) (J := [(109, jc_M_city_467ce_109), (122, jc_M_city_467ce_122)]) 127 400 xG xin_279 x6_279 okJ (fB_self h0) ?_ ?_
  · refine List.forall_mem_cons.mpr ⟨?_, List.forall_mem_cons.mpr ⟨?_, fun q h => absurd h List.not_mem_nil⟩⟩
    · rintro m _ _ I1 hB1 ⟨y2, y3, rfl, rfl, hb, hm⟩
      refine And.intro ⟨rfl, by decide, by decide⟩ ?_
      refine fload rL_741_741_5_5_1_0 h0 hB1 (by omega) ?_
      intro z1 lz1 uz1 qz1
      have pz1 := fld_at qz1 5 (by omega)
      refine And.intro (by omega) (And.intro ?_ ?_)
      · intro c2
        refine And.intro (True.intro) ?_
        exact ⟨_, rfl, by omega⟩
      · intro c3
        exact fcutJ (I := I1) (j := jc_M_city_467ce_122) (lv' := [(0, .inr (.inr (some 740))), (2, .inl _), (3, .inl _), (4, .inl _)]) (And.intro rfl (And.intro rfl (And.intro rfl (And.intro rfl True.intro)))) ⟨_, _, _, rfl, rfl, by omega, rfl⟩ (by omega)
    · rintro m _ _ I1 hB1 ⟨y2, y3, y4, rfl, rfl, hb, hm⟩
      refine And.intro (by omega) (And.intro ?_ ?_)
      · intro c4
        exact fcutJ (I := I1) (j := jc_M_city_467ce_109) (lv' := [(0, .inr (.inr (some 740))), (2, .inl _), (3, .inl _)]) (And.intro rfl (And.intro rfl (And.intro rfl True.intro))) ⟨_, _, rfl, rfl, by omega, rfl⟩ (by omega)
      · intro c5
        refine And.intro ⟨rfl, by decide, by decide⟩ ?_
        refine Exists.intro xm_239 (And.intro mi_239 (And.intro ⟨rfl, rfl, rfl, rfl⟩ (And.intro rfl ?_)))
        refine fcallp hB1 (ct_M_cellAt_c15f4 (fBz h0 hB1) (by omega)) ?_
        rintro _ ⟨_, rfl, rfl⟩
        refine fload rL_741_741_37_420_1_0 h0 hB1 (by omega) ?_
        intro z7 lz7 uz7 qz7
        intro z8 hz8 ez8 bz8
        exact fcutJ (I := I1) (j := jc_M_city_467ce_122) (lv' := [(0, .inr (.inr (some 740))), (2, .inl _), (3, .inl _), (4, .inl _)]) (And.intro rfl (And.intro rfl (And.intro rfl (And.intro rfl True.intro)))) ⟨_, _, _, rfl, rfl, by omega, rfl⟩ (by omega)
  · have hB0 := fB_self (zn := znJ) (K := fKc []) h0
    refine And.intro (by omega) (And.intro ?_ ?_)
    · refine And.intro (fun ex => ?_) (And.intro (fun ex => ?_) (And.intro (fun ex => ?_) (And.intro (fun ex => ?_) (And.intro (fun ex => ?_) (And.intro (fun ex => ?_) (And.intro (fun ex => ?_) (And.intro (fun ex => ?_) (True.intro))))))))
      · skip
        refine And.intro ⟨rfl, by decide, by decide⟩ ?_
        refine fload rL_741_741_1_1_1_0 h0 hB0 (by omega) ?_
        intro z9 lz9 uz9 qz9
        have pz9 := fld_at qz9 1 (by omega)
        refine And.intro (True.intro) ?_
        exact ⟨_, rfl, by omega⟩
      · skip
        refine Exists.intro xm_260 (And.intro mi_260 (And.intro ⟨rfl, rfl, rfl, rfl⟩ (And.intro rfl ?_)))
        refine fcallp hB0 (ct_M_level_daf8a (fBz h0 hB0)) ?_
        rintro _ ⟨z10, rfl, hz10⟩
        refine And.intro (True.intro) ?_
        exact ⟨_, rfl, by omega⟩
      · skip
        refine Exists.intro xm_280 (And.intro mi_280 (And.intro ⟨rfl, rfl, rfl, rfl⟩ (And.intro rfl ?_)))
        refine fcallp hB0 (ct_M_lift_1d7b0 (fBz h0 hB0)) ?_
        rintro _ ⟨z11, rfl, hz11⟩
        intro z12 hz12 ez12 bz12
        refine And.intro (True.intro) ?_
        exact ⟨_, rfl, by omega⟩
      · skip
        refine Exists.intro xm_282 (And.intro mi_282 (And.intro ⟨rfl, rfl, rfl, rfl⟩ (And.intro rfl ?_)))
        refine fcallp hB0 (ct_M_weight_47499 (fBz h0 hB0)) ?_
        rintro _ ⟨z13, rfl, hz13⟩
        intro z14 hz14 ez14 bz14
        refine And.intro (True.intro) ?_
        exact ⟨_, rfl, by omega⟩
      · skip
        refine And.intro ⟨rfl, by decide, by decide⟩ ?_
        refine fload rL_741_741_2_2_1_0 h0 hB0 (by omega) ?_
        intro z15 lz15 uz15 qz15
        have pz15 := fld_at qz15 2 (by omega)
        refine Exists.intro xm_283 (And.intro mi_283 (And.intro ⟨rfl, rfl, rfl, rfl⟩ (And.intro rfl ?_)))
        refine fcallp hB0 (ct_M_isDay_57f71 (fBz h0 hB0) (by omega)) ?_
        rintro _ ⟨z16, rfl, hz16⟩
        refine And.intro (by omega) (And.intro ?_ ?_)
        · intro c17
          refine And.intro (True.intro) ?_
          exact ⟨_, rfl, by omega⟩
        · intro c18
          refine And.intro (True.intro) ?_
          exact ⟨_, rfl, by omega⟩
      · skip
        refine And.intro ⟨rfl, by decide, by decide⟩ ?_
        refine fload rL_741_741_2_2_1_0 h0 hB0 (by omega) ?_
        intro z19 lz19 uz19 qz19
        have pz19 := fld_at qz19 2 (by omega)
        refine And.intro (True.intro) ?_
        exact ⟨_, rfl, by omega⟩
      · skip
        refine And.intro ⟨rfl, by decide, by decide⟩ ?_
        refine fload rL_741_741_0_0_1_0 h0 hB0 (by omega) ?_
        intro z20 lz20 uz20 qz20
        have pz20 := fld_at qz20 0 (by omega)
        refine And.intro (True.intro) ?_
        exact ⟨_, rfl, by omega⟩
      · skip
        exact fcutJ (I := I) (j := jc_M_city_467ce_109) (lv' := [(0, .inr (.inr (some 740))), (2, .inl _), (3, .inl _)]) (And.intro rfl (And.intro rfl (And.intro rfl True.intro))) ⟨_, _, rfl, rfl, by omega, rfl⟩ (by omega)
    · intro c21
      refine And.intro (by omega) ?_
      refine Exists.intro xm_238 (And.intro mi_238 (And.intro ⟨rfl, rfl, rfl, rfl⟩ (And.intro True.intro ?_)))
      refine fcallp hB0 (ct_M_isIn_27230 (fBz h0 hB0) (by omega) (by omega) (by omega)) ?_
      rintro _ ⟨z22, rfl, hz22⟩
      refine And.intro (by omega) (And.intro ?_ ?_)
      · intro c23
        refine And.intro (True.intro) ?_
        exact ⟨_, rfl, by omega⟩
      · intro c24
        refine And.intro ⟨rfl, by decide, by decide⟩ ?_
        refine fload rL_741_741_17_22_1_0 h0 hB0 (by omega) ?_
        intro z25 lz25 uz25 qz25
        refine And.intro (True.intro) ?_
        exact ⟨_, rfl, by omega⟩
abbrev jc_Cells_leakAll_bf967_2 : Nat → fL → List fV → fH → Prop := fun m lv st I => ∃ (y1 : Int), lv = [(0, .inr (.inr (some 2))), (1, .inl y1)] ∧ st = [] ∧ (((0 ≤ y1 ∧ y1 ≤ 20))) ∧ m = (7 + 7 * (20 - y1) : Int).toNat
abbrev jc_Cells_leakAll_bf967_12 : Nat → fL → List fV → fH → Prop := fun m lv st I => ∃ (y1 : Int) (y2 : Int), lv = [(0, .inr (.inr (some 2))), (1, .inl y1), (2, .inl y2)] ∧ st = [] ∧ (((0 ≤ y1 ∧ y1 ≤ 19) ∧ (0 ≤ y2 ∧ y2 ≤ 5) ∧ (1 ≤ I 2 5 ∧ I 2 5 ≤ 20))) ∧ m = (1 + 7 * (20 - y1) + 1 * (5 - y2) : Int).toNat
set_option maxRecDepth 8000 in
theorem ct_Cells_leakAll_bf967 {I : fH}  (h0 : fB bsJ I)  : fC ρ base n F xTc vwCl xTys D dA la gJ (fbz bsJ znJ (fKc wz_ed400) I) xm_90 [.inr (.inr (some 2))] I (fun _ r => r = none) := by
  have hW : fzs wz_ed400 (fKc wz_ed400) := fKc_ok _
  refine f_meth (rb := rbJ) (J := [(2, jc_Cells_leakAll_bf967_2), (12, jc_Cells_leakAll_bf967_12)]) 148 400 xG xin_90 x6_90 okJ (fB_self h0) ?_ ?_
  · refine List.forall_mem_cons.mpr ⟨?_, List.forall_mem_cons.mpr ⟨?_, fun q h => absurd h List.not_mem_nil⟩⟩
    · rintro m _ _ I1 hB1 ⟨y1, rfl, rfl, hb, hm⟩
      refine And.intro ⟨rfl, by decide, by decide⟩ (fgetf fb_2_5 h0 hB1 ?_)
      intro z1 lz1 uz1 qz1
      refine And.intro (by omega) (And.intro ?_ ?_)
      · intro c2
        exact rfl
      · intro c3
        exact fcutJ (I := I1) (j := jc_Cells_leakAll_bf967_12) (lv' := [(0, .inr (.inr (some 2))), (1, .inl _), (2, .inl _)]) (And.intro rfl (And.intro rfl (And.intro rfl True.intro))) ⟨_, _, rfl, rfl, by omega, rfl⟩ (by omega)
    · rintro m _ _ I1 hB1 ⟨y1, y2, rfl, rfl, hb, hm⟩
      refine And.intro (by omega) (And.intro ?_ ?_)
      · intro c4
        exact fcutJ (I := I1) (j := jc_Cells_leakAll_bf967_2) (lv' := [(0, .inr (.inr (some 2))), (1, .inl _)]) (And.intro rfl (And.intro rfl True.intro)) ⟨_, rfl, rfl, by omega, rfl⟩ (by omega)
      · intro c5
        refine And.intro ⟨rfl, by decide, by decide⟩ ?_
        refine And.intro ⟨rfl, by decide⟩ (And.intro (by omega) ?_)
        refine fload rL_6_25_0_4_1_0 h0 hB1 (by omega) ?_
        intro z6 lz6 uz6 qz6
        refine And.intro ⟨rfl, by decide, by decide⟩ ?_
        refine fload rL_4_4_0_19_1_0 h0 hB1 (by omega) ?_
        intro z7 lz7 uz7 qz7
        intro z8 hz8 ez8 bz8
        refine And.intro (And.intro (by omega) (And.intro (by omega) (And.intro (by omega) rfl))) ?_
        intro z9 hz9 ez9 dz9
        refine And.intro ⟨rfl, by decide, by decide⟩ ?_
        refine And.intro ⟨rfl, by decide⟩ (And.intro (by omega) ?_)
        refine fload rL_6_25_0_4_1_0 h0 hB1 (by omega) ?_
        intro z10 lz10 uz10 qz10
        intro z11 hz11 ez11 bz11
        refine fstore rS_6_25_0_4_1_0 (fzs_sub (by decide +kernel) hW) (by omega) (by omega) ?_
        intro IhB12 ehB12 hB12
        have t13 := fup_self ehB12
        have t14 : IhB12 2 5 = I1 2 5 := (congrFun (congrFun ehB12 2) 5).trans (fup_ne (by omega))
        refine And.intro ⟨rfl, by decide, by decide⟩ ?_
        refine And.intro ⟨rfl, by decide⟩ (And.intro (by omega) ?_)
        refine fload rL_27_46_0_4_1_0 h0 hB12 (by omega) ?_
        intro z15 lz15 uz15 qz15
        intro z16 hz16 ez16 bz16
        refine fstore rS_27_46_0_4_1_0 (fzs_sub (by decide +kernel) hW) (by omega) (by omega) ?_
        intro IhB17 ehB17 hB17
        have t18 := fup_self ehB17
        have t19 : IhB17 2 5 = IhB12 2 5 := (congrFun (congrFun ehB17 2) 5).trans (fup_ne (by omega))
        exact fcutJ (I := IhB17) (j := jc_Cells_leakAll_bf967_12) (lv' := [(0, .inr (.inr (some 2))), (1, .inl _), (2, .inl _)]) (And.intro rfl (And.intro rfl (And.intro rfl True.intro))) ⟨_, _, rfl, rfl, by omega, rfl⟩ (by omega)
  · have hB0 := fB_self (zn := znJ) (K := fKc wz_ed400) h0
    exact fcutJ (I := I) (j := jc_Cells_leakAll_bf967_2) (lv' := [(0, .inr (.inr (some 2))), (1, .inl _)]) (And.intro rfl (And.intro rfl True.intro)) ⟨_, rfl, rfl, by omega, rfl⟩ (by omega)
set_option maxRecDepth 8000 in
theorem ct_Cells_addAir_1fa72 {I : fH} {x1 : Int} {x2 : Int} {x3 : Int} (h0 : fB bsJ I) (ha1 : (0 ≤ x1 ∧ x1 ≤ 19)) (ha2 : (0 ≤ x2 ∧ x2 ≤ 4)) (ha3 : ((-2147483648) ≤ x3 ∧ x3 ≤ 2147483647)) : fC ρ base n F xTc vwCl xTys D dA la gJ (fbz bsJ znJ (fKc wz_ed400) I) xm_84 [.inr (.inr (some 2)), .inl x1, .inl x2, .inl x3] I (fun _ r => r = none) := by
  have hW : fzs wz_ed400 (fKc wz_ed400) := fKc_ok _
  refine f_meth (rb := rbJ) (J := []) 1 400 xG xin_84 x6_84 okJ (fB_self h0) ?_ ?_
  · exact fun q h => absurd h List.not_mem_nil
  · have hB0 := fB_self (zn := znJ) (K := fKc wz_ed400) h0
    refine And.intro ⟨rfl, by decide, by decide⟩ ?_
    refine And.intro ⟨rfl, by decide⟩ (And.intro (by omega) ?_)
    refine fload rL_6_25_0_4_1_0 h0 hB0 (by omega) ?_
    intro z1 lz1 uz1 qz1
    intro z2 hz2 ez2 bz2
    refine And.intro ⟨rfl, by decide, by decide⟩ ?_
    refine And.intro ⟨rfl, by decide⟩ (And.intro (by omega) ?_)
    refine And.intro (And.intro (by omega) (And.intro (by omega) rfl)) ?_
    intro z3 hz3
    refine fstore rS_6_25_0_4_1_0 (fzs_sub (by decide +kernel) hW) (by omega) (by omega) ?_
    intro IhB4 ehB4 hB4
    have t5 := fup_self ehB4
    refine And.intro (by omega) (And.intro ?_ ?_)
    · intro c6
      exact rfl
    · intro c7
      refine And.intro ⟨rfl, by decide, by decide⟩ ?_
      refine And.intro ⟨rfl, by decide⟩ (And.intro (by omega) ?_)
      refine fload rL_27_46_0_4_1_0 h0 hB4 (by omega) ?_
      intro z8 lz8 uz8 qz8
      intro z9 hz9 ez9 bz9
      refine fstore rS_27_46_0_4_1_0 (fzs_sub (by decide +kernel) hW) (by omega) (by omega) ?_
      intro IhB10 ehB10 hB10
      have t11 := fup_self ehB10
      exact rfl
set_option maxRecDepth 8000 in
theorem ct_Works_partForFoul_f7a9f {I : fH} {x1 : Int} (h0 : fB bsJ I) (ha1 : (0 ≤ x1 ∧ x1 ≤ 23)) : fC ρ base n F xTc vwCl xTys D dA la gJ (fbz bsJ znJ (fKc []) I) xm_83 [.inr (.inr (some 163)), .inl x1] I (fun _ r => ∃ z, r = some (.inl z) ∧ ((-2147483648) ≤ z ∧ z ≤ 2147483647)) := by
  have hW : fzs [] (fKc []) := fKc_ok _
  refine f_meth (rb := rbJ) (J := []) 1 400 xG xin_83 x6_83 okJ (fB_self h0) ?_ ?_
  · exact fun q h => absurd h List.not_mem_nil
  · have hB0 := fB_self (zn := znJ) (K := fKc []) h0
    refine And.intro ⟨rfl, by decide, by decide⟩ ?_
    refine fload rL_171_171_0_23_1_0 h0 hB0 (by omega) ?_
    intro z1 lz1 uz1 qz1
    refine And.intro ⟨rfl, by decide, by decide⟩ ?_
    refine fload rL_168_168_0_23_1_0 h0 hB0 (by omega) ?_
    intro z2 lz2 uz2 qz2
    intro z3 hz3 ez3 bz3
    intro z4 hz4 ez4 bz4
    refine And.intro (And.intro (by omega) (And.intro (by omega) (And.intro (by omega) rfl))) ?_
    intro z5 hz5 ez5 dz5
    refine And.intro (True.intro) ?_
    exact ⟨_, rfl, by omega⟩
set_option maxRecDepth 8000 in
theorem ct_City_runStill_e1f2a {I : fH} {x1 : Int} (h0 : fB bsJ I) (ha1 : (0 ≤ x1 ∧ x1 ≤ 23)) : fC ρ base n F xTc vwCl xTys D dA la gJ (fbz bsJ znJ (fKc wz_abae9) I) xm_85 [.inr (.inr (some 1)), .inl x1] I (fun _ r => r = none) := by
  have hW : fzs wz_abae9 (fKc wz_abae9) := fKc_ok _
  refine f_meth (rb := rbJ) (J := []) 1 400 xG xin_85 x6_85 okJ (fB_self h0) ?_ ?_
  · exact fun q h => absurd h List.not_mem_nil
  · have hB0 := fB_self (zn := znJ) (K := fKc wz_abae9) h0
    refine And.intro ⟨rfl, by decide, by decide⟩ ?_
    refine fload rL_182_182_0_5_1_0 h0 hB0 (by omega) ?_
    intro z1 lz1 uz1 qz1
    have pz1 := fld_at qz1 5 (by omega)
    refine And.intro (by omega) (And.intro ?_ ?_)
    · intro c2
      refine And.intro ⟨rfl, by decide, by decide⟩ ?_
      refine fload rL_182_182_0_5_1_0 h0 hB0 (by omega) ?_
      intro z3 lz3 uz3 qz3
      have pz3 := fld_at qz3 5 (by omega)
      refine fstore rS_182_182_0_5_1_0 (fzs_sub (by decide +kernel) hW) (by omega) (by omega) ?_
      intro IhB4 ehB4 hB4
      have t5 := fup_self ehB4
      have t6 := fup_at ehB4 5 (by omega)
      refine And.intro ⟨rfl, by decide, by decide⟩ ?_
      refine And.intro ⟨rfl, by decide, by decide⟩ ?_
      refine fload rL_165_165_0_23_1_0 h0 hB4 (by omega) ?_
      intro z7 lz7 uz7 qz7
      refine And.intro ⟨rfl, by decide, by decide⟩ ?_
      refine Exists.intro xm_83 (And.intro mi_83 (And.intro ⟨rfl, rfl, rfl, rfl⟩ (And.intro rfl ?_)))
      refine fcallp hB4 (ct_Works_partForFoul_f7a9f (fBz h0 hB4) (by omega)) ?_
      rintro _ ⟨z8, rfl, hz8⟩
      refine And.intro ⟨rfl, by decide, by decide⟩ ?_
      refine And.intro ⟨rfl, by decide, by decide⟩ ?_
      refine And.intro ⟨rfl, by decide⟩ (And.intro (by omega) ?_)
      refine fload rL_6_25_0_4_1_0 h0 hB4 (by omega) ?_
      intro z9 lz9 uz9 qz9
      refine And.intro (And.intro (by omega) (And.intro (by omega) rfl)) ?_
      intro z10 hz10
      refine And.intro ⟨rfl, by decide, by decide⟩ ?_
      refine And.intro ⟨rfl, by decide, by decide⟩ ?_
      refine And.intro ⟨rfl, by decide⟩ (And.intro (by omega) ?_)
      refine fload rL_6_25_0_4_1_0 h0 hB4 (by omega) ?_
      intro z11 lz11 uz11 qz11
      intro z12 hz12 ez12 bz12
      refine fstore rS_6_25_0_4_1_0 (fzs_sub (by decide +kernel) hW) (by omega) (by omega) ?_
      intro IhB13 ehB13 hB13
      have t14 := fup_self ehB13
      have t15 : IhB13 182 5 = IhB4 182 5 := (congrFun (congrFun ehB13 182) 5).trans (fup_ne (by omega))
      refine And.intro ⟨rfl, by decide, by decide⟩ ?_
      refine And.intro (And.intro (by omega) (And.intro (by omega) (And.intro (by omega) rfl))) ?_
      intro z16 hz16 ez16 dz16
      refine Exists.intro xm_84 (And.intro mi_84 (And.intro ⟨rfl, rfl, rfl, rfl⟩ (And.intro rfl ?_)))
      refine fcall _ h0 (fzs_sub (by decide +kernel) hW) hB13 (ct_Cells_addAir_1fa72 (fBz h0 hB13) (by omega) (by omega) (by omega)) ?_
      rintro IhB18 _ hB18 fhB18 rfl
      have t19 := fhB18 182 5 (by decide +kernel)
      refine And.intro ⟨rfl, by decide, by decide⟩ ?_
      refine And.intro (And.intro (by omega) (And.intro (by omega) (And.intro (by omega) rfl))) ?_
      intro z20 hz20 ez20 dz20
      intro z21 hz21 ez21 bz21
      refine Exists.intro xm_84 (And.intro mi_84 (And.intro ⟨rfl, rfl, rfl, rfl⟩ (And.intro rfl ?_)))
      refine fcall _ h0 (fzs_sub (by decide +kernel) hW) hB18 (ct_Cells_addAir_1fa72 (fBz h0 hB18) (by omega) (by omega) (by omega)) ?_
      rintro IhB23 _ hB23 fhB23 rfl
      have t24 := fhB23 182 5 (by decide +kernel)
      exact rfl
    · intro c25
      exact rfl
set_option maxRecDepth 8000 in
theorem ct_City_runGarden_95dd6 {I : fH} {x1 : Int} (h0 : fB bsJ I) (ha1 : (0 ≤ x1 ∧ x1 ≤ 23)) : fC ρ base n F xTc vwCl xTys D dA la gJ (fbz bsJ znJ (fKc wz_ed400) I) xm_82 [.inr (.inr (some 1)), .inl x1] I (fun _ r => r = none) := by
  have hW : fzs wz_ed400 (fKc wz_ed400) := fKc_ok _
  refine f_meth (rb := rbJ) (J := []) 1 400 xG xin_82 x6_82 okJ (fB_self h0) ?_ ?_
  · exact fun q h => absurd h List.not_mem_nil
  · have hB0 := fB_self (zn := znJ) (K := fKc wz_ed400) h0
    refine Exists.intro xm_69 (And.intro mi_69 (And.intro ⟨rfl, rfl, rfl, rfl⟩ (And.intro rfl ?_)))
    refine fcallp hB0 (ct_City_isDay_fb0d1 (fBz h0 hB0)) ?_
    rintro _ ⟨z1, rfl, hz1⟩
    refine And.intro (by omega) (And.intro ?_ ?_)
    · intro c2
      refine And.intro ⟨rfl, by decide, by decide⟩ ?_
      refine And.intro ⟨rfl, by decide, by decide⟩ ?_
      refine fload rL_165_165_0_23_1_0 h0 hB0 (by omega) ?_
      intro z3 lz3 uz3 qz3
      refine And.intro ⟨rfl, by decide, by decide⟩ ?_
      refine Exists.intro xm_83 (And.intro mi_83 (And.intro ⟨rfl, rfl, rfl, rfl⟩ (And.intro rfl ?_)))
      refine fcallp hB0 (ct_Works_partForFoul_f7a9f (fBz h0 hB0) (by omega)) ?_
      rintro _ ⟨z4, rfl, hz4⟩
      refine And.intro ⟨rfl, by decide, by decide⟩ ?_
      refine And.intro ⟨rfl, by decide, by decide⟩ ?_
      refine And.intro ⟨rfl, by decide⟩ (And.intro (by omega) ?_)
      refine fload rL_6_25_0_4_1_0 h0 hB0 (by omega) ?_
      intro z5 lz5 uz5 qz5
      refine And.intro (And.intro (by omega) (And.intro (by omega) rfl)) ?_
      intro z6 hz6
      refine And.intro ⟨rfl, by decide, by decide⟩ ?_
      refine And.intro ⟨rfl, by decide, by decide⟩ ?_
      refine And.intro ⟨rfl, by decide⟩ (And.intro (by omega) ?_)
      refine fload rL_6_25_0_4_1_0 h0 hB0 (by omega) ?_
      intro z7 lz7 uz7 qz7
      intro z8 hz8 ez8 bz8
      refine fstore rS_6_25_0_4_1_0 (fzs_sub (by decide +kernel) hW) (by omega) (by omega) ?_
      intro IhB9 ehB9 hB9
      have t10 := fup_self ehB9
      refine And.intro ⟨rfl, by decide, by decide⟩ ?_
      refine Exists.intro xm_84 (And.intro mi_84 (And.intro ⟨rfl, rfl, rfl, rfl⟩ (And.intro rfl ?_)))
      refine fcall _ h0 (fzs_sub (by decide +kernel) hW) hB9 (ct_Cells_addAir_1fa72 (fBz h0 hB9) (by omega) (by omega) (by omega)) ?_
      rintro IhB12 _ hB12 fhB12 rfl
      exact rfl
    · intro c13
      exact rfl
set_option maxRecDepth 8000 in
theorem ct_City_runProbe_4687a {I : fH} {x1 : Int} (h0 : fB bsJ I) (ha1 : (0 ≤ x1 ∧ x1 ≤ 23)) : fC ρ base n F xTc vwCl xTys D dA la gJ (fbz bsJ znJ (fKc wz_4543e) I) xm_87 [.inr (.inr (some 1)), .inl x1] I (fun _ r => r = none) := by
  have hW : fzs wz_4543e (fKc wz_4543e) := fKc_ok _
  refine f_meth (rb := rbJ) (J := []) 1 400 xG xin_87 x6_87 okJ (fB_self h0) ?_ ?_
  · exact fun q h => absurd h List.not_mem_nil
  · have hB0 := fB_self (zn := znJ) (K := fKc wz_4543e) h0
    refine And.intro ⟨rfl, by decide, by decide⟩ ?_
    refine Exists.intro xm_55 (And.intro mi_55 (And.intro ⟨rfl, rfl, rfl, rfl⟩ (And.intro rfl ?_)))
    refine fcallp hB0 (ct_Works_isDropped_adfda (fBz h0 hB0) (by omega)) ?_
    rintro _ ⟨z1, rfl, hz1⟩
    refine And.intro (by omega) (And.intro ?_ ?_)
    · intro c2
      exact rfl
    · intro c3
      refine And.intro ⟨rfl, by decide, by decide⟩ ?_
      refine And.intro ⟨rfl, by decide, by decide⟩ ?_
      refine And.intro ⟨rfl, by decide, by decide⟩ ?_
      refine And.intro ⟨rfl, by decide, by decide⟩ ?_
      refine fload rL_175_175_0_23_1_0 h0 hB0 (by omega) ?_
      intro z4 lz4 uz4 qz4
      refine And.intro (And.intro (by omega) (And.intro (by omega) rfl)) ?_
      intro z5 hz5
      refine fstore rS_175_175_0_23_1_0 (fzs_sub (by decide +kernel) hW) (by omega) (by omega) ?_
      intro IhB6 ehB6 hB6
      have t7 := fup_self ehB6
      refine And.intro ⟨rfl, by decide, by decide⟩ ?_
      refine And.intro ⟨rfl, by decide, by decide⟩ ?_
      refine fload rL_176_176_0_23_1_0 h0 hB6 (by omega) ?_
      intro z8 lz8 uz8 qz8
      refine And.intro ⟨rfl, by decide, by decide⟩ ?_
      refine And.intro ⟨rfl, by decide⟩ (And.intro (by omega) ?_)
      refine And.intro ⟨rfl, by decide, by decide⟩ ?_
      refine And.intro ⟨rfl, by decide, by decide⟩ ?_
      refine fload rL_175_175_0_23_1_0 h0 hB6 (by omega) ?_
      intro z9 lz9 uz9 qz9
      refine fload rL_185_185_0_60_1_0 h0 hB6 (by omega) ?_
      intro z10 lz10 uz10 qz10
      intro z11 hz11 ez11 bz11
      refine fstore rS_176_176_0_23_1_0 (fzs_sub (by decide +kernel) hW) (by omega) (by omega) ?_
      intro IhB12 ehB12 hB12
      have t13 := fup_self ehB12
      refine And.intro ⟨rfl, by decide, by decide⟩ ?_
      refine And.intro ⟨rfl, by decide, by decide⟩ ?_
      refine And.intro ⟨rfl, by decide, by decide⟩ ?_
      refine And.intro ⟨rfl, by decide, by decide⟩ ?_
      refine fload rL_176_176_0_23_1_0 h0 hB12 (by omega) ?_
      intro z14 lz14 uz14 qz14
      refine And.intro ⟨rfl, by decide, by decide⟩ ?_
      refine And.intro ⟨rfl, by decide, by decide⟩ ?_
      refine fload rL_171_171_0_23_1_0 h0 hB12 (by omega) ?_
      intro z15 lz15 uz15 qz15
      refine And.intro (by omega) (And.intro ?_ ?_)
      · intro c16
        refine fstore rS_174_174_0_23_1_0 (fzs_sub (by decide +kernel) hW) (by omega) (by omega) ?_
        intro IhB17 ehB17 hB17
        have t18 := fup_self ehB17
        exact rfl
      · intro c19
        refine fstore rS_174_174_0_23_1_0 (fzs_sub (by decide +kernel) hW) (by omega) (by omega) ?_
        intro IhB20 ehB20 hB20
        have t21 := fup_self ehB20
        exact rfl
set_option maxRecDepth 8000 in
theorem ct_City_runRotor_c3465 {I : fH} {x1 : Int} (h0 : fB bsJ I) (ha1 : (0 ≤ x1 ∧ x1 ≤ 23)) : fC ρ base n F xTc vwCl xTys D dA la gJ (fbz bsJ znJ (fKc wz_1cc9b) I) xm_86 [.inr (.inr (some 1)), .inl x1] I (fun _ r => r = none) := by
  have hW : fzs wz_1cc9b (fKc wz_1cc9b) := fKc_ok _
  refine f_meth (rb := rbJ) (J := []) 1 400 xG xin_86 x6_86 okJ (fB_self h0) ?_ ?_
  · exact fun q h => absurd h List.not_mem_nil
  · have hB0 := fB_self (zn := znJ) (K := fKc wz_1cc9b) h0
    refine And.intro ⟨rfl, by decide, by decide⟩ ?_
    refine fload rL_182_182_0_5_1_0 h0 hB0 (by omega) ?_
    intro z1 lz1 uz1 qz1
    have pz1 := fld_at qz1 5 (by omega)
    refine And.intro ⟨rfl, by decide, by decide⟩ ?_
    refine And.intro ⟨rfl, by decide, by decide⟩ ?_
    refine fload rL_171_171_0_23_1_0 h0 hB0 (by omega) ?_
    intro z2 lz2 uz2 qz2
    refine And.intro (by omega) (And.intro ?_ ?_)
    · intro c3
      exact rfl
    · intro c4
      refine And.intro ⟨rfl, by decide, by decide⟩ ?_
      refine fload rL_182_182_0_5_1_0 h0 hB0 (by omega) ?_
      intro z5 lz5 uz5 qz5
      have pz5 := fld_at qz5 5 (by omega)
      refine And.intro ⟨rfl, by decide, by decide⟩ ?_
      refine And.intro ⟨rfl, by decide, by decide⟩ ?_
      refine fload rL_171_171_0_23_1_0 h0 hB0 (by omega) ?_
      intro z6 lz6 uz6 qz6
      intro z7 hz7 ez7 bz7
      refine fstore rS_182_182_0_5_1_0 (fzs_sub (by decide +kernel) hW) (by omega) (by omega) ?_
      intro IhB8 ehB8 hB8
      have t9 := fup_self ehB8
      have t10 := fup_at ehB8 5 (by omega)
      refine And.intro ⟨rfl, by decide, by decide⟩ (fgetf fb_1_6 h0 hB8 ?_)
      intro z11 lz11 uz11 qz11
      intro z12 hz12 ez12 bz12
      refine And.intro ⟨rfl, by decide, by decide⟩ (And.intro rfl (And.intro (Or.inl rfl) (fputf fb_1_6 (by decide +kernel) hW (by omega) ?_)))
      intro IhB13 ehB13 hB13
      have t14 : IhB13 182 5 = IhB8 182 5 := (congrFun (congrFun ehB13 182) 5).trans (fup_ne (by omega))
      exact rfl
set_option maxRecDepth 8000 in
theorem ct_City_loseGas_68982 {I : fH} {x1 : Int} {x2 : Int} (h0 : fB bsJ I) (ha1 : (0 ≤ x1 ∧ x1 ≤ 23)) (ha2 : ((-2147483648) ≤ x2 ∧ x2 ≤ 2147483647)) : fC ρ base n F xTc vwCl xTys D dA la gJ (fbz bsJ znJ (fKc wz_de755) I) xm_81 [.inr (.inr (some 1)), .inl x1, .inl x2] I (fun _ r => r = none) := by
  have hW : fzs wz_de755 (fKc wz_de755) := fKc_ok _
  refine f_meth (rb := rbJ) (J := []) 1 400 xG xin_81 x6_81 okJ (fB_self h0) ?_ ?_
  · exact fun q h => absurd h List.not_mem_nil
  · have hB0 := fB_self (zn := znJ) (K := fKc wz_de755) h0
    refine And.intro ⟨rfl, by decide, by decide⟩ ?_
    refine And.intro ⟨rfl, by decide, by decide⟩ ?_
    refine fload rL_172_172_0_23_1_0 h0 hB0 (by omega) ?_
    intro z1 lz1 uz1 qz1
    intro z2 hz2 ez2 bz2
    refine fstore rS_172_172_0_23_1_0 (fzs_sub (by decide +kernel) hW) (by omega) (by omega) ?_
    intro IhB3 ehB3 hB3
    have t4 := fup_self ehB3
    refine And.intro ⟨rfl, by decide, by decide⟩ ?_
    refine And.intro ⟨rfl, by decide, by decide⟩ ?_
    refine And.intro ⟨rfl, by decide, by decide⟩ ?_
    refine And.intro ⟨rfl, by decide, by decide⟩ ?_
    refine fload rL_165_165_0_23_1_0 h0 hB3 (by omega) ?_
    intro z5 lz5 uz5 qz5
    refine And.intro ⟨rfl, by decide⟩ (And.intro (by omega) ?_)
    refine fload rL_27_46_0_4_1_0 h0 hB3 (by omega) ?_
    intro z6 lz6 uz6 qz6
    intro z7 hz7 ez7 bz7
    refine fstore rS_27_46_0_4_1_0 (fzs_sub (by decide +kernel) hW) (by omega) (by omega) ?_
    intro IhB8 ehB8 hB8
    have t9 := fup_self ehB8
    exact rfl
abbrev jc_Works_isPatched_cee43_2 : Nat → fL → List fV → fH → Prop := fun m lv st I => ∃ (y1 : Int) (y2 : Int), lv = [(0, .inr (.inr (some 163))), (1, .inl y1), (2, .inl y2)] ∧ st = [] ∧ (((0 ≤ y1 ∧ y1 ≤ 23) ∧ (0 ≤ y2 ∧ y2 ≤ 24))) ∧ m = (1 + 1 * (24 - y2) : Int).toNat
set_option maxRecDepth 8000 in
theorem ct_Works_isPatched_cee43 {I : fH} {x1 : Int} (h0 : fB bsJ I) (ha1 : (0 ≤ x1 ∧ x1 ≤ 23)) : fC ρ base n F xTc vwCl xTys D dA la gJ (fbz bsJ znJ (fKc []) I) xm_79 [.inr (.inr (some 163)), .inl x1] I (fun _ r => ∃ z, r = some (.inl z) ∧ (0 ≤ z ∧ z ≤ 1)) := by
  have hW : fzs [] (fKc []) := fKc_ok _
  refine f_meth (rb := rbJ) (J := [(2, jc_Works_isPatched_cee43_2)]) 26 400 xG xin_79 x6_79 okJ (fB_self h0) ?_ ?_
  · refine List.forall_mem_cons.mpr ⟨?_, fun q h => absurd h List.not_mem_nil⟩
    · rintro m _ _ I1 hB1 ⟨y1, y2, rfl, rfl, hb, hm⟩
      refine And.intro ⟨rfl, by decide, by decide⟩ (fgetf fb_163_13 h0 hB1 ?_)
      intro z1 lz1 uz1 qz1
      refine And.intro (by omega) (And.intro ?_ ?_)
      · intro c2
        refine And.intro (⟨by omega, by omega⟩) ?_
        exact ⟨_, rfl, by omega⟩
      · intro c3
        refine And.intro ⟨rfl, by decide, by decide⟩ ?_
        refine fload rL_164_164_0_23_1_0 h0 hB1 (by omega) ?_
        intro z4 lz4 uz4 qz4
        refine And.intro (by omega) (And.intro ?_ ?_)
        · intro c5
          exact fcutJ (I := I1) (j := jc_Works_isPatched_cee43_2) (lv' := [(0, .inr (.inr (some 163))), (1, .inl _), (2, .inl _)]) (And.intro rfl (And.intro rfl (And.intro rfl True.intro))) ⟨_, _, rfl, rfl, by omega, rfl⟩ (by omega)
        · intro c6
          refine And.intro ⟨rfl, by decide, by decide⟩ ?_
          refine fload rL_171_171_0_23_1_0 h0 hB1 (by omega) ?_
          intro z7 lz7 uz7 qz7
          refine And.intro (by omega) (And.intro ?_ ?_)
          · intro c8
            exact fcutJ (I := I1) (j := jc_Works_isPatched_cee43_2) (lv' := [(0, .inr (.inr (some 163))), (1, .inl _), (2, .inl _)]) (And.intro rfl (And.intro rfl (And.intro rfl True.intro))) ⟨_, _, rfl, rfl, by omega, rfl⟩ (by omega)
          · intro c9
            refine And.intro ⟨rfl, by decide, by decide⟩ ?_
            refine fload rL_167_167_0_23_1_0 h0 hB1 (by omega) ?_
            intro z10 lz10 uz10 qz10
            refine And.intro (by omega) (And.intro ?_ ?_)
            · intro c11
              exact fcutJ (I := I1) (j := jc_Works_isPatched_cee43_2) (lv' := [(0, .inr (.inr (some 163))), (1, .inl _), (2, .inl _)]) (And.intro rfl (And.intro rfl (And.intro rfl True.intro))) ⟨_, _, rfl, rfl, by omega, rfl⟩ (by omega)
            · intro c12
              refine And.intro ⟨rfl, by decide, by decide⟩ ?_
              refine fload rL_174_174_0_23_1_0 h0 hB1 (by omega) ?_
              intro z13 lz13 uz13 qz13
              refine And.intro (by omega) (And.intro ?_ ?_)
              · intro c14
                exact fcutJ (I := I1) (j := jc_Works_isPatched_cee43_2) (lv' := [(0, .inr (.inr (some 163))), (1, .inl _), (2, .inl _)]) (And.intro rfl (And.intro rfl (And.intro rfl True.intro))) ⟨_, _, rfl, rfl, by omega, rfl⟩ (by omega)
              · intro c15
                refine And.intro (⟨by omega, by omega⟩) ?_
                exact ⟨_, rfl, by omega⟩
  · have hB0 := fB_self (zn := znJ) (K := fKc []) h0
    exact fcutJ (I := I) (j := jc_Works_isPatched_cee43_2) (lv' := [(0, .inr (.inr (some 163))), (1, .inl _), (2, .inl _)]) (And.intro rfl (And.intro rfl (And.intro rfl True.intro))) ⟨_, _, rfl, rfl, by omega, rfl⟩ (by omega)
set_option maxRecDepth 8000 in
theorem ct_Works_wear_df87e {I : fH} {x1 : Int} {x2 : Int} (h0 : fB bsJ I) (ha1 : (0 ≤ x1 ∧ x1 ≤ 23)) (ha2 : ((-2147483648) ≤ x2 ∧ x2 ≤ 2147483647)) : fC ρ base n F xTc vwCl xTys D dA la gJ (fbz bsJ znJ (fKc wz_213b7) I) xm_80 [.inr (.inr (some 163)), .inl x1, .inl x2] I (fun _ r => r = none) := by
  have hW : fzs wz_213b7 (fKc wz_213b7) := fKc_ok _
  refine f_meth (rb := rbJ) (J := []) 1 400 xG xin_80 x6_80 okJ (fB_self h0) ?_ ?_
  · exact fun q h => absurd h List.not_mem_nil
  · have hB0 := fB_self (zn := znJ) (K := fKc wz_213b7) h0
    refine And.intro ⟨rfl, by decide, by decide⟩ ?_
    refine fload rL_173_173_0_23_1_0 h0 hB0 (by omega) ?_
    intro z1 lz1 uz1 qz1
    intro z2 hz2 ez2 bz2
    refine And.intro (And.intro (by omega) (And.intro (by omega) (And.intro (by omega) rfl))) ?_
    intro z3 hz3 ez3 dz3
    refine And.intro ⟨rfl, by decide, by decide⟩ ?_
    refine fload rL_171_171_0_23_1_0 h0 hB0 (by omega) ?_
    intro z4 lz4 uz4 qz4
    refine And.intro (And.intro (by omega) (And.intro (by omega) rfl)) ?_
    intro z5 hz5
    refine And.intro ⟨rfl, by decide, by decide⟩ ?_
    refine fload rL_171_171_0_23_1_0 h0 hB0 (by omega) ?_
    intro z6 lz6 uz6 qz6
    intro z7 hz7 ez7 bz7
    refine fstore rS_171_171_0_23_1_0 (fzs_sub (by decide +kernel) hW) (by omega) (by omega) ?_
    intro IhB8 ehB8 hB8
    have t9 := fup_self ehB8
    intro z10 hz10 ez10 bz10
    intro z11 hz11 ez11 bz11
    refine And.intro ⟨rfl, by decide, by decide⟩ ?_
    refine And.intro (And.intro (by omega) (And.intro (by omega) rfl)) ?_
    intro z12 hz12
    refine fstore rS_173_173_0_23_1_0 (fzs_sub (by decide +kernel) hW) (by omega) (by omega) ?_
    intro IhB13 ehB13 hB13
    have t14 := fup_self ehB13
    exact rfl
set_option maxRecDepth 8000 in
theorem ct_City_runSkin_7959e {I : fH} {x1 : Int} (h0 : fB bsJ I) (ha1 : (0 ≤ x1 ∧ x1 ≤ 23)) : fC ρ base n F xTc vwCl xTys D dA la gJ (fbz bsJ znJ (fKc wz_65a7b) I) xm_78 [.inr (.inr (some 1)), .inl x1] I (fun _ r => r = none) := by
  have hW : fzs wz_65a7b (fKc wz_65a7b) := fKc_ok _
  refine f_meth (rb := rbJ) (J := []) 1 400 xG xin_78 x6_78 okJ (fB_self h0) ?_ ?_
  · exact fun q h => absurd h List.not_mem_nil
  · have hB0 := fB_self (zn := znJ) (K := fKc wz_65a7b) h0
    refine And.intro ⟨rfl, by decide, by decide⟩ ?_
    refine Exists.intro xm_79 (And.intro mi_79 (And.intro ⟨rfl, rfl, rfl, rfl⟩ (And.intro rfl ?_)))
    refine fcallp hB0 (ct_Works_isPatched_cee43 (fBz h0 hB0) (by omega)) ?_
    rintro _ ⟨z1, rfl, hz1⟩
    refine And.intro (by omega) (And.intro ?_ ?_)
    · intro c2
      refine And.intro ⟨rfl, by decide, by decide⟩ ?_
      refine And.intro ⟨rfl, by decide, by decide⟩ ?_
      refine And.intro ⟨rfl, by decide⟩ (And.intro (by omega) ?_)
      refine Exists.intro xm_31 (And.intro mi_31 (And.intro ⟨rfl, rfl, rfl, rfl⟩ (And.intro rfl ?_)))
      refine fcallp hB0 (ct_City_level_61deb (fBz h0 hB0)) ?_
      rintro _ ⟨z3, rfl, hz3⟩
      refine fload rL_186_186_0_60_1_0 h0 hB0 (by omega) ?_
      intro z4 lz4 uz4 qz4
      refine And.intro (And.intro (by omega) (And.intro (by omega) (And.intro (by omega) rfl))) ?_
      intro z5 hz5 ez5 dz5
      refine Exists.intro xm_80 (And.intro mi_80 (And.intro ⟨rfl, rfl, rfl, rfl⟩ (And.intro rfl ?_)))
      refine fcall _ h0 (fzs_sub (by decide +kernel) hW) hB0 (ct_Works_wear_df87e (fBz h0 hB0) (by omega) (by omega)) ?_
      rintro IhB7 _ hB7 fhB7 rfl
      refine And.intro ⟨rfl, by decide, by decide⟩ ?_
      refine And.intro ⟨rfl, by decide, by decide⟩ ?_
      refine fload rL_171_171_0_23_1_0 h0 hB7 (by omega) ?_
      intro z8 lz8 uz8 qz8
      refine And.intro (by omega) (And.intro ?_ ?_)
      · intro c9
        exact rfl
      · intro c10
        refine And.intro ⟨rfl, by decide, by decide⟩ ?_
        refine And.intro ⟨rfl, by decide, by decide⟩ ?_
        refine fload rL_172_172_0_23_1_0 h0 hB7 (by omega) ?_
        intro z11 lz11 uz11 qz11
        refine And.intro (And.intro (by omega) (And.intro (by omega) (And.intro (by omega) rfl))) ?_
        intro z12 hz12 ez12 dz12
        intro z13 hz13 ez13 bz13
        refine And.intro (And.intro (by omega) (And.intro (by omega) rfl)) ?_
        intro z14 hz14
        refine Exists.intro xm_81 (And.intro mi_81 (And.intro ⟨rfl, rfl, rfl, rfl⟩ (And.intro rfl ?_)))
        refine fcall _ h0 (fzs_sub (by decide +kernel) hW) hB7 (ct_City_loseGas_68982 (fBz h0 hB7) (by omega) (by omega)) ?_
        rintro IhB16 _ hB16 fhB16 rfl
        exact rfl
    · intro c17
      exact rfl
set_option maxRecDepth 8000 in
theorem ct_City_runWork_55621 {I : fH} {x1 : Int} (h0 : fB bsJ I) (ha1 : (0 ≤ x1 ∧ x1 ≤ 23)) : fC ρ base n F xTc vwCl xTys D dA la gJ (fbz bsJ znJ (fKc wz_1f04a) I) xm_77 [.inr (.inr (some 1)), .inl x1] I (fun _ r => r = none) := by
  have hW : fzs wz_1f04a (fKc wz_1f04a) := fKc_ok _
  refine f_meth (rb := rbJ) (J := []) 1 400 xG xin_77 x6_77 okJ (fB_self h0) ?_ ?_
  · exact fun q h => absurd h List.not_mem_nil
  · have hB0 := fB_self (zn := znJ) (K := fKc wz_1f04a) h0
    refine And.intro ⟨rfl, by decide, by decide⟩ ?_
    refine And.intro ⟨rfl, by decide, by decide⟩ ?_
    refine fload rL_164_164_0_23_1_0 h0 hB0 (by omega) ?_
    intro z1 lz1 uz1 qz1
    refine And.intro (by omega) (And.intro ?_ ?_)
    · refine And.intro (fun ex => ?_) (And.intro (fun ex => ?_) (And.intro (fun ex => ?_) (And.intro (fun ex => ?_) (And.intro (fun ex => ?_) (And.intro (fun ex => ?_) (True.intro))))))
      · skip
        refine Exists.intro xm_78 (And.intro mi_78 (And.intro ⟨rfl, rfl, rfl, rfl⟩ (And.intro rfl ?_)))
        refine fcall _ h0 (fzs_sub (by decide +kernel) hW) hB0 (ct_City_runSkin_7959e (fBz h0 hB0) (by omega)) ?_
        rintro IhB3 _ hB3 fhB3 rfl
        exact rfl
      · skip
        refine Exists.intro xm_82 (And.intro mi_82 (And.intro ⟨rfl, rfl, rfl, rfl⟩ (And.intro rfl ?_)))
        refine fcall _ h0 (fzs_sub (by decide +kernel) hW) hB0 (ct_City_runGarden_95dd6 (fBz h0 hB0) (by omega)) ?_
        rintro IhB5 _ hB5 fhB5 rfl
        exact rfl
      · skip
        refine Exists.intro xm_85 (And.intro mi_85 (And.intro ⟨rfl, rfl, rfl, rfl⟩ (And.intro rfl ?_)))
        refine fcall _ h0 (fzs_sub (by decide +kernel) hW) hB0 (ct_City_runStill_e1f2a (fBz h0 hB0) (by omega)) ?_
        rintro IhB7 _ hB7 fhB7 rfl
        exact rfl
      · skip
        refine Exists.intro xm_86 (And.intro mi_86 (And.intro ⟨rfl, rfl, rfl, rfl⟩ (And.intro rfl ?_)))
        refine fcall _ h0 (fzs_sub (by decide +kernel) hW) hB0 (ct_City_runRotor_c3465 (fBz h0 hB0) (by omega)) ?_
        rintro IhB9 _ hB9 fhB9 rfl
        exact rfl
      · skip
        refine And.intro ⟨rfl, by decide, by decide⟩ ?_
        refine And.intro ⟨rfl, by decide, by decide⟩ ?_
        refine fload rL_172_172_0_23_1_0 h0 hB0 (by omega) ?_
        intro z10 lz10 uz10 qz10
        intro z11 hz11 ez11 bz11
        refine fstore rS_172_172_0_23_1_0 (fzs_sub (by decide +kernel) hW) (by omega) (by omega) ?_
        intro IhB12 ehB12 hB12
        have t13 := fup_self ehB12
        refine And.intro ⟨rfl, by decide, by decide⟩ ?_
        refine And.intro ⟨rfl, by decide, by decide⟩ ?_
        refine And.intro ⟨rfl, by decide, by decide⟩ ?_
        refine And.intro ⟨rfl, by decide, by decide⟩ ?_
        refine fload rL_172_172_0_23_1_0 h0 hB12 (by omega) ?_
        intro z14 lz14 uz14 qz14
        refine And.intro (by omega) (And.intro ?_ ?_)
        · intro c15
          refine fstore rS_174_174_0_23_1_0 (fzs_sub (by decide +kernel) hW) (by omega) (by omega) ?_
          intro IhB16 ehB16 hB16
          have t17 := fup_self ehB16
          exact rfl
        · intro c18
          refine fstore rS_174_174_0_23_1_0 (fzs_sub (by decide +kernel) hW) (by omega) (by omega) ?_
          intro IhB19 ehB19 hB19
          have t20 := fup_self ehB19
          exact rfl
      · skip
        refine Exists.intro xm_87 (And.intro mi_87 (And.intro ⟨rfl, rfl, rfl, rfl⟩ (And.intro rfl ?_)))
        refine fcall _ h0 (fzs_sub (by decide +kernel) hW) hB0 (ct_City_runProbe_4687a (fBz h0 hB0) (by omega)) ?_
        rintro IhB22 _ hB22 fhB22 rfl
        exact rfl
    · intro c23
      exact rfl
set_option maxRecDepth 8000 in
theorem ct_People_needOf_69fc2 {I : fH} {x1 : Int} (h0 : fB bsJ I) (ha1 : (0 ≤ x1 ∧ x1 ≤ 23)) : fC ρ base n F xTc vwCl xTys D dA la gJ (fbz bsJ znJ (fKc []) I) xm_92 [.inr (.inr (some 177)), .inl x1] I (fun _ r => ∃ z, r = some (.inl z) ∧ (1 ≤ z ∧ z ≤ 2)) := by
  have hW : fzs [] (fKc []) := fKc_ok _
  refine f_meth (rb := rbJ) (J := []) 1 400 xG xin_92 x6_92 okJ (fB_self h0) ?_ ?_
  · exact fun q h => absurd h List.not_mem_nil
  · have hB0 := fB_self (zn := znJ) (K := fKc []) h0
    refine And.intro ⟨rfl, by decide, by decide⟩ ?_
    refine fload rL_178_178_0_23_1_0 h0 hB0 (by omega) ?_
    intro z1 lz1 uz1 qz1
    refine And.intro (by omega) (And.intro ?_ ?_)
    · intro c2
      refine And.intro (True.intro) ?_
      exact ⟨_, rfl, by omega⟩
    · intro c3
      refine And.intro (True.intro) ?_
      exact ⟨_, rfl, by omega⟩
set_option maxRecDepth 8000 in
theorem ct_People_sicken_1f528 {I : fH} {x1 : Int} {x2 : Int} (h0 : fB bsJ I) (ha1 : (0 ≤ x1 ∧ x1 ≤ 23)) (ha2 : ((-1) ≤ x2 ∧ x2 ≤ 8)) : fC ρ base n F xTc vwCl xTys D dA la gJ (fbz bsJ znJ (fKc wz_b5181) I) xm_93 [.inr (.inr (some 177)), .inl x1, .inl x2] I (fun _ r => r = none) := by
  have hW : fzs wz_b5181 (fKc wz_b5181) := fKc_ok _
  refine f_meth (rb := rbJ) (J := []) 1 400 xG xin_93 x6_93 okJ (fB_self h0) ?_ ?_
  · exact fun q h => absurd h List.not_mem_nil
  · have hB0 := fB_self (zn := znJ) (K := fKc wz_b5181) h0
    refine And.intro ⟨rfl, by decide, by decide⟩ ?_
    refine And.intro ⟨rfl, by decide, by decide⟩ ?_
    refine fload rL_181_181_0_23_1_0 h0 hB0 (by omega) ?_
    intro z1 lz1 uz1 qz1
    intro z2 hz2 ez2 bz2
    refine And.intro (And.intro (by omega) (And.intro (by omega) rfl)) ?_
    intro z3 hz3
    refine And.intro (And.intro (by omega) (And.intro (by omega) rfl)) ?_
    intro z4 hz4
    refine fstore rS_181_181_0_23_1_0 (fzs_sub (by decide +kernel) hW) (by omega) (by omega) ?_
    intro IhB5 ehB5 hB5
    have t6 := fup_self ehB5
    exact rfl
set_option maxRecDepth 8000 in
theorem ct_City_breathe_98bcc {I : fH} {x1 : Int} (h0 : fB bsJ I) (ha1 : (0 ≤ x1 ∧ x1 ≤ 23)) : fC ρ base n F xTc vwCl xTys D dA la gJ (fbz bsJ znJ (fKc wz_e3569) I) xm_91 [.inr (.inr (some 1)), .inl x1] I (fun _ r => r = none) := by
  have hW : fzs wz_e3569 (fKc wz_e3569) := fKc_ok _
  refine f_meth (rb := rbJ) (J := []) 1 400 xG xin_91 x6_91 okJ (fB_self h0) ?_ ?_
  · exact fun q h => absurd h List.not_mem_nil
  · have hB0 := fB_self (zn := znJ) (K := fKc wz_e3569) h0
    refine And.intro ⟨rfl, by decide, by decide⟩ ?_
    refine And.intro ⟨rfl, by decide, by decide⟩ ?_
    refine fload rL_180_180_0_23_1_0 h0 hB0 (by omega) ?_
    intro z1 lz1 uz1 qz1
    refine And.intro ⟨rfl, by decide, by decide⟩ ?_
    refine Exists.intro xm_92 (And.intro mi_92 (And.intro ⟨rfl, rfl, rfl, rfl⟩ (And.intro rfl ?_)))
    refine fcallp hB0 (ct_People_needOf_69fc2 (fBz h0 hB0) (by omega)) ?_
    rintro _ ⟨z2, rfl, hz2⟩
    refine And.intro ⟨rfl, by decide, by decide⟩ ?_
    refine And.intro ⟨rfl, by decide, by decide⟩ ?_
    refine And.intro ⟨rfl, by decide⟩ (And.intro (by omega) ?_)
    refine fload rL_6_25_0_4_1_0 h0 hB0 (by omega) ?_
    intro z3 lz3 uz3 qz3
    refine And.intro (And.intro (by omega) (And.intro (by omega) rfl)) ?_
    intro z4 hz4
    refine And.intro ⟨rfl, by decide, by decide⟩ ?_
    refine And.intro ⟨rfl, by decide, by decide⟩ ?_
    refine And.intro ⟨rfl, by decide⟩ (And.intro (by omega) ?_)
    refine fload rL_6_25_0_4_1_0 h0 hB0 (by omega) ?_
    intro z5 lz5 uz5 qz5
    intro z6 hz6 ez6 bz6
    refine fstore rS_6_25_0_4_1_0 (fzs_sub (by decide +kernel) hW) (by omega) (by omega) ?_
    intro IhB7 ehB7 hB7
    have t8 := fup_self ehB7
    refine And.intro ⟨rfl, by decide, by decide⟩ ?_
    refine And.intro (And.intro (by omega) (And.intro (by omega) (And.intro (by omega) rfl))) ?_
    intro z9 hz9 ez9 dz9
    refine Exists.intro xm_84 (And.intro mi_84 (And.intro ⟨rfl, rfl, rfl, rfl⟩ (And.intro rfl ?_)))
    refine fcall _ h0 (fzs_sub (by decide +kernel) hW) hB7 (ct_Cells_addAir_1fa72 (fBz h0 hB7) (by omega) (by omega) (by omega)) ?_
    rintro IhB11 _ hB11 fhB11 rfl
    refine And.intro ⟨rfl, by decide, by decide⟩ ?_
    refine And.intro (And.intro (by omega) (And.intro (by omega) (And.intro (by omega) rfl))) ?_
    intro z12 hz12 ez12 dz12
    intro z13 hz13 ez13 bz13
    refine Exists.intro xm_84 (And.intro mi_84 (And.intro ⟨rfl, rfl, rfl, rfl⟩ (And.intro rfl ?_)))
    refine fcall _ h0 (fzs_sub (by decide +kernel) hW) hB11 (ct_Cells_addAir_1fa72 (fBz h0 hB11) (by omega) (by omega) (by omega)) ?_
    rintro IhB15 _ hB15 fhB15 rfl
    refine And.intro (by omega) (And.intro ?_ ?_)
    · intro c16
      refine And.intro ⟨rfl, by decide, by decide⟩ ?_
      refine And.intro ⟨rfl, by decide, by decide⟩ ?_
      refine And.intro ⟨rfl, by decide⟩ (And.intro (by omega) ?_)
      refine fload rL_6_25_0_4_1_0 h0 hB15 (by omega) ?_
      intro z17 lz17 uz17 qz17
      refine And.intro ⟨rfl, by decide, by decide⟩ ?_
      refine And.intro ⟨rfl, by decide, by decide⟩ ?_
      refine fload rL_3_3_0_19_1_0 h0 hB15 (by omega) ?_
      intro z18 lz18 uz18 qz18
      refine And.intro (by omega) (And.intro ?_ ?_)
      · intro c19
        refine And.intro ⟨rfl, by decide, by decide⟩ ?_
        refine And.intro (by omega) (And.intro ?_ ?_)
        · intro c20
          refine Exists.intro xm_93 (And.intro mi_93 (And.intro ⟨rfl, rfl, rfl, rfl⟩ (And.intro rfl ?_)))
          refine fcall _ h0 (fzs_sub (by decide +kernel) hW) hB15 (ct_People_sicken_1f528 (fBz h0 hB15) (by omega) (by omega)) ?_
          rintro IhB22 _ hB22 fhB22 rfl
          exact rfl
        · intro c23
          refine Exists.intro xm_93 (And.intro mi_93 (And.intro ⟨rfl, rfl, rfl, rfl⟩ (And.intro rfl ?_)))
          refine fcall _ h0 (fzs_sub (by decide +kernel) hW) hB15 (ct_People_sicken_1f528 (fBz h0 hB15) (by omega) (by omega)) ?_
          rintro IhB25 _ hB25 fhB25 rfl
          exact rfl
      · intro c26
        refine And.intro ⟨rfl, by decide, by decide⟩ ?_
        refine And.intro (by omega) (And.intro ?_ ?_)
        · intro c27
          refine Exists.intro xm_93 (And.intro mi_93 (And.intro ⟨rfl, rfl, rfl, rfl⟩ (And.intro rfl ?_)))
          refine fcall _ h0 (fzs_sub (by decide +kernel) hW) hB15 (ct_People_sicken_1f528 (fBz h0 hB15) (by omega) (by omega)) ?_
          rintro IhB29 _ hB29 fhB29 rfl
          exact rfl
        · intro c30
          refine Exists.intro xm_93 (And.intro mi_93 (And.intro ⟨rfl, rfl, rfl, rfl⟩ (And.intro rfl ?_)))
          refine fcall _ h0 (fzs_sub (by decide +kernel) hW) hB15 (ct_People_sicken_1f528 (fBz h0 hB15) (by omega) (by omega)) ?_
          rintro IhB32 _ hB32 fhB32 rfl
          exact rfl
    · intro c33
      refine And.intro ⟨rfl, by decide, by decide⟩ ?_
      refine And.intro ⟨rfl, by decide, by decide⟩ ?_
      refine And.intro ⟨rfl, by decide⟩ (And.intro (by omega) ?_)
      refine fload rL_6_25_0_4_1_0 h0 hB15 (by omega) ?_
      intro z34 lz34 uz34 qz34
      refine And.intro ⟨rfl, by decide, by decide⟩ ?_
      refine And.intro ⟨rfl, by decide, by decide⟩ ?_
      refine fload rL_3_3_0_19_1_0 h0 hB15 (by omega) ?_
      intro z35 lz35 uz35 qz35
      refine And.intro (by omega) (And.intro ?_ ?_)
      · intro c36
        refine And.intro ⟨rfl, by decide, by decide⟩ ?_
        refine And.intro (by omega) (And.intro ?_ ?_)
        · intro c37
          refine Exists.intro xm_93 (And.intro mi_93 (And.intro ⟨rfl, rfl, rfl, rfl⟩ (And.intro rfl ?_)))
          refine fcall _ h0 (fzs_sub (by decide +kernel) hW) hB15 (ct_People_sicken_1f528 (fBz h0 hB15) (by omega) (by omega)) ?_
          rintro IhB39 _ hB39 fhB39 rfl
          exact rfl
        · intro c40
          refine Exists.intro xm_93 (And.intro mi_93 (And.intro ⟨rfl, rfl, rfl, rfl⟩ (And.intro rfl ?_)))
          refine fcall _ h0 (fzs_sub (by decide +kernel) hW) hB15 (ct_People_sicken_1f528 (fBz h0 hB15) (by omega) (by omega)) ?_
          rintro IhB42 _ hB42 fhB42 rfl
          exact rfl
      · intro c43
        refine And.intro ⟨rfl, by decide, by decide⟩ ?_
        refine And.intro (by omega) (And.intro ?_ ?_)
        · intro c44
          refine Exists.intro xm_93 (And.intro mi_93 (And.intro ⟨rfl, rfl, rfl, rfl⟩ (And.intro rfl ?_)))
          refine fcall _ h0 (fzs_sub (by decide +kernel) hW) hB15 (ct_People_sicken_1f528 (fBz h0 hB15) (by omega) (by omega)) ?_
          rintro IhB46 _ hB46 fhB46 rfl
          exact rfl
        · intro c47
          refine Exists.intro xm_93 (And.intro mi_93 (And.intro ⟨rfl, rfl, rfl, rfl⟩ (And.intro rfl ?_)))
          refine fcall _ h0 (fzs_sub (by decide +kernel) hW) hB15 (ct_People_sicken_1f528 (fBz h0 hB15) (by omega) (by omega)) ?_
          rintro IhB49 _ hB49 fhB49 rfl
          exact rfl
abbrev jc_Works_foulAll_0fc04_2 : Nat → fL → List fV → fH → Prop := fun m lv st I => ∃ (y1 : Int), lv = [(0, .inr (.inr (some 163))), (1, .inl y1)] ∧ st = [] ∧ (((0 ≤ y1 ∧ y1 ≤ 24))) ∧ m = (1 + 1 * (24 - y1) : Int).toNat
set_option maxRecDepth 8000 in
theorem ct_Works_foulAll_0fc04 {I : fH}  (h0 : fB bsJ I)  : fC ρ base n F xTc vwCl xTys D dA la gJ (fbz bsJ znJ (fKc wz_57158) I) xm_95 [.inr (.inr (some 163))] I (fun _ r => r = none) := by
  have hW : fzs wz_57158 (fKc wz_57158) := fKc_ok _
  refine f_meth (rb := rbJ) (J := [(2, jc_Works_foulAll_0fc04_2)]) 26 400 xG xin_95 x6_95 okJ (fB_self h0) ?_ ?_
  · refine List.forall_mem_cons.mpr ⟨?_, fun q h => absurd h List.not_mem_nil⟩
    · rintro m _ _ I1 hB1 ⟨y1, rfl, rfl, hb, hm⟩
      refine And.intro ⟨rfl, by decide, by decide⟩ (fgetf fb_163_13 h0 hB1 ?_)
      intro z1 lz1 uz1 qz1
      refine And.intro (by omega) (And.intro ?_ ?_)
      · intro c2
        exact rfl
      · intro c3
        refine And.intro ⟨rfl, by decide, by decide⟩ ?_
        refine fload rL_174_174_0_23_1_0 h0 hB1 (by omega) ?_
        intro z4 lz4 uz4 qz4
        refine And.intro (by omega) (And.intro ?_ ?_)
        · intro c5
          exact fcutJ (I := I1) (j := jc_Works_foulAll_0fc04_2) (lv' := [(0, .inr (.inr (some 163))), (1, .inl _)]) (And.intro rfl (And.intro rfl True.intro)) ⟨_, rfl, rfl, by omega, rfl⟩ (by omega)
        · intro c6
          refine And.intro ⟨rfl, by decide, by decide⟩ ?_
          refine fload rL_170_170_0_23_1_0 h0 hB1 (by omega) ?_
          intro z7 lz7 uz7 qz7
          refine And.intro ⟨rfl, by decide, by decide⟩ ?_
          refine fload rL_169_169_0_23_1_0 h0 hB1 (by omega) ?_
          intro z8 lz8 uz8 qz8
          intro z9 hz9 ez9 bz9
          refine fstore rS_170_170_0_23_1_0 (fzs_sub (by decide +kernel) hW) (by omega) (by omega) ?_
          intro IhB10 ehB10 hB10
          have t11 := fup_self ehB10
          have t12 : IhB10 163 13 = I1 163 13 := (congrFun (congrFun ehB10 163) 13).trans (fup_ne (by omega))
          refine And.intro ⟨rfl, by decide, by decide⟩ ?_
          refine And.intro ⟨rfl, by decide, by decide⟩ ?_
          refine fload rL_168_168_0_23_1_0 h0 hB10 (by omega) ?_
          intro z13 lz13 uz13 qz13
          refine And.intro ⟨rfl, by decide, by decide⟩ ?_
          refine fload rL_170_170_0_23_1_0 h0 hB10 (by omega) ?_
          intro z14 lz14 uz14 qz14
          refine And.intro (And.intro (by omega) (And.intro (by omega) (And.intro (by omega) rfl))) ?_
          intro z15 hz15 ez15 dz15
          intro z16 hz16 ez16 bz16
          refine And.intro (And.intro (by omega) (And.intro (by omega) rfl)) ?_
          intro z17 hz17
          refine fstore rS_168_168_0_23_1_0 (fzs_sub (by decide +kernel) hW) (by omega) (by omega) ?_
          intro IhB18 ehB18 hB18
          have t19 := fup_self ehB18
          have t20 : IhB18 163 13 = IhB10 163 13 := (congrFun (congrFun ehB18 163) 13).trans (fup_ne (by omega))
          refine And.intro ⟨rfl, by decide, by decide⟩ ?_
          refine fload rL_170_170_0_23_1_0 h0 hB18 (by omega) ?_
          intro z21 lz21 uz21 qz21
          refine And.intro (And.intro (by omega) (And.intro (by omega) (And.intro (by omega) rfl))) ?_
          intro z22 hz22 ez22 dz22
          refine fstore rS_170_170_0_23_1_0 (fzs_sub (by decide +kernel) hW) (by omega) (by omega) ?_
          intro IhB23 ehB23 hB23
          have t24 := fup_self ehB23
          have t25 : IhB23 163 13 = IhB18 163 13 := (congrFun (congrFun ehB23 163) 13).trans (fup_ne (by omega))
          exact fcutJ (I := IhB23) (j := jc_Works_foulAll_0fc04_2) (lv' := [(0, .inr (.inr (some 163))), (1, .inl _)]) (And.intro rfl (And.intro rfl True.intro)) ⟨_, rfl, rfl, by omega, rfl⟩ (by omega)
  · have hB0 := fB_self (zn := znJ) (K := fKc wz_57158) h0
    exact fcutJ (I := I) (j := jc_Works_foulAll_0fc04_2) (lv' := [(0, .inr (.inr (some 163))), (1, .inl _)]) (And.intro rfl (And.intro rfl True.intro)) ⟨_, rfl, rfl, by omega, rfl⟩ (by omega)
set_option maxRecDepth 8000 in
theorem ct_Cells_hear_3a84b {I : fH} {x1 : Nat} (h0 : fB bsJ I) (ha1 : (73 ≤ x1 ∧ x1 ≤ 162)) : fC ρ base n F xTc vwCl xTys D dA la gJ (fbz bsJ znJ (fKc wz_ef877) I) xm_76 [.inr (.inr (some 2)), .inr (.inr (some x1))] I (fun _ r => r = none) := by
  have hW : fzs wz_ef877 (fKc wz_ef877) := fKc_ok _
  refine f_meth (rb := rbJ) (J := []) 1 400 xG xin_76 x6_76 okJ (fB_self h0) ?_ ?_
  · exact fun q h => absurd h List.not_mem_nil
  · have hB0 := fB_self (zn := znJ) (K := fKc wz_ef877) h0
    refine fload rL_73_162_7_7_1_0 h0 hB0 (by omega) ?_
    intro z1 lz1 uz1 qz1
    refine fload rL_73_162_5_5_1_0 h0 hB0 (by omega) ?_
    intro z2 lz2 uz2 qz2
    refine And.intro ⟨rfl, by decide, by decide⟩ ?_
    refine And.intro ⟨rfl, by decide⟩ (And.intro (by omega) ?_)
    refine fload rL_48_67_0_5_1_0 h0 hB0 (by omega) ?_
    intro z3 lz3 uz3 qz3
    refine And.intro (by omega) (And.intro ?_ ?_)
    · intro c4
      exact rfl
    · intro c5
      refine And.intro ⟨rfl, by decide, by decide⟩ ?_
      refine And.intro ⟨rfl, by decide⟩ (And.intro (by omega) ?_)
      refine And.intro (fcopyU (rgG_73_162 (by omega) (by omega)) (rgG_48_67 (by omega) (by omega)) rL_73_162_0_5_1_0 rS_48_67_0_5_1_0 (fzs_sub (by decide +kernel) hW) h0 hB0 (by omega) (by omega) (by omega) (by omega)) (And.intro rfl ?_)
      intro IhB6 ehB6 hB6
      exact rfl
abbrev jc_Cells_takeReports_b5cfd_4 : Nat → fL → List fV → fH → Prop := fun m lv st I => ∃ (y1 : Int) (y2 : Int) (y3 : Int), lv = [(0, .inr (.inr (some 2))), (1, .inl y1), (2, .inl y2), (3, .inl y3)] ∧ st = [] ∧ ((((-2147483648) ≤ y1 ∧ y1 ≤ 2147483647) ∧ (0 ≤ y2 ∧ y2 ≤ 90) ∧ (0 ≤ y3 ∧ y3 ≤ 90) ∧ (y2 ≤ y3))) ∧ m = (1 + 1 * (90 - y3) : Int).toNat
set_option maxRecDepth 8000 in
theorem ct_Cells_takeReports_b5cfd {I : fH} {x1 : Int} (h0 : fB bsJ I) (ha1 : ((-2147483648) ≤ x1 ∧ x1 ≤ 2147483647)) : fC ρ base n F xTc vwCl xTys D dA la gJ (fbz bsJ znJ (fKc wz_0cc09) I) xm_74 [.inr (.inr (some 2)), .inl x1] I (fun _ r => r = none) := by
  have hW : fzs wz_0cc09 (fKc wz_0cc09) := fKc_ok _
  refine f_meth (rb := rbJ) (J := [(4, jc_Cells_takeReports_b5cfd_4)]) 92 400 xG xin_74 x6_74 okJ (fB_self h0) ?_ ?_
  · refine List.forall_mem_cons.mpr ⟨?_, fun q h => absurd h List.not_mem_nil⟩
    · rintro m _ _ I1 hB1 ⟨y1, y2, y3, rfl, rfl, hb, hm⟩
      refine And.intro ⟨rfl, by decide, by decide⟩ (fgetf fb_2_12 h0 hB1 ?_)
      intro z1 lz1 uz1 qz1
      refine And.intro (by omega) (And.intro ?_ ?_)
      · intro c2
        refine And.intro ⟨rfl, by decide, by decide⟩ (And.intro rfl (And.intro (Or.inl rfl) (fputf fb_2_12 (by decide +kernel) hW (by omega) ?_)))
        intro IhB3 ehB3 hB3
        have t4 := fup_at ehB3 12 (by omega)
        exact rfl
      · intro c5
        refine And.intro ⟨rfl, by decide, by decide⟩ ?_
        refine And.intro ⟨rfl, by decide⟩ (And.intro (by omega) ?_)
        refine fload rL_73_162_6_6_1_0 h0 hB1 (by omega) ?_
        intro z6 lz6 uz6 qz6
        refine And.intro (by omega) (And.intro ?_ ?_)
        · intro c7
          refine Exists.intro xm_76 (And.intro mi_76 (And.intro ⟨rfl, rfl, rfl, rfl⟩ (And.intro rfl ?_)))
          refine fcall _ h0 (fzs_sub (by decide +kernel) hW) hB1 (ct_Cells_hear_3a84b (fBz h0 hB1) (by omega)) ?_
          rintro IhB9 _ hB9 fhB9 rfl
          have t10 := fhB9 2 12 (by decide +kernel)
          exact fcutJ (I := IhB9) (j := jc_Cells_takeReports_b5cfd_4) (lv' := [(0, .inr (.inr (some 2))), (1, .inl _), (2, .inl _), (3, .inl _)]) (And.intro rfl (And.intro rfl (And.intro rfl (And.intro rfl True.intro)))) ⟨_, _, _, rfl, rfl, by omega, rfl⟩ (by omega)
        · intro c11
          refine And.intro ⟨rfl, by decide, by decide⟩ ?_
          refine And.intro ⟨rfl, by decide⟩ (And.intro (by omega) ?_)
          refine Exists.intro xm_75 (And.intro mi_75 (And.intro ⟨rfl, rfl, rfl, rfl⟩ (And.intro True.intro ?_)))
          refine fcall _ h0 (fzs_sub (by decide +kernel) hW) hB1 (ct_copyRow (W := [72]) (len := 8) (fBz h0 hB1) (frCx (a0 := 73) (a1 := 162) (by decide +kernel) (by omega) (by omega))) ?_
          rintro IhB12 _ hB12 fhB12 ⟨rfl, ehB12⟩
          have t13 := fhB12 2 12 (by decide +kernel)
          intro z14 hz14 bz14
          exact fcutJ (I := IhB12) (j := jc_Cells_takeReports_b5cfd_4) (lv' := [(0, .inr (.inr (some 2))), (1, .inl _), (2, .inl _), (3, .inl _)]) (And.intro rfl (And.intro rfl (And.intro rfl (And.intro rfl True.intro)))) ⟨_, _, _, rfl, rfl, by omega, rfl⟩ (by omega)
  · have hB0 := fB_self (zn := znJ) (K := fKc wz_0cc09) h0
    exact fcutJ (I := I) (j := jc_Cells_takeReports_b5cfd_4) (lv' := [(0, .inr (.inr (some 2))), (1, .inl _), (2, .inl _), (3, .inl _)]) (And.intro rfl (And.intro rfl (And.intro rfl (And.intro rfl True.intro)))) ⟨_, _, _, rfl, rfl, by omega, rfl⟩ (by omega)
abbrev jc_Cells_flow_5ffc6_38 : Nat → fL → List fV → fH → Prop := fun m lv st I => ∃ (y1 : Int) (y2 : Int) (y3 : Int) (y4 : Int) (y5 : Int), lv = [(0, .inr (.inr (some 2))), (1, .inl y1), (2, .inl y2), (3, .inl y3), (4, .inl y4), (5, .inl y5)] ∧ st = [] ∧ (((0 ≤ y1 ∧ y1 ≤ 23) ∧ (0 ≤ y2 ∧ y2 ≤ 19) ∧ (0 ≤ y3 ∧ y3 ≤ 19) ∧ (1 ≤ y4 ∧ y4 ≤ 2147483647) ∧ (0 ≤ y5 ∧ y5 ≤ 5))) ∧ m = (1 + 1 * (5 - y5) : Int).toNat
set_option maxRecDepth 8000 in
theorem ct_Cells_flow_5ffc6 {I : fH} {x1 : Int} (h0 : fB bsJ I) (ha1 : (0 ≤ x1 ∧ x1 ≤ 23)) : fC ρ base n F xTc vwCl xTys D dA la gJ (fbz bsJ znJ (fKc wz_ed400) I) xm_89 [.inr (.inr (some 2)), .inl x1] I (fun _ r => r = none) := by
  have hW : fzs wz_ed400 (fKc wz_ed400) := fKc_ok _
  refine f_meth (rb := rbJ) (J := [(38, jc_Cells_flow_5ffc6_38)]) 7 400 xG xin_89 x6_89 okJ (fB_self h0) ?_ ?_
  · refine List.forall_mem_cons.mpr ⟨?_, fun q h => absurd h List.not_mem_nil⟩
    · rintro m _ _ I1 hB1 ⟨y1, y2, y3, y4, y5, rfl, rfl, hb, hm⟩
      refine And.intro (by omega) (And.intro ?_ ?_)
      · intro c1
        exact rfl
      · intro c2
        refine And.intro ⟨rfl, by decide, by decide⟩ ?_
        refine And.intro ⟨rfl, by decide⟩ (And.intro (by omega) ?_)
        refine fload rL_6_25_0_4_1_0 h0 hB1 (by omega) ?_
        intro z3 lz3 uz3 qz3
        refine And.intro ⟨rfl, by decide, by decide⟩ ?_
        refine fload rL_3_3_0_19_1_0 h0 hB1 (by omega) ?_
        intro z4 lz4 uz4 qz4
        intro z5 hz5 ez5 bz5
        refine And.intro ⟨rfl, by decide, by decide⟩ ?_
        refine And.intro ⟨rfl, by decide⟩ (And.intro (by omega) ?_)
        refine fload rL_6_25_0_4_1_0 h0 hB1 (by omega) ?_
        intro z6 lz6 uz6 qz6
        refine And.intro ⟨rfl, by decide, by decide⟩ ?_
        refine fload rL_3_3_0_19_1_0 h0 hB1 (by omega) ?_
        intro z7 lz7 uz7 qz7
        intro z8 hz8 ez8 bz8
        intro z9 hz9 ez9 bz9
        refine And.intro (And.intro (by omega) (And.intro (by omega) (And.intro (by omega) rfl))) ?_
        intro z10 hz10 ez10 dz10
        refine And.intro ⟨rfl, by decide, by decide⟩ ?_
        refine fload rL_70_70_0_23_1_0 h0 hB1 (by omega) ?_
        intro z11 lz11 uz11 qz11
        intro z12 hz12 ez12 bz12
        refine And.intro (And.intro (by omega) (And.intro (by omega) (And.intro (by omega) rfl))) ?_
        intro z13 hz13 ez13 dz13
        refine And.intro (by omega) (And.intro ?_ ?_)
        · intro c14
          refine And.intro ⟨rfl, by decide, by decide⟩ ?_
          refine And.intro ⟨rfl, by decide⟩ (And.intro (by omega) ?_)
          refine fload rL_6_25_0_4_1_0 h0 hB1 (by omega) ?_
          intro z15 lz15 uz15 qz15
          intro z16 hz16 ez16 bz16
          refine fstore rS_6_25_0_4_1_0 (fzs_sub (by decide +kernel) hW) (by omega) (by omega) ?_
          intro IhB17 ehB17 hB17
          have t18 := fup_self ehB17
          intro z19 hz19 ez19 bz19
          refine Exists.intro xm_84 (And.intro mi_84 (And.intro ⟨rfl, rfl, rfl, rfl⟩ (And.intro rfl ?_)))
          refine fcall _ h0 (fzs_sub (by decide +kernel) hW) hB17 (ct_Cells_addAir_1fa72 (fBz h0 hB17) (by omega) (by omega) (by omega)) ?_
          rintro IhB21 _ hB21 fhB21 rfl
          exact fcutJ (I := IhB21) (j := jc_Cells_flow_5ffc6_38) (lv' := [(0, .inr (.inr (some 2))), (1, .inl _), (2, .inl _), (3, .inl _), (4, .inl _), (5, .inl _)]) (And.intro rfl (And.intro rfl (And.intro rfl (And.intro rfl (And.intro rfl (And.intro rfl True.intro)))))) ⟨_, _, _, _, _, rfl, rfl, by omega, rfl⟩ (by omega)
        · intro c22
          refine And.intro ⟨rfl, by decide, by decide⟩ ?_
          refine And.intro ⟨rfl, by decide⟩ (And.intro (by omega) ?_)
          refine fload rL_6_25_0_4_1_0 h0 hB1 (by omega) ?_
          intro z23 lz23 uz23 qz23
          intro z24 hz24 ez24 bz24
          refine fstore rS_6_25_0_4_1_0 (fzs_sub (by decide +kernel) hW) (by omega) (by omega) ?_
          intro IhB25 ehB25 hB25
          have t26 := fup_self ehB25
          refine Exists.intro xm_84 (And.intro mi_84 (And.intro ⟨rfl, rfl, rfl, rfl⟩ (And.intro rfl ?_)))
          refine fcall _ h0 (fzs_sub (by decide +kernel) hW) hB25 (ct_Cells_addAir_1fa72 (fBz h0 hB25) (by omega) (by omega) (by omega)) ?_
          rintro IhB28 _ hB28 fhB28 rfl
          exact fcutJ (I := IhB28) (j := jc_Cells_flow_5ffc6_38) (lv' := [(0, .inr (.inr (some 2))), (1, .inl _), (2, .inl _), (3, .inl _), (4, .inl _), (5, .inl _)]) (And.intro rfl (And.intro rfl (And.intro rfl (And.intro rfl (And.intro rfl (And.intro rfl True.intro)))))) ⟨_, _, _, _, _, rfl, rfl, by omega, rfl⟩ (by omega)
  · have hB0 := fB_self (zn := znJ) (K := fKc wz_ed400) h0
    refine And.intro ⟨rfl, by decide, by decide⟩ ?_
    refine fload rL_68_68_0_23_1_0 h0 hB0 (by omega) ?_
    intro z29 lz29 uz29 qz29
    refine And.intro ⟨rfl, by decide, by decide⟩ ?_
    refine fload rL_69_69_0_23_1_0 h0 hB0 (by omega) ?_
    intro z30 lz30 uz30 qz30
    refine And.intro ⟨rfl, by decide, by decide⟩ ?_
    refine fload rL_3_3_0_19_1_0 h0 hB0 (by omega) ?_
    intro z31 lz31 uz31 qz31
    refine And.intro ⟨rfl, by decide, by decide⟩ ?_
    refine fload rL_3_3_0_19_1_0 h0 hB0 (by omega) ?_
    intro z32 lz32 uz32 qz32
    intro z33 hz33 ez33 bz33
    refine And.intro (by omega) (And.intro ?_ ?_)
    · intro c34
      exact fcutJ (I := I) (j := jc_Cells_flow_5ffc6_38) (lv' := [(0, .inr (.inr (some 2))), (1, .inl _), (2, .inl _), (3, .inl _), (4, .inl _), (5, .inl _)]) (And.intro rfl (And.intro rfl (And.intro rfl (And.intro rfl (And.intro rfl (And.intro rfl True.intro)))))) ⟨_, _, _, _, _, rfl, rfl, by omega, rfl⟩ (by omega)
    · intro c35
      exact rfl
abbrev jc_Cells_flowAll_6143e_2 : Nat → fL → List fV → fH → Prop := fun m lv st I => ∃ (y1 : Int), lv = [(0, .inr (.inr (some 2))), (1, .inl y1)] ∧ st = [] ∧ (((0 ≤ y1 ∧ y1 ≤ 24))) ∧ m = (1 + 1 * (24 - y1) : Int).toNat
set_option maxRecDepth 8000 in
theorem ct_Cells_flowAll_6143e {I : fH}  (h0 : fB bsJ I)  : fC ρ base n F xTc vwCl xTys D dA la gJ (fbz bsJ znJ (fKc wz_ed400) I) xm_88 [.inr (.inr (some 2))] I (fun _ r => r = none) := by
  have hW : fzs wz_ed400 (fKc wz_ed400) := fKc_ok _
  refine f_meth (rb := rbJ) (J := [(2, jc_Cells_flowAll_6143e_2)]) 26 400 xG xin_88 x6_88 okJ (fB_self h0) ?_ ?_
  · refine List.forall_mem_cons.mpr ⟨?_, fun q h => absurd h List.not_mem_nil⟩
    · rintro m _ _ I1 hB1 ⟨y1, rfl, rfl, hb, hm⟩
      refine And.intro ⟨rfl, by decide, by decide⟩ (fgetf fb_2_10 h0 hB1 ?_)
      intro z1 lz1 uz1 qz1
      refine And.intro (by omega) (And.intro ?_ ?_)
      · intro c2
        exact rfl
      · intro c3
        refine And.intro ⟨rfl, by decide, by decide⟩ ?_
        refine fload rL_71_71_0_23_1_0 h0 hB1 (by omega) ?_
        intro z4 lz4 uz4 qz4
        refine And.intro (by omega) (And.intro ?_ ?_)
        · intro c5
          exact fcutJ (I := I1) (j := jc_Cells_flowAll_6143e_2) (lv' := [(0, .inr (.inr (some 2))), (1, .inl _)]) (And.intro rfl (And.intro rfl True.intro)) ⟨_, rfl, rfl, by omega, rfl⟩ (by omega)
        · intro c6
          refine Exists.intro xm_89 (And.intro mi_89 (And.intro ⟨rfl, rfl, rfl, rfl⟩ (And.intro rfl ?_)))
          refine fcall _ h0 (fzs_sub (by decide +kernel) hW) hB1 (ct_Cells_flow_5ffc6 (fBz h0 hB1) (by omega)) ?_
          rintro IhB8 _ hB8 fhB8 rfl
          have t9 := fhB8 2 10 (by decide +kernel)
          exact fcutJ (I := IhB8) (j := jc_Cells_flowAll_6143e_2) (lv' := [(0, .inr (.inr (some 2))), (1, .inl _)]) (And.intro rfl (And.intro rfl True.intro)) ⟨_, rfl, rfl, by omega, rfl⟩ (by omega)
  · have hB0 := fB_self (zn := znJ) (K := fKc wz_ed400) h0
    exact fcutJ (I := I) (j := jc_Cells_flowAll_6143e_2) (lv' := [(0, .inr (.inr (some 2))), (1, .inl _)]) (And.intro rfl (And.intro rfl True.intro)) ⟨_, rfl, rfl, by omega, rfl⟩ (by omega)
set_option maxRecDepth 8000 in
theorem ct_City_rise_1dcb3 {I : fH}  (h0 : fB bsJ I)  : fC ρ base n F xTc vwCl xTys D dA la gJ (fbz bsJ znJ (fKc wz_fd6d1) I) xm_94 [.inr (.inr (some 1))] I (fun _ r => r = none) := by
  have hW : fzs wz_fd6d1 (fKc wz_fd6d1) := fKc_ok _
  refine f_meth (rb := rbJ) (J := []) 1 400 xG xin_94 x6_94 okJ (fB_self h0) ?_ ?_
  · exact fun q h => absurd h List.not_mem_nil
  · have hB0 := fB_self (zn := znJ) (K := fKc wz_fd6d1) h0
    refine Exists.intro xm_62 (And.intro mi_62 (And.intro ⟨rfl, rfl, rfl, rfl⟩ (And.intro rfl ?_)))
    refine fcallp hB0 (ct_City_lift_641ac (fBz h0 hB0)) ?_
    rintro _ ⟨z1, rfl, hz1⟩
    refine Exists.intro xm_65 (And.intro mi_65 (And.intro ⟨rfl, rfl, rfl, rfl⟩ (And.intro rfl ?_)))
    refine fcallp hB0 (ct_City_weight_75fdd (fBz h0 hB0)) ?_
    rintro _ ⟨z2, rfl, hz2⟩
    intro z3 hz3 ez3 bz3
    refine And.intro (And.intro (by omega) (And.intro (by omega) (And.intro (by omega) rfl))) ?_
    intro z4 hz4 ez4 dz4
    refine And.intro (And.intro (by omega) (And.intro (by omega) rfl)) ?_
    intro z5 hz5
    refine And.intro (And.intro (by omega) (And.intro (by omega) rfl)) ?_
    intro z6 hz6
    refine And.intro ⟨rfl, by decide, by decide⟩ (fgetf fb_1_5 h0 hB0 ?_)
    intro z7 lz7 uz7 qz7
    refine And.intro (And.intro (by omega) (And.intro (by omega) rfl)) ?_
    intro z8 hz8
    refine And.intro (And.intro (by omega) (And.intro (by omega) rfl)) ?_
    intro z9 hz9
    refine And.intro ⟨rfl, by decide, by decide⟩ (And.intro rfl (And.intro (Or.inl rfl) (fputf fb_1_5 (by decide +kernel) hW (by omega) ?_)))
    intro IhB10 ehB10 hB10
    have t11 := fup_at ehB10 5 (by omega)
    exact rfl
set_option maxRecDepth 8000 in
theorem ct_Cells_sendReport_d1e0c {I : fH} {x1 : Int} {x2 : Int} {x3 : Int} (h0 : fB bsJ I) (ha1 : (0 ≤ x1 ∧ x1 ≤ 19)) (ha2 : ((-2147483648) ≤ x2 ∧ x2 ≤ 2147483647)) (ha3 : ((-2147483648) ≤ x3 ∧ x3 ≤ 2147483647)) : fC ρ base n F xTc vwCl xTys D dA la gJ (fbz bsJ znJ (fKc wz_0cc09) I) xm_98 [.inr (.inr (some 2)), .inl x1, .inl x2, .inl x3] I (fun _ r => r = none) := by
  have hW : fzs wz_0cc09 (fKc wz_0cc09) := fKc_ok _
  refine f_meth (rb := rbJ) (J := []) 1 400 xG xin_98 x6_98 okJ (fB_self h0) ?_ ?_
  · exact fun q h => absurd h List.not_mem_nil
  · have hB0 := fB_self (zn := znJ) (K := fKc wz_0cc09) h0
    refine And.intro (by omega) (And.intro ?_ ?_)
    · intro c1
      refine And.intro ⟨rfl, by decide, by decide⟩ (fgetf fb_2_12 h0 hB0 ?_)
      intro z2 lz2 uz2 qz2
      refine And.intro (by omega) (And.intro ?_ ?_)
      · intro c3
        exact rfl
      · intro c4
        refine And.intro ⟨rfl, by decide, by decide⟩ ?_
        refine And.intro ⟨rfl, by decide, by decide⟩ (fgetf fb_2_12 h0 hB0 ?_)
        intro z5 lz5 uz5 qz5
        refine And.intro ⟨rfl, by decide⟩ (And.intro (by omega) ?_)
        refine And.intro ⟨rfl, by decide, by decide⟩ ?_
        refine And.intro ⟨rfl, by decide⟩ (And.intro (by omega) ?_)
        refine And.intro (fcopyU (rgG_6_25 (by omega) (by omega)) (rgG_73_162 (by omega) (by omega)) rL_6_25_0_4_1_0 rS_73_162_0_4_1_0 (fzs_sub (by decide +kernel) hW) h0 hB0 (by omega) (by omega) (by omega) (by omega)) (And.intro rfl ?_)
        intro IhB6 ehB6 hB6
        have t7 : IhB6 2 12 = I 2 12 := (congrFun (congrFun ehB6 2) 12).trans (fcpy_ne (by omega))
        refine fstore rS_73_162_5_5_1_0 (fzs_sub (by decide +kernel) hW) (by omega) (by omega) ?_
        intro IhB8 ehB8 hB8
        have t9 := fup_self ehB8
        have t10 : IhB8 2 12 = IhB6 2 12 := (congrFun (congrFun ehB8 2) 12).trans (fup_ne (by omega))
        intro z11 hz11 ez11 bz11
        refine fstore rS_73_162_6_6_1_0 (fzs_sub (by decide +kernel) hW) (by omega) (by omega) ?_
        intro IhB12 ehB12 hB12
        have t13 := fup_self ehB12
        have t14 : IhB12 2 12 = IhB8 2 12 := (congrFun (congrFun ehB12 2) 12).trans (fup_ne (by omega))
        refine fstore rS_73_162_7_7_1_0 (fzs_sub (by decide +kernel) hW) (by omega) (by omega) ?_
        intro IhB15 ehB15 hB15
        have t16 := fup_self ehB15
        have t17 : IhB15 2 12 = IhB12 2 12 := (congrFun (congrFun ehB15 2) 12).trans (fup_ne (by omega))
        refine And.intro ⟨rfl, by decide, by decide⟩ (fgetf fb_2_12 h0 hB15 ?_)
        intro z18 lz18 uz18 qz18
        refine And.intro ⟨rfl, by decide, by decide⟩ (And.intro rfl (And.intro (Or.inl rfl) (fputf fb_2_12 (by decide +kernel) hW (by omega) ?_)))
        intro IhB19 ehB19 hB19
        exact rfl
    · intro c20
      refine And.intro ⟨rfl, by decide, by decide⟩ ?_
      refine And.intro ⟨rfl, by decide⟩ (And.intro (by omega) ?_)
      refine And.intro ⟨rfl, by decide, by decide⟩ ?_
      refine And.intro ⟨rfl, by decide⟩ (And.intro (by omega) ?_)
      refine And.intro (fcopyU (rgG_6_25 (by omega) (by omega)) (rgG_48_67 (by omega) (by omega)) rL_6_25_0_4_1_0 rS_48_67_0_5_1_0 (fzs_sub (by decide +kernel) hW) h0 hB0 (by omega) (by omega) (by omega) (by omega)) (And.intro rfl ?_)
      intro IhB21 ehB21 hB21
      refine And.intro ⟨rfl, by decide, by decide⟩ ?_
      refine And.intro ⟨rfl, by decide⟩ (And.intro (by omega) ?_)
      refine fstore rS_48_67_0_5_1_0 (fzs_sub (by decide +kernel) hW) (by omega) (by omega) ?_
      intro IhB22 ehB22 hB22
      have t23 := fup_self ehB22
      exact rfl
abbrev jc_People_isWatched_5c632_2 : Nat → fL → List fV → fH → Prop := fun m lv st I => ∃ (y1 : Int) (y2 : Int), lv = [(0, .inr (.inr (some 177))), (1, .inl y1), (2, .inl y2)] ∧ st = [] ∧ (((0 ≤ y1 ∧ y1 ≤ 19) ∧ (0 ≤ y2 ∧ y2 ≤ 24))) ∧ m = (1 + 1 * (24 - y2) : Int).toNat
set_option maxRecDepth 8000 in
theorem ct_People_isWatched_5c632 {I : fH} {x1 : Int} (h0 : fB bsJ I) (ha1 : (0 ≤ x1 ∧ x1 ≤ 19)) : fC ρ base n F xTc vwCl xTys D dA la gJ (fbz bsJ znJ (fKc []) I) xm_97 [.inr (.inr (some 177)), .inl x1] I (fun _ r => ∃ z, r = some (.inl z) ∧ (0 ≤ z ∧ z ≤ 1)) := by
  have hW : fzs [] (fKc []) := fKc_ok _
  refine f_meth (rb := rbJ) (J := [(2, jc_People_isWatched_5c632_2)]) 26 400 xG xin_97 x6_97 okJ (fB_self h0) ?_ ?_
  · refine List.forall_mem_cons.mpr ⟨?_, fun q h => absurd h List.not_mem_nil⟩
    · rintro m _ _ I1 hB1 ⟨y1, y2, rfl, rfl, hb, hm⟩
      refine And.intro ⟨rfl, by decide, by decide⟩ (fgetf fb_177_4 h0 hB1 ?_)
      intro z1 lz1 uz1 qz1
      refine And.intro (by omega) (And.intro ?_ ?_)
      · intro c2
        refine And.intro (⟨by omega, by omega⟩) ?_
        exact ⟨_, rfl, by omega⟩
      · intro c3
        refine And.intro ⟨rfl, by decide, by decide⟩ ?_
        refine fload rL_180_180_0_23_1_0 h0 hB1 (by omega) ?_
        intro z4 lz4 uz4 qz4
        refine And.intro (by omega) (And.intro ?_ ?_)
        · intro c5
          exact fcutJ (I := I1) (j := jc_People_isWatched_5c632_2) (lv' := [(0, .inr (.inr (some 177))), (1, .inl _), (2, .inl _)]) (And.intro rfl (And.intro rfl (And.intro rfl True.intro))) ⟨_, _, rfl, rfl, by omega, rfl⟩ (by omega)
        · intro c6
          refine And.intro ⟨rfl, by decide, by decide⟩ ?_
          refine fload rL_179_179_0_23_1_0 h0 hB1 (by omega) ?_
          intro z7 lz7 uz7 qz7
          refine And.intro (by omega) (And.intro ?_ ?_)
          · intro c8
            exact fcutJ (I := I1) (j := jc_People_isWatched_5c632_2) (lv' := [(0, .inr (.inr (some 177))), (1, .inl _), (2, .inl _)]) (And.intro rfl (And.intro rfl (And.intro rfl True.intro))) ⟨_, _, rfl, rfl, by omega, rfl⟩ (by omega)
          · intro c9
            refine Exists.intro xm_21 (And.intro mi_21 (And.intro ⟨rfl, rfl, rfl, rfl⟩ (And.intro rfl ?_)))
            refine fcallp hB1 (ct_People_isDead_edb17 (fBz h0 hB1) (by omega)) ?_
            rintro _ ⟨z10, rfl, hz10⟩
            refine And.intro (by omega) (And.intro ?_ ?_)
            · intro c11
              exact fcutJ (I := I1) (j := jc_People_isWatched_5c632_2) (lv' := [(0, .inr (.inr (some 177))), (1, .inl _), (2, .inl _)]) (And.intro rfl (And.intro rfl (And.intro rfl True.intro))) ⟨_, _, rfl, rfl, by omega, rfl⟩ (by omega)
            · intro c12
              refine And.intro (⟨by omega, by omega⟩) ?_
              exact ⟨_, rfl, by omega⟩
  · have hB0 := fB_self (zn := znJ) (K := fKc []) h0
    exact fcutJ (I := I) (j := jc_People_isWatched_5c632_2) (lv' := [(0, .inr (.inr (some 177))), (1, .inl _), (2, .inl _)]) (And.intro rfl (And.intro rfl (And.intro rfl True.intro))) ⟨_, _, rfl, rfl, by omega, rfl⟩ (by omega)
abbrev jc_City_sendReports_0032f_2 : Nat → fL → List fV → fH → Prop := fun m lv st I => ∃ (y1 : Int), lv = [(0, .inr (.inr (some 1))), (1, .inl y1)] ∧ st = [] ∧ (((0 ≤ y1 ∧ y1 ≤ 20))) ∧ m = (1 + 1 * (20 - y1) : Int).toNat
set_option maxRecDepth 8000 in
theorem ct_City_sendReports_0032f {I : fH}  (h0 : fB bsJ I)  : fC ρ base n F xTc vwCl xTys D dA la gJ (fbz bsJ znJ (fKc wz_0cc09) I) xm_96 [.inr (.inr (some 1))] I (fun _ r => r = none) := by
  have hW : fzs wz_0cc09 (fKc wz_0cc09) := fKc_ok _
  refine f_meth (rb := rbJ) (J := [(2, jc_City_sendReports_0032f_2)]) 22 400 xG xin_96 x6_96 okJ (fB_self h0) ?_ ?_
  · refine List.forall_mem_cons.mpr ⟨?_, fun q h => absurd h List.not_mem_nil⟩
    · rintro m _ _ I1 hB1 ⟨y1, rfl, rfl, hb, hm⟩
      refine And.intro ⟨rfl, by decide, by decide⟩ ?_
      refine And.intro ⟨rfl, by decide, by decide⟩ (fgetf fb_2_5 h0 hB1 ?_)
      intro z1 lz1 uz1 qz1
      refine And.intro (by omega) (And.intro ?_ ?_)
      · intro c2
        exact rfl
      · intro c3
        refine And.intro ⟨rfl, by decide, by decide⟩ ?_
        refine Exists.intro xm_97 (And.intro mi_97 (And.intro ⟨rfl, rfl, rfl, rfl⟩ (And.intro rfl ?_)))
        refine fcallp hB1 (ct_People_isWatched_5c632 (fBz h0 hB1) (by omega)) ?_
        rintro _ ⟨z4, rfl, hz4⟩
        refine And.intro (by omega) (And.intro ?_ ?_)
        · intro c5
          exact fcutJ (I := I1) (j := jc_City_sendReports_0032f_2) (lv' := [(0, .inr (.inr (some 1))), (1, .inl _)]) (And.intro rfl (And.intro rfl True.intro)) ⟨_, rfl, rfl, by omega, rfl⟩ (by omega)
        · intro c6
          refine And.intro ⟨rfl, by decide, by decide⟩ ?_
          refine And.intro ⟨rfl, by decide, by decide⟩ (fgetf fb_1_9 h0 hB1 ?_)
          intro z7 lz7 uz7 qz7
          refine And.intro ⟨rfl, by decide, by decide⟩ (fgetf fb_1_8 h0 hB1 ?_)
          intro z8 lz8 uz8 qz8
          refine Exists.intro xm_98 (And.intro mi_98 (And.intro ⟨rfl, rfl, rfl, rfl⟩ (And.intro rfl ?_)))
          refine fcall _ h0 (fzs_sub (by decide +kernel) hW) hB1 (ct_Cells_sendReport_d1e0c (fBz h0 hB1) (by omega) (by omega) (by omega)) ?_
          rintro IhB10 _ hB10 fhB10 rfl
          have t11 := fhB10 2 5 (by decide +kernel)
          exact fcutJ (I := IhB10) (j := jc_City_sendReports_0032f_2) (lv' := [(0, .inr (.inr (some 1))), (1, .inl _)]) (And.intro rfl (And.intro rfl True.intro)) ⟨_, rfl, rfl, by omega, rfl⟩ (by omega)
  · have hB0 := fB_self (zn := znJ) (K := fKc wz_0cc09) h0
    exact fcutJ (I := I) (j := jc_City_sendReports_0032f_2) (lv' := [(0, .inr (.inr (some 1))), (1, .inl _)]) (And.intro rfl (And.intro rfl True.intro)) ⟨_, rfl, rfl, by omega, rfl⟩ (by omega)
abbrev jc_City_passMinute_6a7f6_13 : Nat → fL → List fV → fH → Prop := fun m lv st I => ∃ (y1 : Int), lv = [(0, .inr (.inr (some 1))), (1, .inl y1)] ∧ st = [] ∧ (((0 ≤ y1 ∧ y1 ≤ 24))) ∧ m = (26 + 1 * (24 - y1) : Int).toNat
abbrev jc_City_passMinute_6a7f6_75 : Nat → fL → List fV → fH → Prop := fun m lv st I => ∃ (y1 : Int), lv = [(0, .inr (.inr (some 1))), (1, .inl y1)] ∧ st = [] ∧ (((0 ≤ y1 ∧ y1 ≤ 24))) ∧ m = (1 + 1 * (24 - y1) : Int).toNat
set_option maxRecDepth 8000 in
theorem ct_City_passMinute_6a7f6 {I : fH}  (h0 : fB bsJ I)  : fC ρ base n F xTc vwCl xTys D dA la gJ (fbz bsJ znJ (fKc wz_c5d03) I) xm_73 [.inr (.inr (some 1))] I (fun _ r => r = none) := by
  have hW : fzs wz_c5d03 (fKc wz_c5d03) := fKc_ok _
  refine f_meth (rb := rbJ) (J := [(13, jc_City_passMinute_6a7f6_13), (75, jc_City_passMinute_6a7f6_75)]) 51 400 xG xin_73 x6_73 okJ (fB_self h0) ?_ ?_
  · refine List.forall_mem_cons.mpr ⟨?_, List.forall_mem_cons.mpr ⟨?_, fun q h => absurd h List.not_mem_nil⟩⟩
    · rintro m _ _ I1 hB1 ⟨y1, rfl, rfl, hb, hm⟩
      refine And.intro ⟨rfl, by decide, by decide⟩ ?_
      refine And.intro ⟨rfl, by decide, by decide⟩ (fgetf fb_163_13 h0 hB1 ?_)
      intro z1 lz1 uz1 qz1
      refine And.intro (by omega) (And.intro ?_ ?_)
      · intro c2
        refine And.intro ⟨rfl, by decide, by decide⟩ ?_
        refine Exists.intro xm_88 (And.intro mi_88 (And.intro ⟨rfl, rfl, rfl, rfl⟩ (And.intro rfl ?_)))
        refine fcall _ h0 (fzs_sub (by decide +kernel) hW) hB1 (ct_Cells_flowAll_6143e (fBz h0 hB1)) ?_
        rintro IhB4 _ hB4 fhB4 rfl
        have t5 := fhB4 163 13 (by decide +kernel)
        refine And.intro ⟨rfl, by decide, by decide⟩ ?_
        refine Exists.intro xm_90 (And.intro mi_90 (And.intro ⟨rfl, rfl, rfl, rfl⟩ (And.intro rfl ?_)))
        refine fcall _ h0 (fzs_sub (by decide +kernel) hW) hB4 (ct_Cells_leakAll_bf967 (fBz h0 hB4)) ?_
        rintro IhB7 _ hB7 fhB7 rfl
        have t8 := fhB7 163 13 (by decide +kernel)
        exact fcutJ (I := IhB7) (j := jc_City_passMinute_6a7f6_75) (lv' := [(0, .inr (.inr (some 1))), (1, .inl _)]) (And.intro rfl (And.intro rfl True.intro)) ⟨_, rfl, rfl, by omega, rfl⟩ (by omega)
      · intro c9
        refine And.intro ⟨rfl, by decide, by decide⟩ ?_
        refine And.intro ⟨rfl, by decide, by decide⟩ ?_
        refine fload rL_167_167_0_23_1_0 h0 hB1 (by omega) ?_
        intro z10 lz10 uz10 qz10
        refine And.intro (by omega) (And.intro ?_ ?_)
        · intro c11
          exact fcutJ (I := I1) (j := jc_City_passMinute_6a7f6_13) (lv' := [(0, .inr (.inr (some 1))), (1, .inl _)]) (And.intro rfl (And.intro rfl True.intro)) ⟨_, rfl, rfl, by omega, rfl⟩ (by omega)
        · intro c12
          refine And.intro ⟨rfl, by decide, by decide⟩ ?_
          refine Exists.intro xm_50 (And.intro mi_50 (And.intro ⟨rfl, rfl, rfl, rfl⟩ (And.intro rfl ?_)))
          refine fcallp hB1 (ct_Works_isGone_6681e (fBz h0 hB1) (by omega)) ?_
          rintro _ ⟨z13, rfl, hz13⟩
          refine And.intro (by omega) (And.intro ?_ ?_)
          · intro c14
            exact fcutJ (I := I1) (j := jc_City_passMinute_6a7f6_13) (lv' := [(0, .inr (.inr (some 1))), (1, .inl _)]) (And.intro rfl (And.intro rfl True.intro)) ⟨_, rfl, rfl, by omega, rfl⟩ (by omega)
          · intro c15
            refine Exists.intro xm_77 (And.intro mi_77 (And.intro ⟨rfl, rfl, rfl, rfl⟩ (And.intro rfl ?_)))
            refine fcall _ h0 (fzs_sub (by decide +kernel) hW) hB1 (ct_City_runWork_55621 (fBz h0 hB1) (by omega)) ?_
            rintro IhB17 _ hB17 fhB17 rfl
            have t18 := fhB17 163 13 (by decide +kernel)
            exact fcutJ (I := IhB17) (j := jc_City_passMinute_6a7f6_13) (lv' := [(0, .inr (.inr (some 1))), (1, .inl _)]) (And.intro rfl (And.intro rfl True.intro)) ⟨_, rfl, rfl, by omega, rfl⟩ (by omega)
    · rintro m _ _ I1 hB1 ⟨y1, rfl, rfl, hb, hm⟩
      refine And.intro ⟨rfl, by decide, by decide⟩ ?_
      refine And.intro ⟨rfl, by decide, by decide⟩ (fgetf fb_177_4 h0 hB1 ?_)
      intro z19 lz19 uz19 qz19
      refine And.intro (by omega) (And.intro ?_ ?_)
      · intro c20
        refine Exists.intro xm_94 (And.intro mi_94 (And.intro ⟨rfl, rfl, rfl, rfl⟩ (And.intro rfl ?_)))
        refine fcall _ h0 (fzs_sub (by decide +kernel) hW) hB1 (ct_City_rise_1dcb3 (fBz h0 hB1)) ?_
        rintro IhB22 _ hB22 fhB22 rfl
        have t23 := fhB22 177 4 (by decide +kernel)
        refine And.intro ⟨rfl, by decide, by decide⟩ (fgetf fb_1_6 h0 hB22 ?_)
        intro z24 lz24 uz24 qz24
        intro z25 hz25 ez25 bz25
        refine And.intro ⟨rfl, by decide, by decide⟩ (And.intro rfl (And.intro (Or.inl rfl) (fputf fb_1_6 (by decide +kernel) hW (by omega) ?_)))
        intro IhB26 ehB26 hB26
        have t27 := fup_at ehB26 6 (by omega)
        have t28 : IhB26 177 4 = IhB22 177 4 := (congrFun (congrFun ehB26 177) 4).trans (fup_ne (by omega))
        refine And.intro ⟨rfl, by decide, by decide⟩ ?_
        refine Exists.intro xm_95 (And.intro mi_95 (And.intro ⟨rfl, rfl, rfl, rfl⟩ (And.intro rfl ?_)))
        refine fcall _ h0 (fzs_sub (by decide +kernel) hW) hB26 (ct_Works_foulAll_0fc04 (fBz h0 hB26)) ?_
        rintro IhB30 _ hB30 fhB30 rfl
        have t31 := fhB30 1 6 (by decide +kernel)
        have t32 := fhB30 177 4 (by decide +kernel)
        refine And.intro ⟨rfl, by decide, by decide⟩ (fgetf fb_1_9 h0 hB30 ?_)
        intro z33 lz33 uz33 qz33
        intro z34 hz34 ez34 bz34
        refine And.intro ⟨rfl, by decide, by decide⟩ (And.intro rfl (And.intro (Or.inl rfl) (fputf fb_1_9 (by decide +kernel) hW (by omega) ?_)))
        intro IhB35 ehB35 hB35
        have t36 : IhB35 1 6 = IhB30 1 6 := (congrFun (congrFun ehB35 1) 6).trans (fup_ne (by omega))
        have t37 := fup_at ehB35 9 (by omega)
        have t38 : IhB35 177 4 = IhB30 177 4 := (congrFun (congrFun ehB35 177) 4).trans (fup_ne (by omega))
        refine And.intro ⟨rfl, by decide, by decide⟩ (fgetf fb_1_9 h0 hB35 ?_)
        intro z39 lz39 uz39 qz39
        refine And.intro (And.intro (by omega) (And.intro (by omega) (And.intro (by omega) rfl))) ?_
        intro z40 hz40 ez40 dz40
        refine And.intro (by omega) (And.intro ?_ ?_)
        · intro c41
          exact rfl
        · intro c42
          refine Exists.intro xm_96 (And.intro mi_96 (And.intro ⟨rfl, rfl, rfl, rfl⟩ (And.intro rfl ?_)))
          refine fcall _ h0 (fzs_sub (by decide +kernel) hW) hB35 (ct_City_sendReports_0032f (fBz h0 hB35)) ?_
          rintro IhB44 _ hB44 fhB44 rfl
          have t45 := fhB44 1 6 (by decide +kernel)
          have t46 := fhB44 1 9 (by decide +kernel)
          have t47 := fhB44 177 4 (by decide +kernel)
          exact rfl
      · intro c48
        refine And.intro ⟨rfl, by decide, by decide⟩ ?_
        refine Exists.intro xm_21 (And.intro mi_21 (And.intro ⟨rfl, rfl, rfl, rfl⟩ (And.intro rfl ?_)))
        refine fcallp hB1 (ct_People_isDead_edb17 (fBz h0 hB1) (by omega)) ?_
        rintro _ ⟨z49, rfl, hz49⟩
        refine And.intro (by omega) (And.intro ?_ ?_)
        · intro c50
          exact fcutJ (I := I1) (j := jc_City_passMinute_6a7f6_75) (lv' := [(0, .inr (.inr (some 1))), (1, .inl _)]) (And.intro rfl (And.intro rfl True.intro)) ⟨_, rfl, rfl, by omega, rfl⟩ (by omega)
        · intro c51
          refine Exists.intro xm_91 (And.intro mi_91 (And.intro ⟨rfl, rfl, rfl, rfl⟩ (And.intro rfl ?_)))
          refine fcall _ h0 (fzs_sub (by decide +kernel) hW) hB1 (ct_City_breathe_98bcc (fBz h0 hB1) (by omega)) ?_
          rintro IhB53 _ hB53 fhB53 rfl
          have t54 := fhB53 177 4 (by decide +kernel)
          exact fcutJ (I := IhB53) (j := jc_City_passMinute_6a7f6_75) (lv' := [(0, .inr (.inr (some 1))), (1, .inl _)]) (And.intro rfl (And.intro rfl True.intro)) ⟨_, rfl, rfl, by omega, rfl⟩ (by omega)
  · have hB0 := fB_self (zn := znJ) (K := fKc wz_c5d03) h0
    refine And.intro ⟨rfl, by decide, by decide⟩ ?_
    refine And.intro ⟨rfl, by decide, by decide⟩ (fgetf fb_1_9 h0 hB0 ?_)
    intro z55 lz55 uz55 qz55
    refine Exists.intro xm_74 (And.intro mi_74 (And.intro ⟨rfl, rfl, rfl, rfl⟩ (And.intro rfl ?_)))
    refine fcall _ h0 (fzs_sub (by decide +kernel) hW) hB0 (ct_Cells_takeReports_b5cfd (fBz h0 hB0) (by omega)) ?_
    rintro IhB57 _ hB57 fhB57 rfl
    have t58 := fhB57 1 9 (by decide +kernel)
    exact fcutJ (I := IhB57) (j := jc_City_passMinute_6a7f6_13) (lv' := [(0, .inr (.inr (some 1))), (1, .inl _)]) (And.intro rfl (And.intro rfl True.intro)) ⟨_, rfl, rfl, by omega, rfl⟩ (by omega)
abbrev jc_X_run_f9fd1_33 : Nat → fL → List fV → fH → Prop := fun m lv st I => ∃ (y1 : Int) (y2 : Int), lv = [(0, .inr (.inr (some 0))), (1, .inl y1), (2, .inl y2)] ∧ st = [] ∧ (((1 ≤ y1 ∧ y1 ≤ 120) ∧ (0 ≤ y2 ∧ y2 ≤ 120))) ∧ m = (1 + 1 * (120 - y2) : Int).toNat
set_option maxRecDepth 8000 in
theorem ct_X_run_f9fd1 {I : fH} {x1 : Int} (h0 : fB bsJ I) (ha1 : ((-2147483648) ≤ x1 ∧ x1 ≤ 2147483647)) : fC ρ base n F xTc vwCl xTys D dA la gJ (fbz bsJ znJ (fKc wz_c5d03) I) xm_72 [.inr (.inr (some 0)), .inl x1] I (fun _ r => ∃ z, r = some (.inl z) ∧ ((-2147483648) ≤ z ∧ z ≤ 2147483647)) := by
  have hW : fzs wz_c5d03 (fKc wz_c5d03) := fKc_ok _
  refine f_meth (rb := rbJ) (J := [(33, jc_X_run_f9fd1_33)]) 122 400 xG xin_72 x6_72 okJ (fB_self h0) ?_ ?_
  · refine List.forall_mem_cons.mpr ⟨?_, fun q h => absurd h List.not_mem_nil⟩
    · rintro m _ _ I1 hB1 ⟨y1, y2, rfl, rfl, hb, hm⟩
      refine And.intro (by omega) (And.intro ?_ ?_)
      · intro c1
        refine And.intro ⟨rfl, by decide, by decide⟩ ?_
        refine And.intro ⟨rfl, by decide, by decide⟩ (fgetf fb_1_9 h0 hB1 ?_)
        intro z2 lz2 uz2 qz2
        refine And.intro (True.intro) ?_
        exact ⟨_, rfl, by omega⟩
      · intro c3
        refine And.intro ⟨rfl, by decide, by decide⟩ ?_
        refine Exists.intro xm_73 (And.intro mi_73 (And.intro ⟨rfl, rfl, rfl, rfl⟩ (And.intro rfl ?_)))
        refine fcall _ h0 (fzs_sub (by decide +kernel) hW) hB1 (ct_City_passMinute_6a7f6 (fBz h0 hB1)) ?_
        rintro IhB5 _ hB5 fhB5 rfl
        exact fcutJ (I := IhB5) (j := jc_X_run_f9fd1_33) (lv' := [(0, .inr (.inr (some 0))), (1, .inl _), (2, .inl _)]) (And.intro rfl (And.intro rfl (And.intro rfl True.intro))) ⟨_, _, rfl, rfl, by omega, rfl⟩ (by omega)
  · have hB0 := fB_self (zn := znJ) (K := fKc wz_c5d03) h0
    refine Exists.intro xm_13 (And.intro mi_13 (And.intro ⟨rfl, rfl, rfl, rfl⟩ (And.intro True.intro ?_)))
    refine fcallp hB0 (ct_X_within_c27b1 (fBz h0 hB0) (by omega) (by omega) (by omega)) ?_
    rintro _ ⟨z6, rfl, hz6⟩
    refine And.intro (by omega) (And.intro ?_ ?_)
    · intro c7
      refine And.intro ⟨rfl, by decide, by decide⟩ ?_
      refine And.intro ⟨rfl, by decide, by decide⟩ (fgetf fb_1_9 h0 hB0 ?_)
      intro z8 lz8 uz8 qz8
      intro z9 hz9 ez9 bz9
      refine And.intro (by omega) (And.intro ?_ ?_)
      · intro c10
        exact fcutJ (I := I) (j := jc_X_run_f9fd1_33) (lv' := [(0, .inr (.inr (some 0))), (1, .inl _), (2, .inl _)]) (And.intro rfl (And.intro rfl (And.intro rfl True.intro))) ⟨_, _, rfl, rfl, by omega, rfl⟩ (by omega)
      · intro c11
        refine And.intro (True.intro) ?_
        exact ⟨_, rfl, by omega⟩
    · intro c12
      refine And.intro (True.intro) ?_
      exact ⟨_, rfl, by omega⟩
set_option maxRecDepth 8000 in
theorem ct_M_falls_0e45b {I : fH} {x1 : Int} (h0 : fB bsJ I) (ha1 : (0 ≤ x1 ∧ x1 ≤ 23)) (hp0 : 0 ≤ I 741 (530 + 14 * x1 + ((9 : Nat) : Int)).toNat) : fC ρ base n F xTc vwCl xTys D dA la gJ (fbz bsJ znJ (fKc wz_11492) I) xm_296 [.inr (.inr (some 740)), .inl x1] I (fun _ r => r = none) := by
  have hW : fzs wz_11492 (fKc wz_11492) := fKc_ok _
  refine f_meth (rb := rbJ) (J := []) 1 400 xG xin_296 x6_296 okJ (fB_self h0) ?_ ?_
  · exact fun q h => absurd h List.not_mem_nil
  · have hB0 := fB_self (zn := znJ) (K := fKc wz_11492) h0
    refine Exists.intro xm_244 (And.intro mi_244 (And.intro ⟨rfl, rfl, rfl, rfl⟩ (And.intro rfl ?_)))
    refine fcallp hB0 (ct_M_workAt_83d38 (fBz h0 hB0) (by omega)) ?_
    rintro _ ⟨_, rfl, rfl⟩
    refine And.intro ⟨rfl, by decide, by decide⟩ ?_
    refine fload rL_741_741_539_861_14_0 h0 hB0 (by omega) ?_
    intro z2 lz2 uz2 qz2
    refine And.intro ⟨rfl, by decide, by decide⟩ ?_
    refine fload rL_741_741_539_861_14_0 h0 hB0 (by omega) ?_
    intro z3 lz3 uz3 qz3
    refine And.intro (by omega) (And.intro ?_ ?_)
    · intro c4
      refine fstore rS_741_741_539_861_14_0 (fzs_sub (by decide +kernel) hW) (by omega) (by omega) ?_
      intro IhB5 ehB5 hB5
      have t6 := fup_self ehB5
      refine And.intro ⟨rfl, by decide, by decide⟩ ?_
      refine fload rL_741_741_540_862_14_0 h0 hB5 (by omega) ?_
      intro z7 lz7 uz7 qz7
      refine And.intro ⟨rfl, by decide, by decide⟩ ?_
      refine And.intro ⟨rfl, by decide, by decide⟩ ?_
      refine fload rL_741_741_539_861_14_0 h0 hB5 (by omega) ?_
      intro z8 lz8 uz8 qz8
      refine fload rL_741_741_1081_1141_1_0 h0 hB5 (by omega) ?_
      intro z9 lz9 uz9 qz9
      intro z10 hz10 ez10 bz10
      refine fstore rS_741_741_540_862_14_0 (fzs_sub (by decide +kernel) hW) (by omega) (by omega) ?_
      intro IhB11 ehB11 hB11
      have t12 := fup_self ehB11
      refine And.intro ⟨rfl, by decide, by decide⟩ ?_
      refine fload rL_741_741_540_862_14_0 h0 hB11 (by omega) ?_
      intro z13 lz13 uz13 qz13
      refine And.intro ⟨rfl, by decide, by decide⟩ ?_
      refine fload rL_741_741_535_857_14_0 h0 hB11 (by omega) ?_
      intro z14 lz14 uz14 qz14
      refine And.intro (by omega) (And.intro ?_ ?_)
      · intro c15
        exact rfl
      · intro c16
        refine And.intro ⟨rfl, by decide, by decide⟩ ?_
        refine fstore rS_741_741_538_860_14_0 (fzs_sub (by decide +kernel) hW) (by omega) (by omega) ?_
        intro IhB17 ehB17 hB17
        have t18 := fup_self ehB17
        exact rfl
    · intro c19
      refine fstore rS_741_741_539_861_14_0 (fzs_sub (by decide +kernel) hW) (by omega) (by omega) ?_
      intro IhB20 ehB20 hB20
      have t21 := fup_self ehB20
      refine And.intro ⟨rfl, by decide, by decide⟩ ?_
      refine fload rL_741_741_540_862_14_0 h0 hB20 (by omega) ?_
      intro z22 lz22 uz22 qz22
      refine And.intro ⟨rfl, by decide, by decide⟩ ?_
      refine And.intro ⟨rfl, by decide, by decide⟩ ?_
      refine fload rL_741_741_539_861_14_0 h0 hB20 (by omega) ?_
      intro z23 lz23 uz23 qz23
      refine fload rL_741_741_1081_1141_1_0 h0 hB20 (by omega) ?_
      intro z24 lz24 uz24 qz24
      intro z25 hz25 ez25 bz25
      refine fstore rS_741_741_540_862_14_0 (fzs_sub (by decide +kernel) hW) (by omega) (by omega) ?_
      intro IhB26 ehB26 hB26
      have t27 := fup_self ehB26
      refine And.intro ⟨rfl, by decide, by decide⟩ ?_
      refine fload rL_741_741_540_862_14_0 h0 hB26 (by omega) ?_
      intro z28 lz28 uz28 qz28
      refine And.intro ⟨rfl, by decide, by decide⟩ ?_
      refine fload rL_741_741_535_857_14_0 h0 hB26 (by omega) ?_
      intro z29 lz29 uz29 qz29
      refine And.intro (by omega) (And.intro ?_ ?_)
      · intro c30
        exact rfl
      · intro c31
        refine And.intro ⟨rfl, by decide, by decide⟩ ?_
        refine fstore rS_741_741_538_860_14_0 (fzs_sub (by decide +kernel) hW) (by omega) (by omega) ?_
        intro IhB32 ehB32 hB32
        have t33 := fup_self ehB32
        exact rfl
abbrev jc_M_isCovered_bfece_4 : Nat → fL → List fV → fH → Prop := fun m lv st I => ∃ (y1 : Int) (y2 : Int) (y3 : Int), lv = [(0, .inr (.inr (some 740))), (1, .inl y1), (2, .inl y2), (3, .inl y3)] ∧ st = [] ∧ (((0 ≤ y1 ∧ y1 ≤ 23) ∧ (0 ≤ y2 ∧ y2 ≤ 1) ∧ (0 ≤ y3 ∧ y3 ≤ 24))) ∧ m = (1 + 1 * (24 - y3) : Int).toNat
set_option maxRecDepth 8000 in
theorem ct_M_isCovered_bfece {I : fH} {x1 : Int} (h0 : fB bsJ I) (ha1 : (0 ≤ x1 ∧ x1 ≤ 23)) : fC ρ base n F xTc vwCl xTys D dA la gJ (fbz bsJ znJ (fKc []) I) xm_294 [.inr (.inr (some 740)), .inl x1] I (fun _ r => ∃ z, r = some (.inl z) ∧ (0 ≤ z ∧ z ≤ 1)) := by
  have hW : fzs [] (fKc []) := fKc_ok _
  refine f_meth (rb := rbJ) (J := [(4, jc_M_isCovered_bfece_4)]) 26 400 xG xin_294 x6_294 okJ (fB_self h0) ?_ ?_
  · refine List.forall_mem_cons.mpr ⟨?_, fun q h => absurd h List.not_mem_nil⟩
    · rintro m _ _ I1 hB1 ⟨y1, y2, y3, rfl, rfl, hb, hm⟩
      refine And.intro ⟨rfl, by decide, by decide⟩ ?_
      refine fload rL_741_741_7_7_1_0 h0 hB1 (by omega) ?_
      intro z1 lz1 uz1 qz1
      have pz1 := fld_at qz1 7 (by omega)
      refine And.intro (by omega) (And.intro ?_ ?_)
      · intro c2
        refine And.intro (⟨by omega, by omega⟩) ?_
        exact ⟨_, rfl, by omega⟩
      · intro c3
        refine And.intro (by omega) (And.intro ?_ ?_)
        · intro c4
          exact fcutJ (I := I1) (j := jc_M_isCovered_bfece_4) (lv' := [(0, .inr (.inr (some 740))), (1, .inl _), (2, .inl _), (3, .inl _)]) (And.intro rfl (And.intro rfl (And.intro rfl (And.intro rfl True.intro)))) ⟨_, _, _, rfl, rfl, by omega, rfl⟩ (by omega)
        · intro c5
          refine Exists.intro xm_267 (And.intro mi_267 (And.intro ⟨rfl, rfl, rfl, rfl⟩ (And.intro rfl ?_)))
          refine fcallp hB1 (ct_M_kindOf_31275 (fBz h0 hB1) (by omega)) ?_
          rintro _ ⟨z6, rfl, hz6⟩
          refine And.intro (by omega) (And.intro ?_ ?_)
          · intro c7
            exact fcutJ (I := I1) (j := jc_M_isCovered_bfece_4) (lv' := [(0, .inr (.inr (some 740))), (1, .inl _), (2, .inl _), (3, .inl _)]) (And.intro rfl (And.intro rfl (And.intro rfl (And.intro rfl True.intro)))) ⟨_, _, _, rfl, rfl, by omega, rfl⟩ (by omega)
          · intro c8
            refine And.intro ⟨rfl, by decide, by decide⟩ ?_
            refine Exists.intro xm_244 (And.intro mi_244 (And.intro ⟨rfl, rfl, rfl, rfl⟩ (And.intro rfl ?_)))
            refine fcallp hB1 (ct_M_workAt_83d38 (fBz h0 hB1) (by omega)) ?_
            rintro _ ⟨_, rfl, rfl⟩
            refine fload rL_741_741_535_857_14_0 h0 hB1 (by omega) ?_
            intro z10 lz10 uz10 qz10
            refine And.intro (by omega) (And.intro ?_ ?_)
            · intro c11
              exact fcutJ (I := I1) (j := jc_M_isCovered_bfece_4) (lv' := [(0, .inr (.inr (some 740))), (1, .inl _), (2, .inl _), (3, .inl _)]) (And.intro rfl (And.intro rfl (And.intro rfl (And.intro rfl True.intro)))) ⟨_, _, _, rfl, rfl, by omega, rfl⟩ (by omega)
            · intro c12
              refine And.intro ⟨rfl, by decide, by decide⟩ ?_
              refine Exists.intro xm_244 (And.intro mi_244 (And.intro ⟨rfl, rfl, rfl, rfl⟩ (And.intro rfl ?_)))
              refine fcallp hB1 (ct_M_workAt_83d38 (fBz h0 hB1) (by omega)) ?_
              rintro _ ⟨_, rfl, rfl⟩
              refine fload rL_741_741_533_855_14_0 h0 hB1 (by omega) ?_
              intro z14 lz14 uz14 qz14
              refine And.intro (by omega) (And.intro ?_ ?_)
              · intro c15
                exact fcutJ (I := I1) (j := jc_M_isCovered_bfece_4) (lv' := [(0, .inr (.inr (some 740))), (1, .inl _), (2, .inl _), (3, .inl _)]) (And.intro rfl (And.intro rfl (And.intro rfl (And.intro rfl True.intro)))) ⟨_, _, _, rfl, rfl, by omega, rfl⟩ (by omega)
              · intro c16
                refine Exists.intro xm_245 (And.intro mi_245 (And.intro ⟨rfl, rfl, rfl, rfl⟩ (And.intro rfl ?_)))
                refine fcallp hB1 (ct_M_isGone_0de37 (fBz h0 hB1) (by omega)) ?_
                rintro _ ⟨z17, rfl, hz17⟩
                refine And.intro (by omega) (And.intro ?_ ?_)
                · intro c18
                  exact fcutJ (I := I1) (j := jc_M_isCovered_bfece_4) (lv' := [(0, .inr (.inr (some 740))), (1, .inl _), (2, .inl _), (3, .inl _)]) (And.intro rfl (And.intro rfl (And.intro rfl (And.intro rfl True.intro)))) ⟨_, _, _, rfl, rfl, by omega, rfl⟩ (by omega)
                · intro c19
                  exact fcutJ (I := I1) (j := jc_M_isCovered_bfece_4) (lv' := [(0, .inr (.inr (some 740))), (1, .inl _), (2, .inl _), (3, .inl _)]) (And.intro rfl (And.intro rfl (And.intro rfl (And.intro rfl True.intro)))) ⟨_, _, _, rfl, rfl, by omega, rfl⟩ (by omega)
  · have hB0 := fB_self (zn := znJ) (K := fKc []) h0
    exact fcutJ (I := I) (j := jc_M_isCovered_bfece_4) (lv' := [(0, .inr (.inr (some 740))), (1, .inl _), (2, .inl _), (3, .inl _)]) (And.intro rfl (And.intro rfl (And.intro rfl (And.intro rfl True.intro)))) ⟨_, _, _, rfl, rfl, by omega, rfl⟩ (by omega)
set_option maxRecDepth 8000 in
theorem ct_M_least_31c1d {I : fH} {x0 : Int} {x1 : Int} (h0 : fB bsJ I) (ha0 : ((-2147483648) ≤ x0 ∧ x0 ≤ 2147483647)) (ha1 : ((-2147483648) ≤ x1 ∧ x1 ≤ 2147483647)) : fC ρ base n F xTc vwCl xTys D dA la gJ (fbz bsJ znJ (fKc []) I) xm_291 [.inl x0, .inl x1] I (fun _ r => ∃ z, r = some (.inl z) ∧ (((-2147483648) ≤ z ∧ z ≤ 2147483647) ∧ (z ≤ x0 ∧ z ≤ x1 ∧ (z = x0 ∨ z = x1)))) := by
  have hW : fzs [] (fKc []) := fKc_ok _
  refine f_meth (rb := rbJ) (J := []) 1 400 xG xin_291 x6_291 okJ (fB_self h0) ?_ ?_
  · exact fun q h => absurd h List.not_mem_nil
  · have hB0 := fB_self (zn := znJ) (K := fKc []) h0
    refine And.intro (by omega) (And.intro ?_ ?_)
    · intro c1
      refine And.intro (True.intro) ?_
      exact ⟨_, rfl, by omega⟩
    · intro c2
      refine And.intro (True.intro) ?_
      exact ⟨_, rfl, by omega⟩
abbrev jc_M_wears_b070e_26 : Nat → fL → List fV → fH → Prop := fun m lv st I => ∃ (y2 : Int), lv = [(0, .inr (.inr (some 740))), (2, .inl y2)] ∧ st = [] ∧ ((((530 ≤ y2 ∧ y2 ≤ 852) ∧ (y2 - 530) % 14 ≤ 0))) ∧ m = (1 + 1 * I 741 (y2 + ((7 : Nat) : Int)).toNat : Int).toNat
set_option maxRecDepth 8000 in
theorem ct_M_wears_b070e {I : fH} {x1 : Int} (h0 : fB bsJ I) (ha1 : (0 ≤ x1 ∧ x1 ≤ 23)) : fC ρ base n F xTc vwCl xTys D dA la gJ (fbz bsJ znJ (fKc wz_ad13a) I) xm_295 [.inr (.inr (some 740)), .inl x1] I (fun _ r => r = none) := by
  have hW : fzs wz_ad13a (fKc wz_ad13a) := fKc_ok _
  refine f_meth (rb := rbJ) (J := [(26, jc_M_wears_b070e_26)]) 2147483650 400 xG xin_295 x6_295 okJ (fB_self h0) ?_ ?_
  · refine List.forall_mem_cons.mpr ⟨?_, fun q h => absurd h List.not_mem_nil⟩
    · rintro m _ _ I1 hB1 ⟨y2, rfl, rfl, hb, hm⟩
      refine And.intro ⟨rfl, by decide, by decide⟩ ?_
      refine fload rL_741_741_537_859_14_0 h0 hB1 (by omega) ?_
      intro z1 lz1 uz1 qz1
      refine And.intro (by omega) (And.intro ?_ ?_)
      · intro c2
        refine And.intro ⟨rfl, by decide, by decide⟩ ?_
        refine And.intro ⟨rfl, by decide, by decide⟩ ?_
        refine fload rL_741_741_537_859_14_0 h0 hB1 (by omega) ?_
        intro z3 lz3 uz3 qz3
        refine Exists.intro xm_291 (And.intro mi_291 (And.intro ⟨rfl, rfl, rfl, rfl⟩ (And.intro True.intro ?_)))
        refine fcallp hB1 (ct_M_least_31c1d (fBz h0 hB1) (by omega) (by omega)) ?_
        rintro _ ⟨z4, rfl, hz4⟩
        refine fstore rS_741_741_537_859_14_0 (fzs_sub (by decide +kernel) hW) (by omega) (by omega) ?_
        intro IhB5 ehB5 hB5
        have t6 := fup_self ehB5
        refine And.intro ⟨rfl, by decide, by decide⟩ ?_
        refine fload rL_741_741_535_857_14_0 h0 hB5 (by omega) ?_
        intro z7 lz7 uz7 qz7
        refine And.intro (by omega) (And.intro ?_ ?_)
        · intro c8
          exact rfl
        · intro c9
          refine And.intro ⟨rfl, by decide, by decide⟩ ?_
          refine fload rL_741_741_536_858_14_0 h0 hB5 (by omega) ?_
          intro z10 lz10 uz10 qz10
          refine And.intro ⟨rfl, by decide, by decide⟩ ?_
          refine fload rL_741_741_536_858_14_0 h0 hB5 (by omega) ?_
          intro z11 lz11 uz11 qz11
          refine And.intro (And.intro (by omega) (And.intro (by omega) (And.intro (by omega) rfl))) ?_
          intro z12 hz12 ez12 dz12
          intro z13 hz13 ez13 bz13
          refine Exists.intro xm_291 (And.intro mi_291 (And.intro ⟨rfl, rfl, rfl, rfl⟩ (And.intro True.intro ?_)))
          refine fcallp hB5 (ct_M_least_31c1d (fBz h0 hB5) (by omega) (by omega)) ?_
          rintro _ ⟨z14, rfl, hz14⟩
          refine And.intro ⟨rfl, by decide, by decide⟩ ?_
          refine fload rL_741_741_536_858_14_0 h0 hB5 (by omega) ?_
          intro z15 lz15 uz15 qz15
          intro z16 hz16 ez16 bz16
          refine fstore rS_741_741_536_858_14_0 (fzs_sub (by decide +kernel) hW) (by omega) (by omega) ?_
          intro IhB17 ehB17 hB17
          have t18 := fup_self ehB17
          refine And.intro ⟨rfl, by decide, by decide⟩ ?_
          refine And.intro ⟨rfl, by decide, by decide⟩ ?_
          refine fload rL_741_741_531_853_14_0 h0 hB17 (by omega) ?_
          intro z19 lz19 uz19 qz19
          refine Exists.intro xm_239 (And.intro mi_239 (And.intro ⟨rfl, rfl, rfl, rfl⟩ (And.intro rfl ?_)))
          refine fcallp hB17 (ct_M_cellAt_c15f4 (fBz h0 hB17) (by omega)) ?_
          rintro _ ⟨_, rfl, rfl⟩
          refine fload rL_741_741_38_418_20_0 h0 hB17 (by omega) ?_
          intro z21 lz21 uz21 qz21
          intro z22 hz22 ez22 bz22
          refine fstore rS_741_741_38_418_20_0 (fzs_sub (by decide +kernel) hW) (by omega) (by omega) ?_
          intro IhB23 ehB23 hB23
          have t24 := fup_self ehB23
          exact rfl
      · intro c25
        refine And.intro ⟨rfl, by decide, by decide⟩ ?_
        refine fload rL_741_741_535_857_14_0 h0 hB1 (by omega) ?_
        intro z26 lz26 uz26 qz26
        refine And.intro (by omega) (And.intro ?_ ?_)
        · intro c27
          refine And.intro ⟨rfl, by decide, by decide⟩ ?_
          refine And.intro ⟨rfl, by decide, by decide⟩ ?_
          refine fload rL_741_741_537_859_14_0 h0 hB1 (by omega) ?_
          intro z28 lz28 uz28 qz28
          refine Exists.intro xm_291 (And.intro mi_291 (And.intro ⟨rfl, rfl, rfl, rfl⟩ (And.intro True.intro ?_)))
          refine fcallp hB1 (ct_M_least_31c1d (fBz h0 hB1) (by omega) (by omega)) ?_
          rintro _ ⟨z29, rfl, hz29⟩
          refine fstore rS_741_741_537_859_14_0 (fzs_sub (by decide +kernel) hW) (by omega) (by omega) ?_
          intro IhB30 ehB30 hB30
          have t31 := fup_self ehB30
          refine And.intro ⟨rfl, by decide, by decide⟩ ?_
          refine fload rL_741_741_535_857_14_0 h0 hB30 (by omega) ?_
          intro z32 lz32 uz32 qz32
          refine And.intro (by omega) (And.intro ?_ ?_)
          · intro c33
            exact rfl
          · intro c34
            refine And.intro ⟨rfl, by decide, by decide⟩ ?_
            refine fload rL_741_741_536_858_14_0 h0 hB30 (by omega) ?_
            intro z35 lz35 uz35 qz35
            refine And.intro ⟨rfl, by decide, by decide⟩ ?_
            refine fload rL_741_741_536_858_14_0 h0 hB30 (by omega) ?_
            intro z36 lz36 uz36 qz36
            refine And.intro (And.intro (by omega) (And.intro (by omega) (And.intro (by omega) rfl))) ?_
            intro z37 hz37 ez37 dz37
            intro z38 hz38 ez38 bz38
            refine Exists.intro xm_291 (And.intro mi_291 (And.intro ⟨rfl, rfl, rfl, rfl⟩ (And.intro True.intro ?_)))
            refine fcallp hB30 (ct_M_least_31c1d (fBz h0 hB30) (by omega) (by omega)) ?_
            rintro _ ⟨z39, rfl, hz39⟩
            refine And.intro ⟨rfl, by decide, by decide⟩ ?_
            refine fload rL_741_741_536_858_14_0 h0 hB30 (by omega) ?_
            intro z40 lz40 uz40 qz40
            intro z41 hz41 ez41 bz41
            refine fstore rS_741_741_536_858_14_0 (fzs_sub (by decide +kernel) hW) (by omega) (by omega) ?_
            intro IhB42 ehB42 hB42
            have t43 := fup_self ehB42
            refine And.intro ⟨rfl, by decide, by decide⟩ ?_
            refine And.intro ⟨rfl, by decide, by decide⟩ ?_
            refine fload rL_741_741_531_853_14_0 h0 hB42 (by omega) ?_
            intro z44 lz44 uz44 qz44
            refine Exists.intro xm_239 (And.intro mi_239 (And.intro ⟨rfl, rfl, rfl, rfl⟩ (And.intro rfl ?_)))
            refine fcallp hB42 (ct_M_cellAt_c15f4 (fBz h0 hB42) (by omega)) ?_
            rintro _ ⟨_, rfl, rfl⟩
            refine fload rL_741_741_38_418_20_0 h0 hB42 (by omega) ?_
            intro z46 lz46 uz46 qz46
            intro z47 hz47 ez47 bz47
            refine fstore rS_741_741_38_418_20_0 (fzs_sub (by decide +kernel) hW) (by omega) (by omega) ?_
            intro IhB48 ehB48 hB48
            have t49 := fup_self ehB48
            exact rfl
        · intro c50
          refine And.intro ⟨rfl, by decide, by decide⟩ ?_
          refine fload rL_741_741_537_859_14_0 h0 hB1 (by omega) ?_
          intro z51 lz51 uz51 qz51
          intro z52 hz52 ez52 bz52
          refine fstore rS_741_741_537_859_14_0 (fzs_sub (by decide +kernel) hW) (by omega) (by omega) ?_
          intro IhB53 ehB53 hB53
          have t54 := fup_self ehB53
          refine And.intro ⟨rfl, by decide, by decide⟩ ?_
          refine fload rL_741_741_535_857_14_0 h0 hB53 (by omega) ?_
          intro z55 lz55 uz55 qz55
          intro z56 hz56 ez56 bz56
          refine fstore rS_741_741_535_857_14_0 (fzs_sub (by decide +kernel) hW) (by omega) (by omega) ?_
          intro IhB57 ehB57 hB57
          have t58 := fup_self ehB57
          have w76 := fup_other ehB57 741 (y2 + ((7 : Nat) : Int)).toNat (by omega)
          exact fcutJ (I := IhB57) (j := jc_M_wears_b070e_26) (lv' := [(0, .inr (.inr (some 740))), (2, .inl _)]) (And.intro rfl (And.intro rfl True.intro)) ⟨_, rfl, rfl, by omega, rfl⟩ (by omega)
  · have hB0 := fB_self (zn := znJ) (K := fKc wz_ad13a) h0
    refine Exists.intro xm_244 (And.intro mi_244 (And.intro ⟨rfl, rfl, rfl, rfl⟩ (And.intro rfl ?_)))
    refine fcallp hB0 (ct_M_workAt_83d38 (fBz h0 hB0) (by omega)) ?_
    rintro _ ⟨_, rfl, rfl⟩
    refine And.intro ⟨rfl, by decide, by decide⟩ ?_
    refine fload rL_741_741_537_859_14_0 h0 hB0 (by omega) ?_
    intro z60 lz60 uz60 qz60
    refine Exists.intro xm_281 (And.intro mi_281 (And.intro ⟨rfl, rfl, rfl, rfl⟩ (And.intro rfl ?_)))
    refine fcallp hB0 (ct_M_table_49021 (fBz h0 hB0) (by omega)) ?_
    rintro _ ⟨z61, rfl, hz61⟩
    refine And.intro (And.intro (by omega) (And.intro (by omega) (And.intro (by omega) rfl))) ?_
    intro z62 hz62 ez62 dz62
    intro z63 hz63 ez63 bz63
    refine fstore rS_741_741_537_859_14_0 (fzs_sub (by decide +kernel) hW) (by omega) (by omega) ?_
    intro IhB64 ehB64 hB64
    have t65 := fup_self ehB64
    exact fcutJ (I := IhB64) (j := jc_M_wears_b070e_26) (lv' := [(0, .inr (.inr (some 740))), (2, .inl _)]) (And.intro rfl (And.intro rfl True.intro)) ⟨_, rfl, rfl, by omega, rfl⟩ (by omega)
set_option maxRecDepth 8000 in
theorem ct_M_part_9aaa8 {I : fH} {x1 : Int} {x2 : Int} (h0 : fB bsJ I) (ha1 : (0 ≤ x1 ∧ x1 ≤ 23)) (ha2 : ((-2147483648) ≤ x2 ∧ x2 ≤ 2147483647)) : fC ρ base n F xTc vwCl xTys D dA la gJ (fbz bsJ znJ (fKc []) I) xm_290 [.inr (.inr (some 740)), .inl x1, .inl x2] I (fun _ r => ∃ z, r = some (.inl z) ∧ ((-2147483648) ≤ z ∧ z ≤ 2147483647)) := by
  have hW : fzs [] (fKc []) := fKc_ok _
  refine f_meth (rb := rbJ) (J := []) 1 400 xG xin_290 x6_290 okJ (fB_self h0) ?_ ?_
  · exact fun q h => absurd h List.not_mem_nil
  · have hB0 := fB_self (zn := znJ) (K := fKc []) h0
    refine And.intro ⟨rfl, by decide, by decide⟩ ?_
    refine Exists.intro xm_244 (And.intro mi_244 (And.intro ⟨rfl, rfl, rfl, rfl⟩ (And.intro rfl ?_)))
    refine fcallp hB0 (ct_M_workAt_83d38 (fBz h0 hB0) (by omega)) ?_
    rintro _ ⟨_, rfl, rfl⟩
    refine fload rL_741_741_534_856_14_0 h0 hB0 (by omega) ?_
    intro z2 lz2 uz2 qz2
    intro z3 hz3 ez3 bz3
    intro z4 hz4 ez4 bz4
    refine And.intro (And.intro (by omega) (And.intro (by omega) (And.intro (by omega) rfl))) ?_
    intro z5 hz5 ez5 dz5
    refine And.intro (True.intro) ?_
    exact ⟨_, rfl, by omega⟩
set_option maxRecDepth 8000 in
theorem ct_M_comes_305fc {I : fH} {x1 : Int} {x2 : Int} {x3 : Int} (h0 : fB bsJ I) (ha1 : (0 ≤ x1 ∧ x1 ≤ 19)) (ha2 : (0 ≤ x2 ∧ x2 ≤ 4)) (ha3 : ((-2147483648) ≤ x3 ∧ x3 ≤ 2147483647)) : fC ρ base n F xTc vwCl xTys D dA la gJ (fbz bsJ znJ (fKc wz_e4f60) I) xm_292 [.inr (.inr (some 740)), .inl x1, .inl x2, .inl x3] I (fun _ r => r = none) := by
  have hW : fzs wz_e4f60 (fKc wz_e4f60) := fKc_ok _
  refine f_meth (rb := rbJ) (J := []) 1 400 xG xin_292 x6_292 okJ (fB_self h0) ?_ ?_
  · exact fun q h => absurd h List.not_mem_nil
  · have hB0 := fB_self (zn := znJ) (K := fKc wz_e4f60) h0
    refine Exists.intro xm_239 (And.intro mi_239 (And.intro ⟨rfl, rfl, rfl, rfl⟩ (And.intro rfl ?_)))
    refine fcallp hB0 (ct_M_cellAt_c15f4 (fBz h0 hB0) (by omega)) ?_
    rintro _ ⟨_, rfl, rfl⟩
    refine And.intro ⟨rfl, by decide, by decide⟩ ?_
    refine fload rL_741_741_31_415_20_4 h0 hB0 (by omega) ?_
    intro z2 lz2 uz2 qz2
    intro z3 hz3 ez3 bz3
    intro z4 hz4 ez4 bz4
    refine And.intro ⟨rfl, by decide, by decide⟩ ?_
    refine And.intro (by omega) (And.intro ?_ ?_)
    · intro c5
      refine And.intro ⟨rfl, by decide, by decide⟩ ?_
      refine fload rL_741_741_31_415_20_4 h0 hB0 (by omega) ?_
      intro z6 lz6 uz6 qz6
      intro z7 hz7 ez7 bz7
      refine fstore rS_741_741_31_415_20_4 (fzs_sub (by decide +kernel) hW) (by omega) (by omega) ?_
      intro IhB8 ehB8 hB8
      have t9 := fup_self ehB8
      refine And.intro ⟨rfl, by decide, by decide⟩ ?_
      refine Exists.intro xm_239 (And.intro mi_239 (And.intro ⟨rfl, rfl, rfl, rfl⟩ (And.intro rfl ?_)))
      refine fcallp hB8 (ct_M_cellAt_c15f4 (fBz h0 hB8) (by omega)) ?_
      rintro _ ⟨_, rfl, rfl⟩
      refine fload rL_741_741_37_421_20_4 h0 hB8 (by omega) ?_
      intro z11 lz11 uz11 qz11
      refine And.intro (by omega) (And.intro ?_ ?_)
      · intro c12
        intro z13 hz13 ez13 bz13
        refine fstore rS_741_741_37_421_20_4 (fzs_sub (by decide +kernel) hW) (by omega) (by omega) ?_
        intro IhB14 ehB14 hB14
        have t15 := fup_self ehB14
        exact rfl
      · intro c16
        intro z17 hz17 ez17 bz17
        refine fstore rS_741_741_37_421_20_4 (fzs_sub (by decide +kernel) hW) (by omega) (by omega) ?_
        intro IhB18 ehB18 hB18
        have t19 := fup_self ehB18
        exact rfl
    · intro c20
      refine fstore rS_741_741_31_415_20_4 (fzs_sub (by decide +kernel) hW) (by omega) (by omega) ?_
      intro IhB21 ehB21 hB21
      have t22 := fup_self ehB21
      refine And.intro ⟨rfl, by decide, by decide⟩ ?_
      refine Exists.intro xm_239 (And.intro mi_239 (And.intro ⟨rfl, rfl, rfl, rfl⟩ (And.intro rfl ?_)))
      refine fcallp hB21 (ct_M_cellAt_c15f4 (fBz h0 hB21) (by omega)) ?_
      rintro _ ⟨_, rfl, rfl⟩
      refine fload rL_741_741_37_421_20_4 h0 hB21 (by omega) ?_
      intro z24 lz24 uz24 qz24
      refine And.intro (by omega) (And.intro ?_ ?_)
      · intro c25
        intro z26 hz26 ez26 bz26
        refine fstore rS_741_741_37_421_20_4 (fzs_sub (by decide +kernel) hW) (by omega) (by omega) ?_
        intro IhB27 ehB27 hB27
        have t28 := fup_self ehB27
        exact rfl
      · intro c29
        intro z30 hz30 ez30 bz30
        refine fstore rS_741_741_37_421_20_4 (fzs_sub (by decide +kernel) hW) (by omega) (by omega) ?_
        intro IhB31 ehB31 hB31
        have t32 := fup_self ehB31
        exact rfl
set_option maxRecDepth 8000 in
theorem ct_M_still_f4bbc {I : fH} {x1 : Int} (h0 : fB bsJ I) (ha1 : (0 ≤ x1 ∧ x1 ≤ 23)) : fC ρ base n F xTc vwCl xTys D dA la gJ (fbz bsJ znJ (fKc wz_76090) I) xm_293 [.inr (.inr (some 740)), .inl x1] I (fun _ r => r = none) := by
  have hW : fzs wz_76090 (fKc wz_76090) := fKc_ok _
  refine f_meth (rb := rbJ) (J := []) 1 400 xG xin_293 x6_293 okJ (fB_self h0) ?_ ?_
  · exact fun q h => absurd h List.not_mem_nil
  · have hB0 := fB_self (zn := znJ) (K := fKc wz_76090) h0
    refine Exists.intro xm_244 (And.intro mi_244 (And.intro ⟨rfl, rfl, rfl, rfl⟩ (And.intro rfl ?_)))
    refine fcallp hB0 (ct_M_workAt_83d38 (fBz h0 hB0) (by omega)) ?_
    rintro _ ⟨_, rfl, rfl⟩
    refine And.intro ⟨rfl, by decide, by decide⟩ ?_
    refine fload rL_741_741_22_22_1_0 h0 hB0 (by omega) ?_
    intro z2 lz2 uz2 qz2
    have pz2 := fld_at qz2 22 (by omega)
    refine And.intro (by omega) (And.intro ?_ ?_)
    · intro c3
      refine And.intro ⟨rfl, by decide, by decide⟩ ?_
      refine fload rL_741_741_22_22_1_0 h0 hB0 (by omega) ?_
      intro z4 lz4 uz4 qz4
      have pz4 := fld_at qz4 22 (by omega)
      intro z5 hz5 ez5 bz5
      refine fstore rS_741_741_22_22_1_0 (fzs_sub (by decide +kernel) hW) (by omega) (by omega) ?_
      intro IhB6 ehB6 hB6
      have t7 := fup_self ehB6
      have t8 := fup_at ehB6 22 (by omega)
      refine And.intro ⟨rfl, by decide, by decide⟩ ?_
      refine fload rL_741_741_531_853_14_0 h0 hB6 (by omega) ?_
      intro z9 lz9 uz9 qz9
      refine Exists.intro xm_239 (And.intro mi_239 (And.intro ⟨rfl, rfl, rfl, rfl⟩ (And.intro rfl ?_)))
      refine fcallp hB6 (ct_M_cellAt_c15f4 (fBz h0 hB6) (by omega)) ?_
      rintro _ ⟨_, rfl, rfl⟩
      refine And.intro ⟨rfl, by decide, by decide⟩ ?_
      refine fload rL_741_741_535_857_14_0 h0 hB6 (by omega) ?_
      intro z11 lz11 uz11 qz11
      refine Exists.intro xm_290 (And.intro mi_290 (And.intro ⟨rfl, rfl, rfl, rfl⟩ (And.intro rfl ?_)))
      refine fcallp hB6 (ct_M_part_9aaa8 (fBz h0 hB6) (by omega) (by omega)) ?_
      rintro _ ⟨z12, rfl, hz12⟩
      refine And.intro ⟨rfl, by decide, by decide⟩ ?_
      refine fload rL_741_741_34_414_20_0 h0 hB6 (by omega) ?_
      intro z13 lz13 uz13 qz13
      refine Exists.intro xm_291 (And.intro mi_291 (And.intro ⟨rfl, rfl, rfl, rfl⟩ (And.intro True.intro ?_)))
      refine fcallp hB6 (ct_M_least_31c1d (fBz h0 hB6) (by omega) (by omega)) ?_
      rintro _ ⟨z14, rfl, hz14⟩
      refine And.intro ⟨rfl, by decide, by decide⟩ ?_
      refine fload rL_741_741_34_414_20_0 h0 hB6 (by omega) ?_
      intro z15 lz15 uz15 qz15
      intro z16 hz16 ez16 bz16
      refine fstore rS_741_741_34_414_20_0 (fzs_sub (by decide +kernel) hW) (by omega) (by omega) ?_
      intro IhB17 ehB17 hB17
      have t18 := fup_self ehB17
      have t19 : IhB17 741 22 = IhB6 741 22 := (congrFun (congrFun ehB17 741) 22).trans (fup_ne (by omega))
      refine And.intro ⟨rfl, by decide, by decide⟩ ?_
      refine fload rL_741_741_531_853_14_0 h0 hB17 (by omega) ?_
      intro z20 lz20 uz20 qz20
      refine And.intro (And.intro (by omega) (And.intro (by omega) (And.intro (by omega) rfl))) ?_
      intro z21 hz21 ez21 dz21
      refine Exists.intro xm_292 (And.intro mi_292 (And.intro ⟨rfl, rfl, rfl, rfl⟩ (And.intro rfl ?_)))
      refine fcall _ h0 (fzs_sub (by decide +kernel) hW) hB17 (ct_M_comes_305fc (fBz h0 hB17) (by omega) (by omega) (by omega)) ?_
      rintro IhB23 _ hB23 fhB23 rfl
      have t24 := fhB23 741 22 (by decide +kernel)
      refine And.intro ⟨rfl, by decide, by decide⟩ ?_
      refine fload rL_741_741_531_853_14_0 h0 hB23 (by omega) ?_
      intro z25 lz25 uz25 qz25
      refine And.intro (And.intro (by omega) (And.intro (by omega) (And.intro (by omega) rfl))) ?_
      intro z26 hz26 ez26 dz26
      intro z27 hz27 ez27 bz27
      refine Exists.intro xm_292 (And.intro mi_292 (And.intro ⟨rfl, rfl, rfl, rfl⟩ (And.intro rfl ?_)))
      refine fcall _ h0 (fzs_sub (by decide +kernel) hW) hB23 (ct_M_comes_305fc (fBz h0 hB23) (by omega) (by omega) (by omega)) ?_
      rintro IhB29 _ hB29 fhB29 rfl
      have t30 := fhB29 741 22 (by decide +kernel)
      exact rfl
    · intro c31
      exact rfl
set_option maxRecDepth 8000 in
theorem ct_M_garden_cfd54 {I : fH} {x1 : Int} (h0 : fB bsJ I) (ha1 : (0 ≤ x1 ∧ x1 ≤ 23)) : fC ρ base n F xTc vwCl xTys D dA la gJ (fbz bsJ znJ (fKc wz_e4f60) I) xm_289 [.inr (.inr (some 740)), .inl x1] I (fun _ r => r = none) := by
  have hW : fzs wz_e4f60 (fKc wz_e4f60) := fKc_ok _
  refine f_meth (rb := rbJ) (J := []) 1 400 xG xin_289 x6_289 okJ (fB_self h0) ?_ ?_
  · exact fun q h => absurd h List.not_mem_nil
  · have hB0 := fB_self (zn := znJ) (K := fKc wz_e4f60) h0
    refine Exists.intro xm_244 (And.intro mi_244 (And.intro ⟨rfl, rfl, rfl, rfl⟩ (And.intro rfl ?_)))
    refine fcallp hB0 (ct_M_workAt_83d38 (fBz h0 hB0) (by omega)) ?_
    rintro _ ⟨_, rfl, rfl⟩
    refine And.intro ⟨rfl, by decide, by decide⟩ ?_
    refine fload rL_741_741_531_853_14_0 h0 hB0 (by omega) ?_
    intro z2 lz2 uz2 qz2
    refine Exists.intro xm_239 (And.intro mi_239 (And.intro ⟨rfl, rfl, rfl, rfl⟩ (And.intro rfl ?_)))
    refine fcallp hB0 (ct_M_cellAt_c15f4 (fBz h0 hB0) (by omega)) ?_
    rintro _ ⟨_, rfl, rfl⟩
    refine And.intro ⟨rfl, by decide, by decide⟩ ?_
    refine fload rL_741_741_2_2_1_0 h0 hB0 (by omega) ?_
    intro z4 lz4 uz4 qz4
    have pz4 := fld_at qz4 2 (by omega)
    refine Exists.intro xm_283 (And.intro mi_283 (And.intro ⟨rfl, rfl, rfl, rfl⟩ (And.intro rfl ?_)))
    refine fcallp hB0 (ct_M_isDay_57f71 (fBz h0 hB0) (by omega)) ?_
    rintro _ ⟨z5, rfl, hz5⟩
    refine And.intro (by omega) (And.intro ?_ ?_)
    · intro c6
      refine And.intro ⟨rfl, by decide, by decide⟩ ?_
      refine fload rL_741_741_33_413_20_0 h0 hB0 (by omega) ?_
      intro z7 lz7 uz7 qz7
      intro z8 hz8 ez8 bz8
      refine fstore rS_741_741_33_413_20_0 (fzs_sub (by decide +kernel) hW) (by omega) (by omega) ?_
      intro IhB9 ehB9 hB9
      have t10 := fup_self ehB9
      have t11 : IhB9 741 2 = I 741 2 := (congrFun (congrFun ehB9 741) 2).trans (fup_ne (by omega))
      refine And.intro ⟨rfl, by decide, by decide⟩ ?_
      refine fload rL_741_741_531_853_14_0 h0 hB9 (by omega) ?_
      intro z12 lz12 uz12 qz12
      refine Exists.intro xm_292 (And.intro mi_292 (And.intro ⟨rfl, rfl, rfl, rfl⟩ (And.intro rfl ?_)))
      refine fcall _ h0 (fzs_sub (by decide +kernel) hW) hB9 (ct_M_comes_305fc (fBz h0 hB9) (by omega) (by omega) (by omega)) ?_
      rintro IhB14 _ hB14 fhB14 rfl
      have t15 := fhB14 741 2 (by decide +kernel)
      exact rfl
    · intro c16
      refine And.intro ⟨rfl, by decide, by decide⟩ ?_
      refine fload rL_741_741_535_857_14_0 h0 hB0 (by omega) ?_
      intro z17 lz17 uz17 qz17
      refine Exists.intro xm_290 (And.intro mi_290 (And.intro ⟨rfl, rfl, rfl, rfl⟩ (And.intro rfl ?_)))
      refine fcallp hB0 (ct_M_part_9aaa8 (fBz h0 hB0) (by omega) (by omega)) ?_
      rintro _ ⟨z18, rfl, hz18⟩
      refine And.intro ⟨rfl, by decide, by decide⟩ ?_
      refine fload rL_741_741_33_413_20_0 h0 hB0 (by omega) ?_
      intro z19 lz19 uz19 qz19
      refine Exists.intro xm_291 (And.intro mi_291 (And.intro ⟨rfl, rfl, rfl, rfl⟩ (And.intro True.intro ?_)))
      refine fcallp hB0 (ct_M_least_31c1d (fBz h0 hB0) (by omega) (by omega)) ?_
      rintro _ ⟨z20, rfl, hz20⟩
      refine And.intro ⟨rfl, by decide, by decide⟩ ?_
      refine fload rL_741_741_33_413_20_0 h0 hB0 (by omega) ?_
      intro z21 lz21 uz21 qz21
      intro z22 hz22 ez22 bz22
      refine fstore rS_741_741_33_413_20_0 (fzs_sub (by decide +kernel) hW) (by omega) (by omega) ?_
      intro IhB23 ehB23 hB23
      have t24 := fup_self ehB23
      have t25 : IhB23 741 2 = I 741 2 := (congrFun (congrFun ehB23 741) 2).trans (fup_ne (by omega))
      refine And.intro ⟨rfl, by decide, by decide⟩ ?_
      refine fload rL_741_741_531_853_14_0 h0 hB23 (by omega) ?_
      intro z26 lz26 uz26 qz26
      refine Exists.intro xm_292 (And.intro mi_292 (And.intro ⟨rfl, rfl, rfl, rfl⟩ (And.intro rfl ?_)))
      refine fcall _ h0 (fzs_sub (by decide +kernel) hW) hB23 (ct_M_comes_305fc (fBz h0 hB23) (by omega) (by omega) (by omega)) ?_
      rintro IhB28 _ hB28 fhB28 rfl
      have t29 := fhB28 741 2 (by decide +kernel)
      exact rfl
abbrev jc_M_works_ee8a5_195 : Nat → fL → List fV → fH → Prop := fun m lv st I => lv = [] ∧ st = [] ∧ (True) ∧ m = (1 : Int).toNat
set_option maxRecDepth 8000 in
theorem ct_M_works_ee8a5 {I : fH} {x1 : Int} (h0 : fB bsJ I) (ha1 : (0 ≤ x1 ∧ x1 ≤ 23)) : fC ρ base n F xTc vwCl xTys D dA la gJ (fbz bsJ znJ (fKc wz_40ea8) I) xm_288 [.inr (.inr (some 740)), .inl x1] I (fun _ r => r = none) := by
  have hW : fzs wz_40ea8 (fKc wz_40ea8) := fKc_ok _
  refine f_meth (rb := rbJ) (J := [(195, jc_M_works_ee8a5_195)]) 2 400 xG xin_288 x6_288 okJ (fB_self h0) ?_ ?_
  · refine List.forall_mem_cons.mpr ⟨?_, fun q h => absurd h List.not_mem_nil⟩
    · rintro m _ _ I1 hB1 ⟨rfl, rfl, hb, hm⟩
      exact rfl
  · have hB0 := fB_self (zn := znJ) (K := fKc wz_40ea8) h0
    refine Exists.intro xm_244 (And.intro mi_244 (And.intro ⟨rfl, rfl, rfl, rfl⟩ (And.intro rfl ?_)))
    refine fcallp hB0 (ct_M_workAt_83d38 (fBz h0 hB0) (by omega)) ?_
    rintro _ ⟨_, rfl, rfl⟩
    refine And.intro ⟨rfl, by decide, by decide⟩ ?_
    refine fload rL_741_741_530_852_14_0 h0 hB0 (by omega) ?_
    intro z2 lz2 uz2 qz2
    refine And.intro (by omega) (And.intro ?_ ?_)
    · refine And.intro (fun ex => ?_) (And.intro (fun ex => ?_) (And.intro (fun ex => ?_) (And.intro (fun ex => ?_) (And.intro (fun ex => ?_) (And.intro (fun ex => ?_) (True.intro))))))
      · skip
        refine Exists.intro xm_294 (And.intro mi_294 (And.intro ⟨rfl, rfl, rfl, rfl⟩ (And.intro rfl ?_)))
        refine fcallp hB0 (ct_M_isCovered_bfece (fBz h0 hB0) (by omega)) ?_
        rintro _ ⟨z3, rfl, hz3⟩
        refine And.intro (by omega) (And.intro ?_ ?_)
        · intro c4
          exact fcutJ (I := I) (j := jc_M_works_ee8a5_195) (lv' := []) (True.intro) ⟨rfl, rfl, True.intro, rfl⟩ (by omega)
        · intro c5
          refine Exists.intro xm_295 (And.intro mi_295 (And.intro ⟨rfl, rfl, rfl, rfl⟩ (And.intro rfl ?_)))
          refine fcall _ h0 (fzs_sub (by decide +kernel) hW) hB0 (ct_M_wears_b070e (fBz h0 hB0) (by omega)) ?_
          rintro IhB7 _ hB7 fhB7 rfl
          exact fcutJ (I := IhB7) (j := jc_M_works_ee8a5_195) (lv' := []) (True.intro) ⟨rfl, rfl, True.intro, rfl⟩ (by omega)
      · skip
        refine Exists.intro xm_289 (And.intro mi_289 (And.intro ⟨rfl, rfl, rfl, rfl⟩ (And.intro rfl ?_)))
        refine fcall _ h0 (fzs_sub (by decide +kernel) hW) hB0 (ct_M_garden_cfd54 (fBz h0 hB0) (by omega)) ?_
        rintro IhB9 _ hB9 fhB9 rfl
        exact fcutJ (I := IhB9) (j := jc_M_works_ee8a5_195) (lv' := []) (True.intro) ⟨rfl, rfl, True.intro, rfl⟩ (by omega)
      · skip
        refine Exists.intro xm_293 (And.intro mi_293 (And.intro ⟨rfl, rfl, rfl, rfl⟩ (And.intro rfl ?_)))
        refine fcall _ h0 (fzs_sub (by decide +kernel) hW) hB0 (ct_M_still_f4bbc (fBz h0 hB0) (by omega)) ?_
        rintro IhB11 _ hB11 fhB11 rfl
        exact fcutJ (I := IhB11) (j := jc_M_works_ee8a5_195) (lv' := []) (True.intro) ⟨rfl, rfl, True.intro, rfl⟩ (by omega)
      · skip
        refine And.intro ⟨rfl, by decide, by decide⟩ ?_
        refine fload rL_741_741_22_22_1_0 h0 hB0 (by omega) ?_
        intro z12 lz12 uz12 qz12
        have pz12 := fld_at qz12 22 (by omega)
        refine And.intro ⟨rfl, by decide, by decide⟩ ?_
        refine fload rL_741_741_535_857_14_0 h0 hB0 (by omega) ?_
        intro z13 lz13 uz13 qz13
        refine And.intro (by omega) (And.intro ?_ ?_)
        · intro c14
          exact fcutJ (I := I) (j := jc_M_works_ee8a5_195) (lv' := []) (True.intro) ⟨rfl, rfl, True.intro, rfl⟩ (by omega)
        · intro c15
          refine And.intro ⟨rfl, by decide, by decide⟩ ?_
          refine fload rL_741_741_22_22_1_0 h0 hB0 (by omega) ?_
          intro z16 lz16 uz16 qz16
          have pz16 := fld_at qz16 22 (by omega)
          refine And.intro ⟨rfl, by decide, by decide⟩ ?_
          refine fload rL_741_741_535_857_14_0 h0 hB0 (by omega) ?_
          intro z17 lz17 uz17 qz17
          intro z18 hz18 ez18 bz18
          refine fstore rS_741_741_22_22_1_0 (fzs_sub (by decide +kernel) hW) (by omega) (by omega) ?_
          intro IhB19 ehB19 hB19
          have t20 := fup_self ehB19
          have t21 := fup_at ehB19 22 (by omega)
          refine And.intro ⟨rfl, by decide, by decide⟩ ?_
          refine fload rL_741_741_2_2_1_0 h0 hB19 (by omega) ?_
          intro z22 lz22 uz22 qz22
          have pz22 := fld_at qz22 2 (by omega)
          intro z23 hz23 ez23 bz23
          refine fstore rS_741_741_2_2_1_0 (fzs_sub (by decide +kernel) hW) (by omega) (by omega) ?_
          intro IhB24 ehB24 hB24
          have t25 := fup_self ehB24
          have t26 := fup_at ehB24 2 (by omega)
          have t27 : IhB24 741 22 = IhB19 741 22 := (congrFun (congrFun ehB24 741) 22).trans (fup_ne (by omega))
          exact fcutJ (I := IhB24) (j := jc_M_works_ee8a5_195) (lv' := []) (True.intro) ⟨rfl, rfl, True.intro, rfl⟩ (by omega)
      · skip
        refine And.intro ⟨rfl, by decide, by decide⟩ ?_
        refine fload rL_741_741_536_858_14_0 h0 hB0 (by omega) ?_
        intro z28 lz28 uz28 qz28
        intro z29 hz29 ez29 bz29
        refine fstore rS_741_741_536_858_14_0 (fzs_sub (by decide +kernel) hW) (by omega) (by omega) ?_
        intro IhB30 ehB30 hB30
        have t31 := fup_self ehB30
        refine And.intro ⟨rfl, by decide, by decide⟩ ?_
        refine And.intro ⟨rfl, by decide, by decide⟩ ?_
        refine fload rL_741_741_536_858_14_0 h0 hB30 (by omega) ?_
        intro z32 lz32 uz32 qz32
        refine And.intro (by omega) (And.intro ?_ ?_)
        · intro c33
          refine fstore rS_741_741_538_860_14_0 (fzs_sub (by decide +kernel) hW) (by omega) (by omega) ?_
          intro IhB34 ehB34 hB34
          have t35 := fup_self ehB34
          exact fcutJ (I := IhB34) (j := jc_M_works_ee8a5_195) (lv' := []) (True.intro) ⟨rfl, rfl, True.intro, rfl⟩ (by omega)
        · intro c36
          refine fstore rS_741_741_538_860_14_0 (fzs_sub (by decide +kernel) hW) (by omega) (by omega) ?_
          intro IhB37 ehB37 hB37
          have t38 := fup_self ehB37
          exact fcutJ (I := IhB37) (j := jc_M_works_ee8a5_195) (lv' := []) (True.intro) ⟨rfl, rfl, True.intro, rfl⟩ (by omega)
      · skip
        refine And.intro ⟨rfl, by decide, by decide⟩ ?_
        refine fload rL_741_741_539_861_14_0 h0 hB0 (by omega) ?_
        intro z39 lz39 uz39 qz39
        refine And.intro (by omega) (And.intro ?_ ?_)
        · intro c40
          exact fcutJ (I := I) (j := jc_M_works_ee8a5_195) (lv' := []) (True.intro) ⟨rfl, rfl, True.intro, rfl⟩ (by omega)
        · intro c41
          refine Exists.intro xm_296 (And.intro mi_296 (And.intro ⟨rfl, rfl, rfl, rfl⟩ (And.intro rfl ?_)))
          refine fcall _ h0 (fzs_sub (by decide +kernel) hW) hB0 (ct_M_falls_0e45b (fBz h0 hB0) (by omega) (by omega)) ?_
          rintro IhB43 _ hB43 fhB43 rfl
          exact fcutJ (I := IhB43) (j := jc_M_works_ee8a5_195) (lv' := []) (True.intro) ⟨rfl, rfl, True.intro, rfl⟩ (by omega)
    · intro c44
      exact fcutJ (I := I) (j := jc_M_works_ee8a5_195) (lv' := []) (True.intro) ⟨rfl, rfl, True.intro, rfl⟩ (by omega)
abbrev jc_M_flows_1ceaa_48 (x1 : Int) (I0 : fH) : Nat → fL → List fV → fH → Prop := fun m lv st I => ∃ (y2 : Int) (y3 : Int) (y4 : Int) (y5 : Int), lv = [(0, .inr (.inr (some 740))), (2, .inl y2), (3, .inl y3), (4, .inl y4), (5, .inl y5)] ∧ st = [] ∧ ((((430 ≤ y2 ∧ y2 ≤ 522) ∧ (y2 - 430) % 4 ≤ 0) ∧ ((30 ≤ y3 ∧ y3 ≤ 410) ∧ (y3 - 30) % 20 ≤ 0) ∧ ((30 ≤ y4 ∧ y4 ≤ 410) ∧ (y4 - 30) % 20 ≤ 0) ∧ (0 ≤ y5 ∧ y5 ≤ 5) ∧ (y3 = 30 + 20 * I0 741 (430 + 4 * x1.toNat)) ∧ (y4 = 30 + 20 * I0 741 (431 + 4 * x1.toNat)))) ∧ m = (1 + 1 * (5 - y5) : Int).toNat
set_option maxRecDepth 8000 in
theorem ct_M_flows_1ceaa {I : fH} {x1 : Int} (h0 : fB bsJ I) (ha1 : (0 ≤ x1 ∧ x1 ≤ 23)) (hp0 : sI I 741) (hp1 : x1 < I 741 6) : fC ρ base n F xTc vwCl xTys D dA la gJ (fbz bsJ znJ (fKc wz_e4f60) I) xm_297 [.inr (.inr (some 740)), .inl x1] I (fun _ r => r = none) := by
  have hW : fzs wz_e4f60 (fKc wz_e4f60) := fKc_ok _
  refine f_meth (rb := rbJ) (J := [(48, (jc_M_flows_1ceaa_48 x1 I))]) 7 400 xG xin_297 x6_297 okJ (fB_self h0) ?_ ?_
  · refine List.forall_mem_cons.mpr ⟨?_, fun q h => absurd h List.not_mem_nil⟩
    · rintro m _ _ I1 hB1 ⟨y2, y3, y4, y5, rfl, rfl, hb, hm⟩
      refine And.intro (by omega) (And.intro ?_ ?_)
      · intro c1
        exact rfl
      · intro c2
        refine And.intro ⟨rfl, by decide, by decide⟩ ?_
        refine fload rL_741_741_31_415_20_4 h0 hB1 (by omega) ?_
        intro z3 lz3 uz3 qz3
        refine And.intro (by omega) ?_
        refine And.intro ⟨rfl, by decide, by decide⟩ ?_
        refine fload rL_741_741_30_410_20_0 h0 hB1 (by omega) ?_
        intro z4 lz4 uz4 qz4
        refine And.intro (by omega) ?_
        intro z5 hz5 ez5 bz5
        refine And.intro ⟨rfl, by decide, by decide⟩ ?_
        refine fload rL_741_741_31_415_20_4 h0 hB1 (by omega) ?_
        intro z6 lz6 uz6 qz6
        refine And.intro (by omega) ?_
        refine And.intro ⟨rfl, by decide, by decide⟩ ?_
        refine fload rL_741_741_30_410_20_0 h0 hB1 (by omega) ?_
        intro z7 lz7 uz7 qz7
        refine And.intro (by omega) ?_
        intro z8 hz8 ez8 bz8
        intro z9 hz9 ez9 bz9
        refine And.intro ⟨rfl, by decide, by decide⟩ ?_
        refine fload rL_741_741_30_410_20_0 h0 hB1 (by omega) ?_
        intro z10 lz10 uz10 qz10
        have w108 := fld_at qz10 (30 + 20 * (I 741 (430 + 4 * x1.toNat)).toNat) (by omega)
        refine And.intro ⟨rfl, by decide, by decide⟩ ?_
        refine fload rL_741_741_30_410_20_0 h0 hB1 (by omega) ?_
        intro z11 lz11 uz11 qz11
        have w117 := fld_at qz11 (30 + 20 * (I 741 (431 + 4 * x1.toNat)).toNat) (by omega)
        have wv := sI_vol hp0 h0 hB1 (by decide +kernel) (l := x1.toNat) (by omega)
        refine And.intro (by omega) ?_
        refine And.intro (And.intro (by omega) (by omega)) ?_
        intro z12 hz12 ez12
        refine And.intro ⟨rfl, by decide, by decide⟩ ?_
        refine fload rL_741_741_432_524_4_0 h0 hB1 (by omega) ?_
        intro z13 lz13 uz13 qz13
        refine And.intro (by omega) ?_
        intro z14 hz14 ez14 bz14
        refine And.intro (And.intro (by omega) (by omega)) ?_
        intro z15 hz15 ez15
        intro z16 hz16 ez16 bz16
        refine And.intro (by omega) (And.intro ?_ ?_)
        · intro c17
          refine And.intro ⟨rfl, by decide, by decide⟩ ?_
          refine fload rL_741_741_31_415_20_4 h0 hB1 (by omega) ?_
          intro z18 lz18 uz18 qz18
          intro z19 hz19 ez19 bz19
          refine fstore rS_741_741_31_415_20_4 (fzs_sub (by decide +kernel) hW) (by omega) (by omega) ?_
          intro IhB20 ehB20 hB20
          have t21 := fup_self ehB20
          refine And.intro ⟨rfl, by decide, by decide⟩ ?_
          refine fload rL_741_741_430_522_4_0 h0 hB20 (by omega) ?_
          intro z22 lz22 uz22 qz22
          intro z23 hz23 ez23 bz23
          refine Exists.intro xm_292 (And.intro mi_292 (And.intro ⟨rfl, rfl, rfl, rfl⟩ (And.intro rfl ?_)))
          refine fcall _ h0 (fzs_sub (by decide +kernel) hW) hB20 (ct_M_comes_305fc (fBz h0 hB20) (by omega) (by omega) (by omega)) ?_
          rintro IhB25 _ hB25 fhB25 rfl
          exact fcutJ (I := IhB25) (j := (jc_M_flows_1ceaa_48 x1 I)) (lv' := [(0, .inr (.inr (some 740))), (2, .inl _), (3, .inl _), (4, .inl _), (5, .inl _)]) (And.intro rfl (And.intro rfl (And.intro rfl (And.intro rfl (And.intro rfl True.intro))))) ⟨_, _, _, _, rfl, rfl, by omega, rfl⟩ (by omega)
        · intro c26
          refine And.intro ⟨rfl, by decide, by decide⟩ ?_
          refine fload rL_741_741_31_415_20_4 h0 hB1 (by omega) ?_
          intro z27 lz27 uz27 qz27
          intro z28 hz28 ez28 bz28
          refine fstore rS_741_741_31_415_20_4 (fzs_sub (by decide +kernel) hW) (by omega) (by omega) ?_
          intro IhB29 ehB29 hB29
          have t30 := fup_self ehB29
          refine And.intro ⟨rfl, by decide, by decide⟩ ?_
          refine fload rL_741_741_431_523_4_0 h0 hB29 (by omega) ?_
          intro z31 lz31 uz31 qz31
          refine Exists.intro xm_292 (And.intro mi_292 (And.intro ⟨rfl, rfl, rfl, rfl⟩ (And.intro rfl ?_)))
          refine fcall _ h0 (fzs_sub (by decide +kernel) hW) hB29 (ct_M_comes_305fc (fBz h0 hB29) (by omega) (by omega) (by omega)) ?_
          rintro IhB33 _ hB33 fhB33 rfl
          exact fcutJ (I := IhB33) (j := (jc_M_flows_1ceaa_48 x1 I)) (lv' := [(0, .inr (.inr (some 740))), (2, .inl _), (3, .inl _), (4, .inl _), (5, .inl _)]) (And.intro rfl (And.intro rfl (And.intro rfl (And.intro rfl (And.intro rfl True.intro))))) ⟨_, _, _, _, rfl, rfl, by omega, rfl⟩ (by omega)
  · have hB0 := fB_self (zn := znJ) (K := fKc wz_e4f60) h0
    refine And.intro ⟨rfl, by decide, by decide⟩ ?_
    refine fload rL_741_741_433_525_4_0 h0 hB0 (by omega) ?_
    intro z34 lz34 uz34 qz34
    refine And.intro (by omega) (And.intro ?_ ?_)
    · intro c35
      refine And.intro ⟨rfl, by decide, by decide⟩ ?_
      refine fload rL_741_741_430_522_4_0 h0 hB0 (by omega) ?_
      intro z36 lz36 uz36 qz36
      have w26 := fld_at qz36 (430 + 4 * x1.toNat) (by omega)
      refine Exists.intro xm_239 (And.intro mi_239 (And.intro ⟨rfl, rfl, rfl, rfl⟩ (And.intro rfl ?_)))
      refine fcallp hB0 (ct_M_cellAt_c15f4 (fBz h0 hB0) (by omega)) ?_
      rintro _ ⟨_, rfl, rfl⟩
      refine And.intro ⟨rfl, by decide, by decide⟩ ?_
      refine fload rL_741_741_431_523_4_0 h0 hB0 (by omega) ?_
      intro z38 lz38 uz38 qz38
      have w39 := fld_at qz38 (431 + 4 * x1.toNat) (by omega)
      refine Exists.intro xm_239 (And.intro mi_239 (And.intro ⟨rfl, rfl, rfl, rfl⟩ (And.intro rfl ?_)))
      refine fcallp hB0 (ct_M_cellAt_c15f4 (fBz h0 hB0) (by omega)) ?_
      rintro _ ⟨_, rfl, rfl⟩
      exact fcutJ (I := I) (j := (jc_M_flows_1ceaa_48 x1 I)) (lv' := [(0, .inr (.inr (some 740))), (2, .inl _), (3, .inl _), (4, .inl _), (5, .inl _)]) (And.intro rfl (And.intro rfl (And.intro rfl (And.intro rfl (And.intro rfl True.intro))))) ⟨_, _, _, _, rfl, rfl, by omega, rfl⟩ (by omega)
    · intro c40
      exact rfl
set_option maxRecDepth 8000 in
theorem ct_M_floats_933b1 {I : fH}  (h0 : fB bsJ I)  : fC ρ base n F xTc vwCl xTys D dA la gJ (fbz bsJ znJ (fKc wz_fa024) I) xm_301 [.inr (.inr (some 740))] I (fun _ r => r = none) := by
  have hW : fzs wz_fa024 (fKc wz_fa024) := fKc_ok _
  refine f_meth (rb := rbJ) (J := []) 1 400 xG xin_301 x6_301 okJ (fB_self h0) ?_ ?_
  · exact fun q h => absurd h List.not_mem_nil
  · have hB0 := fB_self (zn := znJ) (K := fKc wz_fa024) h0
    refine Exists.intro xm_280 (And.intro mi_280 (And.intro ⟨rfl, rfl, rfl, rfl⟩ (And.intro rfl ?_)))
    refine fcallp hB0 (ct_M_lift_1d7b0 (fBz h0 hB0)) ?_
    rintro _ ⟨z1, rfl, hz1⟩
    refine Exists.intro xm_282 (And.intro mi_282 (And.intro ⟨rfl, rfl, rfl, rfl⟩ (And.intro rfl ?_)))
    refine fcallp hB0 (ct_M_weight_47499 (fBz h0 hB0)) ?_
    rintro _ ⟨z2, rfl, hz2⟩
    intro z3 hz3 ez3 bz3
    refine And.intro (And.intro (by omega) (by omega)) ?_
    intro z4 hz4 ez4
    refine And.intro (And.intro (by omega) (by omega)) ?_
    intro z5 hz5
    refine And.intro (by omega) (And.intro ?_ ?_)
    · intro c6
      refine And.intro (And.intro (by omega) (by omega)) ?_
      intro z7 hz7
      refine And.intro (by omega) (And.intro ?_ ?_)
      · intro c8
        intro z9 hz9 ez9 bz9
        refine And.intro ⟨rfl, by decide, by decide⟩ ?_
        refine fload rL_741_741_1_1_1_0 h0 hB0 (by omega) ?_
        intro z10 lz10 uz10 qz10
        have pz10 := fld_at qz10 1 (by omega)
        intro z11 hz11 ez11 bz11
        refine And.intro ⟨rfl, by decide, by decide⟩ ?_
        refine And.intro (by omega) (And.intro ?_ ?_)
        · intro c12
          refine Exists.intro xm_291 (And.intro mi_291 (And.intro ⟨rfl, rfl, rfl, rfl⟩ (And.intro True.intro ?_)))
          refine fcallp hB0 (ct_M_least_31c1d (fBz h0 hB0) (by omega) (by omega)) ?_
          rintro _ ⟨z13, rfl, hz13⟩
          refine fstore rS_741_741_1_1_1_0 (fzs_sub (by decide +kernel) hW) (by omega) (by omega) ?_
          intro IhB14 ehB14 hB14
          have t15 := fup_self ehB14
          have t16 := fup_at ehB14 1 (by omega)
          exact rfl
        · intro c17
          refine fstore rS_741_741_1_1_1_0 (fzs_sub (by decide +kernel) hW) (by omega) (by omega) ?_
          intro IhB18 ehB18 hB18
          have t19 := fup_self ehB18
          have t20 := fup_at ehB18 1 (by omega)
          exact rfl
      · intro c21
        refine And.intro ⟨rfl, by decide, by decide⟩ ?_
        refine fload rL_741_741_1_1_1_0 h0 hB0 (by omega) ?_
        intro z22 lz22 uz22 qz22
        have pz22 := fld_at qz22 1 (by omega)
        intro z23 hz23 ez23 bz23
        refine And.intro ⟨rfl, by decide, by decide⟩ ?_
        refine And.intro (by omega) (And.intro ?_ ?_)
        · intro c24
          refine Exists.intro xm_291 (And.intro mi_291 (And.intro ⟨rfl, rfl, rfl, rfl⟩ (And.intro True.intro ?_)))
          refine fcallp hB0 (ct_M_least_31c1d (fBz h0 hB0) (by omega) (by omega)) ?_
          rintro _ ⟨z25, rfl, hz25⟩
          refine fstore rS_741_741_1_1_1_0 (fzs_sub (by decide +kernel) hW) (by omega) (by omega) ?_
          intro IhB26 ehB26 hB26
          have t27 := fup_self ehB26
          have t28 := fup_at ehB26 1 (by omega)
          exact rfl
        · intro c29
          refine fstore rS_741_741_1_1_1_0 (fzs_sub (by decide +kernel) hW) (by omega) (by omega) ?_
          intro IhB30 ehB30 hB30
          have t31 := fup_self ehB30
          have t32 := fup_at ehB30 1 (by omega)
          exact rfl
    · intro c33
      refine And.intro ⟨rfl, by decide, by decide⟩ ?_
      refine fload rL_741_741_1_1_1_0 h0 hB0 (by omega) ?_
      intro z34 lz34 uz34 qz34
      have pz34 := fld_at qz34 1 (by omega)
      intro z35 hz35 ez35 bz35
      refine And.intro ⟨rfl, by decide, by decide⟩ ?_
      refine And.intro (by omega) (And.intro ?_ ?_)
      · intro c36
        refine Exists.intro xm_291 (And.intro mi_291 (And.intro ⟨rfl, rfl, rfl, rfl⟩ (And.intro True.intro ?_)))
        refine fcallp hB0 (ct_M_least_31c1d (fBz h0 hB0) (by omega) (by omega)) ?_
        rintro _ ⟨z37, rfl, hz37⟩
        refine fstore rS_741_741_1_1_1_0 (fzs_sub (by decide +kernel) hW) (by omega) (by omega) ?_
        intro IhB38 ehB38 hB38
        have t39 := fup_self ehB38
        have t40 := fup_at ehB38 1 (by omega)
        exact rfl
      · intro c41
        refine fstore rS_741_741_1_1_1_0 (fzs_sub (by decide +kernel) hW) (by omega) (by omega) ?_
        intro IhB42 ehB42 hB42
        have t43 := fup_self ehB42
        have t44 := fup_at ehB42 1 (by omega)
        exact rfl
abbrev jc_M_knows_34678_25 : Nat → fL → List fV → fH → Prop := fun m lv st I => ∃ (y2 : Int) (y3 : Int) (y4 : Int) (y5 : Int), lv = [(0, .inr (.inr (some 740))), (2, .inl y2), (3, .inl y3), (4, .inl y4), (5, .inl y5)] ∧ st = [] ∧ (((31 ≤ y2 ∧ y2 ≤ 4323) ∧ ((-2147483648) ≤ y3 ∧ y3 ≤ 2147483647) ∧ ((30 ≤ y4 ∧ y4 ≤ 410) ∧ (y4 - 30) % 20 ≤ 0) ∧ (0 ≤ y5 ∧ y5 ≤ 5))) ∧ m = (1 + 1 * (5 - y5) : Int).toNat
set_option maxRecDepth 8000 in
theorem ct_M_knows_34678 {I : fH} {x1 : Int} {x2 : Int} {x3 : Int} (h0 : fB bsJ I) (ha1 : (0 ≤ x1 ∧ x1 ≤ 19)) (ha2 : (31 ≤ x2 ∧ x2 ≤ 4323)) (ha3 : ((-2147483648) ≤ x3 ∧ x3 ≤ 2147483647)) : fC ρ base n F xTc vwCl xTys D dA la gJ (fbz bsJ znJ (fKc wz_3cf37) I) xm_287 [.inr (.inr (some 740)), .inl x1, .inl x2, .inl x3] I (fun _ r => r = none) := by
  have hW : fzs wz_3cf37 (fKc wz_3cf37) := fKc_ok _
  refine f_meth (rb := rbJ) (J := [(25, jc_M_knows_34678_25)]) 7 400 xG xin_287 x6_287 okJ (fB_self h0) ?_ ?_
  · refine List.forall_mem_cons.mpr ⟨?_, fun q h => absurd h List.not_mem_nil⟩
    · rintro m _ _ I1 hB1 ⟨y2, y3, y4, y5, rfl, rfl, hb, hm⟩
      refine And.intro (by omega) (And.intro ?_ ?_)
      · intro c1
        refine And.intro ⟨rfl, by decide, by decide⟩ ?_
        refine fstore rS_741_741_47_427_20_0 (fzs_sub (by decide +kernel) hW) (by omega) (by omega) ?_
        intro IhB2 ehB2 hB2
        have t3 := fup_self ehB2
        exact rfl
      · intro c4
        refine And.intro ⟨rfl, by decide, by decide⟩ ?_
        refine And.intro ⟨rfl, by decide, by decide⟩ ?_
        refine fload rL_741_741_31_4327_1_0 h0 hB1 (by omega) ?_
        intro z5 lz5 uz5 qz5
        refine fstore rS_741_741_42_426_20_4 (fzs_sub (by decide +kernel) hW) (by omega) (by omega) ?_
        intro IhB6 ehB6 hB6
        have t7 := fup_self ehB6
        exact fcutJ (I := IhB6) (j := jc_M_knows_34678_25) (lv' := [(0, .inr (.inr (some 740))), (2, .inl _), (3, .inl _), (4, .inl _), (5, .inl _)]) (And.intro rfl (And.intro rfl (And.intro rfl (And.intro rfl (And.intro rfl True.intro))))) ⟨_, _, _, _, rfl, rfl, by omega, rfl⟩ (by omega)
  · have hB0 := fB_self (zn := znJ) (K := fKc wz_3cf37) h0
    refine Exists.intro xm_239 (And.intro mi_239 (And.intro ⟨rfl, rfl, rfl, rfl⟩ (And.intro rfl ?_)))
    refine fcallp hB0 (ct_M_cellAt_c15f4 (fBz h0 hB0) (by omega)) ?_
    rintro _ ⟨_, rfl, rfl⟩
    refine And.intro ⟨rfl, by decide, by decide⟩ ?_
    refine fload rL_741_741_47_427_20_0 h0 hB0 (by omega) ?_
    intro z9 lz9 uz9 qz9
    refine And.intro (by omega) (And.intro ?_ ?_)
    · intro c10
      exact fcutJ (I := I) (j := jc_M_knows_34678_25) (lv' := [(0, .inr (.inr (some 740))), (2, .inl _), (3, .inl _), (4, .inl _), (5, .inl _)]) (And.intro rfl (And.intro rfl (And.intro rfl (And.intro rfl (And.intro rfl True.intro))))) ⟨_, _, _, _, rfl, rfl, by omega, rfl⟩ (by omega)
    · intro c11
      exact rfl
abbrev jc_M_come_3ca41_4 : Nat → fL → List fV → fH → Prop := fun m lv st I => ∃ (y1 : Int) (y2 : Int), lv = [(0, .inr (.inr (some 740))), (1, .inl y1), (2, .inl y2)] ∧ st = [] ∧ (((0 ≤ y1 ∧ y1 ≤ 90) ∧ (0 ≤ y2 ∧ y2 ≤ 90) ∧ (y1 ≤ y2))) ∧ m = (10 + 10 * (90 - y2) : Int).toNat
abbrev jc_M_come_3ca41_70 : Nat → fL → List fV → fH → Prop := fun m lv st I => ∃ (y1 : Int) (y2 : Int) (y3 : Int) (y4 : Int), lv = [(0, .inr (.inr (some 740))), (1, .inl y1), (2, .inl y2), (3, .inl y3), (4, .inl y4)] ∧ st = [] ∧ (((0 ≤ y1 ∧ y1 ≤ 89) ∧ (0 ≤ y2 ∧ y2 ≤ 89) ∧ ((3610 ≤ y3 ∧ y3 ≤ 4322) ∧ (y3 - 3610) % 8 ≤ 0) ∧ (0 ≤ y4 ∧ y4 ≤ 8) ∧ (1 ≤ I 741 13 ∧ I 741 13 ≤ 90) ∧ (y1 ≤ y2))) ∧ m = (1 + 10 * (90 - y2) + 1 * (8 - y4) : Int).toNat
set_option maxRecDepth 8000 in
theorem ct_M_come_3ca41 {I : fH}  (h0 : fB bsJ I)  : fC ρ base n F xTc vwCl xTys D dA la gJ (fbz bsJ znJ (fKc wz_24e16) I) xm_286 [.inr (.inr (some 740))] I (fun _ r => r = none) := by
  have hW : fzs wz_24e16 (fKc wz_24e16) := fKc_ok _
  refine f_meth (rb := rbJ) (J := [(4, jc_M_come_3ca41_4), (70, jc_M_come_3ca41_70)]) 911 400 xG xin_286 x6_286 okJ (fB_self h0) ?_ ?_
  · refine List.forall_mem_cons.mpr ⟨?_, List.forall_mem_cons.mpr ⟨?_, fun q h => absurd h List.not_mem_nil⟩⟩
    · rintro m _ _ I1 hB1 ⟨y1, y2, rfl, rfl, hb, hm⟩
      refine And.intro ⟨rfl, by decide, by decide⟩ ?_
      refine fload rL_741_741_13_13_1_0 h0 hB1 (by omega) ?_
      intro z1 lz1 uz1 qz1
      have pz1 := fld_at qz1 13 (by omega)
      refine And.intro (by omega) (And.intro ?_ ?_)
      · intro c2
        refine And.intro ⟨rfl, by decide, by decide⟩ ?_
        refine fstore rS_741_741_13_13_1_0 (fzs_sub (by decide +kernel) hW) (by omega) (by omega) ?_
        intro IhB3 ehB3 hB3
        have t4 := fup_self ehB3
        have t5 := fup_at ehB3 13 (by omega)
        exact rfl
      · intro c6
        refine And.intro ⟨rfl, by decide, by decide⟩ ?_
        refine fload rL_741_741_3617_4329_8_0 h0 hB1 (by omega) ?_
        intro z7 lz7 uz7 qz7
        refine And.intro ⟨rfl, by decide, by decide⟩ ?_
        refine fload rL_741_741_0_0_1_0 h0 hB1 (by omega) ?_
        intro z8 lz8 uz8 qz8
        have pz8 := fld_at qz8 0 (by omega)
        refine And.intro (by omega) (And.intro ?_ ?_)
        · intro c9
          exact fcutJ (I := I1) (j := jc_M_come_3ca41_70) (lv' := [(0, .inr (.inr (some 740))), (1, .inl _), (2, .inl _), (3, .inl _), (4, .inl _)]) (And.intro rfl (And.intro rfl (And.intro rfl (And.intro rfl (And.intro rfl True.intro))))) ⟨_, _, _, _, rfl, rfl, by omega, rfl⟩ (by omega)
        · intro c10
          refine And.intro ⟨rfl, by decide, by decide⟩ ?_
          refine fload rL_741_741_3610_4322_8_0 h0 hB1 (by omega) ?_
          intro z11 lz11 uz11 qz11
          refine And.intro ⟨rfl, by decide, by decide⟩ ?_
          refine fload rL_741_741_3616_4328_8_0 h0 hB1 (by omega) ?_
          intro z12 lz12 uz12 qz12
          refine Exists.intro xm_287 (And.intro mi_287 (And.intro ⟨rfl, rfl, rfl, rfl⟩ (And.intro rfl ?_)))
          refine fcall _ h0 (fzs_sub (by decide +kernel) hW) hB1 (ct_M_knows_34678 (fBz h0 hB1) (by omega) (by omega) (by omega)) ?_
          rintro IhB14 _ hB14 fhB14 rfl
          have t15 := fhB14 741 0 (by decide +kernel)
          have t16 := fhB14 741 13 (by decide +kernel)
          exact fcutJ (I := IhB14) (j := jc_M_come_3ca41_4) (lv' := [(0, .inr (.inr (some 740))), (1, .inl _), (2, .inl _)]) (And.intro rfl (And.intro rfl (And.intro rfl True.intro))) ⟨_, _, rfl, rfl, by omega, rfl⟩ (by omega)
    · rintro m _ _ I1 hB1 ⟨y1, y2, y3, y4, rfl, rfl, hb, hm⟩
      refine And.intro (by omega) (And.intro ?_ ?_)
      · intro c17
        intro z18 hz18 bz18
        exact fcutJ (I := I1) (j := jc_M_come_3ca41_4) (lv' := [(0, .inr (.inr (some 740))), (1, .inl _), (2, .inl _)]) (And.intro rfl (And.intro rfl (And.intro rfl True.intro))) ⟨_, _, rfl, rfl, by omega, rfl⟩ (by omega)
      · intro c19
        refine And.intro ⟨rfl, by decide, by decide⟩ ?_
        intro z20 hz20 ez20 bz20
        intro z21 hz21 ez21 bz21
        intro z22 hz22 ez22 bz22
        refine And.intro ⟨rfl, by decide, by decide⟩ ?_
        refine fload rL_741_741_3610_4329_8_7 h0 hB1 (by omega) ?_
        intro z23 lz23 uz23 qz23
        refine fstoreX (fzs_sub (by decide +kernel) hW) (rep_st (fBz h0 hB1) qz23 (by omega) (by omega)) ?_
        intro IhB24 ehB24 hB24
        have t25 := fup_self ehB24
        have t26 : IhB24 741 13 = I1 741 13 := (congrFun (congrFun ehB24 741) 13).trans (fup_ne (by omega))
        exact fcutJ (I := IhB24) (j := jc_M_come_3ca41_70) (lv' := [(0, .inr (.inr (some 740))), (1, .inl _), (2, .inl _), (3, .inl _), (4, .inl _)]) (And.intro rfl (And.intro rfl (And.intro rfl (And.intro rfl (And.intro rfl True.intro))))) ⟨_, _, _, _, rfl, rfl, by omega, rfl⟩ (by omega)
  · have hB0 := fB_self (zn := znJ) (K := fKc wz_24e16) h0
    exact fcutJ (I := I) (j := jc_M_come_3ca41_4) (lv' := [(0, .inr (.inr (some 740))), (1, .inl _), (2, .inl _)]) (And.intro rfl (And.intro rfl (And.intro rfl True.intro))) ⟨_, _, rfl, rfl, by omega, rfl⟩ (by omega)
abbrev jc_M_fouls_5e9bc_27 : Nat → fL → List fV → fH → Prop := fun m lv st I => ∃ (y2 : Int), lv = [(0, .inr (.inr (some 740))), (2, .inl y2)] ∧ st = [] ∧ ((((530 ≤ y2 ∧ y2 ≤ 852) ∧ (y2 - 530) % 14 ≤ 0))) ∧ m = (1 + 1 * I 741 (y2 + ((12 : Nat) : Int)).toNat : Int).toNat
set_option maxRecDepth 8000 in
theorem ct_M_fouls_5e9bc {I : fH} {x1 : Int} (h0 : fB bsJ I) (ha1 : (0 ≤ x1 ∧ x1 ≤ 23)) : fC ρ base n F xTc vwCl xTys D dA la gJ (fbz bsJ znJ (fKc wz_d1017) I) xm_302 [.inr (.inr (some 740)), .inl x1] I (fun _ r => r = none) := by
  have hW : fzs wz_d1017 (fKc wz_d1017) := fKc_ok _
  refine f_meth (rb := rbJ) (J := [(27, jc_M_fouls_5e9bc_27)]) 2147483650 400 xG xin_302 x6_302 okJ (fB_self h0) ?_ ?_
  · refine List.forall_mem_cons.mpr ⟨?_, fun q h => absurd h List.not_mem_nil⟩
    · rintro m _ _ I1 hB1 ⟨y2, rfl, rfl, hb, hm⟩
      refine And.intro ⟨rfl, by decide, by decide⟩ ?_
      refine fload rL_741_741_542_864_14_0 h0 hB1 (by omega) ?_
      intro z1 lz1 uz1 qz1
      refine And.intro (by omega) (And.intro ?_ ?_)
      · intro c2
        exact rfl
      · intro c3
        refine And.intro ⟨rfl, by decide, by decide⟩ ?_
        refine fload rL_741_741_542_864_14_0 h0 hB1 (by omega) ?_
        intro z4 lz4 uz4 qz4
        intro z5 hz5 ez5 bz5
        refine fstore rS_741_741_542_864_14_0 (fzs_sub (by decide +kernel) hW) (by omega) (by omega) ?_
        intro IhB6 ehB6 hB6
        have t7 := fup_self ehB6
        refine And.intro ⟨rfl, by decide, by decide⟩ ?_
        refine And.intro ⟨rfl, by decide, by decide⟩ ?_
        refine fload rL_741_741_534_856_14_0 h0 hB6 (by omega) ?_
        intro z8 lz8 uz8 qz8
        intro z9 hz9 ez9 bz9
        refine Exists.intro xm_291 (And.intro mi_291 (And.intro ⟨rfl, rfl, rfl, rfl⟩ (And.intro True.intro ?_)))
        refine fcallp hB6 (ct_M_least_31c1d (fBz h0 hB6) (by omega) (by omega)) ?_
        rintro _ ⟨z10, rfl, hz10⟩
        refine fstore rS_741_741_534_856_14_0 (fzs_sub (by decide +kernel) hW) (by omega) (by omega) ?_
        intro IhB11 ehB11 hB11
        have t12 := fup_self ehB11
        have w77 := fup_other ehB11 741 (y2 + ((12 : Nat) : Int)).toNat (by omega)
        exact fcutJ (I := IhB11) (j := jc_M_fouls_5e9bc_27) (lv' := [(0, .inr (.inr (some 740))), (2, .inl _)]) (And.intro rfl (And.intro rfl True.intro)) ⟨_, rfl, rfl, by omega, rfl⟩ (by omega)
  · have hB0 := fB_self (zn := znJ) (K := fKc wz_d1017) h0
    refine Exists.intro xm_244 (And.intro mi_244 (And.intro ⟨rfl, rfl, rfl, rfl⟩ (And.intro rfl ?_)))
    refine fcallp hB0 (ct_M_workAt_83d38 (fBz h0 hB0) (by omega)) ?_
    rintro _ ⟨_, rfl, rfl⟩
    refine And.intro ⟨rfl, by decide, by decide⟩ ?_
    refine fload rL_741_741_542_864_14_0 h0 hB0 (by omega) ?_
    intro z14 lz14 uz14 qz14
    refine And.intro ⟨rfl, by decide, by decide⟩ ?_
    refine fload rL_741_741_541_863_14_0 h0 hB0 (by omega) ?_
    intro z15 lz15 uz15 qz15
    intro z16 hz16 ez16 bz16
    refine fstore rS_741_741_542_864_14_0 (fzs_sub (by decide +kernel) hW) (by omega) (by omega) ?_
    intro IhB17 ehB17 hB17
    have t18 := fup_self ehB17
    exact fcutJ (I := IhB17) (j := jc_M_fouls_5e9bc_27) (lv' := [(0, .inr (.inr (some 740))), (2, .inl _)]) (And.intro rfl (And.intro rfl True.intro)) ⟨_, rfl, rfl, by omega, rfl⟩ (by omega)
abbrev jc_M_hasWatch_bb889_4 : Nat → fL → List fV → fH → Prop := fun m lv st I => ∃ (y1 : Int) (y2 : Int) (y3 : Int), lv = [(0, .inr (.inr (some 740))), (1, .inl y1), (2, .inl y2), (3, .inl y3)] ∧ st = [] ∧ (((0 ≤ y1 ∧ y1 ≤ 19) ∧ (0 ≤ y2 ∧ y2 ≤ 1) ∧ (0 ≤ y3 ∧ y3 ≤ 24))) ∧ m = (1 + 1 * (24 - y3) : Int).toNat
set_option maxRecDepth 8000 in
theorem ct_M_hasWatch_bb889 {I : fH} {x1 : Int} (h0 : fB bsJ I) (ha1 : (0 ≤ x1 ∧ x1 ≤ 19)) : fC ρ base n F xTc vwCl xTys D dA la gJ (fbz bsJ znJ (fKc []) I) xm_304 [.inr (.inr (some 740)), .inl x1] I (fun _ r => ∃ z, r = some (.inl z) ∧ (0 ≤ z ∧ z ≤ 1)) := by
  have hW : fzs [] (fKc []) := fKc_ok _
  refine f_meth (rb := rbJ) (J := [(4, jc_M_hasWatch_bb889_4)]) 26 400 xG xin_304 x6_304 okJ (fB_self h0) ?_ ?_
  · refine List.forall_mem_cons.mpr ⟨?_, fun q h => absurd h List.not_mem_nil⟩
    · rintro m _ _ I1 hB1 ⟨y1, y2, y3, rfl, rfl, hb, hm⟩
      refine And.intro ⟨rfl, by decide, by decide⟩ ?_
      refine fload rL_741_741_8_8_1_0 h0 hB1 (by omega) ?_
      intro z1 lz1 uz1 qz1
      have pz1 := fld_at qz1 8 (by omega)
      refine And.intro (by omega) (And.intro ?_ ?_)
      · intro c2
        refine And.intro (⟨by omega, by omega⟩) ?_
        exact ⟨_, rfl, by omega⟩
      · intro c3
        refine And.intro (by omega) (And.intro ?_ ?_)
        · intro c4
          exact fcutJ (I := I1) (j := jc_M_hasWatch_bb889_4) (lv' := [(0, .inr (.inr (some 740))), (1, .inl _), (2, .inl _), (3, .inl _)]) (And.intro rfl (And.intro rfl (And.intro rfl (And.intro rfl True.intro)))) ⟨_, _, _, rfl, rfl, by omega, rfl⟩ (by omega)
        · intro c5
          refine And.intro ⟨rfl, by decide, by decide⟩ ?_
          refine Exists.intro xm_247 (And.intro mi_247 (And.intro ⟨rfl, rfl, rfl, rfl⟩ (And.intro rfl ?_)))
          refine fcallp hB1 (ct_M_personAt_9b331 (fBz h0 hB1) (by omega)) ?_
          rintro _ ⟨_, rfl, rfl⟩
          refine fload rL_741_741_871_1009_6_0 h0 hB1 (by omega) ?_
          intro z7 lz7 uz7 qz7
          refine And.intro (by omega) (And.intro ?_ ?_)
          · intro c8
            exact fcutJ (I := I1) (j := jc_M_hasWatch_bb889_4) (lv' := [(0, .inr (.inr (some 740))), (1, .inl _), (2, .inl _), (3, .inl _)]) (And.intro rfl (And.intro rfl (And.intro rfl (And.intro rfl True.intro)))) ⟨_, _, _, rfl, rfl, by omega, rfl⟩ (by omega)
          · intro c9
            refine And.intro ⟨rfl, by decide, by decide⟩ ?_
            refine Exists.intro xm_247 (And.intro mi_247 (And.intro ⟨rfl, rfl, rfl, rfl⟩ (And.intro rfl ?_)))
            refine fcallp hB1 (ct_M_personAt_9b331 (fBz h0 hB1) (by omega)) ?_
            rintro _ ⟨_, rfl, rfl⟩
            refine fload rL_741_741_872_1010_6_0 h0 hB1 (by omega) ?_
            intro z11 lz11 uz11 qz11
            refine And.intro (by omega) (And.intro ?_ ?_)
            · intro c12
              exact fcutJ (I := I1) (j := jc_M_hasWatch_bb889_4) (lv' := [(0, .inr (.inr (some 740))), (1, .inl _), (2, .inl _), (3, .inl _)]) (And.intro rfl (And.intro rfl (And.intro rfl (And.intro rfl True.intro)))) ⟨_, _, _, rfl, rfl, by omega, rfl⟩ (by omega)
            · intro c13
              refine Exists.intro xm_248 (And.intro mi_248 (And.intro ⟨rfl, rfl, rfl, rfl⟩ (And.intro rfl ?_)))
              refine fcallp hB1 (ct_M_isDead_21e1a (fBz h0 hB1) (by omega)) ?_
              rintro _ ⟨z14, rfl, hz14⟩
              refine And.intro (by omega) (And.intro ?_ ?_)
              · intro c15
                exact fcutJ (I := I1) (j := jc_M_hasWatch_bb889_4) (lv' := [(0, .inr (.inr (some 740))), (1, .inl _), (2, .inl _), (3, .inl _)]) (And.intro rfl (And.intro rfl (And.intro rfl (And.intro rfl True.intro)))) ⟨_, _, _, rfl, rfl, by omega, rfl⟩ (by omega)
              · intro c16
                exact fcutJ (I := I1) (j := jc_M_hasWatch_bb889_4) (lv' := [(0, .inr (.inr (some 740))), (1, .inl _), (2, .inl _), (3, .inl _)]) (And.intro rfl (And.intro rfl (And.intro rfl (And.intro rfl True.intro)))) ⟨_, _, _, rfl, rfl, by omega, rfl⟩ (by omega)
  · have hB0 := fB_self (zn := znJ) (K := fKc []) h0
    exact fcutJ (I := I) (j := jc_M_hasWatch_bb889_4) (lv' := [(0, .inr (.inr (some 740))), (1, .inl _), (2, .inl _), (3, .inl _)]) (And.intro rfl (And.intro rfl (And.intro rfl (And.intro rfl True.intro)))) ⟨_, _, _, rfl, rfl, by omega, rfl⟩ (by omega)
abbrev jc_M_sends_ddcd7_2 : Nat → fL → List fV → fH → Prop := fun m lv st I => ∃ (y1 : Int), lv = [(0, .inr (.inr (some 740))), (1, .inl y1)] ∧ st = [] ∧ (((0 ≤ y1 ∧ y1 ≤ 20))) ∧ m = (7 + 7 * (20 - y1) : Int).toNat
abbrev jc_M_sends_ddcd7_89 : Nat → fL → List fV → fH → Prop := fun m lv st I => ∃ (y1 : Int) (y2 : Int) (y3 : Int), lv = [(0, .inr (.inr (some 740))), (1, .inl y1), (2, .inl y2), (3, .inl y3)] ∧ st = [] ∧ (((0 ≤ y1 ∧ y1 ≤ 19) ∧ ((3610 ≤ y2 ∧ y2 ≤ 4322) ∧ (y2 - 3610) % 8 ≤ 0) ∧ (0 ≤ y3 ∧ y3 ≤ 5) ∧ (1 ≤ I 741 4 ∧ I 741 4 ≤ 99) ∧ (1 ≤ I 741 5 ∧ I 741 5 ≤ 20) ∧ (0 ≤ I 741 13 ∧ I 741 13 ≤ 89))) ∧ m = (1 + 7 * (20 - y1) + 1 * (5 - y3) : Int).toNat
set_option maxRecDepth 8000 in
theorem ct_M_sends_ddcd7 {I : fH}  (h0 : fB bsJ I)  : fC ρ base n F xTc vwCl xTys D dA la gJ (fbz bsJ znJ (fKc wz_24e16) I) xm_303 [.inr (.inr (some 740))] I (fun _ r => r = none) := by
  have hW : fzs wz_24e16 (fKc wz_24e16) := fKc_ok _
  refine f_meth (rb := rbJ) (J := [(2, jc_M_sends_ddcd7_2), (89, jc_M_sends_ddcd7_89)]) 148 400 xG xin_303 x6_303 okJ (fB_self h0) ?_ ?_
  · refine List.forall_mem_cons.mpr ⟨?_, List.forall_mem_cons.mpr ⟨?_, fun q h => absurd h List.not_mem_nil⟩⟩
    · rintro m _ _ I1 hB1 ⟨y1, rfl, rfl, hb, hm⟩
      refine And.intro ⟨rfl, by decide, by decide⟩ ?_
      refine fload rL_741_741_5_5_1_0 h0 hB1 (by omega) ?_
      intro z1 lz1 uz1 qz1
      have pz1 := fld_at qz1 5 (by omega)
      refine And.intro (by omega) (And.intro ?_ ?_)
      · intro c2
        exact rfl
      · intro c3
        refine Exists.intro xm_304 (And.intro mi_304 (And.intro ⟨rfl, rfl, rfl, rfl⟩ (And.intro rfl ?_)))
        refine fcallp hB1 (ct_M_hasWatch_bb889 (fBz h0 hB1) (by omega)) ?_
        rintro _ ⟨z4, rfl, hz4⟩
        refine And.intro (by omega) (And.intro ?_ ?_)
        · intro c5
          refine And.intro ⟨rfl, by decide, by decide⟩ ?_
          refine fload rL_741_741_4_4_1_0 h0 hB1 (by omega) ?_
          intro z6 lz6 uz6 qz6
          have pz6 := fld_at qz6 4 (by omega)
          refine And.intro (by omega) (And.intro ?_ ?_)
          · intro c7
            refine And.intro ⟨rfl, by decide, by decide⟩ ?_
            refine fload rL_741_741_13_13_1_0 h0 hB1 (by omega) ?_
            intro z8 lz8 uz8 qz8
            have pz8 := fld_at qz8 13 (by omega)
            refine And.intro (by omega) (And.intro ?_ ?_)
            · intro c9
              exact fcutJ (I := I1) (j := jc_M_sends_ddcd7_2) (lv' := [(0, .inr (.inr (some 740))), (1, .inl _)]) (And.intro rfl (And.intro rfl True.intro)) ⟨_, rfl, rfl, by omega, rfl⟩ (by omega)
            · intro c10
              refine And.intro ⟨rfl, by decide, by decide⟩ ?_
              refine fload rL_741_741_13_13_1_0 h0 hB1 (by omega) ?_
              intro z11 lz11 uz11 qz11
              have pz11 := fld_at qz11 13 (by omega)
              refine And.intro ⟨rfl, by decide, by decide⟩ ?_
              refine fstore rS_741_741_3610_4322_8_0 (fzs_sub (by decide +kernel) hW) (by omega) (by omega) ?_
              intro IhB12 ehB12 hB12
              have t13 := fup_self ehB12
              have t14 : IhB12 741 4 = I1 741 4 := (congrFun (congrFun ehB12 741) 4).trans (fup_ne (by omega))
              have t15 : IhB12 741 5 = I1 741 5 := (congrFun (congrFun ehB12 741) 5).trans (fup_ne (by omega))
              have t16 : IhB12 741 13 = I1 741 13 := (congrFun (congrFun ehB12 741) 13).trans (fup_ne (by omega))
              exact fcutJ (I := IhB12) (j := jc_M_sends_ddcd7_89) (lv' := [(0, .inr (.inr (some 740))), (1, .inl _), (2, .inl _), (3, .inl _)]) (And.intro rfl (And.intro rfl (And.intro rfl (And.intro rfl True.intro)))) ⟨_, _, _, rfl, rfl, by omega, rfl⟩ (by omega)
          · intro c17
            refine Exists.intro xm_239 (And.intro mi_239 (And.intro ⟨rfl, rfl, rfl, rfl⟩ (And.intro rfl ?_)))
            refine fcallp hB1 (ct_M_cellAt_c15f4 (fBz h0 hB1) (by omega)) ?_
            rintro _ ⟨_, rfl, rfl⟩
            refine And.intro ⟨rfl, by decide, by decide⟩ ?_
            refine fload rL_741_741_0_0_1_0 h0 hB1 (by omega) ?_
            intro z19 lz19 uz19 qz19
            have pz19 := fld_at qz19 0 (by omega)
            refine Exists.intro xm_287 (And.intro mi_287 (And.intro ⟨rfl, rfl, rfl, rfl⟩ (And.intro rfl ?_)))
            refine fcall _ h0 (fzs_sub (by decide +kernel) hW) hB1 (ct_M_knows_34678 (fBz h0 hB1) (by omega) (by omega) (by omega)) ?_
            rintro IhB21 _ hB21 fhB21 rfl
            have t22 := fhB21 741 0 (by decide +kernel)
            have t23 := fhB21 741 4 (by decide +kernel)
            have t24 := fhB21 741 5 (by decide +kernel)
            exact fcutJ (I := IhB21) (j := jc_M_sends_ddcd7_2) (lv' := [(0, .inr (.inr (some 740))), (1, .inl _)]) (And.intro rfl (And.intro rfl True.intro)) ⟨_, rfl, rfl, by omega, rfl⟩ (by omega)
        · intro c25
          exact fcutJ (I := I1) (j := jc_M_sends_ddcd7_2) (lv' := [(0, .inr (.inr (some 740))), (1, .inl _)]) (And.intro rfl (And.intro rfl True.intro)) ⟨_, rfl, rfl, by omega, rfl⟩ (by omega)
    · rintro m _ _ I1 hB1 ⟨y1, y2, y3, rfl, rfl, hb, hm⟩
      refine And.intro (by omega) (And.intro ?_ ?_)
      · intro c26
        refine And.intro ⟨rfl, by decide, by decide⟩ ?_
        refine And.intro ⟨rfl, by decide, by decide⟩ ?_
        refine fload rL_741_741_0_0_1_0 h0 hB1 (by omega) ?_
        intro z27 lz27 uz27 qz27
        have pz27 := fld_at qz27 0 (by omega)
        refine fstore rS_741_741_3616_4328_8_0 (fzs_sub (by decide +kernel) hW) (by omega) (by omega) ?_
        intro IhB28 ehB28 hB28
        have t29 := fup_self ehB28
        have t30 : IhB28 741 0 = I1 741 0 := (congrFun (congrFun ehB28 741) 0).trans (fup_ne (by omega))
        have t31 : IhB28 741 4 = I1 741 4 := (congrFun (congrFun ehB28 741) 4).trans (fup_ne (by omega))
        have t32 : IhB28 741 5 = I1 741 5 := (congrFun (congrFun ehB28 741) 5).trans (fup_ne (by omega))
        have t33 : IhB28 741 13 = I1 741 13 := (congrFun (congrFun ehB28 741) 13).trans (fup_ne (by omega))
        refine And.intro ⟨rfl, by decide, by decide⟩ ?_
        refine And.intro ⟨rfl, by decide, by decide⟩ ?_
        refine fload rL_741_741_0_0_1_0 h0 hB28 (by omega) ?_
        intro z34 lz34 uz34 qz34
        have pz34 := fld_at qz34 0 (by omega)
        refine And.intro ⟨rfl, by decide, by decide⟩ ?_
        refine fload rL_741_741_4_4_1_0 h0 hB28 (by omega) ?_
        intro z35 lz35 uz35 qz35
        have pz35 := fld_at qz35 4 (by omega)
        refine fstore rS_741_741_3617_4329_8_0 (fzs_sub (by decide +kernel) hW) (by omega) (by omega) ?_
        intro IhB36 ehB36 hB36
        have t37 := fup_self ehB36
        have t38 : IhB36 741 0 = IhB28 741 0 := (congrFun (congrFun ehB36 741) 0).trans (fup_ne (by omega))
        have t39 : IhB36 741 4 = IhB28 741 4 := (congrFun (congrFun ehB36 741) 4).trans (fup_ne (by omega))
        have t40 : IhB36 741 5 = IhB28 741 5 := (congrFun (congrFun ehB36 741) 5).trans (fup_ne (by omega))
        have t41 : IhB36 741 13 = IhB28 741 13 := (congrFun (congrFun ehB36 741) 13).trans (fup_ne (by omega))
        refine And.intro ⟨rfl, by decide, by decide⟩ ?_
        refine fload rL_741_741_13_13_1_0 h0 hB36 (by omega) ?_
        intro z42 lz42 uz42 qz42
        have pz42 := fld_at qz42 13 (by omega)
        refine fstore rS_741_741_13_13_1_0 (fzs_sub (by decide +kernel) hW) (by omega) (by omega) ?_
        intro IhB43 ehB43 hB43
        have t44 := fup_self ehB43
        have t45 : IhB43 741 5 = IhB36 741 5 := (congrFun (congrFun ehB43 741) 5).trans (fup_ne (by omega))
        exact fcutJ (I := IhB43) (j := jc_M_sends_ddcd7_2) (lv' := [(0, .inr (.inr (some 740))), (1, .inl _)]) (And.intro rfl (And.intro rfl True.intro)) ⟨_, rfl, rfl, by omega, rfl⟩ (by omega)
      · intro c46
        refine And.intro ⟨rfl, by decide, by decide⟩ ?_
        refine And.intro ⟨rfl, by decide, by decide⟩ ?_
        refine Exists.intro xm_239 (And.intro mi_239 (And.intro ⟨rfl, rfl, rfl, rfl⟩ (And.intro rfl ?_)))
        refine fcallp hB1 (ct_M_cellAt_c15f4 (fBz h0 hB1) (by omega)) ?_
        rintro _ ⟨_, rfl, rfl⟩
        refine fload rL_741_741_31_415_20_4 h0 hB1 (by omega) ?_
        intro z48 lz48 uz48 qz48
        refine fstore rS_741_741_3611_4327_8_4 (fzs_sub (by decide +kernel) hW) (by omega) (by omega) ?_
        intro IhB49 ehB49 hB49
        have t50 := fup_self ehB49
        have t51 : IhB49 741 4 = I1 741 4 := (congrFun (congrFun ehB49 741) 4).trans (fup_ne (by omega))
        have t52 : IhB49 741 5 = I1 741 5 := (congrFun (congrFun ehB49 741) 5).trans (fup_ne (by omega))
        have t53 : IhB49 741 13 = I1 741 13 := (congrFun (congrFun ehB49 741) 13).trans (fup_ne (by omega))
        exact fcutJ (I := IhB49) (j := jc_M_sends_ddcd7_89) (lv' := [(0, .inr (.inr (some 740))), (1, .inl _), (2, .inl _), (3, .inl _)]) (And.intro rfl (And.intro rfl (And.intro rfl (And.intro rfl True.intro)))) ⟨_, _, _, rfl, rfl, by omega, rfl⟩ (by omega)
  · have hB0 := fB_self (zn := znJ) (K := fKc wz_24e16) h0
    exact fcutJ (I := I) (j := jc_M_sends_ddcd7_2) (lv' := [(0, .inr (.inr (some 740))), (1, .inl _)]) (And.intro rfl (And.intro rfl True.intro)) ⟨_, rfl, rfl, by omega, rfl⟩ (by omega)
abbrev jc_M_leaks_eedee_8 : Nat → fL → List fV → fH → Prop := fun m lv st I => ∃ (y2 : Int) (y3 : Int), lv = [(0, .inr (.inr (some 740))), (2, .inl y2), (3, .inl y3)] ∧ st = [] ∧ ((((30 ≤ y2 ∧ y2 ≤ 410) ∧ (y2 - 30) % 20 ≤ 0) ∧ (0 ≤ y3 ∧ y3 ≤ 5))) ∧ m = (1 + 1 * (5 - y3) : Int).toNat
set_option maxRecDepth 8000 in
theorem ct_M_leaks_eedee {I : fH} {x1 : Int} (h0 : fB bsJ I) (ha1 : (0 ≤ x1 ∧ x1 ≤ 19)) : fC ρ base n F xTc vwCl xTys D dA la gJ (fbz bsJ znJ (fKc wz_e4f60) I) xm_298 [.inr (.inr (some 740)), .inl x1] I (fun _ r => r = none) := by
  have hW : fzs wz_e4f60 (fKc wz_e4f60) := fKc_ok _
  refine f_meth (rb := rbJ) (J := [(8, jc_M_leaks_eedee_8)]) 7 400 xG xin_298 x6_298 okJ (fB_self h0) ?_ ?_
  · refine List.forall_mem_cons.mpr ⟨?_, fun q h => absurd h List.not_mem_nil⟩
    · rintro m _ _ I1 hB1 ⟨y2, y3, rfl, rfl, hb, hm⟩
      refine And.intro (by omega) (And.intro ?_ ?_)
      · intro c1
        exact rfl
      · intro c2
        refine And.intro ⟨rfl, by decide, by decide⟩ ?_
        refine fload rL_741_741_31_415_20_4 h0 hB1 (by omega) ?_
        intro z3 lz3 uz3 qz3
        refine And.intro (by omega) ?_
        refine And.intro ⟨rfl, by decide, by decide⟩ ?_
        refine fload rL_741_741_36_416_20_0 h0 hB1 (by omega) ?_
        intro z4 lz4 uz4 qz4
        refine And.intro (by omega) ?_
        intro z5 hz5 ez5 bz5
        refine And.intro (And.intro (by omega) (by omega)) ?_
        intro z6 hz6 ez6
        intro z7 hz7 ez7 bz7
        refine And.intro ⟨rfl, by decide, by decide⟩ ?_
        refine fload rL_741_741_31_415_20_4 h0 hB1 (by omega) ?_
        intro z8 lz8 uz8 qz8
        intro z9 hz9 ez9 bz9
        refine fstore rS_741_741_31_415_20_4 (fzs_sub (by decide +kernel) hW) (by omega) (by omega) ?_
        intro IhB10 ehB10 hB10
        have t11 := fup_self ehB10
        refine And.intro ⟨rfl, by decide, by decide⟩ ?_
        refine fload rL_741_741_37_421_20_4 h0 hB10 (by omega) ?_
        intro z12 lz12 uz12 qz12
        intro z13 hz13 ez13 bz13
        refine fstore rS_741_741_37_421_20_4 (fzs_sub (by decide +kernel) hW) (by omega) (by omega) ?_
        intro IhB14 ehB14 hB14
        have t15 := fup_self ehB14
        exact fcutJ (I := IhB14) (j := jc_M_leaks_eedee_8) (lv' := [(0, .inr (.inr (some 740))), (2, .inl _), (3, .inl _)]) (And.intro rfl (And.intro rfl (And.intro rfl True.intro))) ⟨_, _, rfl, rfl, by omega, rfl⟩ (by omega)
  · have hB0 := fB_self (zn := znJ) (K := fKc wz_e4f60) h0
    refine Exists.intro xm_239 (And.intro mi_239 (And.intro ⟨rfl, rfl, rfl, rfl⟩ (And.intro rfl ?_)))
    refine fcallp hB0 (ct_M_cellAt_c15f4 (fBz h0 hB0) (by omega)) ?_
    rintro _ ⟨_, rfl, rfl⟩
    exact fcutJ (I := I) (j := jc_M_leaks_eedee_8) (lv' := [(0, .inr (.inr (some 740))), (2, .inl _), (3, .inl _)]) (And.intro rfl (And.intro rfl (And.intro rfl True.intro))) ⟨_, _, rfl, rfl, by omega, rfl⟩ (by omega)
set_option maxRecDepth 8000 in
theorem ct_M_need_68cc2 {I : fH} {x1 : Int} (h0 : fB bsJ I) (ha1 : (0 ≤ x1 ∧ x1 ≤ 23)) : fC ρ base n F xTc vwCl xTys D dA la gJ (fbz bsJ znJ (fKc []) I) xm_300 [.inr (.inr (some 740)), .inl x1] I (fun _ r => ∃ z, r = some (.inl z) ∧ (1 ≤ z ∧ z ≤ 2)) := by
  have hW : fzs [] (fKc []) := fKc_ok _
  refine f_meth (rb := rbJ) (J := []) 1 400 xG xin_300 x6_300 okJ (fB_self h0) ?_ ?_
  · exact fun q h => absurd h List.not_mem_nil
  · have hB0 := fB_self (zn := znJ) (K := fKc []) h0
    refine And.intro ⟨rfl, by decide, by decide⟩ ?_
    refine Exists.intro xm_247 (And.intro mi_247 (And.intro ⟨rfl, rfl, rfl, rfl⟩ (And.intro rfl ?_)))
    refine fcallp hB0 (ct_M_personAt_9b331 (fBz h0 hB0) (by omega)) ?_
    rintro _ ⟨_, rfl, rfl⟩
    refine fload rL_741_741_870_1008_6_0 h0 hB0 (by omega) ?_
    intro z2 lz2 uz2 qz2
    refine And.intro (by omega) (And.intro ?_ ?_)
    · intro c3
      refine And.intro (True.intro) ?_
      exact ⟨_, rfl, by omega⟩
    · intro c4
      refine And.intro (True.intro) ?_
      exact ⟨_, rfl, by omega⟩
set_option maxRecDepth 8000 in
theorem ct_M_breathes_a87a8 {I : fH} {x1 : Int} (h0 : fB bsJ I) (ha1 : (0 ≤ x1 ∧ x1 ≤ 23)) : fC ρ base n F xTc vwCl xTys D dA la gJ (fbz bsJ znJ (fKc wz_69747) I) xm_299 [.inr (.inr (some 740)), .inl x1] I (fun _ r => r = none) := by
  have hW : fzs wz_69747 (fKc wz_69747) := fKc_ok _
  refine f_meth (rb := rbJ) (J := []) 1 400 xG xin_299 x6_299 okJ (fB_self h0) ?_ ?_
  · exact fun q h => absurd h List.not_mem_nil
  · have hB0 := fB_self (zn := znJ) (K := fKc wz_69747) h0
    refine Exists.intro xm_247 (And.intro mi_247 (And.intro ⟨rfl, rfl, rfl, rfl⟩ (And.intro rfl ?_)))
    refine fcallp hB0 (ct_M_personAt_9b331 (fBz h0 hB0) (by omega)) ?_
    rintro _ ⟨_, rfl, rfl⟩
    refine And.intro ⟨rfl, by decide, by decide⟩ ?_
    refine fload rL_741_741_872_1010_6_0 h0 hB0 (by omega) ?_
    intro z2 lz2 uz2 qz2
    refine Exists.intro xm_239 (And.intro mi_239 (And.intro ⟨rfl, rfl, rfl, rfl⟩ (And.intro rfl ?_)))
    refine fcallp hB0 (ct_M_cellAt_c15f4 (fBz h0 hB0) (by omega)) ?_
    rintro _ ⟨_, rfl, rfl⟩
    refine Exists.intro xm_300 (And.intro mi_300 (And.intro ⟨rfl, rfl, rfl, rfl⟩ (And.intro rfl ?_)))
    refine fcallp hB0 (ct_M_need_68cc2 (fBz h0 hB0) (by omega)) ?_
    rintro _ ⟨z4, rfl, hz4⟩
    refine And.intro ⟨rfl, by decide, by decide⟩ ?_
    refine fload rL_741_741_31_411_20_0 h0 hB0 (by omega) ?_
    intro z5 lz5 uz5 qz5
    refine Exists.intro xm_291 (And.intro mi_291 (And.intro ⟨rfl, rfl, rfl, rfl⟩ (And.intro True.intro ?_)))
    refine fcallp hB0 (ct_M_least_31c1d (fBz h0 hB0) (by omega) (by omega)) ?_
    rintro _ ⟨z6, rfl, hz6⟩
    refine And.intro ⟨rfl, by decide, by decide⟩ ?_
    refine fload rL_741_741_31_411_20_0 h0 hB0 (by omega) ?_
    intro z7 lz7 uz7 qz7
    intro z8 hz8 ez8 bz8
    refine fstore rS_741_741_31_411_20_0 (fzs_sub (by decide +kernel) hW) (by omega) (by omega) ?_
    intro IhB9 ehB9 hB9
    have t10 := fup_self ehB9
    refine And.intro (And.intro (by omega) (And.intro (by omega) (And.intro (by omega) rfl))) ?_
    intro z11 hz11 ez11 dz11
    refine Exists.intro xm_292 (And.intro mi_292 (And.intro ⟨rfl, rfl, rfl, rfl⟩ (And.intro rfl ?_)))
    refine fcall _ h0 (fzs_sub (by decide +kernel) hW) hB9 (ct_M_comes_305fc (fBz h0 hB9) (by omega) (by omega) (by omega)) ?_
    rintro IhB13 _ hB13 fhB13 rfl
    refine And.intro (And.intro (by omega) (And.intro (by omega) (And.intro (by omega) rfl))) ?_
    intro z14 hz14 ez14 dz14
    intro z15 hz15 ez15 bz15
    refine Exists.intro xm_292 (And.intro mi_292 (And.intro ⟨rfl, rfl, rfl, rfl⟩ (And.intro rfl ?_)))
    refine fcall _ h0 (fzs_sub (by decide +kernel) hW) hB13 (ct_M_comes_305fc (fBz h0 hB13) (by omega) (by omega) (by omega)) ?_
    rintro IhB17 _ hB17 fhB17 rfl
    refine Exists.intro xm_300 (And.intro mi_300 (And.intro ⟨rfl, rfl, rfl, rfl⟩ (And.intro rfl ?_)))
    refine fcallp hB17 (ct_M_need_68cc2 (fBz h0 hB17) (by omega)) ?_
    rintro _ ⟨z18, rfl, hz18⟩
    refine And.intro (by omega) (And.intro ?_ ?_)
    · intro c19
      refine And.intro ⟨rfl, by decide, by decide⟩ ?_
      refine Exists.intro xm_239 (And.intro mi_239 (And.intro ⟨rfl, rfl, rfl, rfl⟩ (And.intro rfl ?_)))
      refine fcallp hB17 (ct_M_cellAt_c15f4 (fBz h0 hB17) (by omega)) ?_
      rintro _ ⟨_, rfl, rfl⟩
      refine fload rL_741_741_34_414_20_0 h0 hB17 (by omega) ?_
      intro z21 lz21 uz21 qz21
      refine And.intro ⟨rfl, by decide, by decide⟩ ?_
      refine Exists.intro xm_239 (And.intro mi_239 (And.intro ⟨rfl, rfl, rfl, rfl⟩ (And.intro rfl ?_)))
      refine fcallp hB17 (ct_M_cellAt_c15f4 (fBz h0 hB17) (by omega)) ?_
      rintro _ ⟨_, rfl, rfl⟩
      refine fload rL_741_741_30_410_20_0 h0 hB17 (by omega) ?_
      intro z23 lz23 uz23 qz23
      refine And.intro (by omega) (And.intro ?_ ?_)
      · intro c24
        refine And.intro ⟨rfl, by decide, by decide⟩ ?_
        refine fload rL_741_741_873_1011_6_0 h0 hB17 (by omega) ?_
        intro z25 lz25 uz25 qz25
        refine And.intro (by omega) (And.intro ?_ ?_)
        · intro c26
          intro z27 hz27 ez27 bz27
          refine And.intro ⟨rfl, by decide, by decide⟩ ?_
          refine And.intro (by omega) (And.intro ?_ ?_)
          · intro c28
            refine Exists.intro xm_291 (And.intro mi_291 (And.intro ⟨rfl, rfl, rfl, rfl⟩ (And.intro True.intro ?_)))
            refine fcallp hB17 (ct_M_least_31c1d (fBz h0 hB17) (by omega) (by omega)) ?_
            rintro _ ⟨z29, rfl, hz29⟩
            refine fstore rS_741_741_873_1011_6_0 (fzs_sub (by decide +kernel) hW) (by omega) (by omega) ?_
            intro IhB30 ehB30 hB30
            have t31 := fup_self ehB30
            exact rfl
          · intro c32
            refine fstore rS_741_741_873_1011_6_0 (fzs_sub (by decide +kernel) hW) (by omega) (by omega) ?_
            intro IhB33 ehB33 hB33
            have t34 := fup_self ehB33
            exact rfl
        · intro c35
          intro z36 hz36 ez36 bz36
          refine And.intro ⟨rfl, by decide, by decide⟩ ?_
          refine And.intro (by omega) (And.intro ?_ ?_)
          · intro c37
            refine Exists.intro xm_291 (And.intro mi_291 (And.intro ⟨rfl, rfl, rfl, rfl⟩ (And.intro True.intro ?_)))
            refine fcallp hB17 (ct_M_least_31c1d (fBz h0 hB17) (by omega) (by omega)) ?_
            rintro _ ⟨z38, rfl, hz38⟩
            refine fstore rS_741_741_873_1011_6_0 (fzs_sub (by decide +kernel) hW) (by omega) (by omega) ?_
            intro IhB39 ehB39 hB39
            have t40 := fup_self ehB39
            exact rfl
          · intro c41
            refine fstore rS_741_741_873_1011_6_0 (fzs_sub (by decide +kernel) hW) (by omega) (by omega) ?_
            intro IhB42 ehB42 hB42
            have t43 := fup_self ehB42
            exact rfl
      · intro c44
        refine And.intro ⟨rfl, by decide, by decide⟩ ?_
        refine fload rL_741_741_873_1011_6_0 h0 hB17 (by omega) ?_
        intro z45 lz45 uz45 qz45
        refine And.intro (by omega) (And.intro ?_ ?_)
        · intro c46
          intro z47 hz47 ez47 bz47
          refine And.intro ⟨rfl, by decide, by decide⟩ ?_
          refine And.intro (by omega) (And.intro ?_ ?_)
          · intro c48
            refine Exists.intro xm_291 (And.intro mi_291 (And.intro ⟨rfl, rfl, rfl, rfl⟩ (And.intro True.intro ?_)))
            refine fcallp hB17 (ct_M_least_31c1d (fBz h0 hB17) (by omega) (by omega)) ?_
            rintro _ ⟨z49, rfl, hz49⟩
            refine fstore rS_741_741_873_1011_6_0 (fzs_sub (by decide +kernel) hW) (by omega) (by omega) ?_
            intro IhB50 ehB50 hB50
            have t51 := fup_self ehB50
            exact rfl
          · intro c52
            refine fstore rS_741_741_873_1011_6_0 (fzs_sub (by decide +kernel) hW) (by omega) (by omega) ?_
            intro IhB53 ehB53 hB53
            have t54 := fup_self ehB53
            exact rfl
        · intro c55
          intro z56 hz56 ez56 bz56
          refine And.intro ⟨rfl, by decide, by decide⟩ ?_
          refine And.intro (by omega) (And.intro ?_ ?_)
          · intro c57
            refine Exists.intro xm_291 (And.intro mi_291 (And.intro ⟨rfl, rfl, rfl, rfl⟩ (And.intro True.intro ?_)))
            refine fcallp hB17 (ct_M_least_31c1d (fBz h0 hB17) (by omega) (by omega)) ?_
            rintro _ ⟨z58, rfl, hz58⟩
            refine fstore rS_741_741_873_1011_6_0 (fzs_sub (by decide +kernel) hW) (by omega) (by omega) ?_
            intro IhB59 ehB59 hB59
            have t60 := fup_self ehB59
            exact rfl
          · intro c61
            refine fstore rS_741_741_873_1011_6_0 (fzs_sub (by decide +kernel) hW) (by omega) (by omega) ?_
            intro IhB62 ehB62 hB62
            have t63 := fup_self ehB62
            exact rfl
    · intro c64
      refine And.intro ⟨rfl, by decide, by decide⟩ ?_
      refine Exists.intro xm_239 (And.intro mi_239 (And.intro ⟨rfl, rfl, rfl, rfl⟩ (And.intro rfl ?_)))
      refine fcallp hB17 (ct_M_cellAt_c15f4 (fBz h0 hB17) (by omega)) ?_
      rintro _ ⟨_, rfl, rfl⟩
      refine fload rL_741_741_34_414_20_0 h0 hB17 (by omega) ?_
      intro z66 lz66 uz66 qz66
      refine And.intro ⟨rfl, by decide, by decide⟩ ?_
      refine Exists.intro xm_239 (And.intro mi_239 (And.intro ⟨rfl, rfl, rfl, rfl⟩ (And.intro rfl ?_)))
      refine fcallp hB17 (ct_M_cellAt_c15f4 (fBz h0 hB17) (by omega)) ?_
      rintro _ ⟨_, rfl, rfl⟩
      refine fload rL_741_741_30_410_20_0 h0 hB17 (by omega) ?_
      intro z68 lz68 uz68 qz68
      refine And.intro (by omega) (And.intro ?_ ?_)
      · intro c69
        refine And.intro ⟨rfl, by decide, by decide⟩ ?_
        refine fload rL_741_741_873_1011_6_0 h0 hB17 (by omega) ?_
        intro z70 lz70 uz70 qz70
        refine And.intro (by omega) (And.intro ?_ ?_)
        · intro c71
          intro z72 hz72 ez72 bz72
          refine And.intro ⟨rfl, by decide, by decide⟩ ?_
          refine And.intro (by omega) (And.intro ?_ ?_)
          · intro c73
            refine Exists.intro xm_291 (And.intro mi_291 (And.intro ⟨rfl, rfl, rfl, rfl⟩ (And.intro True.intro ?_)))
            refine fcallp hB17 (ct_M_least_31c1d (fBz h0 hB17) (by omega) (by omega)) ?_
            rintro _ ⟨z74, rfl, hz74⟩
            refine fstore rS_741_741_873_1011_6_0 (fzs_sub (by decide +kernel) hW) (by omega) (by omega) ?_
            intro IhB75 ehB75 hB75
            have t76 := fup_self ehB75
            exact rfl
          · intro c77
            refine fstore rS_741_741_873_1011_6_0 (fzs_sub (by decide +kernel) hW) (by omega) (by omega) ?_
            intro IhB78 ehB78 hB78
            have t79 := fup_self ehB78
            exact rfl
        · intro c80
          intro z81 hz81 ez81 bz81
          refine And.intro ⟨rfl, by decide, by decide⟩ ?_
          refine And.intro (by omega) (And.intro ?_ ?_)
          · intro c82
            refine Exists.intro xm_291 (And.intro mi_291 (And.intro ⟨rfl, rfl, rfl, rfl⟩ (And.intro True.intro ?_)))
            refine fcallp hB17 (ct_M_least_31c1d (fBz h0 hB17) (by omega) (by omega)) ?_
            rintro _ ⟨z83, rfl, hz83⟩
            refine fstore rS_741_741_873_1011_6_0 (fzs_sub (by decide +kernel) hW) (by omega) (by omega) ?_
            intro IhB84 ehB84 hB84
            have t85 := fup_self ehB84
            exact rfl
          · intro c86
            refine fstore rS_741_741_873_1011_6_0 (fzs_sub (by decide +kernel) hW) (by omega) (by omega) ?_
            intro IhB87 ehB87 hB87
            have t88 := fup_self ehB87
            exact rfl
      · intro c89
        refine And.intro ⟨rfl, by decide, by decide⟩ ?_
        refine fload rL_741_741_873_1011_6_0 h0 hB17 (by omega) ?_
        intro z90 lz90 uz90 qz90
        refine And.intro (by omega) (And.intro ?_ ?_)
        · intro c91
          intro z92 hz92 ez92 bz92
          refine And.intro ⟨rfl, by decide, by decide⟩ ?_
          refine And.intro (by omega) (And.intro ?_ ?_)
          · intro c93
            refine Exists.intro xm_291 (And.intro mi_291 (And.intro ⟨rfl, rfl, rfl, rfl⟩ (And.intro True.intro ?_)))
            refine fcallp hB17 (ct_M_least_31c1d (fBz h0 hB17) (by omega) (by omega)) ?_
            rintro _ ⟨z94, rfl, hz94⟩
            refine fstore rS_741_741_873_1011_6_0 (fzs_sub (by decide +kernel) hW) (by omega) (by omega) ?_
            intro IhB95 ehB95 hB95
            have t96 := fup_self ehB95
            exact rfl
          · intro c97
            refine fstore rS_741_741_873_1011_6_0 (fzs_sub (by decide +kernel) hW) (by omega) (by omega) ?_
            intro IhB98 ehB98 hB98
            have t99 := fup_self ehB98
            exact rfl
        · intro c100
          intro z101 hz101 ez101 bz101
          refine And.intro ⟨rfl, by decide, by decide⟩ ?_
          refine And.intro (by omega) (And.intro ?_ ?_)
          · intro c102
            refine Exists.intro xm_291 (And.intro mi_291 (And.intro ⟨rfl, rfl, rfl, rfl⟩ (And.intro True.intro ?_)))
            refine fcallp hB17 (ct_M_least_31c1d (fBz h0 hB17) (by omega) (by omega)) ?_
            rintro _ ⟨z103, rfl, hz103⟩
            refine fstore rS_741_741_873_1011_6_0 (fzs_sub (by decide +kernel) hW) (by omega) (by omega) ?_
            intro IhB104 ehB104 hB104
            have t105 := fup_self ehB104
            exact rfl
          · intro c106
            refine fstore rS_741_741_873_1011_6_0 (fzs_sub (by decide +kernel) hW) (by omega) (by omega) ?_
            intro IhB107 ehB107 hB107
            have t108 := fup_self ehB107
            exact rfl
abbrev jc_M_minute_7c04c_6 (I0 : fH) : Nat → fL → List fV → fH → Prop := fun m lv st I => ∃ (y1 : Int), lv = [(0, .inr (.inr (some 740))), (1, .inl y1)] ∧ st = [] ∧ (((0 ≤ y1 ∧ y1 ≤ 24) ∧ (I 741 0 = I0 741 0))) ∧ m = (97 + 1 * (24 - y1) : Int).toNat
abbrev jc_M_minute_7c04c_54 (I0 : fH) : Nat → fL → List fV → fH → Prop := fun m lv st I => ∃ (y1 : Int), lv = [(0, .inr (.inr (some 740))), (1, .inl y1)] ∧ st = [] ∧ (((0 ≤ y1 ∧ y1 ≤ 24) ∧ (I 741 0 = I0 741 0))) ∧ m = (72 + 1 * (24 - y1) : Int).toNat
abbrev jc_M_minute_7c04c_78 (I0 : fH) : Nat → fL → List fV → fH → Prop := fun m lv st I => ∃ (y1 : Int), lv = [(0, .inr (.inr (some 740))), (1, .inl y1)] ∧ st = [] ∧ (((0 ≤ y1 ∧ y1 ≤ 20) ∧ (I 741 0 = I0 741 0))) ∧ m = (51 + 1 * (20 - y1) : Int).toNat
abbrev jc_M_minute_7c04c_101 (I0 : fH) : Nat → fL → List fV → fH → Prop := fun m lv st I => ∃ (y1 : Int), lv = [(0, .inr (.inr (some 740))), (1, .inl y1)] ∧ st = [] ∧ (((0 ≤ y1 ∧ y1 ≤ 24) ∧ (I 741 0 = I0 741 0))) ∧ m = (26 + 1 * (24 - y1) : Int).toNat
abbrev jc_M_minute_7c04c_147 (I0 : fH) : Nat → fL → List fV → fH → Prop := fun m lv st I => ∃ (y1 : Int), lv = [(0, .inr (.inr (some 740))), (1, .inl y1)] ∧ st = [] ∧ (((0 ≤ y1 ∧ y1 ≤ 24) ∧ (I 741 0 = I0 741 0))) ∧ m = (1 + 1 * (24 - y1) : Int).toNat
set_option maxRecDepth 8000 in
theorem ct_M_minute_7c04c {I : fH}  (h0 : fB bsJ I) (hp0 : sI I 741) (hp1 : I 741 0 ≤ 21999) : fC ρ base n F xTc vwCl xTys D dA la gJ (fbz bsJ znJ (fKc wz_f4290) I) xm_285 [.inr (.inr (some 740))] I (fun I' r => r = none ∧ I' 741 0 = I 741 0 + 1) := by
  have hW : fzs wz_f4290 (fKc wz_f4290) := fKc_ok _
  refine f_meth (rb := rbJ) (J := [(6, (jc_M_minute_7c04c_6 I)), (54, (jc_M_minute_7c04c_54 I)), (78, (jc_M_minute_7c04c_78 I)), (101, (jc_M_minute_7c04c_101 I)), (147, (jc_M_minute_7c04c_147 I))]) 122 400 xG xin_285 x6_285 okJ (fB_self h0) ?_ ?_
  · refine List.forall_mem_cons.mpr ⟨?_, List.forall_mem_cons.mpr ⟨?_, List.forall_mem_cons.mpr ⟨?_, List.forall_mem_cons.mpr ⟨?_, List.forall_mem_cons.mpr ⟨?_, fun q h => absurd h List.not_mem_nil⟩⟩⟩⟩⟩
    · rintro m _ _ I1 hB1 ⟨y1, rfl, rfl, hb, hm⟩
      refine And.intro ⟨rfl, by decide, by decide⟩ ?_
      refine fload rL_741_741_7_7_1_0 h0 hB1 (by omega) ?_
      intro z1 lz1 uz1 qz1
      have pz1 := fld_at qz1 7 (by omega)
      refine And.intro (by omega) (And.intro ?_ ?_)
      · intro c2
        exact fcutJ (I := I1) (j := (jc_M_minute_7c04c_54 I)) (lv' := [(0, .inr (.inr (some 740))), (1, .inl _)]) (And.intro rfl (And.intro rfl True.intro)) ⟨_, rfl, rfl, by omega, rfl⟩ (by omega)
      · intro c3
        refine And.intro ⟨rfl, by decide, by decide⟩ ?_
        refine Exists.intro xm_244 (And.intro mi_244 (And.intro ⟨rfl, rfl, rfl, rfl⟩ (And.intro rfl ?_)))
        refine fcallp hB1 (ct_M_workAt_83d38 (fBz h0 hB1) (by omega)) ?_
        rintro _ ⟨_, rfl, rfl⟩
        refine fload rL_741_741_533_855_14_0 h0 hB1 (by omega) ?_
        intro z5 lz5 uz5 qz5
        refine And.intro (by omega) (And.intro ?_ ?_)
        · intro c6
          exact fcutJ (I := I1) (j := (jc_M_minute_7c04c_6 I)) (lv' := [(0, .inr (.inr (some 740))), (1, .inl _)]) (And.intro rfl (And.intro rfl True.intro)) ⟨_, rfl, rfl, by omega, rfl⟩ (by omega)
        · intro c7
          refine Exists.intro xm_245 (And.intro mi_245 (And.intro ⟨rfl, rfl, rfl, rfl⟩ (And.intro rfl ?_)))
          refine fcallp hB1 (ct_M_isGone_0de37 (fBz h0 hB1) (by omega)) ?_
          rintro _ ⟨z8, rfl, hz8⟩
          refine And.intro (by omega) (And.intro ?_ ?_)
          · intro c9
            exact fcutJ (I := I1) (j := (jc_M_minute_7c04c_6 I)) (lv' := [(0, .inr (.inr (some 740))), (1, .inl _)]) (And.intro rfl (And.intro rfl True.intro)) ⟨_, rfl, rfl, by omega, rfl⟩ (by omega)
          · intro c10
            refine Exists.intro xm_288 (And.intro mi_288 (And.intro ⟨rfl, rfl, rfl, rfl⟩ (And.intro rfl ?_)))
            refine fcall _ h0 (fzs_sub (by decide +kernel) hW) hB1 (ct_M_works_ee8a5 (fBz h0 hB1) (by omega)) ?_
            rintro IhB12 _ hB12 fhB12 rfl
            have t13 := fhB12 741 0 (by decide +kernel)
            have t14 := fhB12 741 7 (by decide +kernel)
            exact fcutJ (I := IhB12) (j := (jc_M_minute_7c04c_6 I)) (lv' := [(0, .inr (.inr (some 740))), (1, .inl _)]) (And.intro rfl (And.intro rfl True.intro)) ⟨_, rfl, rfl, by omega, rfl⟩ (by omega)
    · rintro m _ _ I1 hB1 ⟨y1, rfl, rfl, hb, hm⟩
      refine And.intro ⟨rfl, by decide, by decide⟩ ?_
      refine fload rL_741_741_6_6_1_0 h0 hB1 (by omega) ?_
      intro z15 lz15 uz15 qz15
      have pz15 := fld_at qz15 6 (by omega)
      refine And.intro (by omega) (And.intro ?_ ?_)
      · intro c16
        exact fcutJ (I := I1) (j := (jc_M_minute_7c04c_78 I)) (lv' := [(0, .inr (.inr (some 740))), (1, .inl _)]) (And.intro rfl (And.intro rfl True.intro)) ⟨_, rfl, rfl, by omega, rfl⟩ (by omega)
      · intro c17
        refine Exists.intro xm_297 (And.intro mi_297 (And.intro ⟨rfl, rfl, rfl, rfl⟩ (And.intro rfl ?_)))
        refine fcall _ h0 (fzs_sub (by decide +kernel) hW) hB1 (ct_M_flows_1ceaa (fBz h0 hB1) (by omega) (sI_keep hp0 h0 hB1 (by decide +kernel)) (by omega)) ?_
        rintro IhB19 _ hB19 fhB19 rfl
        have t20 := fhB19 741 0 (by decide +kernel)
        have t21 := fhB19 741 6 (by decide +kernel)
        exact fcutJ (I := IhB19) (j := (jc_M_minute_7c04c_54 I)) (lv' := [(0, .inr (.inr (some 740))), (1, .inl _)]) (And.intro rfl (And.intro rfl True.intro)) ⟨_, rfl, rfl, by omega, rfl⟩ (by omega)
    · rintro m _ _ I1 hB1 ⟨y1, rfl, rfl, hb, hm⟩
      refine And.intro ⟨rfl, by decide, by decide⟩ ?_
      refine fload rL_741_741_5_5_1_0 h0 hB1 (by omega) ?_
      intro z22 lz22 uz22 qz22
      have pz22 := fld_at qz22 5 (by omega)
      refine And.intro (by omega) (And.intro ?_ ?_)
      · intro c23
        exact fcutJ (I := I1) (j := (jc_M_minute_7c04c_101 I)) (lv' := [(0, .inr (.inr (some 740))), (1, .inl _)]) (And.intro rfl (And.intro rfl True.intro)) ⟨_, rfl, rfl, by omega, rfl⟩ (by omega)
      · intro c24
        refine Exists.intro xm_298 (And.intro mi_298 (And.intro ⟨rfl, rfl, rfl, rfl⟩ (And.intro rfl ?_)))
        refine fcall _ h0 (fzs_sub (by decide +kernel) hW) hB1 (ct_M_leaks_eedee (fBz h0 hB1) (by omega)) ?_
        rintro IhB26 _ hB26 fhB26 rfl
        have t27 := fhB26 741 0 (by decide +kernel)
        have t28 := fhB26 741 5 (by decide +kernel)
        exact fcutJ (I := IhB26) (j := (jc_M_minute_7c04c_78 I)) (lv' := [(0, .inr (.inr (some 740))), (1, .inl _)]) (And.intro rfl (And.intro rfl True.intro)) ⟨_, rfl, rfl, by omega, rfl⟩ (by omega)
    · rintro m _ _ I1 hB1 ⟨y1, rfl, rfl, hb, hm⟩
      refine And.intro ⟨rfl, by decide, by decide⟩ ?_
      refine fload rL_741_741_8_8_1_0 h0 hB1 (by omega) ?_
      intro z29 lz29 uz29 qz29
      have pz29 := fld_at qz29 8 (by omega)
      refine And.intro (by omega) (And.intro ?_ ?_)
      · intro c30
        refine Exists.intro xm_301 (And.intro mi_301 (And.intro ⟨rfl, rfl, rfl, rfl⟩ (And.intro rfl ?_)))
        refine fcall _ h0 (fzs_sub (by decide +kernel) hW) hB1 (ct_M_floats_933b1 (fBz h0 hB1)) ?_
        rintro IhB32 _ hB32 fhB32 rfl
        have t33 := fhB32 741 0 (by decide +kernel)
        have t34 := fhB32 741 8 (by decide +kernel)
        refine And.intro ⟨rfl, by decide, by decide⟩ ?_
        refine fload rL_741_741_2_2_1_0 h0 hB32 (by omega) ?_
        intro z35 lz35 uz35 qz35
        have pz35 := fld_at qz35 2 (by omega)
        intro z36 hz36 ez36 bz36
        refine fstore rS_741_741_2_2_1_0 (fzs_sub (by decide +kernel) hW) (by omega) (by omega) ?_
        intro IhB37 ehB37 hB37
        have t38 := fup_self ehB37
        have t39 : IhB37 741 0 = IhB32 741 0 := (congrFun (congrFun ehB37 741) 0).trans (fup_ne (by omega))
        have t40 := fup_at ehB37 2 (by omega)
        have t41 : IhB37 741 8 = IhB32 741 8 := (congrFun (congrFun ehB37 741) 8).trans (fup_ne (by omega))
        exact fcutJ (I := IhB37) (j := (jc_M_minute_7c04c_147 I)) (lv' := [(0, .inr (.inr (some 740))), (1, .inl _)]) (And.intro rfl (And.intro rfl True.intro)) ⟨_, rfl, rfl, by omega, rfl⟩ (by omega)
      · intro c42
        refine Exists.intro xm_248 (And.intro mi_248 (And.intro ⟨rfl, rfl, rfl, rfl⟩ (And.intro rfl ?_)))
        refine fcallp hB1 (ct_M_isDead_21e1a (fBz h0 hB1) (by omega)) ?_
        rintro _ ⟨z43, rfl, hz43⟩
        refine And.intro (by omega) (And.intro ?_ ?_)
        · intro c44
          exact fcutJ (I := I1) (j := (jc_M_minute_7c04c_101 I)) (lv' := [(0, .inr (.inr (some 740))), (1, .inl _)]) (And.intro rfl (And.intro rfl True.intro)) ⟨_, rfl, rfl, by omega, rfl⟩ (by omega)
        · intro c45
          refine Exists.intro xm_299 (And.intro mi_299 (And.intro ⟨rfl, rfl, rfl, rfl⟩ (And.intro rfl ?_)))
          refine fcall _ h0 (fzs_sub (by decide +kernel) hW) hB1 (ct_M_breathes_a87a8 (fBz h0 hB1) (by omega)) ?_
          rintro IhB47 _ hB47 fhB47 rfl
          have t48 := fhB47 741 0 (by decide +kernel)
          have t49 := fhB47 741 8 (by decide +kernel)
          exact fcutJ (I := IhB47) (j := (jc_M_minute_7c04c_101 I)) (lv' := [(0, .inr (.inr (some 740))), (1, .inl _)]) (And.intro rfl (And.intro rfl True.intro)) ⟨_, rfl, rfl, by omega, rfl⟩ (by omega)
    · rintro m _ _ I1 hB1 ⟨y1, rfl, rfl, hb, hm⟩
      refine And.intro ⟨rfl, by decide, by decide⟩ ?_
      refine fload rL_741_741_7_7_1_0 h0 hB1 (by omega) ?_
      intro z50 lz50 uz50 qz50
      have pz50 := fld_at qz50 7 (by omega)
      refine And.intro (by omega) (And.intro ?_ ?_)
      · intro c51
        refine And.intro ⟨rfl, by decide, by decide⟩ ?_
        refine fload rL_741_741_0_0_1_0 h0 hB1 (by omega) ?_
        intro z52 lz52 uz52 qz52
        have pz52 := fld_at qz52 0 (by omega)
        refine fstore rS_741_741_0_0_1_0 (fzs_sub (by decide +kernel) hW) (by omega) (by omega) ?_
        intro IhB53 ehB53 hB53
        have t54 := fup_self ehB53
        have t55 := fup_at ehB53 0 (by omega)
        have t56 : IhB53 741 7 = I1 741 7 := (congrFun (congrFun ehB53 741) 7).trans (fup_ne (by omega))
        refine And.intro ⟨rfl, by decide, by decide⟩ ?_
        refine fload rL_741_741_0_0_1_0 h0 hB53 (by omega) ?_
        intro z57 lz57 uz57 qz57
        have pz57 := fld_at qz57 0 (by omega)
        refine And.intro (And.intro (by omega) (And.intro (by omega) (And.intro (by omega) rfl))) ?_
        intro z58 hz58 ez58 dz58
        have dz58 := dz58 (by omega) (by omega)
        change _ = _ % _ at dz58
        refine And.intro (by omega) (And.intro ?_ ?_)
        · intro c59
          exact ⟨rfl, by omega⟩
        · intro c60
          refine Exists.intro xm_303 (And.intro mi_303 (And.intro ⟨rfl, rfl, rfl, rfl⟩ (And.intro rfl ?_)))
          refine fcall _ h0 (fzs_sub (by decide +kernel) hW) hB53 (ct_M_sends_ddcd7 (fBz h0 hB53)) ?_
          rintro IhB62 _ hB62 fhB62 rfl
          have t63 := fhB62 741 0 (by decide +kernel)
          have t64 := fhB62 741 7 (by decide +kernel)
          exact ⟨rfl, by omega⟩
      · intro c65
        refine Exists.intro xm_245 (And.intro mi_245 (And.intro ⟨rfl, rfl, rfl, rfl⟩ (And.intro rfl ?_)))
        refine fcallp hB1 (ct_M_isGone_0de37 (fBz h0 hB1) (by omega)) ?_
        rintro _ ⟨z66, rfl, hz66⟩
        refine And.intro (by omega) (And.intro ?_ ?_)
        · intro c67
          exact fcutJ (I := I1) (j := (jc_M_minute_7c04c_147 I)) (lv' := [(0, .inr (.inr (some 740))), (1, .inl _)]) (And.intro rfl (And.intro rfl True.intro)) ⟨_, rfl, rfl, by omega, rfl⟩ (by omega)
        · intro c68
          refine Exists.intro xm_302 (And.intro mi_302 (And.intro ⟨rfl, rfl, rfl, rfl⟩ (And.intro rfl ?_)))
          refine fcall _ h0 (fzs_sub (by decide +kernel) hW) hB1 (ct_M_fouls_5e9bc (fBz h0 hB1) (by omega)) ?_
          rintro IhB70 _ hB70 fhB70 rfl
          have t71 := fhB70 741 0 (by decide +kernel)
          have t72 := fhB70 741 7 (by decide +kernel)
          exact fcutJ (I := IhB70) (j := (jc_M_minute_7c04c_147 I)) (lv' := [(0, .inr (.inr (some 740))), (1, .inl _)]) (And.intro rfl (And.intro rfl True.intro)) ⟨_, rfl, rfl, by omega, rfl⟩ (by omega)
  · have hB0 := fB_self (zn := znJ) (K := fKc wz_f4290) h0
    refine Exists.intro xm_286 (And.intro mi_286 (And.intro ⟨rfl, rfl, rfl, rfl⟩ (And.intro rfl ?_)))
    refine fcall _ h0 (fzs_sub (by decide +kernel) hW) hB0 (ct_M_come_3ca41 (fBz h0 hB0)) ?_
    rintro IhB74 _ hB74 fhB74 rfl
    have t75 := fhB74 741 0 (by decide +kernel)
    exact fcutJ (I := IhB74) (j := (jc_M_minute_7c04c_6 I)) (lv' := [(0, .inr (.inr (some 740))), (1, .inl _)]) (And.intro rfl (And.intro rfl True.intro)) ⟨_, rfl, rfl, by omega, rfl⟩ (by omega)
abbrev jc_M_run_ddfc8_34 (I0 : fH) : Nat → fL → List fV → fH → Prop := fun m lv st I => ∃ (y1 : Int) (y2 : Int), lv = [(0, .inr (.inr (some 740))), (1, .inl y1), (2, .inl y2)] ∧ st = [] ∧ (((1 ≤ y1 ∧ y1 ≤ 120) ∧ (0 ≤ y2 ∧ y2 ≤ 120) ∧ (I 741 0 = I0 741 0 + y2) ∧ (I0 741 0 + y1 ≤ 20000))) ∧ m = (1 + 1 * (120 - y2) : Int).toNat
set_option maxRecDepth 8000 in
theorem ct_M_run_ddfc8 {I : fH} {x1 : Int} (h0 : fB bsJ I) (ha1 : ((-2147483648) ≤ x1 ∧ x1 ≤ 2147483647)) (hp0 : sI I 741) (hp1 : I 741 0 ≤ 20000) : fC ρ base n F xTc vwCl xTys D dA la gJ (fbz bsJ znJ (fKc wz_f4290) I) xm_284 [.inr (.inr (some 740)), .inl x1] I (fun _ r => ∃ z, r = some (.inl z) ∧ ((0 ≤ z ∧ z ≤ 22000) ∨ z = (-1000000003) ∨ z = (-1000000001))) := by
  have hW : fzs wz_f4290 (fKc wz_f4290) := fKc_ok _
  refine f_meth (rb := rbJ) (J := [(34, (jc_M_run_ddfc8_34 I))]) 122 400 xG xin_284 x6_284 okJ (fB_self h0) ?_ ?_
  · refine List.forall_mem_cons.mpr ⟨?_, fun q h => absurd h List.not_mem_nil⟩
    · rintro m _ _ I1 hB1 ⟨y1, y2, rfl, rfl, hb, hm⟩
      refine And.intro (by omega) (And.intro ?_ ?_)
      · intro c1
        refine And.intro ⟨rfl, by decide, by decide⟩ ?_
        refine fload rL_741_741_0_0_1_0 h0 hB1 (by omega) ?_
        intro z2 lz2 uz2 qz2
        have pz2 := fld_at qz2 0 (by omega)
        refine And.intro (True.intro) ?_
        exact ⟨_, rfl, by omega⟩
      · intro c3
        refine Exists.intro xm_285 (And.intro mi_285 (And.intro ⟨rfl, rfl, rfl, rfl⟩ (And.intro rfl ?_)))
        refine fcall _ h0 (fzs_sub (by decide +kernel) hW) hB1 (ct_M_minute_7c04c (fBz h0 hB1) (sI_keep hp0 h0 hB1 (by decide +kernel)) (by omega)) ?_
        rintro IhB5 _ hB5 fhB5 ⟨rfl, hz4⟩
        exact fcutJ (I := IhB5) (j := (jc_M_run_ddfc8_34 I)) (lv' := [(0, .inr (.inr (some 740))), (1, .inl _), (2, .inl _)]) (And.intro rfl (And.intro rfl (And.intro rfl True.intro))) ⟨_, _, rfl, rfl, by omega, rfl⟩ (by omega)
  · have hB0 := fB_self (zn := znJ) (K := fKc wz_f4290) h0
    refine And.intro (by omega) ?_
    refine Exists.intro xm_238 (And.intro mi_238 (And.intro ⟨rfl, rfl, rfl, rfl⟩ (And.intro True.intro ?_)))
    refine fcallp hB0 (ct_M_isIn_27230 (fBz h0 hB0) (by omega) (by omega) (by omega)) ?_
    rintro _ ⟨z6, rfl, hz6⟩
    refine And.intro (by omega) (And.intro ?_ ?_)
    · intro c7
      refine And.intro ⟨rfl, by decide, by decide⟩ ?_
      refine fload rL_741_741_0_0_1_0 h0 hB0 (by omega) ?_
      intro z8 lz8 uz8 qz8
      have pz8 := fld_at qz8 0 (by omega)
      refine And.intro (by omega) (And.intro ?_ ?_)
      · intro c9
        exact fcutJ (I := I) (j := (jc_M_run_ddfc8_34 I)) (lv' := [(0, .inr (.inr (some 740))), (1, .inl _), (2, .inl _)]) (And.intro rfl (And.intro rfl (And.intro rfl True.intro))) ⟨_, _, rfl, rfl, by omega, rfl⟩ (by omega)
      · intro c10
        refine And.intro (True.intro) ?_
        exact ⟨_, rfl, by omega⟩
    · intro c11
      refine And.intro (True.intro) ?_
      exact ⟨_, rfl, by omega⟩
set_option maxRecDepth 8000 in
theorem ct_People_addPerson_f57f7 {I : fH} {x1 : Int} {x2 : Int} {x3 : Int} (h0 : fB bsJ I) (ha1 : (0 ≤ x1 ∧ x1 ≤ 99)) (ha2 : (0 ≤ x2 ∧ x2 ≤ 3)) (ha3 : (0 ≤ x3 ∧ x3 ≤ 19)) : fC ρ base n F xTc vwCl xTys D dA la gJ (fbz bsJ znJ (fKc wz_4ceb6) I) xm_100 [.inr (.inr (some 177)), .inl x1, .inl x2, .inl x3] I (fun _ r => ∃ z, r = some (.inl z) ∧ ((0 ≤ z ∧ z ≤ 23) ∨ z = (-1000000003))) := by
  have hW : fzs wz_4ceb6 (fKc wz_4ceb6) := fKc_ok _
  refine f_meth (rb := rbJ) (J := []) 1 400 xG xin_100 x6_100 okJ (fB_self h0) ?_ ?_
  · exact fun q h => absurd h List.not_mem_nil
  · have hB0 := fB_self (zn := znJ) (K := fKc wz_4ceb6) h0
    refine And.intro ⟨rfl, by decide, by decide⟩ (fgetf fb_177_4 h0 hB0 ?_)
    intro z1 lz1 uz1 qz1
    refine And.intro (by omega) (And.intro ?_ ?_)
    · intro c2
      refine And.intro ⟨rfl, by decide, by decide⟩ ?_
      refine fstore rS_178_178_0_23_1_0 (fzs_sub (by decide +kernel) hW) (by omega) (by omega) ?_
      intro IhB3 ehB3 hB3
      have t4 := fup_self ehB3
      have t5 : IhB3 177 4 = I 177 4 := (congrFun (congrFun ehB3 177) 4).trans (fup_ne (by omega))
      refine And.intro ⟨rfl, by decide, by decide⟩ ?_
      refine fstore rS_179_179_0_23_1_0 (fzs_sub (by decide +kernel) hW) (by omega) (by omega) ?_
      intro IhB6 ehB6 hB6
      have t7 := fup_self ehB6
      have t8 : IhB6 177 4 = IhB3 177 4 := (congrFun (congrFun ehB6 177) 4).trans (fup_ne (by omega))
      refine And.intro ⟨rfl, by decide, by decide⟩ ?_
      refine fstore rS_180_180_0_23_1_0 (fzs_sub (by decide +kernel) hW) (by omega) (by omega) ?_
      intro IhB9 ehB9 hB9
      have t10 := fup_self ehB9
      have t11 : IhB9 177 4 = IhB6 177 4 := (congrFun (congrFun ehB9 177) 4).trans (fup_ne (by omega))
      refine And.intro ⟨rfl, by decide, by decide⟩ ?_
      refine fstore rS_181_181_0_23_1_0 (fzs_sub (by decide +kernel) hW) (by omega) (by omega) ?_
      intro IhB12 ehB12 hB12
      have t13 := fup_self ehB12
      have t14 : IhB12 177 4 = IhB9 177 4 := (congrFun (congrFun ehB12 177) 4).trans (fup_ne (by omega))
      refine And.intro ⟨rfl, by decide, by decide⟩ (And.intro rfl (And.intro (Or.inl rfl) (fputf fb_177_4 (by decide +kernel) hW (by omega) ?_)))
      intro IhB15 ehB15 hB15
      have t16 := fup_at ehB15 4 (by omega)
      refine And.intro (True.intro) ?_
      exact ⟨_, rfl, by omega⟩
    · intro c17
      refine And.intro (True.intro) ?_
      exact ⟨_, rfl, by omega⟩
set_option maxRecDepth 8000 in
theorem ct_X_person_26141 {I : fH} {x1 : Int} {x2 : Int} {x3 : Int} (h0 : fB bsJ I) (ha1 : ((-2147483648) ≤ x1 ∧ x1 ≤ 2147483647)) (ha2 : ((-2147483648) ≤ x2 ∧ x2 ≤ 2147483647)) (ha3 : ((-2147483648) ≤ x3 ∧ x3 ≤ 2147483647)) : fC ρ base n F xTc vwCl xTys D dA la gJ (fbz bsJ znJ (fKc wz_4ceb6) I) xm_99 [.inr (.inr (some 0)), .inl x1, .inl x2, .inl x3] I (fun _ r => ∃ z, r = some (.inl z) ∧ ((0 ≤ z ∧ z ≤ 23) ∨ z = (-1000000003) ∨ z = (-1000000001))) := by
  have hW : fzs wz_4ceb6 (fKc wz_4ceb6) := fKc_ok _
  refine f_meth (rb := rbJ) (J := []) 1 400 xG xin_99 x6_99 okJ (fB_self h0) ?_ ?_
  · exact fun q h => absurd h List.not_mem_nil
  · have hB0 := fB_self (zn := znJ) (K := fKc wz_4ceb6) h0
    refine Exists.intro xm_13 (And.intro mi_13 (And.intro ⟨rfl, rfl, rfl, rfl⟩ (And.intro True.intro ?_)))
    refine fcallp hB0 (ct_X_within_c27b1 (fBz h0 hB0) (by omega) (by omega) (by omega)) ?_
    rintro _ ⟨z1, rfl, hz1⟩
    refine And.intro (by omega) (And.intro ?_ ?_)
    · intro c2
      refine And.intro (True.intro) ?_
      exact ⟨_, rfl, by omega⟩
    · intro c3
      refine Exists.intro xm_13 (And.intro mi_13 (And.intro ⟨rfl, rfl, rfl, rfl⟩ (And.intro True.intro ?_)))
      refine fcallp hB0 (ct_X_within_c27b1 (fBz h0 hB0) (by omega) (by omega) (by omega)) ?_
      rintro _ ⟨z4, rfl, hz4⟩
      refine And.intro (by omega) (And.intro ?_ ?_)
      · intro c5
        refine And.intro (True.intro) ?_
        exact ⟨_, rfl, by omega⟩
      · intro c6
        refine And.intro ⟨rfl, by decide, by decide⟩ ?_
        refine Exists.intro xm_17 (And.intro mi_17 (And.intro ⟨rfl, rfl, rfl, rfl⟩ (And.intro rfl ?_)))
        refine fcallp hB0 (ct_City_isCell_46f02 (fBz h0 hB0) (by omega)) ?_
        rintro _ ⟨z7, rfl, hz7⟩
        refine And.intro (by omega) (And.intro ?_ ?_)
        · intro c8
          refine And.intro ⟨rfl, by decide, by decide⟩ ?_
          refine And.intro ⟨rfl, by decide, by decide⟩ ?_
          refine Exists.intro xm_100 (And.intro mi_100 (And.intro ⟨rfl, rfl, rfl, rfl⟩ (And.intro rfl ?_)))
          refine fcall _ h0 (fzs_sub (by decide +kernel) hW) hB0 (ct_People_addPerson_f57f7 (fBz h0 hB0) (by omega) (by omega) (by omega)) ?_
          rintro IhB10 _ hB10 fhB10 ⟨z9, rfl, hz9⟩
          refine And.intro (True.intro) ?_
          exact ⟨_, rfl, by omega⟩
        · intro c11
          refine And.intro (True.intro) ?_
          exact ⟨_, rfl, by omega⟩
set_option maxRecDepth 8000 in
theorem ct_M_person_81c92 {I : fH} {x1 : Int} {x2 : Int} {x3 : Int} (h0 : fB bsJ I) (ha1 : ((-2147483648) ≤ x1 ∧ x1 ≤ 2147483647)) (ha2 : ((-2147483648) ≤ x2 ∧ x2 ≤ 2147483647)) (ha3 : ((-2147483648) ≤ x3 ∧ x3 ≤ 2147483647)) : fC ρ base n F xTc vwCl xTys D dA la gJ (fbz bsJ znJ (fKc wz_e1d4d) I) xm_305 [.inr (.inr (some 740)), .inl x1, .inl x2, .inl x3] I (fun _ r => ∃ z, r = some (.inl z) ∧ ((0 ≤ z ∧ z ≤ 23) ∨ z = (-1000000003) ∨ z = (-1000000001))) := by
  have hW : fzs wz_e1d4d (fKc wz_e1d4d) := fKc_ok _
  refine f_meth (rb := rbJ) (J := []) 1 400 xG xin_305 x6_305 okJ (fB_self h0) ?_ ?_
  · exact fun q h => absurd h List.not_mem_nil
  · have hB0 := fB_self (zn := znJ) (K := fKc wz_e1d4d) h0
    refine And.intro (by omega) ?_
    refine Exists.intro xm_238 (And.intro mi_238 (And.intro ⟨rfl, rfl, rfl, rfl⟩ (And.intro True.intro ?_)))
    refine fcallp hB0 (ct_M_isIn_27230 (fBz h0 hB0) (by omega) (by omega) (by omega)) ?_
    rintro _ ⟨z1, rfl, hz1⟩
    refine And.intro (by omega) (And.intro ?_ ?_)
    · intro c2
      refine And.intro (True.intro) ?_
      exact ⟨_, rfl, by omega⟩
    · intro c3
      refine And.intro (by omega) ?_
      refine Exists.intro xm_238 (And.intro mi_238 (And.intro ⟨rfl, rfl, rfl, rfl⟩ (And.intro True.intro ?_)))
      refine fcallp hB0 (ct_M_isIn_27230 (fBz h0 hB0) (by omega) (by omega) (by omega)) ?_
      rintro _ ⟨z4, rfl, hz4⟩
      refine And.intro (by omega) (And.intro ?_ ?_)
      · intro c5
        refine And.intro (True.intro) ?_
        exact ⟨_, rfl, by omega⟩
      · intro c6
        refine Exists.intro xm_241 (And.intro mi_241 (And.intro ⟨rfl, rfl, rfl, rfl⟩ (And.intro rfl ?_)))
        refine fcallp hB0 (ct_M_isCell_45859 (fBz h0 hB0) (by omega)) ?_
        rintro _ ⟨z7, rfl, hz7⟩
        refine And.intro (by omega) (And.intro ?_ ?_)
        · intro c8
          refine And.intro ⟨rfl, by decide, by decide⟩ ?_
          refine fload rL_741_741_8_8_1_0 h0 hB0 (by omega) ?_
          intro z9 lz9 uz9 qz9
          have pz9 := fld_at qz9 8 (by omega)
          refine And.intro (by omega) (And.intro ?_ ?_)
          · intro c10
            refine And.intro ⟨rfl, by decide, by decide⟩ ?_
            refine fload rL_741_741_8_8_1_0 h0 hB0 (by omega) ?_
            intro z11 lz11 uz11 qz11
            have pz11 := fld_at qz11 8 (by omega)
            refine Exists.intro xm_247 (And.intro mi_247 (And.intro ⟨rfl, rfl, rfl, rfl⟩ (And.intro rfl ?_)))
            refine fcallp hB0 (ct_M_personAt_9b331 (fBz h0 hB0) (by omega)) ?_
            rintro _ ⟨_, rfl, rfl⟩
            refine And.intro ⟨rfl, by decide, by decide⟩ ?_
            refine fstore rS_741_741_870_1008_6_0 (fzs_sub (by decide +kernel) hW) (by omega) (by omega) ?_
            intro IhB13 ehB13 hB13
            have t14 := fup_self ehB13
            have t15 : IhB13 741 8 = I 741 8 := (congrFun (congrFun ehB13 741) 8).trans (fup_ne (by omega))
            refine And.intro ⟨rfl, by decide, by decide⟩ ?_
            refine fstore rS_741_741_871_1009_6_0 (fzs_sub (by decide +kernel) hW) (by omega) (by omega) ?_
            intro IhB16 ehB16 hB16
            have t17 := fup_self ehB16
            have t18 : IhB16 741 8 = IhB13 741 8 := (congrFun (congrFun ehB16 741) 8).trans (fup_ne (by omega))
            refine And.intro ⟨rfl, by decide, by decide⟩ ?_
            refine fstore rS_741_741_872_1010_6_0 (fzs_sub (by decide +kernel) hW) (by omega) (by omega) ?_
            intro IhB19 ehB19 hB19
            have t20 := fup_self ehB19
            have t21 : IhB19 741 8 = IhB16 741 8 := (congrFun (congrFun ehB19 741) 8).trans (fup_ne (by omega))
            refine And.intro ⟨rfl, by decide, by decide⟩ ?_
            refine fstore rS_741_741_873_1011_6_0 (fzs_sub (by decide +kernel) hW) (by omega) (by omega) ?_
            intro IhB22 ehB22 hB22
            have t23 := fup_self ehB22
            have t24 : IhB22 741 8 = IhB19 741 8 := (congrFun (congrFun ehB22 741) 8).trans (fup_ne (by omega))
            refine And.intro ⟨rfl, by decide, by decide⟩ ?_
            refine fstore rS_741_741_874_1012_6_0 (fzs_sub (by decide +kernel) hW) (by omega) (by omega) ?_
            intro IhB25 ehB25 hB25
            have t26 := fup_self ehB25
            have t27 : IhB25 741 8 = IhB22 741 8 := (congrFun (congrFun ehB25 741) 8).trans (fup_ne (by omega))
            refine And.intro ⟨rfl, by decide, by decide⟩ ?_
            refine fload rL_741_741_8_8_1_0 h0 hB25 (by omega) ?_
            intro z28 lz28 uz28 qz28
            have pz28 := fld_at qz28 8 (by omega)
            refine fstore rS_741_741_8_8_1_0 (fzs_sub (by decide +kernel) hW) (by omega) (by omega) ?_
            intro IhB29 ehB29 hB29
            have t30 := fup_self ehB29
            have t31 := fup_at ehB29 8 (by omega)
            refine And.intro ⟨rfl, by decide, by decide⟩ ?_
            refine fload rL_741_741_8_8_1_0 h0 hB29 (by omega) ?_
            intro z32 lz32 uz32 qz32
            have pz32 := fld_at qz32 8 (by omega)
            refine And.intro (True.intro) ?_
            exact ⟨_, rfl, by omega⟩
          · intro c33
            refine And.intro (True.intro) ?_
            exact ⟨_, rfl, by omega⟩
        · intro c34
          refine And.intro (True.intro) ?_
          exact ⟨_, rfl, by omega⟩
set_option maxRecDepth 8000 in
theorem ct_X_swap_fb805 {I : fH} {x1 : Int} {x2 : Int} (h0 : fB bsJ I) (ha1 : (0 ≤ x1 ∧ x1 ≤ 23)) (ha2 : (0 ≤ x2 ∧ x2 ≤ 19)) : fC ρ base n F xTc vwCl xTys D dA la gJ (fbz bsJ znJ (fKc wz_23056) I) xm_18 [.inr (.inr (some 180)), .inl x1, .inl x2] I (fun _ r => ∃ z, r = some (.inl z) ∧ (0 ≤ z ∧ z ≤ 19)) := by
  have hW : fzs wz_23056 (fKc wz_23056) := fKc_ok _
  refine f_meth (rb := rbJ) (J := []) 1 400 xG xin_18 x6_18 okJ (fB_self h0) ?_ ?_
  · exact fun q h => absurd h List.not_mem_nil
  · have hB0 := fB_self (zn := znJ) (K := fKc wz_23056) h0
    refine fload rL_180_180_0_23_1_0 h0 hB0 (by omega) ?_
    intro z1 lz1 uz1 qz1
    refine fstore rS_180_180_0_23_1_0 (fzs_sub (by decide +kernel) hW) (by omega) (by omega) ?_
    intro IhB2 ehB2 hB2
    have t3 := fup_self ehB2
    refine And.intro (True.intro) ?_
    exact ⟨_, rfl, by omega⟩
set_option maxRecDepth 8000 in
theorem ct_X_swap_fb34f {I : fH} {x1 : Int} {x2 : Int} (h0 : fB bsJ I) (ha1 : (0 ≤ x1 ∧ x1 ≤ 23)) (ha2 : (0 ≤ x2 ∧ x2 ≤ 3)) : fC ρ base n F xTc vwCl xTys D dA la gJ (fbz bsJ znJ (fKc wz_acbb3) I) xm_18 [.inr (.inr (some 179)), .inl x1, .inl x2] I (fun _ r => ∃ z, r = some (.inl z) ∧ ((-2147483648) ≤ z ∧ z ≤ 2147483647)) := by
  have hW : fzs wz_acbb3 (fKc wz_acbb3) := fKc_ok _
  refine f_meth (rb := rbJ) (J := []) 1 400 xG xin_18 x6_18 okJ (fB_self h0) ?_ ?_
  · exact fun q h => absurd h List.not_mem_nil
  · have hB0 := fB_self (zn := znJ) (K := fKc wz_acbb3) h0
    refine fload rL_179_179_0_23_1_0 h0 hB0 (by omega) ?_
    intro z1 lz1 uz1 qz1
    refine fstore rS_179_179_0_23_1_0 (fzs_sub (by decide +kernel) hW) (by omega) (by omega) ?_
    intro IhB2 ehB2 hB2
    have t3 := fup_self ehB2
    refine And.intro (True.intro) ?_
    exact ⟨_, rfl, by omega⟩
set_option maxRecDepth 8000 in
theorem ct_X_swap_95246 {I : fH} {x1 : Int} {x2 : Int} (h0 : fB bsJ I) (ha1 : (0 ≤ x1 ∧ x1 ≤ 23)) (ha2 : (0 ≤ x2 ∧ x2 ≤ 99)) : fC ρ base n F xTc vwCl xTys D dA la gJ (fbz bsJ znJ (fKc wz_389c2) I) xm_18 [.inr (.inr (some 178)), .inl x1, .inl x2] I (fun _ r => ∃ z, r = some (.inl z) ∧ ((-2147483648) ≤ z ∧ z ≤ 2147483647)) := by
  have hW : fzs wz_389c2 (fKc wz_389c2) := fKc_ok _
  refine f_meth (rb := rbJ) (J := []) 1 400 xG xin_18 x6_18 okJ (fB_self h0) ?_ ?_
  · exact fun q h => absurd h List.not_mem_nil
  · have hB0 := fB_self (zn := znJ) (K := fKc wz_389c2) h0
    refine fload rL_178_178_0_23_1_0 h0 hB0 (by omega) ?_
    intro z1 lz1 uz1 qz1
    refine fstore rS_178_178_0_23_1_0 (fzs_sub (by decide +kernel) hW) (by omega) (by omega) ?_
    intro IhB2 ehB2 hB2
    have t3 := fup_self ehB2
    refine And.intro (True.intro) ?_
    exact ⟨_, rfl, by omega⟩
set_option maxRecDepth 8000 in
theorem ct_X_swap_55e24 {I : fH} {x1 : Int} {x2 : Int} (h0 : fB bsJ I) (ha1 : (0 ≤ x1 ∧ x1 ≤ 23)) (ha2 : (0 ≤ x2 ∧ x2 ≤ 100)) : fC ρ base n F xTc vwCl xTys D dA la gJ (fbz bsJ znJ (fKc wz_b5181) I) xm_18 [.inr (.inr (some 181)), .inl x1, .inl x2] I (fun _ r => ∃ z, r = some (.inl z) ∧ ((-2147483648) ≤ z ∧ z ≤ 2147483647)) := by
  have hW : fzs wz_b5181 (fKc wz_b5181) := fKc_ok _
  refine f_meth (rb := rbJ) (J := []) 1 400 xG xin_18 x6_18 okJ (fB_self h0) ?_ ?_
  · exact fun q h => absurd h List.not_mem_nil
  · have hB0 := fB_self (zn := znJ) (K := fKc wz_b5181) h0
    refine fload rL_181_181_0_23_1_0 h0 hB0 (by omega) ?_
    intro z1 lz1 uz1 qz1
    refine fstore rS_181_181_0_23_1_0 (fzs_sub (by decide +kernel) hW) (by omega) (by omega) ?_
    intro IhB2 ehB2 hB2
    have t3 := fup_self ehB2
    refine And.intro (True.intro) ?_
    exact ⟨_, rfl, by omega⟩
set_option maxRecDepth 8000 in
theorem ct_X_be_4c6d8 {I : fH} {x1 : Int} {x2 : Int} {x3 : Int} (h0 : fB bsJ I) (ha1 : ((-2147483648) ≤ x1 ∧ x1 ≤ 2147483647)) (ha2 : ((-2147483648) ≤ x2 ∧ x2 ≤ 2147483647)) (ha3 : ((-2147483648) ≤ x3 ∧ x3 ≤ 2147483647)) : fC ρ base n F xTc vwCl xTys D dA la gJ (fbz bsJ znJ (fKc wz_816f0) I) xm_101 [.inr (.inr (some 0)), .inl x1, .inl x2, .inl x3] I (fun _ r => ∃ z, r = some (.inl z) ∧ ((-2147483648) ≤ z ∧ z ≤ 2147483647)) := by
  have hW : fzs wz_816f0 (fKc wz_816f0) := fKc_ok _
  refine f_meth (rb := rbJ) (J := []) 1 400 xG xin_101 x6_101 okJ (fB_self h0) ?_ ?_
  · exact fun q h => absurd h List.not_mem_nil
  · have hB0 := fB_self (zn := znJ) (K := fKc wz_816f0) h0
    refine And.intro ⟨rfl, by decide, by decide⟩ ?_
    refine Exists.intro xm_27 (And.intro mi_27 (And.intro ⟨rfl, rfl, rfl, rfl⟩ (And.intro rfl ?_)))
    refine fcallp hB0 (ct_City_isPerson_ff059 (fBz h0 hB0) (by omega)) ?_
    rintro _ ⟨z1, rfl, hz1⟩
    refine And.intro (by omega) (And.intro ?_ ?_)
    · intro c2
      refine And.intro (by omega) (And.intro ?_ ?_)
      · refine And.intro (fun ex => ?_) (And.intro (fun ex => ?_) (And.intro (fun ex => ?_) (And.intro (fun ex => ?_) (True.intro))))
        · skip
          refine Exists.intro xm_13 (And.intro mi_13 (And.intro ⟨rfl, rfl, rfl, rfl⟩ (And.intro True.intro ?_)))
          refine fcallp hB0 (ct_X_within_c27b1 (fBz h0 hB0) (by omega) (by omega) (by omega)) ?_
          rintro _ ⟨z3, rfl, hz3⟩
          refine And.intro (by omega) (And.intro ?_ ?_)
          · intro c4
            refine And.intro (True.intro) ?_
            exact ⟨_, rfl, by omega⟩
          · intro c5
            refine And.intro ⟨rfl, by decide, by decide⟩ ?_
            refine And.intro ⟨rfl, by decide, by decide⟩ ?_
            refine And.intro ⟨rfl, by decide, by decide⟩ ?_
            refine Exists.intro xm_18 (And.intro mi_18 (And.intro ⟨rfl, rfl, rfl, rfl⟩ (And.intro True.intro ?_)))
            refine fcall _ h0 (fzs_sub (by decide +kernel) hW) hB0 (ct_X_swap_95246 (fBz h0 hB0) (by omega) (by omega)) ?_
            rintro IhB7 _ hB7 fhB7 ⟨z6, rfl, hz6⟩
            refine And.intro (True.intro) ?_
            exact ⟨_, rfl, by omega⟩
        · skip
          refine Exists.intro xm_13 (And.intro mi_13 (And.intro ⟨rfl, rfl, rfl, rfl⟩ (And.intro True.intro ?_)))
          refine fcallp hB0 (ct_X_within_c27b1 (fBz h0 hB0) (by omega) (by omega) (by omega)) ?_
          rintro _ ⟨z8, rfl, hz8⟩
          refine And.intro (by omega) (And.intro ?_ ?_)
          · intro c9
            refine And.intro (True.intro) ?_
            exact ⟨_, rfl, by omega⟩
          · intro c10
            refine And.intro ⟨rfl, by decide, by decide⟩ ?_
            refine And.intro ⟨rfl, by decide, by decide⟩ ?_
            refine And.intro ⟨rfl, by decide, by decide⟩ ?_
            refine Exists.intro xm_18 (And.intro mi_18 (And.intro ⟨rfl, rfl, rfl, rfl⟩ (And.intro True.intro ?_)))
            refine fcall _ h0 (fzs_sub (by decide +kernel) hW) hB0 (ct_X_swap_fb34f (fBz h0 hB0) (by omega) (by omega)) ?_
            rintro IhB12 _ hB12 fhB12 ⟨z11, rfl, hz11⟩
            refine And.intro (True.intro) ?_
            exact ⟨_, rfl, by omega⟩
        · skip
          refine And.intro ⟨rfl, by decide, by decide⟩ ?_
          refine Exists.intro xm_17 (And.intro mi_17 (And.intro ⟨rfl, rfl, rfl, rfl⟩ (And.intro rfl ?_)))
          refine fcallp hB0 (ct_City_isCell_46f02 (fBz h0 hB0) (by omega)) ?_
          rintro _ ⟨z13, rfl, hz13⟩
          refine And.intro (by omega) (And.intro ?_ ?_)
          · intro c14
            refine And.intro (True.intro) ?_
            exact ⟨_, rfl, by omega⟩
          · intro c15
            refine And.intro ⟨rfl, by decide, by decide⟩ ?_
            refine And.intro ⟨rfl, by decide, by decide⟩ ?_
            refine And.intro ⟨rfl, by decide, by decide⟩ ?_
            refine Exists.intro xm_18 (And.intro mi_18 (And.intro ⟨rfl, rfl, rfl, rfl⟩ (And.intro True.intro ?_)))
            refine fcall _ h0 (fzs_sub (by decide +kernel) hW) hB0 (ct_X_swap_fb805 (fBz h0 hB0) (by omega) (by omega)) ?_
            rintro IhB17 _ hB17 fhB17 ⟨z16, rfl, hz16⟩
            refine And.intro (True.intro) ?_
            exact ⟨_, rfl, by omega⟩
        · skip
          refine Exists.intro xm_13 (And.intro mi_13 (And.intro ⟨rfl, rfl, rfl, rfl⟩ (And.intro True.intro ?_)))
          refine fcallp hB0 (ct_X_within_c27b1 (fBz h0 hB0) (by omega) (by omega) (by omega)) ?_
          rintro _ ⟨z18, rfl, hz18⟩
          refine And.intro (by omega) (And.intro ?_ ?_)
          · intro c19
            refine And.intro (True.intro) ?_
            exact ⟨_, rfl, by omega⟩
          · intro c20
            refine And.intro ⟨rfl, by decide, by decide⟩ ?_
            refine And.intro ⟨rfl, by decide, by decide⟩ ?_
            refine And.intro ⟨rfl, by decide, by decide⟩ ?_
            refine Exists.intro xm_18 (And.intro mi_18 (And.intro ⟨rfl, rfl, rfl, rfl⟩ (And.intro True.intro ?_)))
            refine fcall _ h0 (fzs_sub (by decide +kernel) hW) hB0 (ct_X_swap_55e24 (fBz h0 hB0) (by omega) (by omega)) ?_
            rintro IhB22 _ hB22 fhB22 ⟨z21, rfl, hz21⟩
            refine And.intro (True.intro) ?_
            exact ⟨_, rfl, by omega⟩
      · intro c23
        refine And.intro (True.intro) ?_
        exact ⟨_, rfl, by omega⟩
    · intro c24
      refine And.intro (True.intro) ?_
      exact ⟨_, rfl, by omega⟩
theorem ct_M_put_48bc1 {I : fH} {x1 x2 : Int} (h0 : fB bsJ I) (ha1 : 870 ≤ x1 ∧ x1 ≤ 1011) (ha2 : -2147483648 ≤ x2 ∧ x2 ≤ 2147483647) (hp0 : ((x1 - 870) % 6 = 2 ∧ 0 ≤ x2 ∧ x2 ≤ 19) ∨ ((x1 - 870) % 6 ≤ 1 ∧ (-2147483648) ≤ x2 ∧ x2 ≤ 2147483647) ∨ ((x1 - 870) % 6 = 3 ∧ (-2147483648) ≤ x2 ∧ x2 ≤ 2147483647)) : fC ρ base n F xTc vwCl xTys D dA la gJ (fbz bsJ znJ (fKc wz_4df1d) I) xm_242 [.inr (.inr (some 740)), .inl x1, .inl x2] I (fun _ r => ∃ z, r = some (.inl z) ∧ (-2147483648 ≤ z ∧ z ≤ 2147483647)) := by
  have hq : znJ 741 x1.toNat ∈ wz_4df1d ∧ (bsJ 741 x1.toNat).1 ≤ x2 ∧ x2 ≤ (bsJ 741 x1.toNat).2 := by
    rcases hp0 with hp0 | hp0 | hp0
    · exact (frS_at rS_741_741_872_1010_6_0 (by decide +kernel) (by omega) (by omega)).2
    · exact (frS_at rS_741_741_870_1009_6_1 (by decide +kernel) (by omega) (by omega)).2
    · exact (frS_at rS_741_741_873_1011_6_0 (by decide +kernel) (by omega) (by omega)).2
  refine fC_mono (ct_put h0 (by omega) hq.1 hq.2) (fun I' r _ q => ?_)
  obtain ⟨z, e, e2, -⟩ := q
  have h3 := (frL_at rL_741_741_0_4899_1_0 h0 (a := 741) (i := x1) (by omega)).2
  exact ⟨z, e, by omega⟩
abbrev jc_M_be_60845_67 : Nat → fL → List fV → fH → Prop := fun m lv st I => ∃ (y1 : Int) (y2 : Int) (y3 : Int), lv = [(0, .inr (.inr (some 740))), (1, .inl y1), (2, .inl y2), (3, .inl y3)] ∧ st = [] ∧ ((((-2147483648) ≤ y1 ∧ y1 ≤ 2147483647) ∧ ((-2147483648) ≤ y2 ∧ y2 ≤ 2147483647) ∧ ((-2147483648) ≤ y3 ∧ y3 ≤ 2147483647))) ∧ m = (2 : Int).toNat
abbrev jc_M_be_60845_98 : Nat → fL → List fV → fH → Prop := fun m lv st I => lv = [] ∧ st = [] ∧ (True) ∧ m = (1 : Int).toNat
set_option maxRecDepth 8000 in
theorem ct_M_be_60845 {I : fH} {x1 : Int} {x2 : Int} {x3 : Int} (h0 : fB bsJ I) (ha1 : ((-2147483648) ≤ x1 ∧ x1 ≤ 2147483647)) (ha2 : ((-2147483648) ≤ x2 ∧ x2 ≤ 2147483647)) (ha3 : ((-2147483648) ≤ x3 ∧ x3 ≤ 2147483647)) : fC ρ base n F xTc vwCl xTys D dA la gJ (fbz bsJ znJ (fKc wz_4df1d) I) xm_306 [.inr (.inr (some 740)), .inl x1, .inl x2, .inl x3] I (fun _ r => ∃ z, r = some (.inl z) ∧ ((-2147483648) ≤ z ∧ z ≤ 2147483647)) := by
  have hW : fzs wz_4df1d (fKc wz_4df1d) := fKc_ok _
  refine f_meth (rb := rbJ) (J := [(67, jc_M_be_60845_67), (98, jc_M_be_60845_98)]) 3 400 xG xin_306 x6_306 okJ (fB_self h0) ?_ ?_
  · refine List.forall_mem_cons.mpr ⟨?_, List.forall_mem_cons.mpr ⟨?_, fun q h => absurd h List.not_mem_nil⟩⟩
    · rintro m _ _ I1 hB1 ⟨y1, y2, y3, rfl, rfl, hb, hm⟩
      refine Exists.intro xm_252 (And.intro mi_252 (And.intro ⟨rfl, rfl, rfl, rfl⟩ (And.intro rfl ?_)))
      refine fcallp hB1 (ct_M_isPerson_4d30c (fBz h0 hB1) (by omega)) ?_
      rintro _ ⟨z1, rfl, hz1⟩
      refine And.intro (by omega) (And.intro ?_ ?_)
      · intro c2
        exact fcutJ (I := I1) (j := jc_M_be_60845_98) (lv' := []) (True.intro) ⟨rfl, rfl, True.intro, rfl⟩ (by omega)
      · intro c3
        refine And.intro (by omega) (And.intro ?_ ?_)
        · intro c4
          exact fcutJ (I := I1) (j := jc_M_be_60845_98) (lv' := []) (True.intro) ⟨rfl, rfl, True.intro, rfl⟩ (by omega)
        · intro c5
          refine Exists.intro xm_247 (And.intro mi_247 (And.intro ⟨rfl, rfl, rfl, rfl⟩ (And.intro rfl ?_)))
          refine fcallp hB1 (ct_M_personAt_9b331 (fBz h0 hB1) (by omega)) ?_
          rintro _ ⟨_, rfl, rfl⟩
          intro z7 hz7 ez7 bz7
          refine Exists.intro xm_242 (And.intro mi_242 (And.intro ⟨rfl, rfl, rfl, rfl⟩ (And.intro rfl ?_)))
          refine fcall _ h0 (fzs_sub (by decide +kernel) hW) hB1 (ct_M_put_48bc1 (fBz h0 hB1) (by omega) (by omega) (by omega)) ?_
          rintro IhB9 _ hB9 fhB9 ⟨z8, rfl, hz8⟩
          refine And.intro (True.intro) ?_
          exact ⟨_, rfl, by omega⟩
    · rintro m _ _ I1 hB1 ⟨rfl, rfl, hb, hm⟩
      refine And.intro (True.intro) ?_
      exact ⟨_, rfl, by omega⟩
  · have hB0 := fB_self (zn := znJ) (K := fKc wz_4df1d) h0
    refine And.intro (by omega) (And.intro ?_ ?_)
    · intro c10
      refine And.intro (by omega) (And.intro ?_ ?_)
      · intro c11
        refine And.intro (by omega) (And.intro ?_ ?_)
        · intro c12
          refine And.intro (by omega) (And.intro ?_ ?_)
          · intro c13
            exact fcutJ (I := I) (j := jc_M_be_60845_67) (lv' := [(0, .inr (.inr (some 740))), (1, .inl _), (2, .inl _), (3, .inl _)]) (And.intro rfl (And.intro rfl (And.intro rfl (And.intro rfl True.intro)))) ⟨_, _, _, rfl, rfl, by omega, rfl⟩ (by omega)
          · intro c14
            refine And.intro (by omega) ?_
            refine Exists.intro xm_238 (And.intro mi_238 (And.intro ⟨rfl, rfl, rfl, rfl⟩ (And.intro True.intro ?_)))
            refine fcallp hB0 (ct_M_isIn_27230 (fBz h0 hB0) (by omega) (by omega) (by omega)) ?_
            rintro _ ⟨z15, rfl, hz15⟩
            refine And.intro (by omega) (And.intro ?_ ?_)
            · intro c16
              exact fcutJ (I := I) (j := jc_M_be_60845_67) (lv' := [(0, .inr (.inr (some 740))), (1, .inl _), (2, .inl _), (3, .inl _)]) (And.intro rfl (And.intro rfl (And.intro rfl (And.intro rfl True.intro)))) ⟨_, _, _, rfl, rfl, by omega, rfl⟩ (by omega)
            · intro c17
              refine Exists.intro xm_252 (And.intro mi_252 (And.intro ⟨rfl, rfl, rfl, rfl⟩ (And.intro rfl ?_)))
              refine fcallp hB0 (ct_M_isPerson_4d30c (fBz h0 hB0) (by omega)) ?_
              rintro _ ⟨z18, rfl, hz18⟩
              refine And.intro (by omega) (And.intro ?_ ?_)
              · intro c19
                exact fcutJ (I := I) (j := jc_M_be_60845_98) (lv' := []) (True.intro) ⟨rfl, rfl, True.intro, rfl⟩ (by omega)
              · intro c20
                refine And.intro (by omega) (And.intro ?_ ?_)
                · intro c21
                  exact fcutJ (I := I) (j := jc_M_be_60845_98) (lv' := []) (True.intro) ⟨rfl, rfl, True.intro, rfl⟩ (by omega)
                · intro c22
                  refine Exists.intro xm_247 (And.intro mi_247 (And.intro ⟨rfl, rfl, rfl, rfl⟩ (And.intro rfl ?_)))
                  refine fcallp hB0 (ct_M_personAt_9b331 (fBz h0 hB0) (by omega)) ?_
                  rintro _ ⟨_, rfl, rfl⟩
                  intro z24 hz24 ez24 bz24
                  refine Exists.intro xm_242 (And.intro mi_242 (And.intro ⟨rfl, rfl, rfl, rfl⟩ (And.intro rfl ?_)))
                  refine fcall _ h0 (fzs_sub (by decide +kernel) hW) hB0 (ct_M_put_48bc1 (fBz h0 hB0) (by omega) (by omega) (by omega)) ?_
                  rintro IhB26 _ hB26 fhB26 ⟨z25, rfl, hz25⟩
                  refine And.intro (True.intro) ?_
                  exact ⟨_, rfl, by omega⟩
        · intro c27
          refine Exists.intro xm_241 (And.intro mi_241 (And.intro ⟨rfl, rfl, rfl, rfl⟩ (And.intro rfl ?_)))
          refine fcallp hB0 (ct_M_isCell_45859 (fBz h0 hB0) (by omega)) ?_
          rintro _ ⟨z28, rfl, hz28⟩
          refine Exists.intro xm_252 (And.intro mi_252 (And.intro ⟨rfl, rfl, rfl, rfl⟩ (And.intro rfl ?_)))
          refine fcallp hB0 (ct_M_isPerson_4d30c (fBz h0 hB0) (by omega)) ?_
          rintro _ ⟨z29, rfl, hz29⟩
          refine And.intro (by omega) (And.intro ?_ ?_)
          · intro c30
            exact fcutJ (I := I) (j := jc_M_be_60845_98) (lv' := []) (True.intro) ⟨rfl, rfl, True.intro, rfl⟩ (by omega)
          · intro c31
            refine And.intro (by omega) (And.intro ?_ ?_)
            · intro c32
              exact fcutJ (I := I) (j := jc_M_be_60845_98) (lv' := []) (True.intro) ⟨rfl, rfl, True.intro, rfl⟩ (by omega)
            · intro c33
              refine Exists.intro xm_247 (And.intro mi_247 (And.intro ⟨rfl, rfl, rfl, rfl⟩ (And.intro rfl ?_)))
              refine fcallp hB0 (ct_M_personAt_9b331 (fBz h0 hB0) (by omega)) ?_
              rintro _ ⟨_, rfl, rfl⟩
              intro z35 hz35 ez35 bz35
              refine Exists.intro xm_242 (And.intro mi_242 (And.intro ⟨rfl, rfl, rfl, rfl⟩ (And.intro rfl ?_)))
              refine fcall _ h0 (fzs_sub (by decide +kernel) hW) hB0 (ct_M_put_48bc1 (fBz h0 hB0) (by omega) (by omega) (by omega)) ?_
              rintro IhB37 _ hB37 fhB37 ⟨z36, rfl, hz36⟩
              refine And.intro (True.intro) ?_
              exact ⟨_, rfl, by omega⟩
      · intro c38
        refine And.intro (by omega) ?_
        refine Exists.intro xm_238 (And.intro mi_238 (And.intro ⟨rfl, rfl, rfl, rfl⟩ (And.intro True.intro ?_)))
        refine fcallp hB0 (ct_M_isIn_27230 (fBz h0 hB0) (by omega) (by omega) (by omega)) ?_
        rintro _ ⟨z39, rfl, hz39⟩
        refine Exists.intro xm_252 (And.intro mi_252 (And.intro ⟨rfl, rfl, rfl, rfl⟩ (And.intro rfl ?_)))
        refine fcallp hB0 (ct_M_isPerson_4d30c (fBz h0 hB0) (by omega)) ?_
        rintro _ ⟨z40, rfl, hz40⟩
        refine And.intro (by omega) (And.intro ?_ ?_)
        · intro c41
          exact fcutJ (I := I) (j := jc_M_be_60845_98) (lv' := []) (True.intro) ⟨rfl, rfl, True.intro, rfl⟩ (by omega)
        · intro c42
          refine And.intro (by omega) (And.intro ?_ ?_)
          · intro c43
            exact fcutJ (I := I) (j := jc_M_be_60845_98) (lv' := []) (True.intro) ⟨rfl, rfl, True.intro, rfl⟩ (by omega)
          · intro c44
            refine Exists.intro xm_247 (And.intro mi_247 (And.intro ⟨rfl, rfl, rfl, rfl⟩ (And.intro rfl ?_)))
            refine fcallp hB0 (ct_M_personAt_9b331 (fBz h0 hB0) (by omega)) ?_
            rintro _ ⟨_, rfl, rfl⟩
            intro z46 hz46 ez46 bz46
            refine Exists.intro xm_242 (And.intro mi_242 (And.intro ⟨rfl, rfl, rfl, rfl⟩ (And.intro rfl ?_)))
            refine fcall _ h0 (fzs_sub (by decide +kernel) hW) hB0 (ct_M_put_48bc1 (fBz h0 hB0) (by omega) (by omega) (by omega)) ?_
            rintro IhB48 _ hB48 fhB48 ⟨z47, rfl, hz47⟩
            refine And.intro (True.intro) ?_
            exact ⟨_, rfl, by omega⟩
    · intro c49
      refine And.intro (by omega) ?_
      refine Exists.intro xm_238 (And.intro mi_238 (And.intro ⟨rfl, rfl, rfl, rfl⟩ (And.intro True.intro ?_)))
      refine fcallp hB0 (ct_M_isIn_27230 (fBz h0 hB0) (by omega) (by omega) (by omega)) ?_
      rintro _ ⟨z50, rfl, hz50⟩
      refine Exists.intro xm_252 (And.intro mi_252 (And.intro ⟨rfl, rfl, rfl, rfl⟩ (And.intro rfl ?_)))
      refine fcallp hB0 (ct_M_isPerson_4d30c (fBz h0 hB0) (by omega)) ?_
      rintro _ ⟨z51, rfl, hz51⟩
      refine And.intro (by omega) (And.intro ?_ ?_)
      · intro c52
        exact fcutJ (I := I) (j := jc_M_be_60845_98) (lv' := []) (True.intro) ⟨rfl, rfl, True.intro, rfl⟩ (by omega)
      · intro c53
        refine And.intro (by omega) (And.intro ?_ ?_)
        · intro c54
          exact fcutJ (I := I) (j := jc_M_be_60845_98) (lv' := []) (True.intro) ⟨rfl, rfl, True.intro, rfl⟩ (by omega)
        · intro c55
          refine Exists.intro xm_247 (And.intro mi_247 (And.intro ⟨rfl, rfl, rfl, rfl⟩ (And.intro rfl ?_)))
          refine fcallp hB0 (ct_M_personAt_9b331 (fBz h0 hB0) (by omega)) ?_
          rintro _ ⟨_, rfl, rfl⟩
          intro z57 hz57 ez57 bz57
          refine Exists.intro xm_242 (And.intro mi_242 (And.intro ⟨rfl, rfl, rfl, rfl⟩ (And.intro rfl ?_)))
          refine fcall _ h0 (fzs_sub (by decide +kernel) hW) hB0 (ct_M_put_48bc1 (fBz h0 hB0) (by omega) (by omega) (by omega)) ?_
          rintro IhB59 _ hB59 fhB59 ⟨z58, rfl, hz58⟩
          refine And.intro (True.intro) ?_
          exact ⟨_, rfl, by omega⟩
set_option maxRecDepth 8000 in
theorem ct_X_is_3f9a5 {I : fH} {x1 : Int} {x2 : Int} (h0 : fB bsJ I) (ha1 : ((-2147483648) ≤ x1 ∧ x1 ≤ 2147483647)) (ha2 : ((-2147483648) ≤ x2 ∧ x2 ≤ 2147483647)) : fC ρ base n F xTc vwCl xTys D dA la gJ (fbz bsJ znJ (fKc []) I) xm_102 [.inr (.inr (some 0)), .inl x1, .inl x2] I (fun _ r => ∃ z, r = some (.inl z) ∧ ((-2147483648) ≤ z ∧ z ≤ 2147483647)) := by
  have hW : fzs [] (fKc []) := fKc_ok _
  refine f_meth (rb := rbJ) (J := []) 1 400 xG xin_102 x6_102 okJ (fB_self h0) ?_ ?_
  · exact fun q h => absurd h List.not_mem_nil
  · have hB0 := fB_self (zn := znJ) (K := fKc []) h0
    refine And.intro ⟨rfl, by decide, by decide⟩ ?_
    refine Exists.intro xm_27 (And.intro mi_27 (And.intro ⟨rfl, rfl, rfl, rfl⟩ (And.intro rfl ?_)))
    refine fcallp hB0 (ct_City_isPerson_ff059 (fBz h0 hB0) (by omega)) ?_
    rintro _ ⟨z1, rfl, hz1⟩
    refine And.intro (by omega) (And.intro ?_ ?_)
    · intro c2
      refine And.intro (by omega) (And.intro ?_ ?_)
      · refine And.intro (fun ex => ?_) (And.intro (fun ex => ?_) (And.intro (fun ex => ?_) (And.intro (fun ex => ?_) (And.intro (fun ex => ?_) (True.intro)))))
        · skip
          refine And.intro ⟨rfl, by decide, by decide⟩ ?_
          refine And.intro ⟨rfl, by decide, by decide⟩ ?_
          refine And.intro ⟨rfl, by decide, by decide⟩ ?_
          refine fload rL_178_178_0_23_1_0 h0 hB0 (by omega) ?_
          intro z3 lz3 uz3 qz3
          refine And.intro (True.intro) ?_
          exact ⟨_, rfl, by omega⟩
        · skip
          refine And.intro ⟨rfl, by decide, by decide⟩ ?_
          refine And.intro ⟨rfl, by decide, by decide⟩ ?_
          refine And.intro ⟨rfl, by decide, by decide⟩ ?_
          refine fload rL_179_179_0_23_1_0 h0 hB0 (by omega) ?_
          intro z4 lz4 uz4 qz4
          refine And.intro (True.intro) ?_
          exact ⟨_, rfl, by omega⟩
        · skip
          refine And.intro ⟨rfl, by decide, by decide⟩ ?_
          refine And.intro ⟨rfl, by decide, by decide⟩ ?_
          refine And.intro ⟨rfl, by decide, by decide⟩ ?_
          refine fload rL_180_180_0_23_1_0 h0 hB0 (by omega) ?_
          intro z5 lz5 uz5 qz5
          refine And.intro (True.intro) ?_
          exact ⟨_, rfl, by omega⟩
        · skip
          refine And.intro ⟨rfl, by decide, by decide⟩ ?_
          refine And.intro ⟨rfl, by decide, by decide⟩ ?_
          refine And.intro ⟨rfl, by decide, by decide⟩ ?_
          refine fload rL_181_181_0_23_1_0 h0 hB0 (by omega) ?_
          intro z6 lz6 uz6 qz6
          refine And.intro (True.intro) ?_
          exact ⟨_, rfl, by omega⟩
        · skip
          refine And.intro ⟨rfl, by decide, by decide⟩ ?_
          refine And.intro ⟨rfl, by decide, by decide⟩ ?_
          refine Exists.intro xm_21 (And.intro mi_21 (And.intro ⟨rfl, rfl, rfl, rfl⟩ (And.intro rfl ?_)))
          refine fcallp hB0 (ct_People_isDead_edb17 (fBz h0 hB0) (by omega)) ?_
          rintro _ ⟨z7, rfl, hz7⟩
          refine And.intro (by omega) (And.intro ?_ ?_)
          · intro c8
            refine And.intro (True.intro) ?_
            exact ⟨_, rfl, by omega⟩
          · intro c9
            refine And.intro (True.intro) ?_
            exact ⟨_, rfl, by omega⟩
      · intro c10
        refine And.intro (True.intro) ?_
        exact ⟨_, rfl, by omega⟩
    · intro c11
      refine And.intro (True.intro) ?_
      exact ⟨_, rfl, by omega⟩
set_option maxRecDepth 8000 in
theorem ct_M_is_815af {I : fH} {x1 : Int} {x2 : Int} (h0 : fB bsJ I) (ha1 : ((-2147483648) ≤ x1 ∧ x1 ≤ 2147483647)) (ha2 : ((-2147483648) ≤ x2 ∧ x2 ≤ 2147483647)) : fC ρ base n F xTc vwCl xTys D dA la gJ (fbz bsJ znJ (fKc []) I) xm_307 [.inr (.inr (some 740)), .inl x1, .inl x2] I (fun _ r => ∃ z, r = some (.inl z) ∧ ((-2147483648) ≤ z ∧ z ≤ 2147483647)) := by
  have hW : fzs [] (fKc []) := fKc_ok _
  refine f_meth (rb := rbJ) (J := []) 1 400 xG xin_307 x6_307 okJ (fB_self h0) ?_ ?_
  · exact fun q h => absurd h List.not_mem_nil
  · have hB0 := fB_self (zn := znJ) (K := fKc []) h0
    refine Exists.intro xm_252 (And.intro mi_252 (And.intro ⟨rfl, rfl, rfl, rfl⟩ (And.intro rfl ?_)))
    refine fcallp hB0 (ct_M_isPerson_4d30c (fBz h0 hB0) (by omega)) ?_
    rintro _ ⟨z1, rfl, hz1⟩
    refine And.intro (by omega) (And.intro ?_ ?_)
    · intro c2
      refine And.intro (True.intro) ?_
      exact ⟨_, rfl, by omega⟩
    · intro c3
      refine And.intro (by omega) ?_
      refine Exists.intro xm_238 (And.intro mi_238 (And.intro ⟨rfl, rfl, rfl, rfl⟩ (And.intro True.intro ?_)))
      refine fcallp hB0 (ct_M_isIn_27230 (fBz h0 hB0) (by omega) (by omega) (by omega)) ?_
      rintro _ ⟨z4, rfl, hz4⟩
      refine And.intro (by omega) (And.intro ?_ ?_)
      · intro c5
        refine And.intro (by omega) (And.intro ?_ ?_)
        · intro c6
          refine And.intro ⟨rfl, by decide, by decide⟩ ?_
          refine Exists.intro xm_247 (And.intro mi_247 (And.intro ⟨rfl, rfl, rfl, rfl⟩ (And.intro rfl ?_)))
          refine fcallp hB0 (ct_M_personAt_9b331 (fBz h0 hB0) (by omega)) ?_
          rintro _ ⟨_, rfl, rfl⟩
          refine fload rL_741_741_870_1011_6_3 h0 hB0 (by omega) ?_
          intro z8 lz8 uz8 qz8
          refine And.intro (True.intro) ?_
          exact ⟨_, rfl, by omega⟩
        · intro c9
          refine Exists.intro xm_248 (And.intro mi_248 (And.intro ⟨rfl, rfl, rfl, rfl⟩ (And.intro rfl ?_)))
          refine fcallp hB0 (ct_M_isDead_21e1a (fBz h0 hB0) (by omega)) ?_
          rintro _ ⟨z10, rfl, hz10⟩
          refine And.intro (by omega) (And.intro ?_ ?_)
          · intro c11
            refine And.intro (True.intro) ?_
            exact ⟨_, rfl, by omega⟩
          · intro c12
            refine And.intro (True.intro) ?_
            exact ⟨_, rfl, by omega⟩
      · intro c13
        refine And.intro (True.intro) ?_
        exact ⟨_, rfl, by omega⟩
abbrev jc_People_needs_d1cfd_4 : Nat → fL → List fV → fH → Prop := fun m lv st I => ∃ (y1 : Int) (y2 : Int), lv = [(0, .inr (.inr (some 177))), (1, .inl y1), (2, .inl y2)] ∧ st = [] ∧ ((((-2147483648) ≤ y1 ∧ y1 ≤ 2147483647) ∧ (0 ≤ y2 ∧ y2 ≤ 24))) ∧ m = (1 + 1 * (24 - y2) : Int).toNat
set_option maxRecDepth 8000 in
theorem ct_People_needs_d1cfd {I : fH}  (h0 : fB bsJ I)  : fC ρ base n F xTc vwCl xTys D dA la gJ (fbz bsJ znJ (fKc []) I) xm_106 [.inr (.inr (some 177))] I (fun _ r => ∃ z, r = some (.inl z) ∧ ((-2147483648) ≤ z ∧ z ≤ 2147483647)) := by
  have hW : fzs [] (fKc []) := fKc_ok _
  refine f_meth (rb := rbJ) (J := [(4, jc_People_needs_d1cfd_4)]) 26 400 xG xin_106 x6_106 okJ (fB_self h0) ?_ ?_
  · refine List.forall_mem_cons.mpr ⟨?_, fun q h => absurd h List.not_mem_nil⟩
    · rintro m _ _ I1 hB1 ⟨y1, y2, rfl, rfl, hb, hm⟩
      refine And.intro ⟨rfl, by decide, by decide⟩ (fgetf fb_177_4 h0 hB1 ?_)
      intro z1 lz1 uz1 qz1
      refine And.intro (by omega) (And.intro ?_ ?_)
      · intro c2
        refine And.intro (True.intro) ?_
        exact ⟨_, rfl, by omega⟩
      · intro c3
        refine Exists.intro xm_21 (And.intro mi_21 (And.intro ⟨rfl, rfl, rfl, rfl⟩ (And.intro rfl ?_)))
        refine fcallp hB1 (ct_People_isDead_edb17 (fBz h0 hB1) (by omega)) ?_
        rintro _ ⟨z4, rfl, hz4⟩
        refine And.intro (by omega) (And.intro ?_ ?_)
        · intro c5
          exact fcutJ (I := I1) (j := jc_People_needs_d1cfd_4) (lv' := [(0, .inr (.inr (some 177))), (1, .inl _), (2, .inl _)]) (And.intro rfl (And.intro rfl (And.intro rfl True.intro))) ⟨_, _, rfl, rfl, by omega, rfl⟩ (by omega)
        · intro c6
          refine Exists.intro xm_92 (And.intro mi_92 (And.intro ⟨rfl, rfl, rfl, rfl⟩ (And.intro rfl ?_)))
          refine fcallp hB1 (ct_People_needOf_69fc2 (fBz h0 hB1) (by omega)) ?_
          rintro _ ⟨z7, rfl, hz7⟩
          intro z8 hz8 ez8 bz8
          exact fcutJ (I := I1) (j := jc_People_needs_d1cfd_4) (lv' := [(0, .inr (.inr (some 177))), (1, .inl _), (2, .inl _)]) (And.intro rfl (And.intro rfl (And.intro rfl True.intro))) ⟨_, _, rfl, rfl, by omega, rfl⟩ (by omega)
  · have hB0 := fB_self (zn := znJ) (K := fKc []) h0
    exact fcutJ (I := I) (j := jc_People_needs_d1cfd_4) (lv' := [(0, .inr (.inr (some 177))), (1, .inl _), (2, .inl _)]) (And.intro rfl (And.intro rfl (And.intro rfl True.intro))) ⟨_, _, rfl, rfl, by omega, rfl⟩ (by omega)
abbrev jc_Works_gardenRates_79462_4 : Nat → fL → List fV → fH → Prop := fun m lv st I => ∃ (y1 : Int) (y2 : Int), lv = [(0, .inr (.inr (some 163))), (1, .inl y1), (2, .inl y2)] ∧ st = [] ∧ ((((-2147483648) ≤ y1 ∧ y1 ≤ 2147483647) ∧ (0 ≤ y2 ∧ y2 ≤ 24))) ∧ m = (1 + 1 * (24 - y2) : Int).toNat
set_option maxRecDepth 8000 in
theorem ct_Works_gardenRates_79462 {I : fH}  (h0 : fB bsJ I)  : fC ρ base n F xTc vwCl xTys D dA la gJ (fbz bsJ znJ (fKc []) I) xm_105 [.inr (.inr (some 163))] I (fun _ r => ∃ z, r = some (.inl z) ∧ ((-2147483648) ≤ z ∧ z ≤ 2147483647)) := by
  have hW : fzs [] (fKc []) := fKc_ok _
  refine f_meth (rb := rbJ) (J := [(4, jc_Works_gardenRates_79462_4)]) 26 400 xG xin_105 x6_105 okJ (fB_self h0) ?_ ?_
  · refine List.forall_mem_cons.mpr ⟨?_, fun q h => absurd h List.not_mem_nil⟩
    · rintro m _ _ I1 hB1 ⟨y1, y2, rfl, rfl, hb, hm⟩
      refine And.intro ⟨rfl, by decide, by decide⟩ (fgetf fb_163_13 h0 hB1 ?_)
      intro z1 lz1 uz1 qz1
      refine And.intro (by omega) (And.intro ?_ ?_)
      · intro c2
        refine And.intro (True.intro) ?_
        exact ⟨_, rfl, by omega⟩
      · intro c3
        refine And.intro ⟨rfl, by decide, by decide⟩ ?_
        refine fload rL_164_164_0_23_1_0 h0 hB1 (by omega) ?_
        intro z4 lz4 uz4 qz4
        refine And.intro (by omega) (And.intro ?_ ?_)
        · intro c5
          exact fcutJ (I := I1) (j := jc_Works_gardenRates_79462_4) (lv' := [(0, .inr (.inr (some 163))), (1, .inl _), (2, .inl _)]) (And.intro rfl (And.intro rfl (And.intro rfl True.intro))) ⟨_, _, rfl, rfl, by omega, rfl⟩ (by omega)
        · intro c6
          refine And.intro ⟨rfl, by decide, by decide⟩ ?_
          refine fload rL_174_174_0_23_1_0 h0 hB1 (by omega) ?_
          intro z7 lz7 uz7 qz7
          refine And.intro (by omega) (And.intro ?_ ?_)
          · intro c8
            exact fcutJ (I := I1) (j := jc_Works_gardenRates_79462_4) (lv' := [(0, .inr (.inr (some 163))), (1, .inl _), (2, .inl _)]) (And.intro rfl (And.intro rfl (And.intro rfl True.intro))) ⟨_, _, rfl, rfl, by omega, rfl⟩ (by omega)
          · intro c9
            refine And.intro ⟨rfl, by decide, by decide⟩ ?_
            refine fload rL_171_171_0_23_1_0 h0 hB1 (by omega) ?_
            intro z10 lz10 uz10 qz10
            intro z11 hz11 ez11 bz11
            exact fcutJ (I := I1) (j := jc_Works_gardenRates_79462_4) (lv' := [(0, .inr (.inr (some 163))), (1, .inl _), (2, .inl _)]) (And.intro rfl (And.intro rfl (And.intro rfl True.intro))) ⟨_, _, rfl, rfl, by omega, rfl⟩ (by omega)
  · have hB0 := fB_self (zn := znJ) (K := fKc []) h0
    exact fcutJ (I := I) (j := jc_Works_gardenRates_79462_4) (lv' := [(0, .inr (.inr (some 163))), (1, .inl _), (2, .inl _)]) (And.intro rfl (And.intro rfl (And.intro rfl True.intro))) ⟨_, _, rfl, rfl, by omega, rfl⟩ (by omega)
set_option maxRecDepth 8000 in
theorem ct_Charter_mayBeBorn_dcbbd {I : fH}  (h0 : fB bsJ I)  : fC ρ base n F xTc vwCl xTys D dA la gJ (fbz bsJ znJ (fKc wz_7d09b) I) xm_104 [.inr (.inr (some 187)), .inr (.inr (some 1))] I (fun _ r => ∃ z, r = some (.inl z) ∧ (0 ≤ z ∧ z ≤ 1)) := by
  have hW : fzs wz_7d09b (fKc wz_7d09b) := fKc_ok _
  refine f_meth (rb := rbJ) (J := []) 1 400 xG xin_104 x6_104 okJ (fB_self h0) ?_ ?_
  · exact fun q h => absurd h List.not_mem_nil
  · have hB0 := fB_self (zn := znJ) (K := fKc wz_7d09b) h0
    refine And.intro ⟨rfl, by decide, by decide⟩ ?_
    refine Exists.intro xm_67 (And.intro mi_67 (And.intro ⟨rfl, rfl, rfl, rfl⟩ (And.intro rfl ?_)))
    refine fcallp hB0 (ct_People_living_beea0 (fBz h0 hB0)) ?_
    rintro _ ⟨z1, rfl, hz1⟩
    refine Exists.intro xm_30 (And.intro mi_30 (And.intro ⟨rfl, rfl, rfl, rfl⟩ (And.intro rfl ?_)))
    refine fcall _ h0 (fzs_sub (by decide +kernel) hW) hB0 (ct_Charter_put_c2709 (fBz h0 hB0) (by omega) (by omega)) ?_
    rintro IhB3 _ hB3 fhB3 rfl
    refine And.intro ⟨rfl, by decide, by decide⟩ ?_
    refine Exists.intro xm_105 (And.intro mi_105 (And.intro ⟨rfl, rfl, rfl, rfl⟩ (And.intro rfl ?_)))
    refine fcallp hB3 (ct_Works_gardenRates_79462 (fBz h0 hB3)) ?_
    rintro _ ⟨z4, rfl, hz4⟩
    refine Exists.intro xm_30 (And.intro mi_30 (And.intro ⟨rfl, rfl, rfl, rfl⟩ (And.intro rfl ?_)))
    refine fcall _ h0 (fzs_sub (by decide +kernel) hW) hB3 (ct_Charter_put_c2709 (fBz h0 hB3) (by omega) (by omega)) ?_
    rintro IhB6 _ hB6 fhB6 rfl
    refine And.intro ⟨rfl, by decide, by decide⟩ ?_
    refine Exists.intro xm_106 (And.intro mi_106 (And.intro ⟨rfl, rfl, rfl, rfl⟩ (And.intro rfl ?_)))
    refine fcallp hB6 (ct_People_needs_d1cfd (fBz h0 hB6)) ?_
    rintro _ ⟨z7, rfl, hz7⟩
    refine Exists.intro xm_30 (And.intro mi_30 (And.intro ⟨rfl, rfl, rfl, rfl⟩ (And.intro rfl ?_)))
    refine fcall _ h0 (fzs_sub (by decide +kernel) hW) hB6 (ct_Charter_put_c2709 (fBz h0 hB6) (by omega) (by omega)) ?_
    rintro IhB9 _ hB9 fhB9 rfl
    refine Exists.intro xm_31 (And.intro mi_31 (And.intro ⟨rfl, rfl, rfl, rfl⟩ (And.intro rfl ?_)))
    refine fcallp hB9 (ct_City_level_61deb (fBz h0 hB9)) ?_
    rintro _ ⟨z10, rfl, hz10⟩
    refine Exists.intro xm_30 (And.intro mi_30 (And.intro ⟨rfl, rfl, rfl, rfl⟩ (And.intro rfl ?_)))
    refine fcall _ h0 (fzs_sub (by decide +kernel) hW) hB9 (ct_Charter_put_c2709 (fBz h0 hB9) (by omega) (by omega)) ?_
    rintro IhB12 _ hB12 fhB12 rfl
    refine Exists.intro xm_32 (And.intro mi_32 (And.intro ⟨rfl, rfl, rfl, rfl⟩ (And.intro rfl ?_)))
    refine fcallp hB12 (ct_City_hour_b7a7b (fBz h0 hB12)) ?_
    rintro _ ⟨z13, rfl, hz13⟩
    refine Exists.intro xm_33 (And.intro mi_33 (And.intro ⟨rfl, rfl, rfl, rfl⟩ (And.intro rfl ?_)))
    refine fcall _ h0 (fzs_sub (by decide +kernel) hW) hB12 (ct_Charter_allows_3e335 (fBz h0 hB12) (by omega) (by omega)) ?_
    rintro IhB15 _ hB15 fhB15 ⟨z14, rfl, hz14⟩
    refine And.intro (⟨by omega, by omega⟩) ?_
    exact ⟨_, rfl, by omega⟩
set_option maxRecDepth 8000 in
theorem ct_X_birth_faa88 {I : fH} {x1 : Int} (h0 : fB bsJ I) (ha1 : ((-2147483648) ≤ x1 ∧ x1 ≤ 2147483647)) : fC ρ base n F xTc vwCl xTys D dA la gJ (fbz bsJ znJ (fKc wz_7e5e0) I) xm_103 [.inr (.inr (some 0)), .inl x1] I (fun _ r => ∃ z, r = some (.inl z) ∧ ((0 ≤ z ∧ z ≤ 23) ∨ z = (-1000000003) ∨ z = (-1000000002) ∨ z = (-1000000001))) := by
  have hW : fzs wz_7e5e0 (fKc wz_7e5e0) := fKc_ok _
  refine f_meth (rb := rbJ) (J := []) 1 400 xG xin_103 x6_103 okJ (fB_self h0) ?_ ?_
  · exact fun q h => absurd h List.not_mem_nil
  · have hB0 := fB_self (zn := znJ) (K := fKc wz_7e5e0) h0
    refine And.intro ⟨rfl, by decide, by decide⟩ ?_
    refine Exists.intro xm_17 (And.intro mi_17 (And.intro ⟨rfl, rfl, rfl, rfl⟩ (And.intro rfl ?_)))
    refine fcallp hB0 (ct_City_isCell_46f02 (fBz h0 hB0) (by omega)) ?_
    rintro _ ⟨z1, rfl, hz1⟩
    refine And.intro (by omega) (And.intro ?_ ?_)
    · intro c2
      refine And.intro ⟨rfl, by decide, by decide⟩ ?_
      refine And.intro ⟨rfl, by decide, by decide⟩ ?_
      refine Exists.intro xm_104 (And.intro mi_104 (And.intro ⟨rfl, rfl, rfl, rfl⟩ (And.intro rfl ?_)))
      refine fcall _ h0 (fzs_sub (by decide +kernel) hW) hB0 (ct_Charter_mayBeBorn_dcbbd (fBz h0 hB0)) ?_
      rintro IhB4 _ hB4 fhB4 ⟨z3, rfl, hz3⟩
      refine And.intro (by omega) (And.intro ?_ ?_)
      · intro c5
        refine And.intro (True.intro) ?_
        exact ⟨_, rfl, by omega⟩
      · intro c6
        refine And.intro ⟨rfl, by decide, by decide⟩ ?_
        refine And.intro ⟨rfl, by decide, by decide⟩ ?_
        refine Exists.intro xm_100 (And.intro mi_100 (And.intro ⟨rfl, rfl, rfl, rfl⟩ (And.intro rfl ?_)))
        refine fcall _ h0 (fzs_sub (by decide +kernel) hW) hB4 (ct_People_addPerson_f57f7 (fBz h0 hB4) (by omega) (by omega) (by omega)) ?_
        rintro IhB8 _ hB8 fhB8 ⟨z7, rfl, hz7⟩
        refine And.intro (True.intro) ?_
        exact ⟨_, rfl, by omega⟩
    · intro c9
      refine And.intro (True.intro) ?_
      exact ⟨_, rfl, by omega⟩
abbrev jc_Tape_addFour_4538c_3 : Nat → fL → List fV → fH → Prop := fun m lv st I => ∃ (y1 : Int) (y2 : Int), lv = [(0, .inr (.inr (some 699))), (1, .inl y1), (2, .inl y2)] ∧ st = [] ∧ ((((-2147483648) ≤ y1 ∧ y1 ≤ 2147483647) ∧ ((-1000000001) ≤ y2 ∧ y2 ≤ 24))) ∧ m = (1 + 1 * (y2 - (-1000000001)) : Int).toNat
set_option maxRecDepth 8000 in
theorem ct_Tape_addFour_4538c {I : fH} {x1 : Int} (h0 : fB bsJ I) (ha1 : ((-2147483648) ≤ x1 ∧ x1 ≤ 2147483647)) : fC ρ base n F xTc vwCl xTys D dA la gJ (fbz bsJ znJ (fKc wz_b3a7d) I) xm_109 [.inr (.inr (some 699)), .inl x1] I (fun _ r => r = none) := by
  have hW : fzs wz_b3a7d (fKc wz_b3a7d) := fKc_ok _
  refine f_meth (rb := rbJ) (J := [(3, jc_Tape_addFour_4538c_3)]) 1000000027 400 xG xin_109 x6_109 okJ (fB_self h0) ?_ ?_
  · refine List.forall_mem_cons.mpr ⟨?_, fun q h => absurd h List.not_mem_nil⟩
    · rintro m _ _ I1 hB1 ⟨y1, y2, rfl, rfl, hb, hm⟩
      refine And.intro (by omega) (And.intro ?_ ?_)
      · intro c1
        exact rfl
      · intro c2
        refine And.intro ⟨rfl, by decide, by decide⟩ (fgetf fb_699_1 h0 hB1 ?_)
        intro z3 lz3 uz3 qz3
        refine And.intro (by omega) (And.intro ?_ ?_)
        · intro c4
          exact rfl
        · intro c5
          refine And.intro ⟨rfl, by decide, by decide⟩ ?_
          refine And.intro ⟨rfl, by decide, by decide⟩ (fgetf fb_699_1 h0 hB1 ?_)
          intro z6 lz6 uz6 qz6
          intro z7 hz7 ez7
          intro z8 hz8 ez8 bz8
          refine fstore rS_700_700_0_95_1_0 (fzs_sub (by decide +kernel) hW) (by omega) (by omega) ?_
          intro IhB9 ehB9 hB9
          have t10 := fup_self ehB9
          have t11 : IhB9 699 1 = I1 699 1 := (congrFun (congrFun ehB9 699) 1).trans (fup_ne (by omega))
          refine And.intro ⟨rfl, by decide, by decide⟩ (fgetf fb_699_1 h0 hB9 ?_)
          intro z12 lz12 uz12 qz12
          refine And.intro ⟨rfl, by decide, by decide⟩ (And.intro rfl (And.intro (Or.inl rfl) (fputf fb_699_1 (by decide +kernel) hW (by omega) ?_)))
          intro IhB13 ehB13 hB13
          have t14 := fup_at ehB13 1 (by omega)
          exact fcutJ (I := IhB13) (j := jc_Tape_addFour_4538c_3) (lv' := [(0, .inr (.inr (some 699))), (1, .inl _), (2, .inl _)]) (And.intro rfl (And.intro rfl (And.intro rfl True.intro))) ⟨_, _, rfl, rfl, by omega, rfl⟩ (by omega)
  · have hB0 := fB_self (zn := znJ) (K := fKc wz_b3a7d) h0
    exact fcutJ (I := I) (j := jc_Tape_addFour_4538c_3) (lv' := [(0, .inr (.inr (some 699))), (1, .inl _), (2, .inl _)]) (And.intro rfl (And.intro rfl (And.intro rfl True.intro))) ⟨_, _, rfl, rfl, by omega, rfl⟩ (by omega)
set_option maxRecDepth 8000 in
theorem ct_Tape_add_aea5a {I : fH} {x1 : Int} {x2 : Int} {x3 : Int} (h0 : fB bsJ I) (ha1 : ((-2147483648) ≤ x1 ∧ x1 ≤ 2147483647)) (ha2 : ((-2147483648) ≤ x2 ∧ x2 ≤ 2147483647)) (ha3 : ((-2147483648) ≤ x3 ∧ x3 ≤ 2147483647)) : fC ρ base n F xTc vwCl xTys D dA la gJ (fbz bsJ znJ (fKc wz_b3a7d) I) xm_108 [.inr (.inr (some 699)), .inl x1, .inl x2, .inl x3] I (fun _ r => ∃ z, r = some (.inl z) ∧ ((0 ≤ z ∧ z ≤ 96) ∨ z = (-1000000003))) := by
  have hW : fzs wz_b3a7d (fKc wz_b3a7d) := fKc_ok _
  refine f_meth (rb := rbJ) (J := []) 1 400 xG xin_108 x6_108 okJ (fB_self h0) ?_ ?_
  · exact fun q h => absurd h List.not_mem_nil
  · have hB0 := fB_self (zn := znJ) (K := fKc wz_b3a7d) h0
    refine And.intro ⟨rfl, by decide, by decide⟩ (fgetf fb_699_1 h0 hB0 ?_)
    intro z1 lz1 uz1 qz1
    refine And.intro (by omega) (And.intro ?_ ?_)
    · intro c2
      refine Exists.intro xm_109 (And.intro mi_109 (And.intro ⟨rfl, rfl, rfl, rfl⟩ (And.intro rfl ?_)))
      refine fcall _ h0 (fzs_sub (by decide +kernel) hW) hB0 (ct_Tape_addFour_4538c (fBz h0 hB0) (by omega)) ?_
      rintro IhB4 _ hB4 fhB4 rfl
      refine Exists.intro xm_109 (And.intro mi_109 (And.intro ⟨rfl, rfl, rfl, rfl⟩ (And.intro rfl ?_)))
      refine fcall _ h0 (fzs_sub (by decide +kernel) hW) hB4 (ct_Tape_addFour_4538c (fBz h0 hB4) (by omega)) ?_
      rintro IhB6 _ hB6 fhB6 rfl
      refine Exists.intro xm_109 (And.intro mi_109 (And.intro ⟨rfl, rfl, rfl, rfl⟩ (And.intro rfl ?_)))
      refine fcall _ h0 (fzs_sub (by decide +kernel) hW) hB6 (ct_Tape_addFour_4538c (fBz h0 hB6) (by omega)) ?_
      rintro IhB8 _ hB8 fhB8 rfl
      refine And.intro ⟨rfl, by decide, by decide⟩ (fgetf fb_699_1 h0 hB8 ?_)
      intro z9 lz9 uz9 qz9
      refine And.intro (True.intro) ?_
      exact ⟨_, rfl, by omega⟩
    · intro c10
      refine And.intro (True.intro) ?_
      exact ⟨_, rfl, by omega⟩
set_option maxRecDepth 8000 in
theorem ct_X_feed_51110 {I : fH} {x1 : Int} {x2 : Int} {x3 : Int} (h0 : fB bsJ I) (ha1 : ((-2147483648) ≤ x1 ∧ x1 ≤ 2147483647)) (ha2 : ((-2147483648) ≤ x2 ∧ x2 ≤ 2147483647)) (ha3 : ((-2147483648) ≤ x3 ∧ x3 ≤ 2147483647)) : fC ρ base n F xTc vwCl xTys D dA la gJ (fbz bsJ znJ (fKc wz_b3a7d) I) xm_107 [.inr (.inr (some 0)), .inl x1, .inl x2, .inl x3] I (fun _ r => ∃ z, r = some (.inl z) ∧ ((0 ≤ z ∧ z ≤ 96) ∨ z = (-1000000003))) := by
  have hW : fzs wz_b3a7d (fKc wz_b3a7d) := fKc_ok _
  refine f_meth (rb := rbJ) (J := []) 1 400 xG xin_107 x6_107 okJ (fB_self h0) ?_ ?_
  · exact fun q h => absurd h List.not_mem_nil
  · have hB0 := fB_self (zn := znJ) (K := fKc wz_b3a7d) h0
    refine And.intro ⟨rfl, by decide, by decide⟩ ?_
    refine Exists.intro xm_108 (And.intro mi_108 (And.intro ⟨rfl, rfl, rfl, rfl⟩ (And.intro rfl ?_)))
    refine fcall _ h0 (fzs_sub (by decide +kernel) hW) hB0 (ct_Tape_add_aea5a (fBz h0 hB0) (by omega) (by omega) (by omega)) ?_
    rintro IhB2 _ hB2 fhB2 ⟨z1, rfl, hz1⟩
    refine And.intro (True.intro) ?_
    exact ⟨_, rfl, by omega⟩
abbrev jc_M_feed_07202_18 : Nat → fL → List fV → fH → Prop := fun m lv st I => ∃ (y1 : Int) (y2 : Int) (y3 : Int) (y4 : Int), lv = [(0, .inr (.inr (some 740))), (1, .inl y1), (2, .inl y2), (3, .inl y3), (4, .inl y4)] ∧ st = [] ∧ ((((-2147483648) ≤ y1 ∧ y1 ≤ 2147483647) ∧ ((-2147483648) ≤ y2 ∧ y2 ≤ 2147483647) ∧ ((-2147483648) ≤ y3 ∧ y3 ≤ 2147483647) ∧ (0 ≤ y4 ∧ y4 ≤ 12) ∧ (I 740 8 ≤ 84 + y4))) ∧ m = (1 + 1 * (12 - y4) : Int).toNat
set_option maxRecDepth 8000 in
theorem ct_M_feed_07202 {I : fH} {x1 : Int} {x2 : Int} {x3 : Int} (h0 : fB bsJ I) (ha1 : ((-2147483648) ≤ x1 ∧ x1 ≤ 2147483647)) (ha2 : ((-2147483648) ≤ x2 ∧ x2 ≤ 2147483647)) (ha3 : ((-2147483648) ≤ x3 ∧ x3 ≤ 2147483647)) : fC ρ base n F xTc vwCl xTys D dA la gJ (fbz bsJ znJ (fKc wz_68031) I) xm_310 [.inr (.inr (some 740)), .inl x1, .inl x2, .inl x3] I (fun _ r => ∃ z, r = some (.inl z) ∧ ((0 ≤ z ∧ z ≤ 96) ∨ z = (-1000000003))) := by
  have hW : fzs wz_68031 (fKc wz_68031) := fKc_ok _
  refine f_meth (rb := rbJ) (J := [(18, jc_M_feed_07202_18)]) 14 400 xG xin_310 x6_310 okJ (fB_self h0) ?_ ?_
  · refine List.forall_mem_cons.mpr ⟨?_, fun q h => absurd h List.not_mem_nil⟩
    · rintro m _ _ I1 hB1 ⟨y1, y2, y3, y4, rfl, rfl, hb, hm⟩
      refine And.intro (by omega) (And.intro ?_ ?_)
      · intro c1
        refine And.intro ⟨rfl, by decide, by decide⟩ (fgetf fb_740_8 h0 hB1 ?_)
        intro z2 lz2 uz2 qz2
        refine And.intro (True.intro) ?_
        exact ⟨_, rfl, by omega⟩
      · intro c3
        refine And.intro (by omega) (And.intro ?_ ?_)
        · intro c4
          refine And.intro (by omega) (And.intro ?_ ?_)
          · intro c5
            refine And.intro ⟨rfl, by decide, by decide⟩ ?_
            refine And.intro ⟨rfl, by decide, by decide⟩ (fgetf fb_740_8 h0 hB1 ?_)
            intro z6 lz6 uz6 qz6
            refine And.intro (And.intro (by omega) (And.intro (by omega) (And.intro (by omega) rfl))) ?_
            intro z7 hz7 ez7 dz7
            have dz7 := dz7 (by omega) (by omega)
            change _ = _ % _ at dz7
            intro z8 hz8 ez8
            intro z9 hz9 ez9 bz9
            refine fstore rS_747_747_0_95_1_0 (fzs_sub (by decide +kernel) hW) (by omega) (by omega) ?_
            intro IhB10 ehB10 hB10
            have t11 := fup_self ehB10
            have t12 : IhB10 740 8 = I1 740 8 := (congrFun (congrFun ehB10 740) 8).trans (fup_ne (by omega))
            refine And.intro ⟨rfl, by decide, by decide⟩ (fgetf fb_740_8 h0 hB10 ?_)
            intro z13 lz13 uz13 qz13
            refine And.intro ⟨rfl, by decide, by decide⟩ (And.intro rfl (And.intro (Or.inl rfl) (fputf fb_740_8 (by decide +kernel) hW (by omega) ?_)))
            intro IhB14 ehB14 hB14
            have t15 := fup_at ehB14 8 (by omega)
            exact fcutJ (I := IhB14) (j := jc_M_feed_07202_18) (lv' := [(0, .inr (.inr (some 740))), (1, .inl _), (2, .inl _), (3, .inl _), (4, .inl _)]) (And.intro rfl (And.intro rfl (And.intro rfl (And.intro rfl (And.intro rfl True.intro))))) ⟨_, _, _, _, rfl, rfl, by omega, rfl⟩ (by omega)
          · intro c16
            refine And.intro ⟨rfl, by decide, by decide⟩ ?_
            refine And.intro ⟨rfl, by decide, by decide⟩ (fgetf fb_740_8 h0 hB1 ?_)
            intro z17 lz17 uz17 qz17
            refine And.intro (And.intro (by omega) (And.intro (by omega) (And.intro (by omega) rfl))) ?_
            intro z18 hz18 ez18 dz18
            have dz18 := dz18 (by omega) (by omega)
            change _ = _ % _ at dz18
            intro z19 hz19 ez19
            intro z20 hz20 ez20 bz20
            refine fstore rS_747_747_0_95_1_0 (fzs_sub (by decide +kernel) hW) (by omega) (by omega) ?_
            intro IhB21 ehB21 hB21
            have t22 := fup_self ehB21
            have t23 : IhB21 740 8 = I1 740 8 := (congrFun (congrFun ehB21 740) 8).trans (fup_ne (by omega))
            refine And.intro ⟨rfl, by decide, by decide⟩ (fgetf fb_740_8 h0 hB21 ?_)
            intro z24 lz24 uz24 qz24
            refine And.intro ⟨rfl, by decide, by decide⟩ (And.intro rfl (And.intro (Or.inl rfl) (fputf fb_740_8 (by decide +kernel) hW (by omega) ?_)))
            intro IhB25 ehB25 hB25
            have t26 := fup_at ehB25 8 (by omega)
            exact fcutJ (I := IhB25) (j := jc_M_feed_07202_18) (lv' := [(0, .inr (.inr (some 740))), (1, .inl _), (2, .inl _), (3, .inl _), (4, .inl _)]) (And.intro rfl (And.intro rfl (And.intro rfl (And.intro rfl (And.intro rfl True.intro))))) ⟨_, _, _, _, rfl, rfl, by omega, rfl⟩ (by omega)
        · intro c27
          refine And.intro ⟨rfl, by decide, by decide⟩ ?_
          refine And.intro ⟨rfl, by decide, by decide⟩ (fgetf fb_740_8 h0 hB1 ?_)
          intro z28 lz28 uz28 qz28
          refine And.intro (And.intro (by omega) (And.intro (by omega) (And.intro (by omega) rfl))) ?_
          intro z29 hz29 ez29 dz29
          have dz29 := dz29 (by omega) (by omega)
          change _ = _ % _ at dz29
          intro z30 hz30 ez30
          intro z31 hz31 ez31 bz31
          refine fstore rS_747_747_0_95_1_0 (fzs_sub (by decide +kernel) hW) (by omega) (by omega) ?_
          intro IhB32 ehB32 hB32
          have t33 := fup_self ehB32
          have t34 : IhB32 740 8 = I1 740 8 := (congrFun (congrFun ehB32 740) 8).trans (fup_ne (by omega))
          refine And.intro ⟨rfl, by decide, by decide⟩ (fgetf fb_740_8 h0 hB32 ?_)
          intro z35 lz35 uz35 qz35
          refine And.intro ⟨rfl, by decide, by decide⟩ (And.intro rfl (And.intro (Or.inl rfl) (fputf fb_740_8 (by decide +kernel) hW (by omega) ?_)))
          intro IhB36 ehB36 hB36
          have t37 := fup_at ehB36 8 (by omega)
          exact fcutJ (I := IhB36) (j := jc_M_feed_07202_18) (lv' := [(0, .inr (.inr (some 740))), (1, .inl _), (2, .inl _), (3, .inl _), (4, .inl _)]) (And.intro rfl (And.intro rfl (And.intro rfl (And.intro rfl (And.intro rfl True.intro))))) ⟨_, _, _, _, rfl, rfl, by omega, rfl⟩ (by omega)
  · have hB0 := fB_self (zn := znJ) (K := fKc wz_68031) h0
    refine And.intro ⟨rfl, by decide, by decide⟩ (fgetf fb_740_8 h0 hB0 ?_)
    intro z38 lz38 uz38 qz38
    refine And.intro (by omega) (And.intro ?_ ?_)
    · intro c39
      exact fcutJ (I := I) (j := jc_M_feed_07202_18) (lv' := [(0, .inr (.inr (some 740))), (1, .inl _), (2, .inl _), (3, .inl _), (4, .inl _)]) (And.intro rfl (And.intro rfl (And.intro rfl (And.intro rfl (And.intro rfl True.intro))))) ⟨_, _, _, _, rfl, rfl, by omega, rfl⟩ (by omega)
    · intro c40
      refine And.intro (True.intro) ?_
      exact ⟨_, rfl, by omega⟩
set_option maxRecDepth 8000 in
theorem ct_X_trim_032da {I : fH} {x1 : Int} (h0 : fB bsJ I) (ha1 : ((-2147483648) ≤ x1 ∧ x1 ≤ 2147483647)) : fC ρ base n F xTc vwCl xTys D dA la gJ (fbz bsJ znJ (fKc wz_6427d) I) xm_110 [.inr (.inr (some 0)), .inl x1] I (fun _ r => ∃ z, r = some (.inl z) ∧ ((0 ≤ z ∧ z ≤ 96) ∨ z = (-1000000001))) := by
  have hW : fzs wz_6427d (fKc wz_6427d) := fKc_ok _
  refine f_meth (rb := rbJ) (J := []) 1 400 xG xin_110 x6_110 okJ (fB_self h0) ?_ ?_
  · exact fun q h => absurd h List.not_mem_nil
  · have hB0 := fB_self (zn := znJ) (K := fKc wz_6427d) h0
    refine And.intro ⟨rfl, by decide, by decide⟩ ?_
    refine And.intro ⟨rfl, by decide, by decide⟩ (fgetf fb_699_1 h0 hB0 ?_)
    intro z1 lz1 uz1 qz1
    refine Exists.intro xm_13 (And.intro mi_13 (And.intro ⟨rfl, rfl, rfl, rfl⟩ (And.intro True.intro ?_)))
    refine fcallp hB0 (ct_X_within_c27b1 (fBz h0 hB0) (by omega) (by omega) (by omega)) ?_
    rintro _ ⟨z2, rfl, hz2⟩
    refine And.intro (by omega) (And.intro ?_ ?_)
    · intro c3
      refine And.intro ⟨rfl, by decide, by decide⟩ ?_
      refine And.intro ⟨rfl, by decide, by decide⟩ (And.intro rfl (And.intro (Or.inl rfl) (fputf fb_699_1 (by decide +kernel) hW (by omega) ?_)))
      intro IhB4 ehB4 hB4
      have t5 := fup_at ehB4 1 (by omega)
      refine And.intro (True.intro) ?_
      exact ⟨_, rfl, by omega⟩
    · intro c6
      refine And.intro (True.intro) ?_
      exact ⟨_, rfl, by omega⟩
set_option maxRecDepth 8000 in
theorem ct_M_trim_f395f {I : fH} {x1 : Int} (h0 : fB bsJ I) (ha1 : ((-2147483648) ≤ x1 ∧ x1 ≤ 2147483647)) : fC ρ base n F xTc vwCl xTys D dA la gJ (fbz bsJ znJ (fKc wz_9d31e) I) xm_311 [.inr (.inr (some 740)), .inl x1] I (fun _ r => ∃ z, r = some (.inl z) ∧ ((0 ≤ z ∧ z ≤ 96) ∨ z = (-1000000001))) := by
  have hW : fzs wz_9d31e (fKc wz_9d31e) := fKc_ok _
  refine f_meth (rb := rbJ) (J := []) 1 400 xG xin_311 x6_311 okJ (fB_self h0) ?_ ?_
  · exact fun q h => absurd h List.not_mem_nil
  · have hB0 := fB_self (zn := znJ) (K := fKc wz_9d31e) h0
    refine And.intro (by omega) ?_
    refine And.intro ⟨rfl, by decide, by decide⟩ (fgetf fb_740_8 h0 hB0 ?_)
    intro z1 lz1 uz1 qz1
    refine And.intro (by omega) ?_
    refine Exists.intro xm_238 (And.intro mi_238 (And.intro ⟨rfl, rfl, rfl, rfl⟩ (And.intro True.intro ?_)))
    refine fcallp hB0 (ct_M_isIn_27230 (fBz h0 hB0) (by omega) (by omega) (by omega)) ?_
    rintro _ ⟨z2, rfl, hz2⟩
    refine And.intro (by omega) (And.intro ?_ ?_)
    · intro c3
      refine And.intro ⟨rfl, by decide, by decide⟩ (And.intro rfl (And.intro (Or.inl rfl) (fputf fb_740_8 (by decide +kernel) hW (by omega) ?_)))
      intro IhB4 ehB4 hB4
      have t5 := fup_at ehB4 8 (by omega)
      refine And.intro (True.intro) ?_
      exact ⟨_, rfl, by omega⟩
    · intro c6
      refine And.intro (True.intro) ?_
      exact ⟨_, rfl, by omega⟩
abbrev jc_Tape_behindBlanks_aea90_2 : Nat → fL → List fV → fH → Prop := fun m lv st I => ∃ (y2 : Int), lv = [(0, .inr (.inr (some 699))), (2, .inl y2)] ∧ st = [] ∧ (((0 ≤ y2 ∧ y2 ≤ 96))) ∧ m = (1 + 1 * (96 - y2) : Int).toNat
set_option maxRecDepth 8000 in
theorem ct_Tape_behindBlanks_aea90 {I : fH} {x1 : Int} (h0 : fB bsJ I) (ha1 : (0 ≤ x1 ∧ x1 ≤ 0)) : fC ρ base n F xTc vwCl xTys D dA la gJ (fbz bsJ znJ (fKc []) I) xm_113 [.inr (.inr (some 699)), .inl x1] I (fun _ r => ∃ z, r = some (.inl z) ∧ (0 ≤ z ∧ z ≤ 96)) := by
  have hW : fzs [] (fKc []) := fKc_ok _
  refine f_meth (rb := rbJ) (J := [(2, jc_Tape_behindBlanks_aea90_2)]) 98 400 xG xin_113 x6_113 okJ (fB_self h0) ?_ ?_
  · refine List.forall_mem_cons.mpr ⟨?_, fun q h => absurd h List.not_mem_nil⟩
    · rintro m _ _ I1 hB1 ⟨y2, rfl, rfl, hb, hm⟩
      refine And.intro ⟨rfl, by decide, by decide⟩ (fgetf fb_699_1 h0 hB1 ?_)
      intro z1 lz1 uz1 qz1
      refine And.intro (by omega) (And.intro ?_ ?_)
      · intro c2
        refine And.intro (True.intro) ?_
        exact ⟨_, rfl, by omega⟩
      · intro c3
        refine And.intro ⟨rfl, by decide, by decide⟩ ?_
        refine fload rL_700_700_0_95_1_0 h0 hB1 (by omega) ?_
        intro z4 lz4 uz4 qz4
        refine And.intro (by omega) (And.intro ?_ ?_)
        · intro c5
          refine And.intro (True.intro) ?_
          exact ⟨_, rfl, by omega⟩
        · intro c6
          exact fcutJ (I := I1) (j := jc_Tape_behindBlanks_aea90_2) (lv' := [(0, .inr (.inr (some 699))), (2, .inl _)]) (And.intro rfl (And.intro rfl True.intro)) ⟨_, rfl, rfl, by omega, rfl⟩ (by omega)
  · have hB0 := fB_self (zn := znJ) (K := fKc []) h0
    exact fcutJ (I := I) (j := jc_Tape_behindBlanks_aea90_2) (lv' := [(0, .inr (.inr (some 699))), (2, .inl _)]) (And.intro rfl (And.intro rfl True.intro)) ⟨_, rfl, rfl, by omega, rfl⟩ (by omega)
set_option maxRecDepth 8000 in
theorem ct_Tape_isLetter_45e0a {I : fH} {x0 : Int} (h0 : fB bsJ I) (ha0 : (0 ≤ x0 ∧ x0 ≤ 255)) : fC ρ base n F xTc vwCl xTys D dA la gJ (fbz bsJ znJ (fKc []) I) xm_115 [.inl x0] I (fun _ r => ∃ z, r = some (.inl z) ∧ ((z = 1 ∧ 97 ≤ x0 ∧ x0 ≤ 122) ∨ z = 0)) := by
  have hW : fzs [] (fKc []) := fKc_ok _
  refine f_meth (rb := rbJ) (J := []) 1 400 xG xin_115 x6_115 okJ (fB_self h0) ?_ ?_
  · exact fun q h => absurd h List.not_mem_nil
  · have hB0 := fB_self (zn := znJ) (K := fKc []) h0
    refine And.intro (by omega) (And.intro ?_ ?_)
    · intro c1
      refine And.intro (⟨by omega, by omega⟩) ?_
      exact ⟨_, rfl, by omega⟩
    · intro c2
      refine And.intro (by omega) (And.intro ?_ ?_)
      · intro c3
        refine And.intro (⟨by omega, by omega⟩) ?_
        exact ⟨_, rfl, by omega⟩
      · intro c4
        refine And.intro (⟨by omega, by omega⟩) ?_
        exact ⟨_, rfl, by omega⟩
set_option maxRecDepth 8000 in
theorem ct_Tape_isDigit_a19bc {I : fH} {x0 : Int} (h0 : fB bsJ I) (ha0 : (0 ≤ x0 ∧ x0 ≤ 255)) : fC ρ base n F xTc vwCl xTys D dA la gJ (fbz bsJ znJ (fKc []) I) xm_116 [.inl x0] I (fun _ r => ∃ z, r = some (.inl z) ∧ ((z = 1 ∧ 48 ≤ x0 ∧ x0 ≤ 57) ∨ z = 0)) := by
  have hW : fzs [] (fKc []) := fKc_ok _
  refine f_meth (rb := rbJ) (J := []) 1 400 xG xin_116 x6_116 okJ (fB_self h0) ?_ ?_
  · exact fun q h => absurd h List.not_mem_nil
  · have hB0 := fB_self (zn := znJ) (K := fKc []) h0
    refine And.intro (by omega) (And.intro ?_ ?_)
    · intro c1
      refine And.intro (⟨by omega, by omega⟩) ?_
      exact ⟨_, rfl, by omega⟩
    · intro c2
      refine And.intro (by omega) (And.intro ?_ ?_)
      · intro c3
        refine And.intro (⟨by omega, by omega⟩) ?_
        exact ⟨_, rfl, by omega⟩
      · intro c4
        refine And.intro (⟨by omega, by omega⟩) ?_
        exact ⟨_, rfl, by omega⟩
abbrev jc_Tape_behindWord_677ba_22 : Nat → fL → List fV → fH → Prop := fun m lv st I => ∃ (y2 : Int), lv = [(0, .inr (.inr (some 699))), (2, .inl y2)] ∧ st = [] ∧ (((0 ≤ y2 ∧ y2 ≤ 96) ∧ (1 ≤ I 699 1 ∧ I 699 1 ≤ 96))) ∧ m = (101 + 1 * (96 - y2) : Int).toNat
abbrev jc_Tape_behindWord_677ba_48 : Nat → fL → List fV → fH → Prop := fun m lv st I => ∃ (y2 : Int), lv = [(0, .inr (.inr (some 699))), (2, .inl y2)] ∧ st = [] ∧ (((0 ≤ y2 ∧ y2 ≤ 96))) ∧ m = (100 : Int).toNat
abbrev jc_Tape_behindWord_677ba_68 : Nat → fL → List fV → fH → Prop := fun m lv st I => ∃ (y2 : Int), lv = [(0, .inr (.inr (some 699))), (2, .inl y2)] ∧ st = [] ∧ (((0 ≤ y2 ∧ y2 ≤ 96) ∧ (1 ≤ I 699 1 ∧ I 699 1 ≤ 96))) ∧ m = (3 + 1 * (96 - y2) : Int).toNat
abbrev jc_Tape_behindWord_677ba_94 : Nat → fL → List fV → fH → Prop := fun m lv st I => ∃ (y2 : Int), lv = [(0, .inr (.inr (some 699))), (2, .inl y2)] ∧ st = [] ∧ (((0 ≤ y2 ∧ y2 ≤ 96))) ∧ m = (2 : Int).toNat
abbrev jc_Tape_behindWord_677ba_105 : Nat → fL → List fV → fH → Prop := fun m lv st I => ∃ (y2 : Int), lv = [(2, .inl y2)] ∧ st = [] ∧ (((0 ≤ y2 ∧ y2 ≤ 96))) ∧ m = (1 : Int).toNat
set_option maxRecDepth 8000 in
theorem ct_Tape_behindWord_677ba {I : fH} {x1 : Int} (h0 : fB bsJ I) (ha1 : (0 ≤ x1 ∧ x1 ≤ 96)) : fC ρ base n F xTc vwCl xTys D dA la gJ (fbz bsJ znJ (fKc []) I) xm_114 [.inr (.inr (some 699)), .inl x1] I (fun _ r => ∃ z, r = some (.inl z) ∧ (0 ≤ z ∧ z ≤ 96)) := by
  have hW : fzs [] (fKc []) := fKc_ok _
  refine f_meth (rb := rbJ) (J := [(22, jc_Tape_behindWord_677ba_22), (48, jc_Tape_behindWord_677ba_48), (68, jc_Tape_behindWord_677ba_68), (94, jc_Tape_behindWord_677ba_94), (105, jc_Tape_behindWord_677ba_105)]) 198 400 xG xin_114 x6_114 okJ (fB_self h0) ?_ ?_
  · refine List.forall_mem_cons.mpr ⟨?_, List.forall_mem_cons.mpr ⟨?_, List.forall_mem_cons.mpr ⟨?_, List.forall_mem_cons.mpr ⟨?_, List.forall_mem_cons.mpr ⟨?_, fun q h => absurd h List.not_mem_nil⟩⟩⟩⟩⟩
    · rintro m _ _ I1 hB1 ⟨y2, rfl, rfl, hb, hm⟩
      refine And.intro ⟨rfl, by decide, by decide⟩ (fgetf fb_699_1 h0 hB1 ?_)
      intro z1 lz1 uz1 qz1
      refine And.intro (by omega) (And.intro ?_ ?_)
      · intro c2
        exact fcutJ (I := I1) (j := jc_Tape_behindWord_677ba_105) (lv' := [(2, .inl _)]) (And.intro rfl True.intro) ⟨_, rfl, rfl, by omega, rfl⟩ (by omega)
      · intro c3
        refine And.intro ⟨rfl, by decide, by decide⟩ ?_
        refine fload rL_700_700_0_95_1_0 h0 hB1 (by omega) ?_
        intro z4 lz4 uz4 qz4
        refine Exists.intro xm_115 (And.intro mi_115 (And.intro ⟨rfl, rfl, rfl, rfl⟩ (And.intro True.intro ?_)))
        refine fcallp hB1 (ct_Tape_isLetter_45e0a (fBz h0 hB1) (by omega)) ?_
        rintro _ ⟨z5, rfl, hz5⟩
        refine And.intro (by omega) (And.intro ?_ ?_)
        · intro c6
          exact fcutJ (I := I1) (j := jc_Tape_behindWord_677ba_105) (lv' := [(2, .inl _)]) (And.intro rfl True.intro) ⟨_, rfl, rfl, by omega, rfl⟩ (by omega)
        · intro c7
          exact fcutJ (I := I1) (j := jc_Tape_behindWord_677ba_22) (lv' := [(0, .inr (.inr (some 699))), (2, .inl _)]) (And.intro rfl (And.intro rfl True.intro)) ⟨_, rfl, rfl, by omega, rfl⟩ (by omega)
    · rintro m _ _ I1 hB1 ⟨y2, rfl, rfl, hb, hm⟩
      refine And.intro ⟨rfl, by decide, by decide⟩ (fgetf fb_699_1 h0 hB1 ?_)
      intro z8 lz8 uz8 qz8
      refine And.intro (by omega) (And.intro ?_ ?_)
      · intro c9
        exact fcutJ (I := I1) (j := jc_Tape_behindWord_677ba_94) (lv' := [(0, .inr (.inr (some 699))), (2, .inl _)]) (And.intro rfl (And.intro rfl True.intro)) ⟨_, rfl, rfl, by omega, rfl⟩ (by omega)
      · intro c10
        refine And.intro ⟨rfl, by decide, by decide⟩ ?_
        refine fload rL_700_700_0_95_1_0 h0 hB1 (by omega) ?_
        intro z11 lz11 uz11 qz11
        refine Exists.intro xm_116 (And.intro mi_116 (And.intro ⟨rfl, rfl, rfl, rfl⟩ (And.intro True.intro ?_)))
        refine fcallp hB1 (ct_Tape_isDigit_a19bc (fBz h0 hB1) (by omega)) ?_
        rintro _ ⟨z12, rfl, hz12⟩
        refine And.intro (by omega) (And.intro ?_ ?_)
        · intro c13
          exact fcutJ (I := I1) (j := jc_Tape_behindWord_677ba_94) (lv' := [(0, .inr (.inr (some 699))), (2, .inl _)]) (And.intro rfl (And.intro rfl True.intro)) ⟨_, rfl, rfl, by omega, rfl⟩ (by omega)
        · intro c14
          exact fcutJ (I := I1) (j := jc_Tape_behindWord_677ba_68) (lv' := [(0, .inr (.inr (some 699))), (2, .inl _)]) (And.intro rfl (And.intro rfl True.intro)) ⟨_, rfl, rfl, by omega, rfl⟩ (by omega)
    · rintro m _ _ I1 hB1 ⟨y2, rfl, rfl, hb, hm⟩
      refine And.intro ⟨rfl, by decide, by decide⟩ (fgetf fb_699_1 h0 hB1 ?_)
      intro z15 lz15 uz15 qz15
      refine And.intro (by omega) (And.intro ?_ ?_)
      · intro c16
        exact fcutJ (I := I1) (j := jc_Tape_behindWord_677ba_105) (lv' := [(2, .inl _)]) (And.intro rfl True.intro) ⟨_, rfl, rfl, by omega, rfl⟩ (by omega)
      · intro c17
        refine And.intro ⟨rfl, by decide, by decide⟩ ?_
        refine fload rL_700_700_0_95_1_0 h0 hB1 (by omega) ?_
        intro z18 lz18 uz18 qz18
        refine Exists.intro xm_116 (And.intro mi_116 (And.intro ⟨rfl, rfl, rfl, rfl⟩ (And.intro True.intro ?_)))
        refine fcallp hB1 (ct_Tape_isDigit_a19bc (fBz h0 hB1) (by omega)) ?_
        rintro _ ⟨z19, rfl, hz19⟩
        refine And.intro (by omega) (And.intro ?_ ?_)
        · intro c20
          exact fcutJ (I := I1) (j := jc_Tape_behindWord_677ba_105) (lv' := [(2, .inl _)]) (And.intro rfl True.intro) ⟨_, rfl, rfl, by omega, rfl⟩ (by omega)
        · intro c21
          exact fcutJ (I := I1) (j := jc_Tape_behindWord_677ba_68) (lv' := [(0, .inr (.inr (some 699))), (2, .inl _)]) (And.intro rfl (And.intro rfl True.intro)) ⟨_, rfl, rfl, by omega, rfl⟩ (by omega)
    · rintro m _ _ I1 hB1 ⟨y2, rfl, rfl, hb, hm⟩
      refine And.intro ⟨rfl, by decide, by decide⟩ (fgetf fb_699_1 h0 hB1 ?_)
      intro z22 lz22 uz22 qz22
      refine And.intro (by omega) (And.intro ?_ ?_)
      · intro c23
        exact fcutJ (I := I1) (j := jc_Tape_behindWord_677ba_105) (lv' := [(2, .inl _)]) (And.intro rfl True.intro) ⟨_, rfl, rfl, by omega, rfl⟩ (by omega)
      · intro c24
        exact fcutJ (I := I1) (j := jc_Tape_behindWord_677ba_105) (lv' := [(2, .inl _)]) (And.intro rfl True.intro) ⟨_, rfl, rfl, by omega, rfl⟩ (by omega)
    · rintro m _ _ I1 hB1 ⟨y2, rfl, rfl, hb, hm⟩
      refine And.intro (True.intro) ?_
      exact ⟨_, rfl, by omega⟩
  · have hB0 := fB_self (zn := znJ) (K := fKc []) h0
    refine And.intro ⟨rfl, by decide, by decide⟩ (fgetf fb_699_1 h0 hB0 ?_)
    intro z25 lz25 uz25 qz25
    refine And.intro (by omega) (And.intro ?_ ?_)
    · intro c26
      exact fcutJ (I := I) (j := jc_Tape_behindWord_677ba_48) (lv' := [(0, .inr (.inr (some 699))), (2, .inl _)]) (And.intro rfl (And.intro rfl True.intro)) ⟨_, rfl, rfl, by omega, rfl⟩ (by omega)
    · intro c27
      refine And.intro ⟨rfl, by decide, by decide⟩ ?_
      refine fload rL_700_700_0_95_1_0 h0 hB0 (by omega) ?_
      intro z28 lz28 uz28 qz28
      refine Exists.intro xm_115 (And.intro mi_115 (And.intro ⟨rfl, rfl, rfl, rfl⟩ (And.intro True.intro ?_)))
      refine fcallp hB0 (ct_Tape_isLetter_45e0a (fBz h0 hB0) (by omega)) ?_
      rintro _ ⟨z29, rfl, hz29⟩
      refine And.intro (by omega) (And.intro ?_ ?_)
      · intro c30
        exact fcutJ (I := I) (j := jc_Tape_behindWord_677ba_48) (lv' := [(0, .inr (.inr (some 699))), (2, .inl _)]) (And.intro rfl (And.intro rfl True.intro)) ⟨_, rfl, rfl, by omega, rfl⟩ (by omega)
      · intro c31
        exact fcutJ (I := I) (j := jc_Tape_behindWord_677ba_22) (lv' := [(0, .inr (.inr (some 699))), (2, .inl _)]) (And.intro rfl (And.intro rfl True.intro)) ⟨_, rfl, rfl, by omega, rfl⟩ (by omega)
set_option maxRecDepth 8000 in
theorem ct_Charter_isText_4f275 {I : fH} {x1 : Int} (h0 : fB bsJ I) (ha1 : ((-2147483648) ≤ x1 ∧ x1 ≤ 2147483647)) : fC ρ base n F xTc vwCl xTys D dA la gJ (fbz bsJ znJ (fKc []) I) xm_133 [.inr (.inr (some 187)), .inl x1] I (fun _ r => ∃ z, r = some (.inl z) ∧ ((z = 1 ∧ 0 ≤ x1 ∧ x1 ≤ 11) ∨ z = 0)) := by
  have hW : fzs [] (fKc []) := fKc_ok _
  refine f_meth (rb := rbJ) (J := []) 1 400 xG xin_133 x6_133 okJ (fB_self h0) ?_ ?_
  · exact fun q h => absurd h List.not_mem_nil
  · have hB0 := fB_self (zn := znJ) (K := fKc []) h0
    refine And.intro ⟨rfl, by decide, by decide⟩ (fgetf fb_187_6 h0 hB0 ?_)
    intro z1 lz1 uz1 qz1
    refine Exists.intro xm_13 (And.intro mi_13 (And.intro ⟨rfl, rfl, rfl, rfl⟩ (And.intro True.intro ?_)))
    refine fcallp hB0 (ct_X_within_c27b1 (fBz h0 hB0) (by omega) (by omega) (by omega)) ?_
    rintro _ ⟨z2, rfl, hz2⟩
    refine And.intro (⟨by omega, by omega⟩) ?_
    exact ⟨_, rfl, by omega⟩
set_option maxRecDepth 8000 in
theorem ct_X_of_3d77a {I : fH} {x1 : Int} {x2 : Int} (h0 : fB bsJ I) (ha1 : ((-2147483648) ≤ x1 ∧ x1 ≤ 2147483647)) (ha2 : ((-2147483648) ≤ x2 ∧ x2 ≤ 2147483647)) : fC ρ base n F xTc vwCl xTys D dA la gJ (fbz bsJ znJ (fKc []) I) xm_132 [.inr (.inr (some 0)), .inl x1, .inl x2] I (fun _ r => ∃ z, r = some (.inl z) ∧ ((-2147483648) ≤ z ∧ z ≤ 2147483647)) := by
  have hW : fzs [] (fKc []) := fKc_ok _
  refine f_meth (rb := rbJ) (J := []) 1 400 xG xin_132 x6_132 okJ (fB_self h0) ?_ ?_
  · exact fun q h => absurd h List.not_mem_nil
  · have hB0 := fB_self (zn := znJ) (K := fKc []) h0
    refine And.intro ⟨rfl, by decide, by decide⟩ ?_
    refine Exists.intro xm_133 (And.intro mi_133 (And.intro ⟨rfl, rfl, rfl, rfl⟩ (And.intro rfl ?_)))
    refine fcallp hB0 (ct_Charter_isText_4f275 (fBz h0 hB0) (by omega)) ?_
    rintro _ ⟨z1, rfl, hz1⟩
    refine And.intro (by omega) (And.intro ?_ ?_)
    · intro c2
      refine And.intro (by omega) (And.intro ?_ ?_)
      · refine And.intro (fun ex => ?_) (And.intro (fun ex => ?_) (And.intro (fun ex => ?_) (And.intro (fun ex => ?_) (True.intro))))
        · skip
          refine And.intro ⟨rfl, by decide, by decide⟩ ?_
          refine And.intro ⟨rfl, by decide, by decide⟩ ?_
          refine fload rL_188_188_0_11_1_0 h0 hB0 (by omega) ?_
          intro z3 lz3 uz3 qz3
          refine And.intro (True.intro) ?_
          exact ⟨_, rfl, by omega⟩
        · skip
          refine And.intro ⟨rfl, by decide, by decide⟩ ?_
          refine And.intro ⟨rfl, by decide, by decide⟩ ?_
          refine fload rL_189_189_0_11_1_0 h0 hB0 (by omega) ?_
          intro z4 lz4 uz4 qz4
          refine And.intro (True.intro) ?_
          exact ⟨_, rfl, by omega⟩
        · skip
          refine And.intro ⟨rfl, by decide, by decide⟩ ?_
          refine And.intro ⟨rfl, by decide, by decide⟩ ?_
          refine fload rL_190_190_0_11_1_0 h0 hB0 (by omega) ?_
          intro z5 lz5 uz5 qz5
          refine And.intro (True.intro) ?_
          exact ⟨_, rfl, by omega⟩
        · skip
          refine And.intro ⟨rfl, by decide, by decide⟩ ?_
          refine And.intro ⟨rfl, by decide, by decide⟩ ?_
          refine fload rL_191_191_0_11_1_0 h0 hB0 (by omega) ?_
          intro z6 lz6 uz6 qz6
          refine And.intro (True.intro) ?_
          exact ⟨_, rfl, by omega⟩
      · intro c7
        refine And.intro (True.intro) ?_
        exact ⟨_, rfl, by omega⟩
    · intro c8
      refine And.intro (True.intro) ?_
      exact ⟨_, rfl, by omega⟩
set_option maxRecDepth 8000 in
theorem ct_M_isText_c8726 {I : fH} {x1 : Int} (h0 : fB bsJ I) (ha1 : ((-2147483648) ≤ x1 ∧ x1 ≤ 2147483647)) : fC ρ base n F xTc vwCl xTys D dA la gJ (fbz bsJ znJ (fKc []) I) xm_425 [.inr (.inr (some 740)), .inl x1] I (fun _ r => ∃ z, r = some (.inl z) ∧ ((z = 1 ∧ 0 ≤ x1 ∧ x1 ≤ 11) ∨ z = 0)) := by
  have hW : fzs [] (fKc []) := fKc_ok _
  refine f_meth (rb := rbJ) (J := []) 1 400 xG xin_425 x6_425 okJ (fB_self h0) ?_ ?_
  · exact fun q h => absurd h List.not_mem_nil
  · have hB0 := fB_self (zn := znJ) (K := fKc []) h0
    refine And.intro (by omega) ?_
    refine And.intro ⟨rfl, by decide, by decide⟩ ?_
    refine fload rL_741_741_9_9_1_0 h0 hB0 (by omega) ?_
    intro z1 lz1 uz1 qz1
    have pz1 := fld_at qz1 9 (by omega)
    refine And.intro (by omega) ?_
    refine Exists.intro xm_238 (And.intro mi_238 (And.intro ⟨rfl, rfl, rfl, rfl⟩ (And.intro True.intro ?_)))
    refine fcallp hB0 (ct_M_isIn_27230 (fBz h0 hB0) (by omega) (by omega) (by omega)) ?_
    rintro _ ⟨z2, rfl, hz2⟩
    refine And.intro (⟨by omega, by omega⟩) ?_
    exact ⟨_, rfl, by omega⟩
set_option maxRecDepth 8000 in
theorem ct_M_of_2ade1 {I : fH} {x1 : Int} {x2 : Int} (h0 : fB bsJ I) (ha1 : ((-2147483648) ≤ x1 ∧ x1 ≤ 2147483647)) (ha2 : ((-2147483648) ≤ x2 ∧ x2 ≤ 2147483647)) : fC ρ base n F xTc vwCl xTys D dA la gJ (fbz bsJ znJ (fKc []) I) xm_424 [.inr (.inr (some 740)), .inl x1, .inl x2] I (fun _ r => ∃ z, r = some (.inl z) ∧ ((-2147483648) ≤ z ∧ z ≤ 2147483647)) := by
  have hW : fzs [] (fKc []) := fKc_ok _
  refine f_meth (rb := rbJ) (J := []) 1 400 xG xin_424 x6_424 okJ (fB_self h0) ?_ ?_
  · exact fun q h => absurd h List.not_mem_nil
  · have hB0 := fB_self (zn := znJ) (K := fKc []) h0
    refine Exists.intro xm_425 (And.intro mi_425 (And.intro ⟨rfl, rfl, rfl, rfl⟩ (And.intro rfl ?_)))
    refine fcallp hB0 (ct_M_isText_c8726 (fBz h0 hB0) (by omega)) ?_
    rintro _ ⟨z1, rfl, hz1⟩
    refine And.intro (by omega) (And.intro ?_ ?_)
    · intro c2
      refine And.intro (True.intro) ?_
      exact ⟨_, rfl, by omega⟩
    · intro c3
      refine And.intro (by omega) ?_
      refine Exists.intro xm_238 (And.intro mi_238 (And.intro ⟨rfl, rfl, rfl, rfl⟩ (And.intro True.intro ?_)))
      refine fcallp hB0 (ct_M_isIn_27230 (fBz h0 hB0) (by omega) (by omega) (by omega)) ?_
      rintro _ ⟨z4, rfl, hz4⟩
      refine And.intro (by omega) (And.intro ?_ ?_)
      · intro c5
        refine And.intro ⟨rfl, by decide, by decide⟩ ?_
        refine Exists.intro xm_255 (And.intro mi_255 (And.intro ⟨rfl, rfl, rfl, rfl⟩ (And.intro rfl ?_)))
        refine fcallp hB0 (ct_M_textAt_ea474 (fBz h0 hB0) (by omega)) ?_
        rintro _ ⟨_, rfl, rfl⟩
        refine fload rL_741_741_1210_3413_200_3 h0 hB0 (by omega) ?_
        intro z7 lz7 uz7 qz7
        refine And.intro (by omega) (And.intro ?_ ?_)
        · intro c8
          refine Exists.intro xm_269 (And.intro mi_269 (And.intro ⟨rfl, rfl, rfl, rfl⟩ (And.intro True.intro ?_)))
          refine fcallp hB0 (ct_M_orNone_a2a87 (fBz h0 hB0) (by omega)) ?_
          rintro _ ⟨z9, rfl, hz9⟩
          refine And.intro (True.intro) ?_
          exact ⟨_, rfl, by omega⟩
        · intro c10
          refine And.intro (by omega) (And.intro ?_ ?_)
          · intro c11
            refine And.intro (True.intro) ?_
            exact ⟨_, rfl, by omega⟩
          · intro c12
            refine Exists.intro xm_269 (And.intro mi_269 (And.intro ⟨rfl, rfl, rfl, rfl⟩ (And.intro True.intro ?_)))
            refine fcallp hB0 (ct_M_orNone_a2a87 (fBz h0 hB0) (by omega)) ?_
            rintro _ ⟨z13, rfl, hz13⟩
            refine And.intro (True.intro) ?_
            exact ⟨_, rfl, by omega⟩
      · intro c14
        refine And.intro (True.intro) ?_
        exact ⟨_, rfl, by omega⟩
abbrev jc_Arrays_fill_7cd5b_5 : Nat → fL → List fV → fH → Prop := fun m lv st I => ∃ (y1 : Int) (y2 : Int) (y3 : Int), lv = [(0, .inr (.inr (some 206))), (1, .inl y1), (2, .inl y2), (3, .inl y3)] ∧ st = [] ∧ ((((-1000000005) ≤ y1 ∧ y1 ≤ (-1000000005)) ∧ (0 ≤ y2 ∧ y2 ≤ 24) ∧ (24 ≤ y3 ∧ y3 ≤ 24))) ∧ m = (1 + 1 * (24 - y2) : Int).toNat
set_option maxRecDepth 8000 in
theorem ct_Arrays_fill_7cd5b {I : fH} {x1 : Int} (h0 : fB bsJ I) (ha1 : ((-1000000005) ≤ x1 ∧ x1 ≤ (-1000000005))) : fC ρ base n F xTc vwCl xTys D dA la gJ (fbz bsJ znJ (fKc wz_60872) I) xm_498 [.inr (.inr (some 206)), .inl x1] I (fun _ r => r = none) := by
  have hW : fzs wz_60872 (fKc wz_60872) := fKc_ok _
  refine f_meth (rb := rbJ) (J := [(5, jc_Arrays_fill_7cd5b_5)]) 26 400 xG xin_498 x6_498 okJ (fB_self h0) ?_ ?_
  · refine List.forall_mem_cons.mpr ⟨?_, fun q h => absurd h List.not_mem_nil⟩
    · rintro m _ _ I1 hB1 ⟨y1, y2, y3, rfl, rfl, hb, hm⟩
      refine And.intro (by omega) (And.intro ?_ ?_)
      · intro c1
        exact rfl
      · intro c2
        refine fstore rS_206_206_0_23_1_0 (fzs_sub (by decide +kernel) hW) (by omega) (by omega) ?_
        intro IhB3 ehB3 hB3
        have t4 := fup_self ehB3
        exact fcutJ (I := IhB3) (j := jc_Arrays_fill_7cd5b_5) (lv' := [(0, .inr (.inr (some 206))), (1, .inl _), (2, .inl _), (3, .inl _)]) (And.intro rfl (And.intro rfl (And.intro rfl (And.intro rfl True.intro)))) ⟨_, _, _, rfl, rfl, by omega, rfl⟩ (by omega)
  · have hB0 := fB_self (zn := znJ) (K := fKc wz_60872) h0
    refine Exists.intro 100 (Exists.intro 24 (And.intro rfl (And.intro ⟨by decide, by decide, by decide⟩ ?_)))
    exact fcutJ (I := I) (j := jc_Arrays_fill_7cd5b_5) (lv' := [(0, .inr (.inr (some 206))), (1, .inl _), (2, .inl _), (3, .inl _)]) (And.intro rfl (And.intro rfl (And.intro rfl (And.intro rfl True.intro)))) ⟨_, _, _, rfl, rfl, by omega, rfl⟩ (by omega)
set_option maxRecDepth 8000 in
theorem ct_Charter_beginVote_a1bcb {I : fH} {x1 : Int} (h0 : fB bsJ I) (ha1 : (0 ≤ x1 ∧ x1 ≤ 11)) : fC ρ base n F xTc vwCl xTys D dA la gJ (fbz bsJ znJ (fKc wz_0f088) I) xm_135 [.inr (.inr (some 187)), .inl x1] I (fun _ r => ∃ z, r = some (.inl z) ∧ (0 ≤ z ∧ z ≤ 1)) := by
  have hW : fzs wz_0f088 (fKc wz_0f088) := fKc_ok _
  refine f_meth (rb := rbJ) (J := []) 1 400 xG xin_135 x6_135 okJ (fB_self h0) ?_ ?_
  · exact fun q h => absurd h List.not_mem_nil
  · have hB0 := fB_self (zn := znJ) (K := fKc wz_0f088) h0
    refine And.intro ⟨rfl, by decide, by decide⟩ (And.intro rfl (And.intro (Or.inl rfl) (fputf fb_187_7 (by decide +kernel) hW (by omega) ?_)))
    intro IhB1 ehB1 hB1
    have t2 := fup_at ehB1 7 (by omega)
    refine And.intro ⟨rfl, by decide, by decide⟩ ?_
    refine fload rL_189_189_0_11_1_0 h0 hB1 (by omega) ?_
    intro z3 lz3 uz3 qz3
    refine And.intro (by omega) (And.intro ?_ ?_)
    · intro c4
      refine And.intro ⟨rfl, by decide, by decide⟩ (And.intro rfl (And.intro (Or.inr ⟨rfl, by omega⟩) (fputf fb_187_8 (by decide +kernel) hW (by omega) ?_)))
      intro IhB5 ehB5 hB5
      have t6 : IhB5 187 7 = IhB1 187 7 := (congrFun (congrFun ehB5 187) 7).trans (fup_ne (by omega))
      have t7 := fup_at ehB5 8 (by omega)
      refine And.intro ⟨rfl, by decide, by decide⟩ ?_
      refine Exists.intro xm_498 (And.intro mi_498 (And.intro ⟨rfl, rfl, rfl, rfl⟩ (And.intro True.intro ?_)))
      refine fcall _ h0 (fzs_sub (by decide +kernel) hW) hB5 (ct_Arrays_fill_7cd5b (fBz h0 hB5) (by omega)) ?_
      rintro IhB9 _ hB9 fhB9 rfl
      have t10 := fhB9 187 7 (by decide +kernel)
      have t11 := fhB9 187 8 (by decide +kernel)
      refine And.intro ⟨rfl, by decide, by decide⟩ (fgetf fb_187_8 h0 hB9 ?_)
      intro z12 lz12 uz12 qz12
      refine And.intro (by omega) (And.intro ?_ ?_)
      · intro c13
        refine And.intro (True.intro) ?_
        exact ⟨_, rfl, by omega⟩
      · intro c14
        refine And.intro (True.intro) ?_
        exact ⟨_, rfl, by omega⟩
    · intro c15
      refine And.intro ⟨rfl, by decide, by decide⟩ (And.intro rfl (And.intro (Or.inr ⟨rfl, by omega⟩) (fputf fb_187_8 (by decide +kernel) hW (by omega) ?_)))
      intro IhB16 ehB16 hB16
      have t17 : IhB16 187 7 = IhB1 187 7 := (congrFun (congrFun ehB16 187) 7).trans (fup_ne (by omega))
      have t18 := fup_at ehB16 8 (by omega)
      refine And.intro ⟨rfl, by decide, by decide⟩ ?_
      refine Exists.intro xm_498 (And.intro mi_498 (And.intro ⟨rfl, rfl, rfl, rfl⟩ (And.intro True.intro ?_)))
      refine fcall _ h0 (fzs_sub (by decide +kernel) hW) hB16 (ct_Arrays_fill_7cd5b (fBz h0 hB16) (by omega)) ?_
      rintro IhB20 _ hB20 fhB20 rfl
      have t21 := fhB20 187 7 (by decide +kernel)
      have t22 := fhB20 187 8 (by decide +kernel)
      refine And.intro ⟨rfl, by decide, by decide⟩ (fgetf fb_187_8 h0 hB20 ?_)
      intro z23 lz23 uz23 qz23
      refine And.intro (by omega) (And.intro ?_ ?_)
      · intro c24
        refine And.intro (True.intro) ?_
        exact ⟨_, rfl, by omega⟩
      · intro c25
        refine And.intro (True.intro) ?_
        exact ⟨_, rfl, by omega⟩
set_option maxRecDepth 8000 in
theorem ct_X_hold_bca71 {I : fH} {x1 : Int} (h0 : fB bsJ I) (ha1 : ((-2147483648) ≤ x1 ∧ x1 ≤ 2147483647)) : fC ρ base n F xTc vwCl xTys D dA la gJ (fbz bsJ znJ (fKc wz_0f088) I) xm_134 [.inr (.inr (some 0)), .inl x1] I (fun _ r => ∃ z, r = some (.inl z) ∧ ((0 ≤ z ∧ z ≤ 1) ∨ z = (-1000000002) ∨ z = (-1000000001))) := by
  have hW : fzs wz_0f088 (fKc wz_0f088) := fKc_ok _
  refine f_meth (rb := rbJ) (J := []) 1 400 xG xin_134 x6_134 okJ (fB_self h0) ?_ ?_
  · exact fun q h => absurd h List.not_mem_nil
  · have hB0 := fB_self (zn := znJ) (K := fKc wz_0f088) h0
    refine And.intro ⟨rfl, by decide, by decide⟩ ?_
    refine Exists.intro xm_133 (And.intro mi_133 (And.intro ⟨rfl, rfl, rfl, rfl⟩ (And.intro rfl ?_)))
    refine fcallp hB0 (ct_Charter_isText_4f275 (fBz h0 hB0) (by omega)) ?_
    rintro _ ⟨z1, rfl, hz1⟩
    refine And.intro (by omega) (And.intro ?_ ?_)
    · intro c2
      refine And.intro ⟨rfl, by decide, by decide⟩ ?_
      refine And.intro ⟨rfl, by decide, by decide⟩ (fgetf fb_187_7 h0 hB0 ?_)
      intro z3 lz3 uz3 qz3
      refine And.intro (by omega) (And.intro ?_ ?_)
      · intro c4
        refine And.intro (True.intro) ?_
        exact ⟨_, rfl, by omega⟩
      · intro c5
        refine And.intro ⟨rfl, by decide, by decide⟩ ?_
        refine And.intro ⟨rfl, by decide, by decide⟩ ?_
        refine fload rL_190_190_0_11_1_0 h0 hB0 (by omega) ?_
        intro z6 lz6 uz6 qz6
        refine And.intro (by omega) (And.intro ?_ ?_)
        · intro c7
          refine And.intro ⟨rfl, by decide, by decide⟩ ?_
          refine Exists.intro xm_135 (And.intro mi_135 (And.intro ⟨rfl, rfl, rfl, rfl⟩ (And.intro rfl ?_)))
          refine fcall _ h0 (fzs_sub (by decide +kernel) hW) hB0 (ct_Charter_beginVote_a1bcb (fBz h0 hB0) (by omega)) ?_
          rintro IhB9 _ hB9 fhB9 ⟨z8, rfl, hz8⟩
          refine And.intro (True.intro) ?_
          exact ⟨_, rfl, by omega⟩
        · intro c10
          refine And.intro (True.intro) ?_
          exact ⟨_, rfl, by omega⟩
    · intro c11
      refine And.intro (True.intro) ?_
      exact ⟨_, rfl, by omega⟩
abbrev jc_M_hold_d28d9_65 : Nat → fL → List fV → fH → Prop := fun m lv st I => ∃ (y1 : Int) (y2 : Int), lv = [(0, .inr (.inr (some 740))), (1, .inl y1), (2, .inl y2)] ∧ st = [] ∧ (((0 ≤ y1 ∧ y1 ≤ 11) ∧ (0 ≤ y2 ∧ y2 ≤ 24) ∧ (0 ≤ I 741 14 ∧ I 741 14 ≤ 11) ∧ (0 ≤ I 741 15 ∧ I 741 15 ≤ 0) ∧ (0 ≤ I 741 16 ∧ I 741 16 ≤ 0))) ∧ m = (1 + 1 * (24 - y2) : Int).toNat
set_option maxRecDepth 8000 in
theorem ct_M_hold_d28d9 {I : fH} {x1 : Int} (h0 : fB bsJ I) (ha1 : ((-2147483648) ≤ x1 ∧ x1 ≤ 2147483647)) : fC ρ base n F xTc vwCl xTys D dA la gJ (fbz bsJ znJ (fKc wz_8c264) I) xm_426 [.inr (.inr (some 740)), .inl x1] I (fun _ r => ∃ z, r = some (.inl z) ∧ ((0 ≤ z ∧ z ≤ 1) ∨ z = (-1000000002) ∨ z = (-1000000001))) := by
  have hW : fzs wz_8c264 (fKc wz_8c264) := fKc_ok _
  refine f_meth (rb := rbJ) (J := [(65, jc_M_hold_d28d9_65)]) 26 400 xG xin_426 x6_426 okJ (fB_self h0) ?_ ?_
  · refine List.forall_mem_cons.mpr ⟨?_, fun q h => absurd h List.not_mem_nil⟩
    · rintro m _ _ I1 hB1 ⟨y1, y2, rfl, rfl, hb, hm⟩
      refine And.intro (by omega) (And.intro ?_ ?_)
      · intro c1
        refine And.intro ⟨rfl, by decide, by decide⟩ ?_
        refine Exists.intro xm_255 (And.intro mi_255 (And.intro ⟨rfl, rfl, rfl, rfl⟩ (And.intro rfl ?_)))
        refine fcallp hB1 (ct_M_textAt_ea474 (fBz h0 hB1) (by omega)) ?_
        rintro _ ⟨_, rfl, rfl⟩
        refine fload rL_741_741_1211_3411_200_0 h0 hB1 (by omega) ?_
        intro z3 lz3 uz3 qz3
        refine And.intro (by omega) (And.intro ?_ ?_)
        · intro c4
          refine And.intro (True.intro) ?_
          exact ⟨_, rfl, by omega⟩
        · intro c5
          refine And.intro (True.intro) ?_
          exact ⟨_, rfl, by omega⟩
      · intro c6
        refine And.intro ⟨rfl, by decide, by decide⟩ ?_
        refine Exists.intro xm_247 (And.intro mi_247 (And.intro ⟨rfl, rfl, rfl, rfl⟩ (And.intro rfl ?_)))
        refine fcallp hB1 (ct_M_personAt_9b331 (fBz h0 hB1) (by omega)) ?_
        rintro _ ⟨_, rfl, rfl⟩
        refine fstore rS_741_741_874_1012_6_0 (fzs_sub (by decide +kernel) hW) (by omega) (by omega) ?_
        intro IhB8 ehB8 hB8
        have t9 := fup_self ehB8
        have t10 : IhB8 741 14 = I1 741 14 := (congrFun (congrFun ehB8 741) 14).trans (fup_ne (by omega))
        have t11 : IhB8 741 15 = I1 741 15 := (congrFun (congrFun ehB8 741) 15).trans (fup_ne (by omega))
        have t12 : IhB8 741 16 = I1 741 16 := (congrFun (congrFun ehB8 741) 16).trans (fup_ne (by omega))
        exact fcutJ (I := IhB8) (j := jc_M_hold_d28d9_65) (lv' := [(0, .inr (.inr (some 740))), (1, .inl _), (2, .inl _)]) (And.intro rfl (And.intro rfl (And.intro rfl True.intro))) ⟨_, _, rfl, rfl, by omega, rfl⟩ (by omega)
  · have hB0 := fB_self (zn := znJ) (K := fKc wz_8c264) h0
    refine Exists.intro xm_425 (And.intro mi_425 (And.intro ⟨rfl, rfl, rfl, rfl⟩ (And.intro rfl ?_)))
    refine fcallp hB0 (ct_M_isText_c8726 (fBz h0 hB0) (by omega)) ?_
    rintro _ ⟨z13, rfl, hz13⟩
    refine And.intro (by omega) (And.intro ?_ ?_)
    · intro c14
      refine And.intro ⟨rfl, by decide, by decide⟩ ?_
      refine fload rL_741_741_14_14_1_0 h0 hB0 (by omega) ?_
      intro z15 lz15 uz15 qz15
      have pz15 := fld_at qz15 14 (by omega)
      refine And.intro (by omega) (And.intro ?_ ?_)
      · intro c16
        refine And.intro (True.intro) ?_
        exact ⟨_, rfl, by omega⟩
      · intro c17
        refine And.intro ⟨rfl, by decide, by decide⟩ ?_
        refine Exists.intro xm_255 (And.intro mi_255 (And.intro ⟨rfl, rfl, rfl, rfl⟩ (And.intro rfl ?_)))
        refine fcallp hB0 (ct_M_textAt_ea474 (fBz h0 hB0) (by omega)) ?_
        rintro _ ⟨_, rfl, rfl⟩
        refine fload rL_741_741_1212_3412_200_0 h0 hB0 (by omega) ?_
        intro z19 lz19 uz19 qz19
        refine And.intro (by omega) (And.intro ?_ ?_)
        · intro c20
          refine And.intro ⟨rfl, by decide, by decide⟩ ?_
          refine fstore rS_741_741_14_14_1_0 (fzs_sub (by decide +kernel) hW) (by omega) (by omega) ?_
          intro IhB21 ehB21 hB21
          have t22 := fup_self ehB21
          have t23 := fup_at ehB21 14 (by omega)
          refine And.intro ⟨rfl, by decide, by decide⟩ ?_
          refine fstore rS_741_741_15_15_1_0 (fzs_sub (by decide +kernel) hW) (by omega) (by omega) ?_
          intro IhB24 ehB24 hB24
          have t25 := fup_self ehB24
          have t26 : IhB24 741 14 = IhB21 741 14 := (congrFun (congrFun ehB24 741) 14).trans (fup_ne (by omega))
          have t27 := fup_at ehB24 15 (by omega)
          refine And.intro ⟨rfl, by decide, by decide⟩ ?_
          refine fstore rS_741_741_16_16_1_0 (fzs_sub (by decide +kernel) hW) (by omega) (by omega) ?_
          intro IhB28 ehB28 hB28
          have t29 := fup_self ehB28
          have t30 : IhB28 741 14 = IhB24 741 14 := (congrFun (congrFun ehB28 741) 14).trans (fup_ne (by omega))
          have t31 : IhB28 741 15 = IhB24 741 15 := (congrFun (congrFun ehB28 741) 15).trans (fup_ne (by omega))
          have t32 := fup_at ehB28 16 (by omega)
          exact fcutJ (I := IhB28) (j := jc_M_hold_d28d9_65) (lv' := [(0, .inr (.inr (some 740))), (1, .inl _), (2, .inl _)]) (And.intro rfl (And.intro rfl (And.intro rfl True.intro))) ⟨_, _, rfl, rfl, by omega, rfl⟩ (by omega)
        · intro c33
          refine And.intro (True.intro) ?_
          exact ⟨_, rfl, by omega⟩
    · intro c34
      refine And.intro (True.intro) ?_
      exact ⟨_, rfl, by omega⟩
set_option maxRecDepth 8000 in
theorem ct_Charter_mayVote_6ee33 {I : fH} {x2 : Int} (h0 : fB bsJ I) (ha2 : (0 ≤ x2 ∧ x2 ≤ 23)) : fC ρ base n F xTc vwCl xTys D dA la gJ (fbz bsJ znJ (fKc wz_7d09b) I) xm_137 [.inr (.inr (some 187)), .inr (.inr (some 1)), .inl x2] I (fun _ r => ∃ z, r = some (.inl z) ∧ (0 ≤ z ∧ z ≤ 1)) := by
  have hW : fzs wz_7d09b (fKc wz_7d09b) := fKc_ok _
  refine f_meth (rb := rbJ) (J := []) 1 400 xG xin_137 x6_137 okJ (fB_self h0) ?_ ?_
  · exact fun q h => absurd h List.not_mem_nil
  · have hB0 := fB_self (zn := znJ) (K := fKc wz_7d09b) h0
    refine Exists.intro xm_29 (And.intro mi_29 (And.intro ⟨rfl, rfl, rfl, rfl⟩ (And.intro rfl ?_)))
    refine fcall _ h0 (fzs_sub (by decide +kernel) hW) hB0 (ct_Charter_putOne_99949 (fBz h0 hB0) (by omega)) ?_
    rintro IhB2 _ hB2 fhB2 rfl
    refine Exists.intro xm_32 (And.intro mi_32 (And.intro ⟨rfl, rfl, rfl, rfl⟩ (And.intro rfl ?_)))
    refine fcallp hB2 (ct_City_hour_b7a7b (fBz h0 hB2)) ?_
    rintro _ ⟨z3, rfl, hz3⟩
    refine Exists.intro xm_33 (And.intro mi_33 (And.intro ⟨rfl, rfl, rfl, rfl⟩ (And.intro rfl ?_)))
    refine fcall _ h0 (fzs_sub (by decide +kernel) hW) hB2 (ct_Charter_allows_3e335 (fBz h0 hB2) (by omega) (by omega)) ?_
    rintro IhB5 _ hB5 fhB5 ⟨z4, rfl, hz4⟩
    refine And.intro (⟨by omega, by omega⟩) ?_
    exact ⟨_, rfl, by omega⟩
abbrev jc_Charter_saidSo_9e364_4 : Nat → fL → List fV → fH → Prop := fun m lv st I => ∃ (y1 : Int) (y2 : Int) (y3 : Int), lv = [(0, .inr (.inr (some 187))), (1, .inl y1), (2, .inl y2), (3, .inl y3)] ∧ st = [] ∧ (((0 ≤ y1 ∧ y1 ≤ 1) ∧ ((-2147483648) ≤ y2 ∧ y2 ≤ 2147483647) ∧ (0 ≤ y3 ∧ y3 ≤ 24))) ∧ m = (1 + 1 * (24 - y3) : Int).toNat
set_option maxRecDepth 8000 in
theorem ct_Charter_saidSo_9e364 {I : fH} {x1 : Int} (h0 : fB bsJ I) (ha1 : (0 ≤ x1 ∧ x1 ≤ 1)) : fC ρ base n F xTc vwCl xTys D dA la gJ (fbz bsJ znJ (fKc []) I) xm_138 [.inr (.inr (some 187)), .inl x1] I (fun _ r => ∃ z, r = some (.inl z) ∧ ((-2147483648) ≤ z ∧ z ≤ 2147483647)) := by
  have hW : fzs [] (fKc []) := fKc_ok _
  refine f_meth (rb := rbJ) (J := [(4, jc_Charter_saidSo_9e364_4)]) 26 400 xG xin_138 x6_138 okJ (fB_self h0) ?_ ?_
  · refine List.forall_mem_cons.mpr ⟨?_, fun q h => absurd h List.not_mem_nil⟩
    · rintro m _ _ I1 hB1 ⟨y1, y2, y3, rfl, rfl, hb, hm⟩
      refine And.intro ⟨rfl, by decide, by decide⟩ ?_
      refine Exists.intro 100 (Exists.intro 24 (And.intro rfl (And.intro ⟨by decide, by decide, by decide⟩ ?_)))
      refine And.intro (by omega) (And.intro ?_ ?_)
      · intro c1
        refine And.intro (True.intro) ?_
        exact ⟨_, rfl, by omega⟩
      · intro c2
        refine And.intro ⟨rfl, by decide, by decide⟩ ?_
        refine fload rL_206_206_0_23_1_0 h0 hB1 (by omega) ?_
        intro z3 lz3 uz3 qz3
        refine And.intro (by omega) (And.intro ?_ ?_)
        · intro c4
          exact fcutJ (I := I1) (j := jc_Charter_saidSo_9e364_4) (lv' := [(0, .inr (.inr (some 187))), (1, .inl _), (2, .inl _), (3, .inl _)]) (And.intro rfl (And.intro rfl (And.intro rfl (And.intro rfl True.intro)))) ⟨_, _, _, rfl, rfl, by omega, rfl⟩ (by omega)
        · intro c5
          intro z6 hz6 bz6
          exact fcutJ (I := I1) (j := jc_Charter_saidSo_9e364_4) (lv' := [(0, .inr (.inr (some 187))), (1, .inl _), (2, .inl _), (3, .inl _)]) (And.intro rfl (And.intro rfl (And.intro rfl (And.intro rfl True.intro)))) ⟨_, _, _, rfl, rfl, by omega, rfl⟩ (by omega)
  · have hB0 := fB_self (zn := znJ) (K := fKc []) h0
    exact fcutJ (I := I) (j := jc_Charter_saidSo_9e364_4) (lv' := [(0, .inr (.inr (some 187))), (1, .inl _), (2, .inl _), (3, .inl _)]) (And.intro rfl (And.intro rfl (And.intro rfl (And.intro rfl True.intro)))) ⟨_, _, _, rfl, rfl, by omega, rfl⟩ (by omega)
set_option maxRecDepth 8000 in
theorem ct_X_say_45bc8 {I : fH} {x1 : Int} {x2 : Int} (h0 : fB bsJ I) (ha1 : ((-2147483648) ≤ x1 ∧ x1 ≤ 2147483647)) (ha2 : ((-2147483648) ≤ x2 ∧ x2 ≤ 2147483647)) : fC ρ base n F xTc vwCl xTys D dA la gJ (fbz bsJ znJ (fKc wz_60f7b) I) xm_136 [.inr (.inr (some 0)), .inl x1, .inl x2] I (fun _ r => ∃ z, r = some (.inl z) ∧ ((-2147483648) ≤ z ∧ z ≤ 2147483647)) := by
  have hW : fzs wz_60f7b (fKc wz_60f7b) := fKc_ok _
  refine f_meth (rb := rbJ) (J := []) 1 400 xG xin_136 x6_136 okJ (fB_self h0) ?_ ?_
  · exact fun q h => absurd h List.not_mem_nil
  · have hB0 := fB_self (zn := znJ) (K := fKc wz_60f7b) h0
    refine And.intro ⟨rfl, by decide, by decide⟩ ?_
    refine Exists.intro xm_27 (And.intro mi_27 (And.intro ⟨rfl, rfl, rfl, rfl⟩ (And.intro rfl ?_)))
    refine fcallp hB0 (ct_City_isPerson_ff059 (fBz h0 hB0) (by omega)) ?_
    rintro _ ⟨z1, rfl, hz1⟩
    refine And.intro (by omega) (And.intro ?_ ?_)
    · intro c2
      refine And.intro (True.intro) ?_
      exact ⟨_, rfl, by omega⟩
    · intro c3
      refine Exists.intro xm_13 (And.intro mi_13 (And.intro ⟨rfl, rfl, rfl, rfl⟩ (And.intro True.intro ?_)))
      refine fcallp hB0 (ct_X_within_c27b1 (fBz h0 hB0) (by omega) (by omega) (by omega)) ?_
      rintro _ ⟨z4, rfl, hz4⟩
      refine And.intro (by omega) (And.intro ?_ ?_)
      · intro c5
        refine And.intro ⟨rfl, by decide, by decide⟩ ?_
        refine And.intro ⟨rfl, by decide, by decide⟩ (fgetf fb_187_7 h0 hB0 ?_)
        intro z6 lz6 uz6 qz6
        refine And.intro (by omega) (And.intro ?_ ?_)
        · intro c7
          refine And.intro (True.intro) ?_
          exact ⟨_, rfl, by omega⟩
        · intro c8
          refine And.intro ⟨rfl, by decide, by decide⟩ ?_
          refine And.intro ⟨rfl, by decide, by decide⟩ ?_
          refine Exists.intro xm_21 (And.intro mi_21 (And.intro ⟨rfl, rfl, rfl, rfl⟩ (And.intro rfl ?_)))
          refine fcallp hB0 (ct_People_isDead_edb17 (fBz h0 hB0) (by omega)) ?_
          rintro _ ⟨z9, rfl, hz9⟩
          refine And.intro (by omega) (And.intro ?_ ?_)
          · intro c10
            refine And.intro (True.intro) ?_
            exact ⟨_, rfl, by omega⟩
          · intro c11
            refine And.intro ⟨rfl, by decide, by decide⟩ ?_
            refine And.intro ⟨rfl, by decide, by decide⟩ ?_
            refine fload rL_206_206_0_23_1_0 h0 hB0 (by omega) ?_
            intro z12 lz12 uz12 qz12
            refine And.intro (by omega) (And.intro ?_ ?_)
            · intro c13
              refine And.intro ⟨rfl, by decide, by decide⟩ ?_
              refine And.intro ⟨rfl, by decide, by decide⟩ ?_
              refine Exists.intro xm_137 (And.intro mi_137 (And.intro ⟨rfl, rfl, rfl, rfl⟩ (And.intro rfl ?_)))
              refine fcall _ h0 (fzs_sub (by decide +kernel) hW) hB0 (ct_Charter_mayVote_6ee33 (fBz h0 hB0) (by omega)) ?_
              rintro IhB15 _ hB15 fhB15 ⟨z14, rfl, hz14⟩
              have t16 := fhB15 187 7 (by decide +kernel)
              refine And.intro (by omega) (And.intro ?_ ?_)
              · intro c17
                refine And.intro ⟨rfl, by decide, by decide⟩ ?_
                refine And.intro ⟨rfl, by decide, by decide⟩ ?_
                refine fstore rS_206_206_0_23_1_0 (fzs_sub (by decide +kernel) hW) (by omega) (by omega) ?_
                intro IhB18 ehB18 hB18
                have t19 := fup_self ehB18
                have t20 : IhB18 187 7 = IhB15 187 7 := (congrFun (congrFun ehB18 187) 7).trans (fup_ne (by omega))
                refine And.intro ⟨rfl, by decide, by decide⟩ ?_
                refine Exists.intro xm_138 (And.intro mi_138 (And.intro ⟨rfl, rfl, rfl, rfl⟩ (And.intro rfl ?_)))
                refine fcallp hB18 (ct_Charter_saidSo_9e364 (fBz h0 hB18) (by omega)) ?_
                rintro _ ⟨z21, rfl, hz21⟩
                refine And.intro (True.intro) ?_
                exact ⟨_, rfl, by omega⟩
              · intro c22
                refine And.intro (True.intro) ?_
                exact ⟨_, rfl, by omega⟩
            · intro c23
              refine And.intro (True.intro) ?_
              exact ⟨_, rfl, by omega⟩
      · intro c24
        refine And.intro (True.intro) ?_
        exact ⟨_, rfl, by omega⟩
abbrev jc_Charter_voters_73b57_4 : Nat → fL → List fV → fH → Prop := fun m lv st I => ∃ (y2 : Int) (y3 : Int), lv = [(0, .inr (.inr (some 187))), (1, .inr (.inr (some 1))), (2, .inl y2), (3, .inl y3)] ∧ st = [] ∧ ((((-2147483648) ≤ y2 ∧ y2 ≤ 2147483647) ∧ (0 ≤ y3 ∧ y3 ≤ 24))) ∧ m = (1 + 1 * (24 - y3) : Int).toNat
set_option maxRecDepth 8000 in
theorem ct_Charter_voters_73b57 {I : fH}  (h0 : fB bsJ I)  : fC ρ base n F xTc vwCl xTys D dA la gJ (fbz bsJ znJ (fKc wz_7d09b) I) xm_141 [.inr (.inr (some 187)), .inr (.inr (some 1))] I (fun _ r => ∃ z, r = some (.inl z) ∧ ((-2147483648) ≤ z ∧ z ≤ 2147483647)) := by
  have hW : fzs wz_7d09b (fKc wz_7d09b) := fKc_ok _
  refine f_meth (rb := rbJ) (J := [(4, jc_Charter_voters_73b57_4)]) 26 400 xG xin_141 x6_141 okJ (fB_self h0) ?_ ?_
  · refine List.forall_mem_cons.mpr ⟨?_, fun q h => absurd h List.not_mem_nil⟩
    · rintro m _ _ I1 hB1 ⟨y2, y3, rfl, rfl, hb, hm⟩
      refine And.intro ⟨rfl, by decide, by decide⟩ ?_
      refine And.intro ⟨rfl, by decide, by decide⟩ (fgetf fb_177_4 h0 hB1 ?_)
      intro z1 lz1 uz1 qz1
      refine And.intro (by omega) (And.intro ?_ ?_)
      · intro c2
        refine And.intro (True.intro) ?_
        exact ⟨_, rfl, by omega⟩
      · intro c3
        refine And.intro ⟨rfl, by decide, by decide⟩ ?_
        refine Exists.intro xm_21 (And.intro mi_21 (And.intro ⟨rfl, rfl, rfl, rfl⟩ (And.intro rfl ?_)))
        refine fcallp hB1 (ct_People_isDead_edb17 (fBz h0 hB1) (by omega)) ?_
        rintro _ ⟨z4, rfl, hz4⟩
        refine And.intro (by omega) (And.intro ?_ ?_)
        · intro c5
          exact fcutJ (I := I1) (j := jc_Charter_voters_73b57_4) (lv' := [(0, .inr (.inr (some 187))), (1, .inr (.inr (some 1))), (2, .inl _), (3, .inl _)]) (And.intro rfl (And.intro rfl (And.intro rfl (And.intro rfl True.intro)))) ⟨_, _, rfl, rfl, by omega, rfl⟩ (by omega)
        · intro c6
          refine Exists.intro xm_137 (And.intro mi_137 (And.intro ⟨rfl, rfl, rfl, rfl⟩ (And.intro rfl ?_)))
          refine fcall _ h0 (fzs_sub (by decide +kernel) hW) hB1 (ct_Charter_mayVote_6ee33 (fBz h0 hB1) (by omega)) ?_
          rintro IhB8 _ hB8 fhB8 ⟨z7, rfl, hz7⟩
          have t9 := fhB8 177 4 (by decide +kernel)
          refine And.intro (by omega) (And.intro ?_ ?_)
          · intro c10
            exact fcutJ (I := IhB8) (j := jc_Charter_voters_73b57_4) (lv' := [(0, .inr (.inr (some 187))), (1, .inr (.inr (some 1))), (2, .inl _), (3, .inl _)]) (And.intro rfl (And.intro rfl (And.intro rfl (And.intro rfl True.intro)))) ⟨_, _, rfl, rfl, by omega, rfl⟩ (by omega)
          · intro c11
            intro z12 hz12 bz12
            exact fcutJ (I := IhB8) (j := jc_Charter_voters_73b57_4) (lv' := [(0, .inr (.inr (some 187))), (1, .inr (.inr (some 1))), (2, .inl _), (3, .inl _)]) (And.intro rfl (And.intro rfl (And.intro rfl (And.intro rfl True.intro)))) ⟨_, _, rfl, rfl, by omega, rfl⟩ (by omega)
  · have hB0 := fB_self (zn := znJ) (K := fKc wz_7d09b) h0
    exact fcutJ (I := I) (j := jc_Charter_voters_73b57_4) (lv' := [(0, .inr (.inr (some 187))), (1, .inr (.inr (some 1))), (2, .inl _), (3, .inl _)]) (And.intro rfl (And.intro rfl (And.intro rfl (And.intro rfl True.intro)))) ⟨_, _, rfl, rfl, by omega, rfl⟩ (by omega)
set_option maxRecDepth 8000 in
theorem ct_Charter_passes_288c8 {I : fH}  (h0 : fB bsJ I)  : fC ρ base n F xTc vwCl xTys D dA la gJ (fbz bsJ znJ (fKc wz_7d09b) I) xm_140 [.inr (.inr (some 187)), .inr (.inr (some 1))] I (fun _ r => ∃ z, r = some (.inl z) ∧ (0 ≤ z ∧ z ≤ 1)) := by
  have hW : fzs wz_7d09b (fKc wz_7d09b) := fKc_ok _
  refine f_meth (rb := rbJ) (J := []) 1 400 xG xin_140 x6_140 okJ (fB_self h0) ?_ ?_
  · exact fun q h => absurd h List.not_mem_nil
  · have hB0 := fB_self (zn := znJ) (K := fKc wz_7d09b) h0
    refine Exists.intro xm_32 (And.intro mi_32 (And.intro ⟨rfl, rfl, rfl, rfl⟩ (And.intro rfl ?_)))
    refine fcallp hB0 (ct_City_hour_b7a7b (fBz h0 hB0)) ?_
    rintro _ ⟨z1, rfl, hz1⟩
    refine Exists.intro xm_34 (And.intro mi_34 (And.intro ⟨rfl, rfl, rfl, rfl⟩ (And.intro rfl ?_)))
    refine fcallp hB0 (ct_Charter_counting_8f92c (fBz h0 hB0) (by omega) (by omega)) ?_
    rintro _ ⟨z2, rfl, hz2⟩
    refine And.intro (by omega) (And.intro ?_ ?_)
    · intro c3
      refine Exists.intro xm_141 (And.intro mi_141 (And.intro ⟨rfl, rfl, rfl, rfl⟩ (And.intro rfl ?_)))
      refine fcall _ h0 (fzs_sub (by decide +kernel) hW) hB0 (ct_Charter_voters_73b57 (fBz h0 hB0)) ?_
      rintro IhB5 _ hB5 fhB5 ⟨z4, rfl, hz4⟩
      refine Exists.intro xm_138 (And.intro mi_138 (And.intro ⟨rfl, rfl, rfl, rfl⟩ (And.intro rfl ?_)))
      refine fcallp hB5 (ct_Charter_saidSo_9e364 (fBz h0 hB5) (by omega)) ?_
      rintro _ ⟨z6, rfl, hz6⟩
      refine Exists.intro xm_30 (And.intro mi_30 (And.intro ⟨rfl, rfl, rfl, rfl⟩ (And.intro rfl ?_)))
      refine fcall _ h0 (fzs_sub (by decide +kernel) hW) hB5 (ct_Charter_put_c2709 (fBz h0 hB5) (by omega) (by omega)) ?_
      rintro IhB8 _ hB8 fhB8 rfl
      refine Exists.intro xm_138 (And.intro mi_138 (And.intro ⟨rfl, rfl, rfl, rfl⟩ (And.intro rfl ?_)))
      refine fcallp hB8 (ct_Charter_saidSo_9e364 (fBz h0 hB8) (by omega)) ?_
      rintro _ ⟨z9, rfl, hz9⟩
      refine Exists.intro xm_30 (And.intro mi_30 (And.intro ⟨rfl, rfl, rfl, rfl⟩ (And.intro rfl ?_)))
      refine fcall _ h0 (fzs_sub (by decide +kernel) hW) hB8 (ct_Charter_put_c2709 (fBz h0 hB8) (by omega) (by omega)) ?_
      rintro IhB11 _ hB11 fhB11 rfl
      refine Exists.intro xm_30 (And.intro mi_30 (And.intro ⟨rfl, rfl, rfl, rfl⟩ (And.intro rfl ?_)))
      refine fcall _ h0 (fzs_sub (by decide +kernel) hW) hB11 (ct_Charter_put_c2709 (fBz h0 hB11) (by omega) (by omega)) ?_
      rintro IhB13 _ hB13 fhB13 rfl
      refine Exists.intro xm_31 (And.intro mi_31 (And.intro ⟨rfl, rfl, rfl, rfl⟩ (And.intro rfl ?_)))
      refine fcallp hB13 (ct_City_level_61deb (fBz h0 hB13)) ?_
      rintro _ ⟨z14, rfl, hz14⟩
      refine Exists.intro xm_30 (And.intro mi_30 (And.intro ⟨rfl, rfl, rfl, rfl⟩ (And.intro rfl ?_)))
      refine fcall _ h0 (fzs_sub (by decide +kernel) hW) hB13 (ct_Charter_put_c2709 (fBz h0 hB13) (by omega) (by omega)) ?_
      rintro IhB16 _ hB16 fhB16 rfl
      refine Exists.intro xm_36 (And.intro mi_36 (And.intro ⟨rfl, rfl, rfl, rfl⟩ (And.intro rfl ?_)))
      refine fcall _ h0 (fzs_sub (by decide +kernel) hW) hB16 (ct_Charter_worth_04d20 (fBz h0 hB16) (by omega)) ?_
      rintro IhB18 _ hB18 fhB18 ⟨z17, rfl, hz17⟩
      refine And.intro (by omega) (And.intro ?_ ?_)
      · intro c19
        refine And.intro (⟨by omega, by omega⟩) ?_
        exact ⟨_, rfl, by omega⟩
      · intro c20
        refine And.intro (⟨by omega, by omega⟩) ?_
        exact ⟨_, rfl, by omega⟩
    · intro c21
      refine Exists.intro xm_138 (And.intro mi_138 (And.intro ⟨rfl, rfl, rfl, rfl⟩ (And.intro rfl ?_)))
      refine fcallp hB0 (ct_Charter_saidSo_9e364 (fBz h0 hB0) (by omega)) ?_
      rintro _ ⟨z22, rfl, hz22⟩
      refine Exists.intro xm_138 (And.intro mi_138 (And.intro ⟨rfl, rfl, rfl, rfl⟩ (And.intro rfl ?_)))
      refine fcallp hB0 (ct_Charter_saidSo_9e364 (fBz h0 hB0) (by omega)) ?_
      rintro _ ⟨z23, rfl, hz23⟩
      refine And.intro (by omega) (And.intro ?_ ?_)
      · intro c24
        refine And.intro (⟨by omega, by omega⟩) ?_
        exact ⟨_, rfl, by omega⟩
      · intro c25
        refine And.intro (⟨by omega, by omega⟩) ?_
        exact ⟨_, rfl, by omega⟩
set_option maxRecDepth 8000 in
theorem ct_Charter_endVote_df84e {I : fH} {x1 : Int} {x2 : Int} (h0 : fB bsJ I) (ha1 : (0 ≤ x1 ∧ x1 ≤ 1)) (ha2 : ((-2147483648) ≤ x2 ∧ x2 ≤ 2147483647)) : fC ρ base n F xTc vwCl xTys D dA la gJ (fbz bsJ znJ (fKc wz_9fced) I) xm_142 [.inr (.inr (some 187)), .inl x1, .inl x2] I (fun _ r => r = none) := by
  have hW : fzs wz_9fced (fKc wz_9fced) := fKc_ok _
  refine f_meth (rb := rbJ) (J := []) 1 400 xG xin_142 x6_142 okJ (fB_self h0) ?_ ?_
  · exact fun q h => absurd h List.not_mem_nil
  · have hB0 := fB_self (zn := znJ) (K := fKc wz_9fced) h0
    refine And.intro (by omega) (And.intro ?_ ?_)
    · intro c1
      refine And.intro ⟨rfl, by decide, by decide⟩ (And.intro rfl (And.intro (Or.inl rfl) (fputf fb_187_7 (by decide +kernel) hW (by omega) ?_)))
      intro IhB2 ehB2 hB2
      have t3 := fup_at ehB2 7 (by omega)
      exact rfl
    · intro c4
      refine And.intro ⟨rfl, by decide, by decide⟩ (fgetf fb_187_7 h0 hB0 ?_)
      intro z5 lz5 uz5 qz5
      refine Exists.intro xm_133 (And.intro mi_133 (And.intro ⟨rfl, rfl, rfl, rfl⟩ (And.intro rfl ?_)))
      refine fcallp hB0 (ct_Charter_isText_4f275 (fBz h0 hB0) (by omega)) ?_
      rintro _ ⟨z6, rfl, hz6⟩
      refine And.intro (by omega) (And.intro ?_ ?_)
      · intro c7
        refine And.intro ⟨rfl, by decide, by decide⟩ (And.intro rfl (And.intro (Or.inl rfl) (fputf fb_187_7 (by decide +kernel) hW (by omega) ?_)))
        intro IhB8 ehB8 hB8
        have t9 := fup_at ehB8 7 (by omega)
        exact rfl
      · intro c10
        refine And.intro ⟨rfl, by decide, by decide⟩ (fgetf fb_187_8 h0 hB0 ?_)
        intro z11 lz11 uz11 qz11
        refine And.intro (by omega) (And.intro ?_ ?_)
        · intro c12
          refine And.intro ⟨rfl, by decide, by decide⟩ ?_
          refine And.intro ⟨rfl, by decide, by decide⟩ (fgetf fb_187_7 h0 hB0 ?_)
          intro z13 lz13 uz13 qz13
          refine fstore rS_189_189_0_11_1_0 (fzs_sub (by decide +kernel) hW) (by omega) (by omega) ?_
          intro IhB14 ehB14 hB14
          have t15 := fup_self ehB14
          refine And.intro ⟨rfl, by decide, by decide⟩ (And.intro rfl (And.intro (Or.inl rfl) (fputf fb_187_7 (by decide +kernel) hW (by omega) ?_)))
          intro IhB16 ehB16 hB16
          have t17 := fup_at ehB16 7 (by omega)
          exact rfl
        · intro c18
          refine And.intro ⟨rfl, by decide, by decide⟩ ?_
          refine And.intro ⟨rfl, by decide, by decide⟩ (fgetf fb_187_7 h0 hB0 ?_)
          intro z19 lz19 uz19 qz19
          refine fstore rS_190_190_0_11_1_0 (fzs_sub (by decide +kernel) hW) (by omega) (by omega) ?_
          intro IhB20 ehB20 hB20
          have t21 := fup_self ehB20
          have t22 : IhB20 187 7 = I 187 7 := (congrFun (congrFun ehB20 187) 7).trans (fup_ne (by omega))
          have t23 : IhB20 187 8 = I 187 8 := (congrFun (congrFun ehB20 187) 8).trans (fup_ne (by omega))
          refine And.intro ⟨rfl, by decide, by decide⟩ (And.intro rfl (And.intro (Or.inl rfl) (fputf fb_187_7 (by decide +kernel) hW (by omega) ?_)))
          intro IhB24 ehB24 hB24
          have t25 := fup_at ehB24 7 (by omega)
          exact rfl
set_option maxRecDepth 8000 in
theorem ct_X_tally_70a62 {I : fH}  (h0 : fB bsJ I)  : fC ρ base n F xTc vwCl xTys D dA la gJ (fbz bsJ znJ (fKc wz_e2fc1) I) xm_139 [.inr (.inr (some 0))] I (fun _ r => ∃ z, r = some (.inl z) ∧ ((0 ≤ z ∧ z ≤ 1) ∨ z = (-1000000002))) := by
  have hW : fzs wz_e2fc1 (fKc wz_e2fc1) := fKc_ok _
  refine f_meth (rb := rbJ) (J := []) 1 400 xG xin_139 x6_139 okJ (fB_self h0) ?_ ?_
  · exact fun q h => absurd h List.not_mem_nil
  · have hB0 := fB_self (zn := znJ) (K := fKc wz_e2fc1) h0
    refine And.intro ⟨rfl, by decide, by decide⟩ ?_
    refine And.intro ⟨rfl, by decide, by decide⟩ (fgetf fb_187_7 h0 hB0 ?_)
    intro z1 lz1 uz1 qz1
    refine And.intro (by omega) (And.intro ?_ ?_)
    · intro c2
      refine And.intro ⟨rfl, by decide, by decide⟩ ?_
      refine And.intro ⟨rfl, by decide, by decide⟩ ?_
      refine Exists.intro xm_140 (And.intro mi_140 (And.intro ⟨rfl, rfl, rfl, rfl⟩ (And.intro rfl ?_)))
      refine fcall _ h0 (fzs_sub (by decide +kernel) hW) hB0 (ct_Charter_passes_288c8 (fBz h0 hB0)) ?_
      rintro IhB4 _ hB4 fhB4 ⟨z3, rfl, hz3⟩
      have t5 := fhB4 187 7 (by decide +kernel)
      refine And.intro ⟨rfl, by decide, by decide⟩ ?_
      refine And.intro ⟨rfl, by decide, by decide⟩ ?_
      refine Exists.intro xm_32 (And.intro mi_32 (And.intro ⟨rfl, rfl, rfl, rfl⟩ (And.intro rfl ?_)))
      refine fcallp hB4 (ct_City_hour_b7a7b (fBz h0 hB4)) ?_
      rintro _ ⟨z6, rfl, hz6⟩
      intro z7 hz7 ez7 bz7
      refine Exists.intro xm_142 (And.intro mi_142 (And.intro ⟨rfl, rfl, rfl, rfl⟩ (And.intro rfl ?_)))
      refine fcall _ h0 (fzs_sub (by decide +kernel) hW) hB4 (ct_Charter_endVote_df84e (fBz h0 hB4) (by omega) (by omega)) ?_
      rintro IhB9 _ hB9 fhB9 rfl
      refine And.intro (by omega) (And.intro ?_ ?_)
      · intro c10
        refine And.intro (True.intro) ?_
        exact ⟨_, rfl, by omega⟩
      · intro c11
        refine And.intro (True.intro) ?_
        exact ⟨_, rfl, by omega⟩
    · intro c12
      refine And.intro (True.intro) ?_
      exact ⟨_, rfl, by omega⟩
end CT
